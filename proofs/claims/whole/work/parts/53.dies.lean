theorem LL.cg {r : Nat} {Ls Ls' : Nat → List Nat} {mI : Nat → Nat → Int32} (h : LL r Ls mI) (he : ∀ u, u < 6 → Ls' u = Ls u) : LL r Ls' mI := fun m hm => by rw [he m hm]; exact h m hm
theorem SM.ll {r : Nat} {T : TD} {σ : AS} {K : Nat} {mI : Nat → Nat → Int32} (h : SM r T σ K mI) (hw : TW T) (hW : SV T σ) : LL r (Lm σ) mI := fun m hm => ⟨(h.2.2.2.2 m hm).1, by rw [Lm_len hW]; have := cntH_le (aH σ) m (tP T); have := hw.2.1; omega, (h.2.2.2.2 m hm).2⟩
theorem SM_of {r : Nat} {T : TD} {σ : AS} {K : Nat} {mI : Nat → Nat → Int32} {Ls : Nat → List Nat} (h1 : mI 140 r = nI (aY σ)) (h2 : mI 140 (r + 26) = nI K) (h3 : ∀ i, i < tn T → mI 140 (r + 1 + i) = nI (aS σ i)) (h4 : ∀ p, p < tP T → mI 140 (r + 6 + p) = nI (aW σ p) ∧ mI 140 (r + 16 + p) = nI (aD σ p)) (hL : LL r Ls mI) (he : ∀ u, u < 6 → Lm σ u = Ls u) : SM r T σ K mI :=
  ⟨h1, h2, h3, h4, fun m hm => by rw [he m hm]; exact ⟨(hL m hm).1, (hL m hm).2.2⟩⟩
theorem SM.to {r : Nat} {T : TD} {σ : AS} {K : Nat} {mI mI' : Nat → Nat → Int32} (h : SM r T σ K mI) (hw : TW T) (hW : SV T σ) (hf : ∀ j, r ≤ j → j < r + 93 → mI' 140 j = mI 140 j) : SM r T σ K mI' := by
  have h5 := hw.1
  have h10 := hw.2.1
  refine SM_of (by rw [hf _ (by omega) (by omega)]; exact h.1) (by rw [hf _ (by omega) (by omega)]; exact h.2.1) (fun i hi => by rw [hf _ (by omega) (by omega)]; exact h.2.2.1 i hi) (fun p hp1 => ⟨by rw [hf _ (by omega) (by omega)]; exact (h.2.2.2.1 p hp1).1, by rw [hf _ (by omega) (by omega)]; exact (h.2.2.2.1 p hp1).2⟩) ((h.ll hw hW).to (fun j h1 h2 => hf j (by omega) (by omega))) (fun _ _ => rfl)
theorem TM.to {T : TD} {fn fp b : Nat} {mI mI' : Nat → Nat → Int32} (h : TM fn fp b T mI) (h1 : mI' 139 fn = mI 139 fn) (h2 : mI' 139 fp = mI 139 fp) (hf : ∀ r, b ≤ r → r ≤ b + 7 → mI' r = mI r) : TM fn fp b T mI' := by
  obtain ⟨g1, g2, g3, g4, g5⟩ := h
  refine ⟨h1.trans g1, h2.trans g2, fun i hi => ?_, fun p hp1 => ?_, fun p q1 q2 => ?_⟩
  · rw [hf b (by omega) (by omega), hf (b + 1) (by omega) (by omega), hf (b + 2) (by omega) (by omega)]; exact g3 i hi
  · rw [hf (b + 3) (by omega) (by omega), hf (b + 4) (by omega) (by omega), hf (b + 5) (by omega) (by omega), hf (b + 6) (by omega) (by omega), hf (b + 7) (by omega) (by omega)]; exact g4 p hp1
  · rw [hf (b + 7) (by omega) (by omega)]; exact g5 p q1 q2
theorem dis_len (f g : Nat → Bool) (h : ∀ x, ¬ (f x = true ∧ g x = true)) : ∀ l : List Nat, (l.filter f).length + (l.filter g).length ≤ l.length
  | [] => Nat.le_refl _
  | x :: l => by
    have ih := dis_len f g h l
    have hx := h x
    rw [List.length_cons]
    by_cases hf : f x = true
    · rw [List.filter_cons_of_pos hf, List.filter_cons_of_neg (fun z => hx ⟨hf, z⟩), List.length_cons]; omega
    · rw [List.filter_cons_of_neg hf]
      by_cases hg : g x = true
      · rw [List.filter_cons_of_pos hg, List.length_cons]; omega
      · rw [List.filter_cons_of_neg hg]; omega
theorem Lm_two {T : TD} {σ : AS} (hw : TW T) (h : SV T σ) {u m : Nat} (hne : u ≠ m) : (Lm σ u).length + (Lm σ m).length ≤ 10 := by
  have := dis_len (fun p => decide (aH σ p = u)) (fun p => decide (aH σ p = m)) (fun x z => by simp at z; exact hne (z.1.symm.trans z.2)) (aR σ)
  rw [h.1.1] at this
  have h2 := hw.2.1
  unfold Lm
  omega
def LsD (T : TD) (σ : AS) (m to : Nat) (d l : List Nat) : Nat → List Nat := va_up (va_up (Lm σ) to (Lm σ to ++ d.filter (fun p => decide (tkd T p ≠ 3)))) m l
theorem LsD_m {T : TD} {σ : AS} {m to : Nat} {d l : List Nat} : LsD T σ m to d l m = l := va_up_s _ _ _
theorem LsD_to {T : TD} {σ : AS} {m to : Nat} {d l : List Nat} (h : to ≠ m) : LsD T σ m to d l to = Lm σ to ++ d.filter (fun p => decide (tkd T p ≠ 3)) := by unfold LsD; rw [va_up_n _ _ h, va_up_s]
theorem lp_Md_dies {X : CX} {dl : List (Nat × Nat)} {mI : Nat → Nat → Int32} {dr : Nat → Nat → Nat} {Q : Option Value → AH → Prop} {T : TD} {σ : AS} {r m : Nat} (hw : TW T) (hT : TM 3 7 142 T mI) (hW : SV T σ) (hr : r ≤ 1023) (hm : m < tn T) {to : Nat} (hto : to < 6) (hne : to ≠ m) (k : ∀ mI', LL r (LsD T σ m to (Lm σ m) []) mI' → mI' 140 (r + 26) = nI (kbF T (kB (aH σ) (tP T)) (Lm σ m)) → FW (r + 26) (r + 93) mI mI' → Q none (hp X dl mI' dr)) : ∀ (d : Nat) (d2 : List Nat) (l2 : List Nat) (mI2 : Nat → Nat → Int32) (v4 : Value), (Lm σ m = d2 ++ l2) → (LL r (LsD T σ m to d2 l2) mI2) → (mI2 140 (r + 26) = nI (kbF T (kB (aH σ) (tP T)) d2)) → (FW (r + 26) (r + 93) mI mI2) → l2.length = d → EW X m_Md_dies 38 [.ref 139, .int (nI r), .int (nI m), .int (nI to), v4] [] (hp X dl mI2 dr) Q := by
  intro d
  induction d using Nat.strongRecOn with
  | _ d ih =>
    intro d2 l2 mI2 v4 hdl hL hK hF hd
    have hw1 := hw.1
    have hw2 := hw.2.1
    have h1 := hL m (by omega)
    rw [LsD_m] at h1
    have hlen := Lm_two hw hW hne
    have hll : (Lm σ m).length = d2.length + l2.length := by rw [hdl, List.length_append]
    have hT2 : TM 3 7 142 T mI2 := hT.to (congrFun (hF.1 139 (by omega)) 3) (congrFun (hF.1 139 (by omega)) 7) (fun q z1 z2 => hF.1 q (by omega))
    refine g_aload_n d_Md_dies_38 rfl ?_
    refine H_getR 140 d_Md_dies_39 f_Md_7.g rfl rfl (by decide) rfl ?_
    refine g_iload_n d_Md_dies_42 rfl ?_
    refine N_bipush d_Md_dies_43 27 rfl ?_
    refine N_iadd d_Md_dies_45 ?_
    refine g_iload_n d_Md_dies_46 rfl ?_
    refine N_iadd d_Md_dies_47 ?_
    refine H_ialdN d_Md_dies_48 rfl rfl (by omega) (by decide) ?_
    refine T_int (nI (l2.length)) h1.1 ?_
    refine N_if_le d_Md_dies_49 109 (by decide) (by omega) (fun c1 => ?_) (fun c1 => ?_)
    · have hz : l2 = [] := List.length_eq_zero_iff.mp (by omega)
      refine P_vret d_Md_dies_109 rfl ?_
      subst hz
      rw [List.append_nil] at hdl
      rw [← hdl] at hL hK
      exact k _ hL hK hF
    · obtain ⟨p, l3, rfl⟩ : ∃ p l3, l2 = p :: l3 := by
        cases l2 with
        | nil => exact absurd (Nat.lt_irrefl 0) (by simp at *)
        | cons p l3 => exact ⟨p, l3, rfl⟩
      have hpm : p ∈ Lm σ m := by rw [hdl]; simp
      have hpl := (Lm_mem hW).mp hpm
      have hb100 : ∀ x ∈ LsD T σ m to d2 (p :: l3) m, x < 100 := by
        rw [LsD_m]
        intro x hx
        have : x ∈ Lm σ m := by rw [hdl]; exact List.mem_append_right _ hx
        have := ((Lm_mem hW).mp this).1
        omega
      have hin : p ∈ LsD T σ m to d2 (p :: l3) m := by rw [LsD_m]; exact List.mem_cons_self ..
      have her : (LsD T σ m to d2 (p :: l3) m).erase p = l3 := by rw [LsD_m, List.erase_cons_head]
      have hdl3 : Lm σ m = (d2 ++ [p]) ++ l3 := by rw [hdl, List.append_assoc]; rfl
      rw [List.length_cons] at hll
      have hfl : (d2.filter (fun p => decide (tkd T p ≠ 3))).length ≤ d2.length := List.length_filter_le _ _
      refine g_aload_n d_Md_dies_52 rfl ?_
      refine H_getR 140 d_Md_dies_53 f_Md_7.g rfl rfl (by decide) rfl ?_
      refine g_iload_n d_Md_dies_56 rfl ?_
      refine N_bipush d_Md_dies_57 33 rfl ?_
      refine N_iadd d_Md_dies_59 ?_
      refine N_bipush d_Md_dies_60 10 rfl ?_
      refine g_iload_n d_Md_dies_62 rfl ?_
      refine N_imul d_Md_dies_63 ?_
      refine N_iadd d_Md_dies_64 ?_
      refine H_ialdN d_Md_dies_65 rfl rfl (by omega) (by decide) ?_
      refine T_int (nI (p)) (h1.2.2 0 (by rw [List.length_cons]; omega)) ?_
      refine S_istore_5_4 d_Md_dies_66 rfl rfl ?_
      refine g_aload_n d_Md_dies_68 rfl ?_
      refine H_getR 145 d_Md_dies_69 f_Md_26.g rfl rfl (by decide) rfl ?_
      refine g_iload d_Md_dies_72 rfl ?_
      refine H_ialdN d_Md_dies_74 rfl rfl (by omega) (by decide) ?_
      refine T_int (nI (tkd T p)) (hT2.2.2.2.1 p hpl.1).1 ?_
      have hkd := (hw.2.2.2 p hpl.1).1
      refine N_iconst d_Md_dies_75 3 rfl ?_
      refine N_icmp_ne d_Md_dies_76 90 (by decide) ⟨by omega, by omega⟩ (fun c2 => ?_) (fun c2 => ?_)
      · refine g_aload_n d_Md_dies_90 rfl ?_
        refine g_iload_n d_Md_dies_91 rfl ?_
        refine g_iload d_Md_dies_92 rfl ?_
        refine g_iload_n d_Md_dies_94 rfl ?_
        refine C_V3 d_Md_dies_95 k_Md_239 rfl (Nat.le_of_ble_eq_true rfl) (by decide) (Nat.le_of_ble_eq_true rfl) ?_
        refine c_Md_leavesOne hr (by omega) hL (by omega) hb100 hin (fun mI3 hL3 hF3 => ?_)
        rw [her] at hL3
        have hto3 : va_up (LsD T σ m to d2 (p :: l3)) m l3 to = Lm σ to ++ d2.filter (fun p => decide (tkd T p ≠ 3)) := by rw [va_up_n _ _ hne, LsD_to hne]
        refine g_aload_n d_Md_dies_98 rfl ?_
        refine g_iload_n d_Md_dies_99 rfl ?_
        refine g_iload d_Md_dies_100 rfl ?_
        refine g_iload_n d_Md_dies_102 rfl ?_
        refine C_V3 d_Md_dies_103 k_Md_219 rfl (Nat.le_of_ble_eq_true rfl) (by decide) (Nat.le_of_ble_eq_true rfl) ?_
        refine c_Md_joins hr hto hL3 (by rw [hto3, List.length_append]; omega) (fun mI4 hL4 hF4 => ?_)
        rw [hto3] at hL4
        refine P_goto d_Md_dies_106 38 (by decide) ?_
        have hk3 : ¬ tkd T p = 3 := by assumption
        refine ih _ (by rw [← hd, List.length_cons]; omega) (d2 ++ [p]) l3 mI4 _ hdl3 (hL4.cg (fun u _ => ?_)) (by rw [hF4.2 _ (by omega), hF3.2 _ (by omega), hK]; unfold kbF; rw [List.foldl_append]; show _ = nI (if tkd T p = 3 then _ else _); rw [if_neg hk3]) (hF.tr ((hF3.mo (by omega) (by omega)).tr (hF4.mo (by omega) (by omega)))) rfl
        unfold LsD
        rw [List.filter_append, show [p].filter (fun p => decide (tkd T p ≠ 3)) = [p] by simp [hk3]]
        by_cases y : u = to
        · rw [y, va_up_n _ _ hne, va_up_s, va_up_s, List.append_assoc]
        · rw [va_up_n _ _ y]
          by_cases z : u = m
          · rw [z, va_up_s, va_up_s]
          · rw [va_up_n _ _ z, va_up_n _ _ z, va_up_n _ _ z, va_up_n _ _ y, va_up_n _ _ y]
      · refine g_aload_n d_Md_dies_79 rfl ?_
        refine g_iload_n d_Md_dies_80 rfl ?_
        refine g_iload d_Md_dies_81 rfl ?_
        refine g_iload_n d_Md_dies_83 rfl ?_
        refine C_V3 d_Md_dies_84 k_Md_242 rfl (Nat.le_of_ble_eq_true rfl) (by decide) (Nat.le_of_ble_eq_true rfl) ?_
        refine c_Md_becomesKept hr (by omega) hL (by omega) hb100 hin hK (fun mI3 hL3 hK3 hF3 => ?_)
        rw [her] at hL3
        refine P_goto d_Md_dies_87 106 (by decide) ?_
        refine P_goto d_Md_dies_106 38 (by decide) ?_
        have hk3 : tkd T p = 3 := by assumption
        refine ih _ (by rw [← hd, List.length_cons]; omega) (d2 ++ [p]) l3 mI3 _ hdl3 (hL3.cg (fun u _ => ?_)) (by rw [hK3]; unfold kbF; rw [List.foldl_append]; show _ = nI (if tkd T p = 3 then _ else _); rw [if_pos hk3]) (hF.tr hF3) rfl
        unfold LsD
        rw [List.filter_append, show [p].filter (fun p => decide (tkd T p ≠ 3)) = [] by simp [hk3], List.append_nil]
        by_cases z : u = m
        · rw [z, va_up_s, va_up_s]
        · rw [va_up_n _ _ z, va_up_n _ _ z, va_up_n _ _ z]

theorem c_Md_dies {X : CX} {dl : List (Nat × Nat)} {mI : Nat → Nat → Int32} {dr : Nat → Nat → Nat} {Q : Option Value → AH → Prop} {T : TD} {σ : AS} {r m : Nat} (hw : TW T) (hT : TM 3 7 142 T mI) (hW : SV T σ) (hr : r ≤ 1023) (hm : m < tn T) (hS : SM r T σ (kB (aH σ) (tP T)) mI) (k : ∀ mI', SM r T (lvAll T σ m) (kB (aH (lvAll T σ m)) (tP T)) mI' → FW (r + 26) (r + 93) mI mI' → Q none (hp X dl mI' dr)) : EW X m_Md_dies 0 (enL m_Md_dies.2.2.1 [.ref 139, .int (nI r), .int (nI m)]) [] (hp X dl mI dr) Q := by
  show EW X m_Md_dies 0 [.ref 139, .int (nI r), .int (nI m), jk, jk] [] (hp X dl mI dr) Q
  have hw1 := hw.1
  have hw2 := hw.2.1
  have ht := toN_le (σ := σ) hw hm
  have hhr := (hw.2.2.1 m hm).2.2.2.2
  refine g_aload_n d_Md_dies_0 rfl ?_
  refine H_getR 144 d_Md_dies_1 f_Md_23.g rfl rfl (by decide) rfl ?_
  refine g_iload_n d_Md_dies_4 rfl ?_
  refine H_ialdN d_Md_dies_5 rfl rfl (by omega) (by decide) ?_
  refine T_int (hrI (thr T m)) (hT.2.2.1 m hm).2.2 ?_
  rcases hc : thr T m with _ | j
  · have et : toN T σ m = 5 := by unfold toN; rw [hc]
    refine P_if_lt d_Md_dies_6 36 (by decide) (fun _ => ?_) (fun z => absurd ((hrI_neg (by decide)).mpr rfl) z)
    refine N_iconst d_Md_dies_36 5 rfl ?_
    refine S_istore_n_5_3 d_Md_dies_37 rfl rfl ?_
    rw [show nI 5 = nI (toN T σ m) by rw [et]]
    refine lp_Md_dies hw hT hW hr hm (to := toN T σ m) (by omega) ht.2.1 (fun mI1 hL1 hK1 hF1 => ?_) _ [] (Lm σ m) mI _ rfl ((hS.ll hw hW).cg (fun u _ => ?_)) hS.2.1 FW.rf rfl
    · have hk2 : kB (aH (lvAll T σ m)) (tP T) = kbF T (kB (aH σ) (tP T)) (Lm σ m) := by rw [lvAll_form hW]; exact kB_leave hW (by omega) (by omega)
      refine k mI1 (SM_of ?_ ?_ (fun i hi => ?_) (fun p hp1 => ?_) hL1 (fun u hu => ?_)) hF1
      · rw [hF1.2 _ (by omega), (lvAll_S hW).2]; exact hS.1
      · rw [hk2]; exact hK1
      · rw [hF1.2 _ (by omega), (lvAll_S hW).1]; exact hS.2.2.1 i hi
      · rw [hF1.2 _ (by omega), hF1.2 _ (by omega), lvAll_form hW]; exact hS.2.2.2.1 p hp1
      · rw [lvAll_form hW]; exact Lm_leave hW (by omega) (by omega) ht.2.1 (fun p hp1 => hW.mem hp1) u hu
    · unfold LsD
      rw [List.filter_nil, List.append_nil]
      by_cases z : u = m
      · rw [z, va_up_s]
      · rw [va_up_n _ _ z]
        by_cases y : u = toN T σ m
        · rw [y, va_up_s]
        · rw [va_up_n _ _ y]
  · rw [hc] at hhr
    have hs60 := hW.2.2 j (by omega)
    show EW X m_Md_dies 6 [.ref 139, .int (nI r), .int (nI m), jk, jk] [.int (nI j)] (hp X dl mI dr) Q
    refine N_if_lt d_Md_dies_6 36 (by decide) (by omega) ?_
    refine g_aload_n d_Md_dies_9 rfl ?_
    refine H_getR 140 d_Md_dies_10 f_Md_7.g rfl rfl (by decide) rfl ?_
    refine g_iload_n d_Md_dies_13 rfl ?_
    refine N_iconst d_Md_dies_14 1 rfl ?_
    refine N_iadd d_Md_dies_15 ?_
    refine g_aload_n d_Md_dies_16 rfl ?_
    refine H_getR 144 d_Md_dies_17 f_Md_23.g rfl rfl (by decide) rfl ?_
    refine g_iload_n d_Md_dies_20 rfl ?_
    refine H_ialdN d_Md_dies_21 rfl rfl (by omega) (by decide) ?_
    refine T_int (nI (j)) (by rw [(hT.2.2.1 m hm).2.2, hc]; rfl) ?_
    refine N_iadd d_Md_dies_22 ?_
    refine H_ialdN d_Md_dies_23 rfl rfl (by omega) (by decide) ?_
    refine T_int (nI (aS σ j)) (hS.2.2.1 j (by omega)) ?_
    refine N_if_le d_Md_dies_24 36 (by decide) (by omega) (fun dd1 => ?_) (fun dd1 => ?_)
    · have et : toN T σ m = 5 := by unfold toN; rw [hc]; show (if 0 < aS σ j then j else 5) = 5; rw [if_neg (by omega)]
      refine N_iconst d_Md_dies_36 5 rfl ?_
      refine S_istore_n_5_3 d_Md_dies_37 rfl rfl ?_
      rw [show nI 5 = nI (toN T σ m) by rw [et]]
      refine lp_Md_dies hw hT hW hr hm (to := toN T σ m) (by omega) ht.2.1 (fun mI1 hL1 hK1 hF1 => ?_) _ [] (Lm σ m) mI _ rfl ((hS.ll hw hW).cg (fun u _ => ?_)) hS.2.1 FW.rf rfl
      · have hk2 : kB (aH (lvAll T σ m)) (tP T) = kbF T (kB (aH σ) (tP T)) (Lm σ m) := by rw [lvAll_form hW]; exact kB_leave hW (by omega) (by omega)
        refine k mI1 (SM_of ?_ ?_ (fun i hi => ?_) (fun p hp1 => ?_) hL1 (fun u hu => ?_)) hF1
        · rw [hF1.2 _ (by omega), (lvAll_S hW).2]; exact hS.1
        · rw [hk2]; exact hK1
        · rw [hF1.2 _ (by omega), (lvAll_S hW).1]; exact hS.2.2.1 i hi
        · rw [hF1.2 _ (by omega), hF1.2 _ (by omega), lvAll_form hW]; exact hS.2.2.2.1 p hp1
        · rw [lvAll_form hW]; exact Lm_leave hW (by omega) (by omega) ht.2.1 (fun p hp1 => hW.mem hp1) u hu
      · unfold LsD
        rw [List.filter_nil, List.append_nil]
        by_cases z : u = m
        · rw [z, va_up_s]
        · rw [va_up_n _ _ z]
          by_cases y : u = toN T σ m
          · rw [y, va_up_s]
          · rw [va_up_n _ _ y]
    · refine g_aload_n d_Md_dies_27 rfl ?_
      refine H_getR 144 d_Md_dies_28 f_Md_23.g rfl rfl (by decide) rfl ?_
      refine g_iload_n d_Md_dies_31 rfl ?_
      refine H_ialdN d_Md_dies_32 rfl rfl (by omega) (by decide) ?_
      refine T_int (nI (toN T σ m)) (by rw [(hT.2.2.1 m hm).2.2, hc]; unfold toN; rw [hc]; show nI j = nI (if 0 < aS σ j then j else 5); rw [if_pos (by omega)]) ?_
      refine P_goto d_Md_dies_33 37 (by decide) ?_
      refine S_istore_n_5_3 d_Md_dies_37 rfl rfl ?_
      refine lp_Md_dies hw hT hW hr hm (to := toN T σ m) (by omega) ht.2.1 (fun mI1 hL1 hK1 hF1 => ?_) _ [] (Lm σ m) mI _ rfl ((hS.ll hw hW).cg (fun u _ => ?_)) hS.2.1 FW.rf rfl
      · have hk2 : kB (aH (lvAll T σ m)) (tP T) = kbF T (kB (aH σ) (tP T)) (Lm σ m) := by rw [lvAll_form hW]; exact kB_leave hW (by omega) (by omega)
        refine k mI1 (SM_of ?_ ?_ (fun i hi => ?_) (fun p hp1 => ?_) hL1 (fun u hu => ?_)) hF1
        · rw [hF1.2 _ (by omega), (lvAll_S hW).2]; exact hS.1
        · rw [hk2]; exact hK1
        · rw [hF1.2 _ (by omega), (lvAll_S hW).1]; exact hS.2.2.1 i hi
        · rw [hF1.2 _ (by omega), hF1.2 _ (by omega), lvAll_form hW]; exact hS.2.2.2.1 p hp1
        · rw [lvAll_form hW]; exact Lm_leave hW (by omega) (by omega) ht.2.1 (fun p hp1 => hW.mem hp1) u hu
      · unfold LsD
        rw [List.filter_nil, List.append_nil]
        by_cases z : u = m
        · rw [z, va_up_s]
        · rw [va_up_n _ _ z]
          by_cases y : u = toN T σ m
          · rw [y, va_up_s]
          · rw [va_up_n _ _ y]

