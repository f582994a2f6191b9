/-- in the long row nothing but r .. r + 92 has changed, elsewhere nothing but who works at what -/
def FY (r : Nat) (mI mI' : Nat → Nat → Int32) : Prop := (∀ q, q ≠ 140 → q ≠ 159 → mI' q = mI q) ∧ ∀ j, ¬ (r ≤ j ∧ j < r + 93) → mI' 140 j = mI 140 j
theorem FY.rf {r : Nat} {mI : Nat → Nat → Int32} : FY r mI mI := ⟨fun _ _ _ => rfl, fun _ _ => rfl⟩
theorem FY.tr {r : Nat} {m1 m2 m3 : Nat → Nat → Int32} (h : FY r m1 m2) (g : FY r m2 m3) : FY r m1 m3 := ⟨fun q hq h9 => (g.1 q hq h9).trans (h.1 q hq h9), fun j hj => (g.2 j hj).trans (h.2 j hj)⟩
theorem FW.y {r lo hi : Nat} {m1 m2 : Nat → Nat → Int32} (h : FW lo hi m1 m2) (h1 : r ≤ lo) (h2 : hi ≤ r + 93) : FY r m1 m2 := ⟨fun q hq _ => h.1 q hq, fun j hj => h.2 j (fun z => hj ⟨by omega, by omega⟩)⟩
theorem FY_sI {r f : Nat} {m1 m2 : Nat → Nat → Int32} {x : Int32} (h : FY r m1 m2) (hf : r ≤ f ∧ f < r + 93) : FY r m1 (sI m2 140 f x) := ⟨fun q hq h9 => (sI_r hq).trans (h.1 q hq h9), fun j hj => (sI_n (fun z => hj (by rw [z.2]; exact hf))).trans (h.2 j hj)⟩
theorem TM.y {T : TD} {r : Nat} {mI mI' : Nat → Nat → Int32} (h : TM 3 7 142 T mI) (hF : FY r mI mI') : TM 3 7 142 T mI' := h.to (congrFun (hF.1 139 (by omega) (by omega)) 3) (congrFun (hF.1 139 (by omega) (by omega)) 7) (fun q z1 z2 => hF.1 q (by omega) (by omega))
section SMset
variable {r : Nat} {T : TD} {σ : AS} {K : Nat} {mI : Nat → Nat → Int32}
theorem SM.D (h : SM r T σ K mI) (hw : TW T) (hW : SV T σ) (p v : Nat) (hpP : p < tP T) : SM r T (uD σ p v) K (sI mI 140 (r + 16 + p) (nI v)) := by
  have h5 := hw.1
  have h10 := hw.2.1
  refine SM_of (by rw [sI_n (by omega)]; exact h.1) (by rw [sI_n (by omega)]; exact h.2.1) (fun i hi => by rw [sI_n (by omega)]; exact h.2.2.1 i hi) (fun q hq => ⟨by rw [sI_n (by omega)]; exact (h.2.2.2.1 q hq).1, ?_⟩) ((h.ll hw hW).to (fun j h1 h2 => sI_n (by omega))) (fun _ _ => rfl)
  show _ = nI (va_up (aD σ) p v q)
  by_cases z : q = p
  · rw [z, va_up_s]; exact sI_s _ _ _ _
  · rw [va_up_n _ _ z, sI_n (by omega)]; exact (h.2.2.2.1 q hq).2
theorem SM.W (h : SM r T σ K mI) (hw : TW T) (hW : SV T σ) (p v : Nat) (hpP : p < tP T) : SM r T (uW σ p v) K (sI mI 140 (r + 6 + p) (nI v)) := by
  have h5 := hw.1
  have h10 := hw.2.1
  refine SM_of (by rw [sI_n (by omega)]; exact h.1) (by rw [sI_n (by omega)]; exact h.2.1) (fun i hi => by rw [sI_n (by omega)]; exact h.2.2.1 i hi) (fun q hq => ⟨?_, by rw [sI_n (by omega)]; exact (h.2.2.2.1 q hq).2⟩) ((h.ll hw hW).to (fun j h1 h2 => sI_n (by omega))) (fun _ _ => rfl)
  show _ = nI (va_up (aW σ) p v q)
  by_cases z : q = p
  · rw [z, va_up_s]; exact sI_s _ _ _ _
  · rw [va_up_n _ _ z, sI_n (by omega)]; exact (h.2.2.2.1 q hq).1
theorem SM.S (h : SM r T σ K mI) (hw : TW T) (hW : SV T σ) (i v : Nat) (hi0 : i < tn T) : SM r T (uS σ i v) K (sI mI 140 (r + 1 + i) (nI v)) := by
  have h5 := hw.1
  have h10 := hw.2.1
  refine SM_of (by rw [sI_n (by omega)]; exact h.1) (by rw [sI_n (by omega)]; exact h.2.1) (fun q hq => ?_) (fun q hq => ⟨by rw [sI_n (by omega)]; exact (h.2.2.2.1 q hq).1, by rw [sI_n (by omega)]; exact (h.2.2.2.1 q hq).2⟩) ((h.ll hw hW).to (fun j h1 h2 => sI_n (by omega))) (fun _ _ => rfl)
  show _ = nI (va_up (aS σ) i v q)
  by_cases z : q = i
  · rw [z, va_up_s]; exact sI_s _ _ _ _
  · rw [va_up_n _ _ z, sI_n (by omega)]; exact h.2.2.1 q hq
theorem SM.Y (h : SM r T σ K mI) (hw : TW T) (hW : SV T σ) (y : Nat) : SM r T (uY σ y) K (sI mI 140 r (nI y)) := by
  have h5 := hw.1
  have h10 := hw.2.1
  exact SM_of (sI_s _ _ _ _) (by rw [sI_n (by omega)]; exact h.2.1) (fun i hi => by rw [sI_n (by omega)]; exact h.2.2.1 i hi) (fun q hq => ⟨by rw [sI_n (by omega)]; exact (h.2.2.2.1 q hq).1, by rw [sI_n (by omega)]; exact (h.2.2.2.1 q hq).2⟩) ((h.ll hw hW).to (fun j h1 h2 => sI_n (by omega))) (fun _ _ => rfl)
end SMset
/-- a row of the long row is brought to another place -/
theorem SM.cp {a b : Nat} {T : TD} {σ : AS} {K : Nat} {mI mI' : Nat → Nat → Int32} (h : SM a T σ K mI) (hw : TW T) (hW : SV T σ) (hc : ∀ j, j < 93 → mI' 140 (b + j) = mI 140 (a + j)) : SM b T σ K mI' := by
  have h5 := hw.1
  have h10 := hw.2.1
  have hl := h.ll hw hW
  have e0 := hc 0 (by omega)
  rw [Nat.add_zero, Nat.add_zero] at e0
  refine SM_of (e0.trans h.1) ((hc 26 (by omega)).trans h.2.1) (fun i hi => ?_) (fun q hq => ⟨?_, ?_⟩) (Ls := Lm σ) (fun m hm => ?_) (fun _ _ => rfl)
  · rw [Nat.add_assoc, hc _ (by omega), ← Nat.add_assoc]; exact h.2.2.1 i hi
  · rw [Nat.add_assoc, hc _ (by omega), ← Nat.add_assoc]; exact (h.2.2.2.1 q hq).1
  · rw [Nat.add_assoc, hc _ (by omega), ← Nat.add_assoc]; exact (h.2.2.2.1 q hq).2
  · obtain ⟨g1, g2, g3⟩ := hl m hm
    refine ⟨by rw [Nat.add_assoc, hc _ (by omega), ← Nat.add_assoc]; exact g1, g2, fun j hj => ?_⟩
    rw [Nat.add_assoc, Nat.add_assoc, hc _ (by omega), ← Nat.add_assoc, ← Nat.add_assoc]; exact g3 j hj
theorem kB_31 {T : TD} (hw : TW T) (H : Nat → Nat) : kB H (tP T) < 2 ^ 31 := p2_31 (kB_lt H (tP T)) hw.2.1
theorem f139 {mI mI' : Nat → Nat → Int32} (h : ∀ q, q ≠ 159 → mI' q = mI q) {T : TD} (hT : TM 3 7 142 T mI) : TM 3 7 142 T mI' := hT.to (congrFun (h 139 (by omega)) 3) (congrFun (h 139 (by omega)) 7) (fun q z1 z2 => h q (by omega))
theorem lp_Md_passesYear_k {X : CX} {dl : List (Nat × Nat)} {mI : Nat → Nat → Int32} {dr : Nat → Nat → Nat} {Q : Option Value → AH → Prop} {T : TD} {σ : AS} {r : Nat} (hw : TW T) (hT : TM 3 7 142 T mI) (hW : SW T σ) (hr : r ≤ 1023) (hS : SM r T σ (kB (aH σ) (tP T)) mI) {m : Nat} (hm : m < tn T) (k : ∀ mI' v3 v4, mI' 159 m = noI (wA T σ m) → (∀ q, q ≠ 159 → mI' q = mI q) → (∀ j, j ≠ m → mI' 159 j = mI 159 j) → EW X m_Md_passesYear 99 [.ref 139, .int (nI r), .int (nI m), v3, v4] [] (hp X dl mI' dr) Q) : ∀ (d : Nat) (c : Nat) (mI2 : Nat → Nat → Int32) (v4 : Value), (c ≤ (Lm σ m).length) → (mI2 159 m = noI (if 0 < aS σ m then fO T (kB (aH σ) (tP T)) ((Lm σ m).drop c) else none)) → (∀ q, q ≠ 159 → mI2 q = mI q) → (∀ j, j ≠ m → mI2 159 j = mI 159 j) → c = d → EW X m_Md_passesYear 31 [.ref 139, .int (nI r), .int (nI m), .int (hrI c), v4] [] (hp X dl mI2 dr) Q := by
  intro d
  induction d using Nat.strongRecOn with
  | _ d ih =>
    intro c mI2 v4 hc h1 h2 h3 hd
    have hw1 := hw.1
    have hw2 := hw.2.1
    have h60 := hW.2.2 m hm
    have hlen := (hS.ll hw hW.v) m (by omega)
    cases c with
    | zero =>
      refine g_iload_n d_Md_passesYear_31 rfl ?_
      refine P_if_lt d_Md_passesYear_32 99 (by decide) (fun _ => ?_) (fun z => absurd ((hrI_neg (by decide)).mpr rfl) z)
      exact k mI2 _ _ h1 h2 h3
    | succ c =>
      have hpl := (Lm_mem hW.v).mp (getD_mem (show c < (Lm σ m).length by omega))
      have hdc := drop_c (show c < (Lm σ m).length by omega)
      show EW X m_Md_passesYear 31 [.ref 139, .int (nI r), .int (nI m), .int (nI c), v4] [] (hp X dl mI2 dr) Q
      refine g_iload_n d_Md_passesYear_31 rfl ?_
      refine N_if_lt d_Md_passesYear_32 99 (by decide) (by omega) ?_
      refine g_aload_n d_Md_passesYear_35 rfl ?_
      refine H_getR 140 d_Md_passesYear_36 f_Md_7.g rfl rfl (by decide) rfl ?_
      refine g_iload_n d_Md_passesYear_39 rfl ?_
      refine N_bipush d_Md_passesYear_40 33 rfl ?_
      refine N_iadd d_Md_passesYear_42 ?_
      refine N_bipush d_Md_passesYear_43 10 rfl ?_
      refine g_iload_n d_Md_passesYear_45 rfl ?_
      refine N_imul d_Md_passesYear_46 ?_
      refine N_iadd d_Md_passesYear_47 ?_
      refine g_iload_n d_Md_passesYear_48 rfl ?_
      refine N_iadd d_Md_passesYear_49 ?_
      refine H_ialdN d_Md_passesYear_50 rfl rfl (by omega) (by decide) ?_
      refine T_int (nI ((Lm σ m).getD c 0)) (by rw [h2 140 (by omega)]; exact hlen.2.2 c (by omega)) ?_
      refine S_istore_5_4 d_Md_passesYear_51 rfl rfl ?_
      refine g_aload_n d_Md_passesYear_53 rfl ?_
      refine H_getR 159 d_Md_passesYear_54 f_Md_68.g rfl rfl (by decide) rfl ?_
      refine g_iload_n d_Md_passesYear_57 rfl ?_
      refine g_aload_n d_Md_passesYear_58 rfl ?_
      refine H_getR 140 d_Md_passesYear_59 f_Md_7.g rfl rfl (by decide) rfl ?_
      refine g_iload_n d_Md_passesYear_62 rfl ?_
      refine N_iconst d_Md_passesYear_63 1 rfl ?_
      refine N_iadd d_Md_passesYear_64 ?_
      refine g_iload_n d_Md_passesYear_65 rfl ?_
      refine N_iadd d_Md_passesYear_66 ?_
      refine H_ialdN d_Md_passesYear_67 rfl rfl (by omega) (by decide) ?_
      refine T_int (nI (aS σ m)) (by rw [h2 140 (by omega)]; exact hS.2.2.1 m hm) ?_
      refine N_if_le d_Md_passesYear_68 86 (by decide) (by omega) (fun dd2 => ?_) (fun dd2 => ?_)
      · refine g_aload_n d_Md_passesYear_86 rfl ?_
        refine H_getR 159 d_Md_passesYear_87 f_Md_68.g rfl rfl (by decide) rfl ?_
        refine g_iload_n d_Md_passesYear_90 rfl ?_
        refine H_ialdN d_Md_passesYear_91 rfl rfl (by omega) (by decide) ?_
        refine T_int (noI (if 0 < aS σ m then fO T (kB (aH σ) (tP T)) ((Lm σ m).drop (c + 1)) else none)) h1 ?_
        refine H_iastN d_Md_passesYear_92 rfl rfl (by omega) (by decide) ?_
        refine S_iinc_5_3 (-1) d_Md_passesYear_93 rfl rfl rfl ?_
        refine P_goto d_Md_passesYear_96 31 (by decide) ?_
        have e : nI c + -1 = hrI c := hrI_m1 (c := c) (by omega)
        rw [e]
        refine ih c (by omega) c _ _ (by omega) ?_ (fun q hq => by rw [sI_r hq]; exact h2 q hq) (fun j hj => by rw [sI_n (fun z => hj z.2)]; exact h3 j hj) rfl
        rw [sI_s]
        first
          | (rw [if_neg (show ¬ 0 < aS σ m by omega), if_neg (show ¬ 0 < aS σ m by omega)])
          | (rw [if_pos (show 0 < aS σ m by omega), hdc]
             show _ = noI (List.find? _ _)
             rw [List.find?_cons_of_pos (by rw [decide_eq_true_iff]; assumption)]
             rfl)
          | (rw [if_pos (show 0 < aS σ m by omega), if_pos (show 0 < aS σ m by omega), hdc]
             show _ = noI (List.find? _ _)
             rw [List.find?_cons_of_neg (by rw [decide_eq_true_iff]; assumption)]
             rfl)
      · refine g_aload_n d_Md_passesYear_71 rfl ?_
        refine g_iload_n d_Md_passesYear_72 rfl ?_
        refine g_iload d_Md_passesYear_73 rfl ?_
        refine C_V2 d_Md_passesYear_75 k_Md_245 rfl (Nat.le_of_ble_eq_true rfl) (by decide) (Nat.le_of_ble_eq_true rfl) ?_
        refine (c_Md_isOpen hw (f139 h2 hT) hr hpl.1 (kB_31 hw (aH σ)) (by rw [h2 140 (by omega)]; exact hS.2.1)) ?_
        refine B_eq d_Md_passesYear_78 86 (by decide) (fun dd3 => ?_) (fun dd3 => ?_)
        · refine g_aload_n d_Md_passesYear_86 rfl ?_
          refine H_getR 159 d_Md_passesYear_87 f_Md_68.g rfl rfl (by decide) rfl ?_
          refine g_iload_n d_Md_passesYear_90 rfl ?_
          refine H_ialdN d_Md_passesYear_91 rfl rfl (by omega) (by decide) ?_
          refine T_int (noI (if 0 < aS σ m then fO T (kB (aH σ) (tP T)) ((Lm σ m).drop (c + 1)) else none)) h1 ?_
          refine H_iastN d_Md_passesYear_92 rfl rfl (by omega) (by decide) ?_
          refine S_iinc_5_3 (-1) d_Md_passesYear_93 rfl rfl rfl ?_
          refine P_goto d_Md_passesYear_96 31 (by decide) ?_
          have e : nI c + -1 = hrI c := hrI_m1 (c := c) (by omega)
          rw [e]
          refine ih c (by omega) c _ _ (by omega) ?_ (fun q hq => by rw [sI_r hq]; exact h2 q hq) (fun j hj => by rw [sI_n (fun z => hj z.2)]; exact h3 j hj) rfl
          rw [sI_s]
          first
            | (rw [if_neg (show ¬ 0 < aS σ m by omega), if_neg (show ¬ 0 < aS σ m by omega)])
            | (rw [if_pos (show 0 < aS σ m by omega), hdc]
               show _ = noI (List.find? _ _)
               rw [List.find?_cons_of_pos (by rw [decide_eq_true_iff]; assumption)]
               rfl)
            | (rw [if_pos (show 0 < aS σ m by omega), if_pos (show 0 < aS σ m by omega), hdc]
               show _ = noI (List.find? _ _)
               rw [List.find?_cons_of_neg (by rw [decide_eq_true_iff]; assumption)]
               rfl)
        · refine g_iload d_Md_passesYear_81 rfl ?_
          refine P_goto d_Md_passesYear_83 92 (by decide) ?_
          refine H_iastN d_Md_passesYear_92 rfl rfl (by omega) (by decide) ?_
          refine S_iinc_5_3 (-1) d_Md_passesYear_93 rfl rfl rfl ?_
          refine P_goto d_Md_passesYear_96 31 (by decide) ?_
          have e : nI c + -1 = hrI c := hrI_m1 (c := c) (by omega)
          rw [e]
          refine ih c (by omega) c _ _ (by omega) ?_ (fun q hq => by rw [sI_r hq]; exact h2 q hq) (fun j hj => by rw [sI_n (fun z => hj z.2)]; exact h3 j hj) rfl
          rw [sI_s]
          first
            | (rw [if_neg (show ¬ 0 < aS σ m by omega), if_neg (show ¬ 0 < aS σ m by omega)])
            | (rw [if_pos (show 0 < aS σ m by omega), hdc]
               show _ = noI (List.find? _ _)
               rw [List.find?_cons_of_pos (by rw [decide_eq_true_iff]; assumption)]
               rfl)
            | (rw [if_pos (show 0 < aS σ m by omega), if_pos (show 0 < aS σ m by omega), hdc]
               show _ = noI (List.find? _ _)
               rw [List.find?_cons_of_neg (by rw [decide_eq_true_iff]; assumption)]
               rfl)

theorem lp_Md_passesYear_1 {X : CX} {dl : List (Nat × Nat)} {mI : Nat → Nat → Int32} {dr : Nat → Nat → Nat} {Q : Option Value → AH → Prop} {T : TD} {σ : AS} {r : Nat} (hw : TW T) (hT : TM 3 7 142 T mI) (hW : SW T σ) (hr : r ≤ 1023) (hS : SM r T σ (kB (aH σ) (tP T)) mI) (k : ∀ mI' v2 v3 v4, (∀ j, j < tn T → mI' 159 j = noI (wA T σ j)) → (∀ q, q ≠ 159 → mI' q = mI q) → EW X m_Md_passesYear 105 [.ref 139, .int (nI r), v2, v3, v4] [] (hp X dl mI' dr) Q) : ∀ (d : Nat) (m : Nat) (mI2 : Nat → Nat → Int32) (v3 : Value) (v4 : Value), (m ≤ tn T) → (∀ j, j < m → mI2 159 j = noI (wA T σ j)) → (∀ q, q ≠ 159 → mI2 q = mI q) → tn T - m = d → EW X m_Md_passesYear 2 [.ref 139, .int (nI r), .int (nI m), v3, v4] [] (hp X dl mI2 dr) Q := by
  intro d
  induction d using Nat.strongRecOn with
  | _ d ih =>
    intro m mI2 v3 v4 hm h1 h2 hd
    have hw1 := hw.1
    have hw2 := hw.2.1
    have hlen := (hS.ll hw hW.v)
    refine g_iload_n d_Md_passesYear_2 rfl ?_
    refine g_aload_n d_Md_passesYear_3 rfl ?_
    refine H_getI d_Md_passesYear_4 f_Md_107.g rfl rfl (by decide) ?_
    refine T_int (nI (tn T)) (by rw [h2 139 (by omega)]; exact hT.1) ?_
    refine N_icmp_ge d_Md_passesYear_7 105 (by decide) ⟨by omega, by omega⟩ (fun c1 => ?_) (fun c1 => ?_)
    · exact k mI2 _ _ _ (fun j hj => h1 j (by omega)) h2
    · refine g_aload_n d_Md_passesYear_10 rfl ?_
      refine H_getR 159 d_Md_passesYear_11 f_Md_68.g rfl rfl (by decide) rfl ?_
      refine g_iload_n d_Md_passesYear_14 rfl ?_
      refine P_iconst d_Md_passesYear_15 (-1) rfl ?_
      refine H_iastN d_Md_passesYear_16 rfl rfl (by omega) (by decide) ?_
      refine g_aload_n d_Md_passesYear_17 rfl ?_
      refine H_getR 140 d_Md_passesYear_18 f_Md_7.g rfl rfl (by decide) rfl ?_
      refine g_iload_n d_Md_passesYear_21 rfl ?_
      refine N_bipush d_Md_passesYear_22 27 rfl ?_
      refine N_iadd d_Md_passesYear_24 ?_
      refine g_iload_n d_Md_passesYear_25 rfl ?_
      refine N_iadd d_Md_passesYear_26 ?_
      refine H_ialdN d_Md_passesYear_27 rfl rfl (by omega) (by decide) ?_
      refine T_int (nI ((Lm σ m).length)) (by rw [sI_r (by omega), h2 140 (by omega)]; exact (hlen m (by omega)).1) ?_
      refine N_iconst d_Md_passesYear_28 1 rfl ?_
      refine P_isub d_Md_passesYear_29 ?_
      refine T_int (hrI (Lm σ m).length) (nI_m1h (by have := (hlen m (by omega)).2.1; omega)) ?_
      refine S_istore_n_5_3 d_Md_passesYear_30 rfl rfl ?_
      have hmt : m < tn T := by omega
      have hS2 : SM r T σ (kB (aH σ) (tP T)) (sI mI2 159 m (-1)) := hS.to hw hW.v (fun j _ _ => by rw [sI_r (by omega), h2 140 (by omega)])
      have hT2 : TM 3 7 142 T (sI mI2 159 m (-1)) := f139 (fun q hq => by rw [sI_r hq]; exact h2 q hq) hT
      refine lp_Md_passesYear_k hw hT2 hW hr hS2 hmt (fun mI3 w3 w4 g1 g2 g3 => ?_) _ (Lm σ m).length _ _ (Nat.le_refl _) ?_ (fun _ _ => rfl) (fun _ _ => rfl) rfl
      · refine N_iinc_5_2_1 d_Md_passesYear_99 rfl rfl ?_
        refine P_goto d_Md_passesYear_102 2 (by decide) ?_
        refine ih (tn T - (m + 1)) (by omega) (m + 1) mI3 w3 w4 (by omega) (fun j hj => ?_) (fun q hq => by rw [g2 q hq, sI_r hq]; exact h2 q hq) rfl
        by_cases z : j = m
        · rw [z]; exact g1
        · rw [g3 j z, sI_n (fun y => z y.2)]; exact h1 j (by omega)
      · rw [List.drop_length, sI_s]
        split <;> rfl

theorem w2_SV {T : TD} {σ : AS} (hW : SV T σ) : ∀ m, SV T (w2 T σ m)
  | 0 => hW
  | m + 1 => by
    have ih := w2_SV hW m
    rw [w2]
    split
    · exact ih
    · exact SV_wkAt ih _ _
theorem w2_H {T : TD} {σ : AS} (hw : TW T) (hW : SW T σ) {m p : Nat} (hm : m < tn T) (h : aH σ p = m) : aH (w2 T σ m) p = m := by
  rw [w2_fin hW m (by omega) hw.1, finW_H (by unfold chM; rw [h]; simp)]; exact h
theorem wA_mem {T : TD} {σ : AS} (hW : SV T σ) {m p : Nat} (h : wA T σ m = some p) : p < tP T ∧ aH σ p = m := by
  unfold wA at h
  split at h
  · exact (Lm_mem hW).mp (fO_mem h)
  · cases h
theorem SV_uD {T : TD} {σ : AS} (h : SV T σ) (p v : Nat) (hv : v ≤ aW σ p) : SV T (uD σ p v) := by
  refine ⟨h.1, fun q hq => ?_, h.2.2⟩
  obtain ⟨h1, h2, h3, h4⟩ := h.2.1 q hq
  refine ⟨h1, h2, ?_, h4⟩
  show va_up (aD σ) p v q ≤ aW σ q
  by_cases z : q = p
  · rw [z, va_up_s]; exact hv
  · rw [va_up_n _ _ z]; exact h3
theorem sI_sI (mI : Nat → Nat → Int32) (r f : Nat) (x y : Int32) : sI (sI mI r f x) r f y = sI mI r f y := by
  funext a b
  by_cases h : a = r ∧ b = f
  · obtain ⟨rfl, rfl⟩ := h
    rw [sI_s, sI_s]
  · rw [sI_n h, sI_n h, sI_n h]
theorem lp_Md_passesYear_2 {X : CX} {dl : List (Nat × Nat)} {mI : Nat → Nat → Int32} {dr : Nat → Nat → Nat} {Q : Option Value → AH → Prop} {T : TD} {σ : AS} {r : Nat} (hw : TW T) (hT : TM 3 7 142 T mI) (hW : SW T σ) (hr : r ≤ 1023) (hS : SM r T σ (kB (aH σ) (tP T)) mI) (h9 : ∀ j, j < tn T → mI 159 j = noI (wA T σ j)) (k : ∀ mI' v2 v3 v4, SM r T (wkAll T σ) (kB (aH (wkAll T σ)) (tP T)) mI' → FY r mI mI' → EW X m_Md_passesYear 215 [.ref 139, .int (nI r), v2, v3, v4] [] (hp X dl mI' dr) Q) : ∀ (d : Nat) (m : Nat) (mI2 : Nat → Nat → Int32) (v3 : Value) (v4 : Value), (m ≤ tn T) → (SM r T (w2 T σ m) (kB (aH (w2 T σ m)) (tP T)) mI2) → (FY r mI mI2) → (mI2 159 = mI 159) → tn T - m = d → EW X m_Md_passesYear 107 [.ref 139, .int (nI r), .int (nI m), v3, v4] [] (hp X dl mI2 dr) Q := by
  intro d
  induction d using Nat.strongRecOn with
  | _ d ih =>
    intro m mI2 v3 v4 hm hS2 hF h92 hd
    have hw1 := hw.1
    have hw2 := hw.2.1
    have hT2 := hT.y hF
    have hV := w2_SV hW.v (m := m)
    refine g_iload_n d_Md_passesYear_107 rfl ?_
    refine g_aload_n d_Md_passesYear_108 rfl ?_
    refine H_getI d_Md_passesYear_109 f_Md_107.g rfl rfl (by decide) ?_
    refine T_int (nI (tn T)) hT2.1 ?_
    refine N_icmp_ge d_Md_passesYear_112 215 (by decide) ⟨by omega, by omega⟩ (fun c1 => ?_) (fun c1 => ?_)
    · have e : m = tn T := by omega
      subst e
      rw [w2_wkAll hw hW] at hS2
      exact k mI2 _ _ _ hS2 hF
    · refine g_aload_n d_Md_passesYear_115 rfl ?_
      refine H_getR 159 d_Md_passesYear_116 f_Md_68.g rfl rfl (by decide) rfl ?_
      refine g_iload_n d_Md_passesYear_119 rfl ?_
      refine H_ialdN d_Md_passesYear_120 rfl rfl (by omega) (by decide) ?_
      refine T_int (noI (wA T σ m)) (by rw [h92]; exact h9 m (by omega)) ?_
      refine S_istore_n_5_3 d_Md_passesYear_121 rfl rfl ?_
      rcases hA : wA T σ m with _ | p
      · have e2 : w2 T σ (m + 1) = w2 T σ m := by rw [w2, hA]
        refine g_iload_n d_Md_passesYear_122 rfl ?_
        refine P_if_lt d_Md_passesYear_123 209 (by decide) (fun _ => ?_) (fun z => absurd (show (-1 : Int32) < 0 by decide) z)
        refine N_iinc_5_2_1 d_Md_passesYear_209 rfl rfl ?_
        refine P_goto d_Md_passesYear_212 107 (by decide) ?_
        exact ih (tn T - (m + 1)) (by omega) (m + 1) mI2 _ _ (by omega) (by rw [e2]; exact hS2) hF h92 rfl
      · obtain ⟨hpP, hpm⟩ := wA_mem hW.v hA
        have hpm2 := w2_H hw hW (show m < tn T by omega) hpm
        have hst := hw.2.2.1 m (by omega)
        have hz := doesN_le (k := tkd T p) (s := tst T m) (by omega)
        have hV1 := hV.2.1 p hpP
        have hin : p ∈ Lm (w2 T σ m) m := (Lm_mem hV).mpr ⟨hpP, hpm2⟩
        have hb100 : ∀ x ∈ Lm (w2 T σ m) m, x < 100 := fun x hx => by have := ((Lm_mem hV).mp hx).1; omega
        show EW X m_Md_passesYear 122 [.ref 139, .int (nI r), .int (nI m), .int (nI p), v4] [] (hp X dl mI2 dr) Q
        refine g_iload_n d_Md_passesYear_122 rfl ?_
        refine N_if_lt d_Md_passesYear_123 209 (by decide) (by omega) ?_
        refine g_aload_n d_Md_passesYear_126 rfl ?_
        refine H_getR 140 d_Md_passesYear_127 f_Md_7.g rfl rfl (by decide) rfl ?_
        refine g_iload_n d_Md_passesYear_130 rfl ?_
        refine N_bipush d_Md_passesYear_131 16 rfl ?_
        refine N_iadd d_Md_passesYear_133 ?_
        refine g_iload_n d_Md_passesYear_134 rfl ?_
        refine N_iadd d_Md_passesYear_135 ?_
        refine P_dup2 d_Md_passesYear_136 ?_
        refine H_ialdN d_Md_passesYear_137 rfl rfl (by omega) (by decide) ?_
        refine T_int (nI (aD (w2 T σ m) p)) (hS2.2.2.2.1 p hpP).2 ?_
        refine g_aload_n d_Md_passesYear_138 rfl ?_
        refine H_getR 145 d_Md_passesYear_139 f_Md_26.g rfl rfl (by decide) rfl ?_
        refine g_iload_n d_Md_passesYear_142 rfl ?_
        refine H_ialdN d_Md_passesYear_143 rfl rfl (by omega) (by decide) ?_
        refine T_int (nI (tkd T p)) (hT2.2.2.2.1 p hpP).1 ?_
        refine g_aload_n d_Md_passesYear_144 rfl ?_
        refine H_getR 142 d_Md_passesYear_145 f_Md_17.g rfl rfl (by decide) rfl ?_
        refine g_iload_n d_Md_passesYear_148 rfl ?_
        refine H_ialdN d_Md_passesYear_149 rfl rfl (by omega) (by decide) ?_
        refine T_int (nI (tst T m)) (hT2.2.2.1 m (by omega)).1 ?_
        refine C_S2 d_Md_passesYear_150 k_Md_248 (Nat.le_of_ble_eq_true rfl) (by decide) (Nat.le_of_ble_eq_true rfl) ?_
        refine (c_Md_does (hw.2.2.2 p hpP).1 (by omega)) ?_
        refine N_iadd d_Md_passesYear_153 ?_
        refine H_iastN d_Md_passesYear_154 rfl rfl (by omega) (by decide) ?_
        refine g_aload_n d_Md_passesYear_155 rfl ?_
        refine H_getR 140 d_Md_passesYear_156 f_Md_7.g rfl rfl (by decide) rfl ?_
        refine g_iload_n d_Md_passesYear_159 rfl ?_
        refine N_bipush d_Md_passesYear_160 16 rfl ?_
        refine N_iadd d_Md_passesYear_162 ?_
        refine g_iload_n d_Md_passesYear_163 rfl ?_
        refine N_iadd d_Md_passesYear_164 ?_
        refine H_ialdN d_Md_passesYear_165 rfl rfl (by omega) (by decide) ?_
        refine T_int (nI (aD (w2 T σ m) p + doesN (tkd T p) (tst T m))) (sI_s _ _ _ _) ?_
        refine g_aload_n d_Md_passesYear_166 rfl ?_
        refine H_getR 140 d_Md_passesYear_167 f_Md_7.g rfl rfl (by decide) rfl ?_
        refine g_iload_n d_Md_passesYear_170 rfl ?_
        refine N_bipush d_Md_passesYear_171 6 rfl ?_
        refine N_iadd d_Md_passesYear_173 ?_
        refine g_iload_n d_Md_passesYear_174 rfl ?_
        refine N_iadd d_Md_passesYear_175 ?_
        refine H_ialdN d_Md_passesYear_176 rfl rfl (by omega) (by decide) ?_
        refine T_int (nI (aW (w2 T σ m) p)) (by rw [sI_n (by omega)]; exact (hS2.2.2.2.1 p hpP).1) ?_
        refine N_icmp_lt d_Md_passesYear_177 209 (by decide) ⟨by omega, by omega⟩ (fun dd2 => ?_) (fun dd2 => ?_)
        · have e2 : w2 T σ (m + 1) = uD (w2 T σ m) p (aD (w2 T σ m) p + doesN (tkd T p) (tst T m)) := by rw [w2, hA]; show wkAt T _ p _ = _; unfold wkAt; rw [if_neg (by omega)]
          refine N_iinc_5_2_1 d_Md_passesYear_209 rfl rfl ?_
          refine P_goto d_Md_passesYear_212 107 (by decide) ?_
          exact ih (tn T - (m + 1)) (by omega) (m + 1) _ _ _ (by omega) (by rw [e2]; exact hS2.D hw hV p _ hpP) (FY_sI hF (by omega)) ((sI_r (by omega)).trans h92) rfl
        · refine g_aload_n d_Md_passesYear_180 rfl ?_
          refine H_getR 140 d_Md_passesYear_181 f_Md_7.g rfl rfl (by decide) rfl ?_
          refine g_iload_n d_Md_passesYear_184 rfl ?_
          refine N_bipush d_Md_passesYear_185 16 rfl ?_
          refine N_iadd d_Md_passesYear_187 ?_
          refine g_iload_n d_Md_passesYear_188 rfl ?_
          refine N_iadd d_Md_passesYear_189 ?_
          refine g_aload_n d_Md_passesYear_190 rfl ?_
          refine H_getR 140 d_Md_passesYear_191 f_Md_7.g rfl rfl (by decide) rfl ?_
          refine g_iload_n d_Md_passesYear_194 rfl ?_
          refine N_bipush d_Md_passesYear_195 6 rfl ?_
          refine N_iadd d_Md_passesYear_197 ?_
          refine g_iload_n d_Md_passesYear_198 rfl ?_
          refine N_iadd d_Md_passesYear_199 ?_
          refine H_ialdN d_Md_passesYear_200 rfl rfl (by omega) (by decide) ?_
          refine T_int (nI (aW (w2 T σ m) p)) (by rw [sI_n (by omega)]; exact (hS2.2.2.2.1 p hpP).1) ?_
          refine H_iastN d_Md_passesYear_201 rfl rfl (by omega) (by decide) ?_
          refine g_aload_n d_Md_passesYear_202 rfl ?_
          refine g_iload_n d_Md_passesYear_203 rfl ?_
          refine g_iload_n d_Md_passesYear_204 rfl ?_
          refine g_iload_n d_Md_passesYear_205 rfl ?_
          refine C_V3 d_Md_passesYear_206 k_Md_242 rfl (Nat.le_of_ble_eq_true rfl) (by decide) (Nat.le_of_ble_eq_true rfl) ?_
          rw [sI_sI]
          have hS3 := hS2.D hw hV p (aW (w2 T σ m) p) hpP
          have hV3 : SV T (uD (w2 T σ m) p (aW (w2 T σ m) p)) := SV_uD hV p _ (Nat.le_refl _)
          refine c_Md_becomesKept hr (by omega) (hS3.ll hw hV3) (by omega) hb100 hin hS3.2.1 (fun mI3 hL3 hK3 hF3 => ?_)
          have e2 : w2 T σ (m + 1) = uH (uD (w2 T σ m) p (aW (w2 T σ m) p)) p 6 := by rw [w2, hA]; show wkAt T _ p _ = _; unfold wkAt; rw [if_pos (by omega)]
          refine N_iinc_5_2_1 d_Md_passesYear_209 rfl rfl ?_
          refine P_goto d_Md_passesYear_212 107 (by decide) ?_
          refine ih (tn T - (m + 1)) (by omega) (m + 1) _ _ _ (by omega) ?_ ((FY_sI hF (by omega)).tr (hF3.y (by omega) (by omega))) ((hF3.1 159 (by omega)).trans ((sI_r (by omega)).trans h92)) rfl
          rw [e2]
          refine SM_of ?_ ?_ (fun i hi => ?_) (fun q hq => ?_) hL3 (Lm_kept hV3 (show m < 6 by omega) hpm2)
          · rw [hF3.2 _ (by omega)]; exact hS3.1
          · rw [hK3]; exact congrArg nI (kB_up _ _ _ hpP).symm
          · rw [hF3.2 _ (by omega)]; exact hS3.2.2.1 i hi
          · rw [hF3.2 _ (by omega), hF3.2 _ (by omega)]; exact hS3.2.2.2.1 q hq

theorem fold_s {α : Type} (f : α → Nat → α) (a : α) (m : Nat) : (List.range (m + 1)).foldl f a = f ((List.range m).foldl f a) m := by rw [List.range_succ, List.foldl_append]; rfl
theorem ag_lt {q : AS × Nat} {i : Nat} (h : q.2 < 2 ^ 5) (hi : i < 5) : (agStep q i).2 < 2 ^ 5 := by
  unfold agStep
  split
  · show (if _ then _ else _) < _
    split
    · have := or_lt h hi
      rw [Nat.one_mul] at this; exact this
    · exact h
  · exact h
theorem lp_Md_passesYear_3 {X : CX} {dl : List (Nat × Nat)} {mI : Nat → Nat → Int32} {dr : Nat → Nat → Nat} {Q : Option Value → AH → Prop} {T : TD} {τ : AS} {r : Nat} (hw : TW T) (hT : TM 3 7 142 T mI) (hr : r ≤ 1023) (k : ∀ mI' v3 v4, SM r T (ag1 T τ).1 (kB (aH τ) (tP T)) mI' → SV T (ag1 T τ).1 → (ag1 T τ).2 < 2 ^ 5 → FY r mI mI' → EW X m_Md_passesYear 283 [.ref 139, .int (nI r), .int (nI (ag1 T τ).2), v3, v4] [] (hp X dl mI' dr) Q) : ∀ (d : Nat) (m : Nat) (mI2 : Nat → Nat → Int32) (v4 : Value), (m ≤ tn T) → (SM r T ((List.range m).foldl agStep (τ, 0)).1 (kB (aH τ) (tP T)) mI2) → (SV T ((List.range m).foldl agStep (τ, 0)).1) → (((List.range m).foldl agStep (τ, 0)).2 < 2 ^ 5) → (FY r mI mI2) → tn T - m = d → EW X m_Md_passesYear 219 [.ref 139, .int (nI r), .int (nI ((List.range m).foldl agStep (τ, 0)).2), .int (nI m), v4] [] (hp X dl mI2 dr) Q := by
  intro d
  induction d using Nat.strongRecOn with
  | _ d ih =>
    intro m mI2 v4 hm hS2 hV hlt hF hd
    have hw1 := hw.1
    have hw2 := hw.2.1
    have hT2 := hT.y hF
    generalize hq : ((List.range m).foldl agStep (τ, 0)) = q at *
    refine g_iload_n d_Md_passesYear_219 rfl ?_
    refine g_aload_n d_Md_passesYear_220 rfl ?_
    refine H_getI d_Md_passesYear_221 f_Md_107.g rfl rfl (by decide) ?_
    refine T_int (nI (tn T)) hT2.1 ?_
    refine N_icmp_ge d_Md_passesYear_224 283 (by decide) ⟨by omega, by omega⟩ (fun c1 => ?_) (fun c1 => ?_)
    · have e : m = tn T := by omega
      subst e
      have eq : ag1 T τ = q := hq
      rw [eq] at k
      exact k mI2 _ _ hS2 hV hlt hF
    · have h60 := hV.2.2 m (by omega)
      have es := fold_s agStep (τ, 0) m
      rw [hq] at es
      have hV3 : SV T (agStep q m).1 := SV_agStep hV (by omega)
      have hl3 := ag_lt hlt (show m < 5 by omega)
      refine g_aload_n d_Md_passesYear_227 rfl ?_
      refine H_getR 140 d_Md_passesYear_228 f_Md_7.g rfl rfl (by decide) rfl ?_
      refine g_iload_n d_Md_passesYear_231 rfl ?_
      refine N_iconst d_Md_passesYear_232 1 rfl ?_
      refine N_iadd d_Md_passesYear_233 ?_
      refine g_iload_n d_Md_passesYear_234 rfl ?_
      refine N_iadd d_Md_passesYear_235 ?_
      refine H_ialdN d_Md_passesYear_236 rfl rfl (by omega) (by decide) ?_
      refine T_int (nI (aS q.1 m)) (hS2.2.2.1 m (by omega)) ?_
      refine N_if_le d_Md_passesYear_237 277 (by decide) (by omega) (fun c2 => ?_) (fun c2 => ?_)
      · have e3 : agStep q m = q := by unfold agStep; rw [if_neg (by omega)]
        rw [e3] at es hV3 hl3
        refine N_iinc_5_3_1 d_Md_passesYear_277 rfl rfl ?_
        refine P_goto d_Md_passesYear_280 219 (by decide) ?_
        have := ih (tn T - (m + 1)) (by omega) (m + 1) mI2 v4 (by omega) (by rw [es]; exact hS2) (by rw [es]; exact hV) (by rw [es]; exact hlt) hF rfl
        rw [es] at this
        exact this
      · refine g_aload_n d_Md_passesYear_240 rfl ?_
        refine H_getR 140 d_Md_passesYear_241 f_Md_7.g rfl rfl (by decide) rfl ?_
        refine g_iload_n d_Md_passesYear_244 rfl ?_
        refine N_iconst d_Md_passesYear_245 1 rfl ?_
        refine N_iadd d_Md_passesYear_246 ?_
        refine g_iload_n d_Md_passesYear_247 rfl ?_
        refine N_iadd d_Md_passesYear_248 ?_
        refine P_dup2 d_Md_passesYear_249 ?_
        refine H_ialdN d_Md_passesYear_250 rfl rfl (by omega) (by decide) ?_
        refine T_int (nI (aS q.1 m)) (hS2.2.2.1 m (by omega)) ?_
        refine N_iconst d_Md_passesYear_251 1 rfl ?_
        refine N_isub d_Md_passesYear_252 (by omega) ?_
        refine H_iastN d_Md_passesYear_253 rfl rfl (by omega) (by decide) ?_
        refine g_iload_n d_Md_passesYear_254 rfl ?_
        refine g_aload_n d_Md_passesYear_255 rfl ?_
        refine H_getR 140 d_Md_passesYear_256 f_Md_7.g rfl rfl (by decide) rfl ?_
        refine g_iload_n d_Md_passesYear_259 rfl ?_
        refine N_iconst d_Md_passesYear_260 1 rfl ?_
        refine N_iadd d_Md_passesYear_261 ?_
        refine g_iload_n d_Md_passesYear_262 rfl ?_
        refine N_iadd d_Md_passesYear_263 ?_
        refine H_ialdN d_Md_passesYear_264 rfl rfl (by omega) (by decide) ?_
        refine T_int (nI (aS q.1 m - 1)) (sI_s _ _ _ _) ?_
        refine N_if_ne d_Md_passesYear_265 274 (by decide) (by omega) (fun c3 => ?_) (fun c3 => ?_)
        · refine N_iconst d_Md_passesYear_274 0 rfl ?_
          refine N_ior d_Md_passesYear_275 ?_
          refine S_istore_n_5_2 d_Md_passesYear_276 rfl rfl ?_
          have e3 : agStep q m = (uS q.1 m (aS q.1 m - 1), if aS q.1 m - 1 = 0 then q.2 ||| 2 ^ m else q.2) := by unfold agStep; rw [if_pos (by omega)]
          refine N_iinc_5_3_1 d_Md_passesYear_277 rfl rfl ?_
          refine P_goto d_Md_passesYear_280 219 (by decide) ?_
          have hS3 : SM r T (uS q.1 m (aS q.1 m - 1)) (kB (aH τ) (tP T)) (sI mI2 140 (r + 1 + m) (nI (aS q.1 m - 1))) := hS2.S hw hV m _ (by omega)
          have := ih (tn T - (m + 1)) (by omega) (m + 1) (sI mI2 140 (r + 1 + m) (nI (aS q.1 m - 1))) v4 (by omega) (by rw [es, e3]; exact hS3) (by rw [es]; exact hV3) (by rw [es]; exact hl3) (FY_sI hF (by omega)) rfl
          rw [es, e3] at this
          first
            | (rw [show (if aS q.1 m - 1 = 0 then q.2 ||| 2 ^ m else q.2) = q.2 ||| 1 * 2 ^ m by rw [if_pos (by assumption), Nat.one_mul]] at this; exact this)
            | (rw [show (if aS q.1 m - 1 = 0 then q.2 ||| 2 ^ m else q.2) = q.2 ||| 0 by rw [if_neg (by assumption), Nat.or_zero]] at this; exact this)
        · refine N_iconst d_Md_passesYear_268 1 rfl ?_
          refine g_iload_n d_Md_passesYear_269 rfl ?_
          refine N_ishl d_Md_passesYear_270 (by omega) (p2_lt (by omega)) ?_
          refine P_goto d_Md_passesYear_271 275 (by decide) ?_
          refine N_ior d_Md_passesYear_275 ?_
          refine S_istore_n_5_2 d_Md_passesYear_276 rfl rfl ?_
          have e3 : agStep q m = (uS q.1 m (aS q.1 m - 1), if aS q.1 m - 1 = 0 then q.2 ||| 2 ^ m else q.2) := by unfold agStep; rw [if_pos (by omega)]
          refine N_iinc_5_3_1 d_Md_passesYear_277 rfl rfl ?_
          refine P_goto d_Md_passesYear_280 219 (by decide) ?_
          have hS3 : SM r T (uS q.1 m (aS q.1 m - 1)) (kB (aH τ) (tP T)) (sI mI2 140 (r + 1 + m) (nI (aS q.1 m - 1))) := hS2.S hw hV m _ (by omega)
          have := ih (tn T - (m + 1)) (by omega) (m + 1) (sI mI2 140 (r + 1 + m) (nI (aS q.1 m - 1))) v4 (by omega) (by rw [es, e3]; exact hS3) (by rw [es]; exact hV3) (by rw [es]; exact hl3) (FY_sI hF (by omega)) rfl
          rw [es, e3] at this
          first
            | (rw [show (if aS q.1 m - 1 = 0 then q.2 ||| 2 ^ m else q.2) = q.2 ||| 1 * 2 ^ m by rw [if_pos (by assumption), Nat.one_mul]] at this; exact this)
            | (rw [show (if aS q.1 m - 1 = 0 then q.2 ||| 2 ^ m else q.2) = q.2 ||| 0 by rw [if_neg (by assumption), Nat.or_zero]] at this; exact this)

theorem lp_Md_passesYear_4 {X : CX} {dl : List (Nat × Nat)} {mI : Nat → Nat → Int32} {dr : Nat → Nat → Nat} {Q : Option Value → AH → Prop} {T : TD} {τ : AS} {r : Nat} (hw : TW T) (hT : TM 3 7 142 T mI) (hr : r ≤ 1023) {dy : Nat} (hdy : dy < 2 ^ 31) (k : ∀ mI' v3 v4, SM r T ((List.range (tn T)).foldl (ag2 T dy) τ) (kB (aH ((List.range (tn T)).foldl (ag2 T dy) τ)) (tP T)) mI' → SV T ((List.range (tn T)).foldl (ag2 T dy) τ) → FY r mI mI' → EW X m_Md_passesYear 313 [.ref 139, .int (nI r), .int (nI dy), v3, v4] [] (hp X dl mI' dr) Q) : ∀ (d : Nat) (m : Nat) (mI2 : Nat → Nat → Int32) (v4 : Value), (m ≤ tn T) → (SM r T ((List.range m).foldl (ag2 T dy) τ) (kB (aH ((List.range m).foldl (ag2 T dy) τ)) (tP T)) mI2) → (SV T ((List.range m).foldl (ag2 T dy) τ)) → (FY r mI mI2) → tn T - m = d → EW X m_Md_passesYear 285 [.ref 139, .int (nI r), .int (nI dy), .int (nI m), v4] [] (hp X dl mI2 dr) Q := by
  intro d
  induction d using Nat.strongRecOn with
  | _ d ih =>
    intro m mI2 v4 hm hS2 hV hF hd
    have hw1 := hw.1
    have hw2 := hw.2.1
    have hT2 := hT.y hF
    have es := fold_s (ag2 T dy) τ m
    refine g_iload_n d_Md_passesYear_285 rfl ?_
    refine g_aload_n d_Md_passesYear_286 rfl ?_
    refine H_getI d_Md_passesYear_287 f_Md_107.g rfl rfl (by decide) ?_
    refine T_int (nI (tn T)) hT2.1 ?_
    refine N_icmp_ge d_Md_passesYear_290 313 (by decide) ⟨by omega, by omega⟩ (fun c1 => ?_) (fun c1 => ?_)
    · have e : m = tn T := by omega
      subst e
      exact k mI2 _ _ hS2 hV hF
    · refine g_iload_n d_Md_passesYear_293 rfl ?_
      refine g_iload_n d_Md_passesYear_294 rfl ?_
      refine C_S2 d_Md_passesYear_295 k_Md_236 (Nat.le_of_ble_eq_true rfl) (by decide) (Nat.le_of_ble_eq_true rfl) ?_
      refine (c_Md_has hdy (by omega)) ?_
      refine B_eq d_Md_passesYear_298 307 (by decide) (fun c2 => ?_) (fun c2 => ?_)
      · have e3 : ag2 T dy ((List.range m).foldl (ag2 T dy) τ) m = (List.range m).foldl (ag2 T dy) τ := by
          have hb := c2
          unfold ag2
          rw [if_neg hb]
        rw [e3] at es
        refine N_iinc_5_3_1 d_Md_passesYear_307 rfl rfl ?_
        refine P_goto d_Md_passesYear_310 285 (by decide) ?_
        exact ih (tn T - (m + 1)) (by omega) (m + 1) mI2 v4 (by omega) (by rw [es]; exact hS2) (by rw [es]; exact hV) hF rfl
      · refine g_aload_n d_Md_passesYear_301 rfl ?_
        refine g_iload_n d_Md_passesYear_302 rfl ?_
        refine g_iload_n d_Md_passesYear_303 rfl ?_
        refine C_V2 d_Md_passesYear_304 k_Md_252 rfl (Nat.le_of_ble_eq_true rfl) (by decide) (Nat.le_of_ble_eq_true rfl) ?_
        refine c_Md_dies hw hT2 hV hr (by omega) hS2 (fun mI3 hS3 hF3 => ?_)
        have e3 : ag2 T dy ((List.range m).foldl (ag2 T dy) τ) m = lvAll T ((List.range m).foldl (ag2 T dy) τ) m := by
          unfold ag2
          rw [if_pos (by assumption)]
        rw [e3] at es
        refine N_iinc_5_3_1 d_Md_passesYear_307 rfl rfl ?_
        refine P_goto d_Md_passesYear_310 285 (by decide) ?_
        exact ih (tn T - (m + 1)) (by omega) (m + 1) mI3 v4 (by omega) (by rw [es]; exact hS3) (by rw [es]; exact SV_lv hw hV (by omega)) (hF.tr (hF3.y (by omega) (by omega))) rfl

theorem ag1_kB (T : TD) (τ : AS) (P : Nat) : kB (aH (ag1 T τ).1) P = kB (aH τ) P := by
  unfold ag1
  rw [(ag1_form (T := T) (tn T)).1]
theorem c_Md_passesYear {X : CX} {dl : List (Nat × Nat)} {mI : Nat → Nat → Int32} {dr : Nat → Nat → Nat} {Q : Option Value → AH → Prop} {T : TD} {σ : AS} {r : Nat} (hw : TW T) (hT : TM 3 7 142 T mI) (hW : SW T σ) (hr : r ≤ 1023) (hS : SM r T σ (kB (aH σ) (tP T)) mI) (k : ∀ mI', SM r T (yrF T σ) (kB (aH (yrF T σ)) (tP T)) mI' → FY r mI mI' → Q none (hp X dl mI' dr)) : EW X m_Md_passesYear 0 (enL m_Md_passesYear.2.2.1 [.ref 139, .int (nI r)]) [] (hp X dl mI dr) Q := by
  show EW X m_Md_passesYear 0 [.ref 139, .int (nI r), jk, jk, jk] [] (hp X dl mI dr) Q
  have hw1 := hw.1
  have hw2 := hw.2.1
  refine N_iconst d_Md_passesYear_0 0 rfl ?_
  refine S_istore_n_5_2 d_Md_passesYear_1 rfl rfl ?_
  refine lp_Md_passesYear_1 hw hT hW hr hS (fun mI1 v2 v3 v4 h1 h2 => ?_) _ 0 mI _ _ (Nat.zero_le _) (fun j hj => absurd hj (Nat.not_lt_zero _)) (fun _ _ => rfl) rfl
  have hF1 : FY r mI mI1 := ⟨fun q _ h9 => h2 q h9, fun j _ => by rw [h2 140 (by omega)]⟩
  have hT1 := hT.y hF1
  have hS1 : SM r T σ (kB (aH σ) (tP T)) mI1 := hS.to hw hW.v (fun j _ _ => by rw [h2 140 (by omega)])
  refine N_iconst d_Md_passesYear_105 0 rfl ?_
  refine S_istore_n_5_2 d_Md_passesYear_106 rfl rfl ?_
  refine lp_Md_passesYear_2 hw hT1 hW hr hS1 h1 (fun mI2 w2 w3 w4 hS2 hF2 => ?_) _ 0 mI1 _ _ (Nat.zero_le _) hS1 FY.rf rfl rfl
  have hT2 := hT1.y hF2
  have hV2 : SV T (wkAll T σ) := by rw [← w2_wkAll hw hW]; exact w2_SV hW.v _
  refine N_iconst d_Md_passesYear_215 0 rfl ?_
  refine S_istore_n_5_2 d_Md_passesYear_216 rfl rfl ?_
  refine N_iconst d_Md_passesYear_217 0 rfl ?_
  refine S_istore_n_5_3 d_Md_passesYear_218 rfl rfl ?_
  refine lp_Md_passesYear_3 (τ := wkAll T σ) hw hT2 hr (fun mI3 u3 u4 hS3 hV3 hl3 hF3 => ?_) _ 0 mI2 _ (Nat.zero_le _) hS2 hV2 (show 0 < 2 ^ 5 by decide) FY.rf rfl
  have hT3 := hT2.y hF3
  refine N_iconst d_Md_passesYear_283 0 rfl ?_
  refine S_istore_n_5_3 d_Md_passesYear_284 rfl rfl ?_
  refine lp_Md_passesYear_4 (τ := (ag1 T (wkAll T σ)).1) hw hT3 hr (Nat.lt_trans hl3 (by decide)) (fun mI4 t3 t4 hS4 hV4 hF4 => ?_) _ 0 mI3 _ (Nat.zero_le _) (by rw [List.range_zero]; show SM r T (ag1 T (wkAll T σ)).1 (kB (aH (ag1 T (wkAll T σ)).1) (tP T)) mI3; rw [ag1_kB]; exact hS3) hV3 FY.rf rfl
  refine g_aload_n d_Md_passesYear_313 rfl ?_
  refine H_getR 140 d_Md_passesYear_314 f_Md_7.g rfl rfl (by decide) rfl ?_
  refine g_iload_n d_Md_passesYear_317 rfl ?_
  refine N_iconst d_Md_passesYear_318 0 rfl ?_
  refine N_iadd d_Md_passesYear_319 ?_
  refine P_dup2 d_Md_passesYear_320 ?_
  refine H_ialdN d_Md_passesYear_321 rfl rfl (by omega) (by decide) ?_
  refine T_int (nI (aY (agAll T (wkAll T σ)))) (by rw [Nat.add_zero]; exact hS4.1) ?_
  refine N_iconst d_Md_passesYear_322 1 rfl ?_
  refine N_iadd d_Md_passesYear_323 ?_
  refine H_iastN d_Md_passesYear_324 rfl rfl (by omega) (by decide) ?_
  refine P_vret d_Md_passesYear_325 rfl ?_
  rw [Nat.add_zero]
  exact k _ (SM.Y hS4 hw hV4 _) (((hF1.tr hF2).tr hF3).tr (FY_sI hF4 (by omega)))

