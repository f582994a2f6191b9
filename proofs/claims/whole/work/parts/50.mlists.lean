/-! THE MODEL'S LONG ROW: who holds what, as lists -/
def LL (r : Nat) (Ls : Nat → List Nat) (mI : Nat → Nat → Int32) : Prop := ∀ m, m < 6 → mI 140 (r + 27 + m) = nI (Ls m).length ∧ (Ls m).length ≤ 10 ∧ ∀ k, k < (Ls m).length → mI 140 (r + 33 + 10 * m + k) = nI ((Ls m).getD k 0)
/-- in the long row nothing but lo .. hi - 1 has changed, elsewhere nothing -/
def FW (lo hi : Nat) (mI mI' : Nat → Nat → Int32) : Prop := (∀ q, q ≠ 140 → mI' q = mI q) ∧ ∀ j, ¬ (lo ≤ j ∧ j < hi) → mI' 140 j = mI 140 j
theorem FW.rf {lo hi : Nat} {mI : Nat → Nat → Int32} : FW lo hi mI mI := ⟨fun _ _ => rfl, fun _ _ => rfl⟩
theorem FW.tr {lo hi : Nat} {m1 m2 m3 : Nat → Nat → Int32} (h : FW lo hi m1 m2) (g : FW lo hi m2 m3) : FW lo hi m1 m3 := ⟨fun q hq => (g.1 q hq).trans (h.1 q hq), fun j hj => (g.2 j hj).trans (h.2 j hj)⟩
theorem FW.mo {lo hi lo' hi' : Nat} {m1 m2 : Nat → Nat → Int32} (h : FW lo hi m1 m2) (h1 : lo' ≤ lo) (h2 : hi ≤ hi') : FW lo' hi' m1 m2 := ⟨h.1, fun j hj => h.2 j (fun z => hj ⟨by omega, by omega⟩)⟩
theorem FW_sI {lo hi f : Nat} {m1 m2 : Nat → Nat → Int32} {x : Int32} (h : FW lo hi m1 m2) (hf : lo ≤ f ∧ f < hi) : FW lo hi m1 (sI m2 140 f x) := ⟨fun q hq => (sI_r hq).trans (h.1 q hq), fun j hj => (sI_n (fun z => hj (by rw [z.2]; exact hf))).trans (h.2 j hj)⟩
theorem LL.to {r : Nat} {Ls : Nat → List Nat} {mI mI' : Nat → Nat → Int32} (h : LL r Ls mI) (hf : ∀ j, r + 27 ≤ j → j < r + 93 → mI' 140 j = mI 140 j) : LL r Ls mI' := fun m hm => by
  obtain ⟨h1, h2, h3⟩ := h m hm
  exact ⟨by rw [hf _ (by omega) (by omega)]; exact h1, h2, fun k hk => by rw [hf _ (by omega) (by omega)]; exact h3 k hk⟩
theorem getD_app (l : List Nat) (p k : Nat) : (l ++ [p]).getD k 0 = if k < l.length then l.getD k 0 else if k = l.length then p else 0 := by
  rw [List.getD_eq_getElem?_getD, List.getD_eq_getElem?_getD, List.getElem?_append]
  by_cases h : k < l.length
  · rw [if_pos h, if_pos h]
  · rw [if_neg h, if_neg h]
    by_cases h2 : k = l.length
    · subst h2; simp
    · rw [if_neg h2, List.getElem?_eq_none (by rw [List.length_singleton]; omega)]; rfl
theorem c_Md_joins {X : CX} {dl : List (Nat × Nat)} {mI : Nat → Nat → Int32} {dr : Nat → Nat → Nat} {Q : Option Value → AH → Prop} {r m : Nat} {Ls : Nat → List Nat} (hr : r ≤ 1023) (hm : m < 6) (hL : LL r Ls mI) {p : Nat} (hl : (Ls m).length < 10) (k : ∀ mI', LL r (va_up Ls m (Ls m ++ [p])) mI' → FW (r + 27) (r + 93) mI mI' → Q none (hp X dl mI' dr)) : EW X m_Md_joins 0 (enL m_Md_joins.2.2.1 [.ref 139, .int (nI r), .int (nI p), .int (nI m)]) [] (hp X dl mI dr) Q := by
  show EW X m_Md_joins 0 [.ref 139, .int (nI r), .int (nI p), .int (nI m)] [] (hp X dl mI dr) Q
  obtain ⟨h1, h2, h3⟩ := hL m hm
  refine g_aload_n d_Md_joins_0 rfl ?_
  refine H_getR 140 d_Md_joins_1 f_Md_7.g rfl rfl (by decide) rfl ?_
  refine g_iload_n d_Md_joins_4 rfl ?_
  refine N_bipush d_Md_joins_5 33 rfl ?_
  refine N_iadd d_Md_joins_7 ?_
  refine N_bipush d_Md_joins_8 10 rfl ?_
  refine g_iload_n d_Md_joins_10 rfl ?_
  refine N_imul d_Md_joins_11 ?_
  refine N_iadd d_Md_joins_12 ?_
  refine g_aload_n d_Md_joins_13 rfl ?_
  refine H_getR 140 d_Md_joins_14 f_Md_7.g rfl rfl (by decide) rfl ?_
  refine g_iload_n d_Md_joins_17 rfl ?_
  refine N_bipush d_Md_joins_18 27 rfl ?_
  refine N_iadd d_Md_joins_20 ?_
  refine g_iload_n d_Md_joins_21 rfl ?_
  refine N_iadd d_Md_joins_22 ?_
  refine H_ialdN d_Md_joins_23 rfl rfl (by omega) (by decide) ?_
  refine T_int (nI ((Ls m).length)) h1 ?_
  refine N_iadd d_Md_joins_24 ?_
  refine g_iload_n d_Md_joins_25 rfl ?_
  refine H_iastN d_Md_joins_26 rfl rfl (by omega) (by decide) ?_
  refine g_aload_n d_Md_joins_27 rfl ?_
  refine H_getR 140 d_Md_joins_28 f_Md_7.g rfl rfl (by decide) rfl ?_
  refine g_iload_n d_Md_joins_31 rfl ?_
  refine N_bipush d_Md_joins_32 27 rfl ?_
  refine N_iadd d_Md_joins_34 ?_
  refine g_iload_n d_Md_joins_35 rfl ?_
  refine N_iadd d_Md_joins_36 ?_
  refine P_dup2 d_Md_joins_37 ?_
  refine H_ialdN d_Md_joins_38 rfl rfl (by omega) (by decide) ?_
  refine T_int (nI ((Ls m).length)) (by rw [sI_n (by omega)]; exact h1) ?_
  refine N_iconst d_Md_joins_39 1 rfl ?_
  refine N_iadd d_Md_joins_40 ?_
  refine H_iastN d_Md_joins_41 rfl rfl (by omega) (by decide) ?_
  refine P_vret d_Md_joins_42 rfl ?_
  refine k _ (fun u hu => ?_) (FW_sI (FW_sI FW.rf (by omega)) (by omega))
  obtain ⟨g1, g2, g3⟩ := hL u hu
  by_cases z : u = m
  · subst z
    rw [va_up_s, List.length_append, List.length_singleton]
    refine ⟨sI_s _ _ _ _, by omega, fun j hj => ?_⟩
    rw [sI_n (by omega), getD_app]
    by_cases y : j = (Ls u).length
    · rw [if_neg (by omega), if_pos y, y]; exact sI_s _ _ _ _
    · rw [if_pos (by omega), sI_n (by omega)]; exact g3 j (by omega)
  · rw [va_up_n _ _ z]
    refine ⟨by rw [sI_n (by omega), sI_n (by omega)]; exact g1, g2, fun j hj => ?_⟩
    rw [sI_n (by omega), sI_n (by omega)]; exact g3 j hj

/-- where p stands: 0 nowhere, k + 1 -/
def plc (l : List Nat) (p : Nat) : Nat := if l.idxOf p < l.length then l.idxOf p + 1 else 0
theorem idx_lt {l : List Nat} {p : Nat} : l.idxOf p < l.length ↔ p ∈ l := List.idxOf_lt_length_iff
theorem idx_at {l : List Nat} {p k : Nat} (hk : k < l.length) (h : l.getD k 0 = p) (hb : ∀ j, j < k → l.getD j 0 ≠ p) : l.idxOf p = k := by
  have hle : l.idxOf p ≤ k := by
    rcases Nat.lt_or_ge k (l.idxOf p) with z | z
    · have := List.not_of_lt_findIdx (p := (· == p)) (xs := l) (i := k) z
      rw [List.getD_eq_getElem?_getD, List.getElem?_eq_getElem hk] at h
      have h : l[k] = p := h
      simp [h] at this
    · exact z
  rcases Nat.lt_or_ge (l.idxOf p) k with z | z
  · have hlt : l.idxOf p < l.length := by omega
    have := List.getElem_idxOf hlt
    refine absurd ?_ (hb _ z)
    rw [List.getD_eq_getElem?_getD, List.getElem?_eq_getElem hlt]; exact this
  · omega
theorem idx_no {l : List Nat} {p : Nat} (hb : ∀ j, j < l.length → l.getD j 0 ≠ p) : ¬ l.idxOf p < l.length := fun z => by
  have := List.getElem_idxOf z
  refine absurd ?_ (hb _ z)
  rw [List.getD_eq_getElem?_getD, List.getElem?_eq_getElem z]; exact this
theorem lp_Md_placeIn {X : CX} {dl : List (Nat × Nat)} {mI : Nat → Nat → Int32} {dr : Nat → Nat → Nat} {Q : Option Value → AH → Prop} {r m : Nat} {Ls : Nat → List Nat} (hr : r ≤ 1023) (hm : m < 6) (hL : LL r Ls mI) {p : Nat} (hpb : p < 100) (hb100 : ∀ x ∈ Ls m, x < 100) (k : Q (some (.int (hrI (plc (Ls m) p)))) (hp X dl mI dr)) : ∀ (d : Nat) (j : Nat), (j ≤ (Ls m).length) → (∀ i, i < j → (Ls m).getD i 0 ≠ p) → (Ls m).length - j = d → EW X m_Md_placeIn 3 [.ref 139, .int (nI r), .int (nI p), .int (nI m), .int (nI j)] [] (hp X dl mI dr) Q := by
  intro d
  induction d using Nat.strongRecOn with
  | _ d ih =>
    intro j hj hb hd
    obtain ⟨h1, h2, h3⟩ := hL m hm
    refine g_iload d_Md_placeIn_3 rfl ?_
    refine g_aload_n d_Md_placeIn_5 rfl ?_
    refine H_getR 140 d_Md_placeIn_6 f_Md_7.g rfl rfl (by decide) rfl ?_
    refine g_iload_n d_Md_placeIn_9 rfl ?_
    refine N_bipush d_Md_placeIn_10 27 rfl ?_
    refine N_iadd d_Md_placeIn_12 ?_
    refine g_iload_n d_Md_placeIn_13 rfl ?_
    refine N_iadd d_Md_placeIn_14 ?_
    refine H_ialdN d_Md_placeIn_15 rfl rfl (by omega) (by decide) ?_
    refine T_int (nI ((Ls m).length)) h1 ?_
    refine N_icmp_ge d_Md_placeIn_16 46 (by decide) ⟨by omega, by omega⟩ (fun c1 => ?_) (fun c1 => ?_)
    · refine g_iload d_Md_placeIn_46 rfl ?_
      refine g_aload_n d_Md_placeIn_48 rfl ?_
      refine H_getR 140 d_Md_placeIn_49 f_Md_7.g rfl rfl (by decide) rfl ?_
      refine g_iload_n d_Md_placeIn_52 rfl ?_
      refine N_bipush d_Md_placeIn_53 27 rfl ?_
      refine N_iadd d_Md_placeIn_55 ?_
      refine g_iload_n d_Md_placeIn_56 rfl ?_
      refine N_iadd d_Md_placeIn_57 ?_
      refine H_ialdN d_Md_placeIn_58 rfl rfl (by omega) (by decide) ?_
      refine T_int (nI ((Ls m).length)) h1 ?_
      refine N_icmp_ge d_Md_placeIn_59 67 (by decide) ⟨by omega, by omega⟩ (fun c2 => ?_) (fun c2 => ?_)
      · refine P_iconst d_Md_placeIn_67 (-1) rfl ?_
        refine P_iret d_Md_placeIn_68 rfl ?_
        first
          | (have e := idx_at (show j < (Ls m).length by omega) (by assumption) hb
             exact R_i k (by unfold plc; rw [if_pos (by omega), e]; rfl))
          | (have e := idx_no (fun i hi => hb i (by omega))
             exact R_i k (by unfold plc; rw [if_neg e]; rfl))
          | omega
      · refine g_iload d_Md_placeIn_62 rfl ?_
        refine P_goto d_Md_placeIn_64 68 (by decide) ?_
        refine P_iret d_Md_placeIn_68 rfl ?_
        first
          | (have e := idx_at (show j < (Ls m).length by omega) (by assumption) hb
             exact R_i k (by unfold plc; rw [if_pos (by omega), e]; rfl))
          | (have e := idx_no (fun i hi => hb i (by omega))
             exact R_i k (by unfold plc; rw [if_neg e]; rfl))
          | omega
    · refine g_aload_n d_Md_placeIn_19 rfl ?_
      refine H_getR 140 d_Md_placeIn_20 f_Md_7.g rfl rfl (by decide) rfl ?_
      refine g_iload_n d_Md_placeIn_23 rfl ?_
      refine N_bipush d_Md_placeIn_24 33 rfl ?_
      refine N_iadd d_Md_placeIn_26 ?_
      refine N_bipush d_Md_placeIn_27 10 rfl ?_
      refine g_iload_n d_Md_placeIn_29 rfl ?_
      refine N_imul d_Md_placeIn_30 ?_
      refine N_iadd d_Md_placeIn_31 ?_
      refine g_iload d_Md_placeIn_32 rfl ?_
      refine N_iadd d_Md_placeIn_34 ?_
      refine H_ialdN d_Md_placeIn_35 rfl rfl (by omega) (by decide) ?_
      refine T_int (nI ((Ls m).getD j 0)) (h3 j (by omega)) ?_
      have hlt := getD_lt hb100 (show j < (Ls m).length by omega)
      refine g_iload_n d_Md_placeIn_36 rfl ?_
      refine N_icmp_eq d_Md_placeIn_37 46 (by decide) ⟨by omega, by omega⟩ (fun c3 => ?_) (fun c3 => ?_)
      · refine g_iload d_Md_placeIn_46 rfl ?_
        refine g_aload_n d_Md_placeIn_48 rfl ?_
        refine H_getR 140 d_Md_placeIn_49 f_Md_7.g rfl rfl (by decide) rfl ?_
        refine g_iload_n d_Md_placeIn_52 rfl ?_
        refine N_bipush d_Md_placeIn_53 27 rfl ?_
        refine N_iadd d_Md_placeIn_55 ?_
        refine g_iload_n d_Md_placeIn_56 rfl ?_
        refine N_iadd d_Md_placeIn_57 ?_
        refine H_ialdN d_Md_placeIn_58 rfl rfl (by omega) (by decide) ?_
        refine T_int (nI ((Ls m).length)) h1 ?_
        refine N_icmp_ge d_Md_placeIn_59 67 (by decide) ⟨by omega, by omega⟩ (fun c4 => ?_) (fun c4 => ?_)
        · refine P_iconst d_Md_placeIn_67 (-1) rfl ?_
          refine P_iret d_Md_placeIn_68 rfl ?_
          first
            | (have e := idx_at (show j < (Ls m).length by omega) (by assumption) hb
               exact R_i k (by unfold plc; rw [if_pos (by omega), e]; rfl))
            | (have e := idx_no (fun i hi => hb i (by omega))
               exact R_i k (by unfold plc; rw [if_neg e]; rfl))
            | omega
        · refine g_iload d_Md_placeIn_62 rfl ?_
          refine P_goto d_Md_placeIn_64 68 (by decide) ?_
          refine P_iret d_Md_placeIn_68 rfl ?_
          first
            | (have e := idx_at (show j < (Ls m).length by omega) (by assumption) hb
               exact R_i k (by unfold plc; rw [if_pos (by omega), e]; rfl))
            | (have e := idx_no (fun i hi => hb i (by omega))
               exact R_i k (by unfold plc; rw [if_neg e]; rfl))
            | omega
      · refine N_iinc_5_4_1 d_Md_placeIn_40 rfl rfl ?_
        refine P_goto d_Md_placeIn_43 3 (by decide) ?_
        exact ih _ (by omega) (j + 1) (by omega) (fun i hi => by
          rcases (show i = j ∨ i < j by omega) with rfl | z
          · assumption
          · exact hb i z) rfl

theorem c_Md_placeIn {X : CX} {dl : List (Nat × Nat)} {mI : Nat → Nat → Int32} {dr : Nat → Nat → Nat} {Q : Option Value → AH → Prop} {r m : Nat} {Ls : Nat → List Nat} (hr : r ≤ 1023) (hm : m < 6) (hL : LL r Ls mI) {p : Nat} (hpb : p < 100) (hb100 : ∀ x ∈ Ls m, x < 100) (k : Q (some (.int (hrI (plc (Ls m) p)))) (hp X dl mI dr)) : EW X m_Md_placeIn 0 (enL m_Md_placeIn.2.2.1 [.ref 139, .int (nI r), .int (nI p), .int (nI m)]) [] (hp X dl mI dr) Q := by
  show EW X m_Md_placeIn 0 [.ref 139, .int (nI r), .int (nI p), .int (nI m), jk] [] (hp X dl mI dr) Q
  refine N_iconst d_Md_placeIn_0 0 rfl ?_
  refine S_istore_5_4 d_Md_placeIn_1 rfl rfl ?_
  exact lp_Md_placeIn hr hm hL hpb hb100 k _ 0 (Nat.zero_le _) (fun i hi => absurd hi (Nat.not_lt_zero _)) rfl

theorem lp_Md_holderIn {X : CX} {dl : List (Nat × Nat)} {mI : Nat → Nat → Int32} {dr : Nat → Nat → Nat} {Q : Option Value → AH → Prop} {r p h : Nat} {Ls : Nat → List Nat} (hr : r ≤ 1023) (hL : LL r Ls mI) (hpb : p < 100) (hb100 : ∀ m, m < 6 → ∀ x ∈ Ls m, x < 100) (hh : h ≤ 6) (hH : ∀ m, m < 6 → (p ∈ Ls m ↔ h = m)) (k : Q (some (.int (hoI h))) (hp X dl mI dr)) : ∀ (d : Nat) (c : Nat), (c ≤ 6) → (∀ m, c ≤ m → m < 6 → ¬ p ∈ Ls m) → c = d → EW X m_Md_holderIn 2 [.ref 139, .int (nI r), .int (nI p), .int (hrI c)] [] (hp X dl mI dr) Q := by
  intro d
  induction d using Nat.strongRecOn with
  | _ d ih =>
    intro c hc hb hd
    cases c with
    | zero =>
      refine g_iload_n d_Md_holderIn_2 rfl ?_
      refine P_if_lt d_Md_holderIn_3 22 (by decide) (fun _ => ?_) (fun z => absurd ((hrI_neg (by decide)).mpr rfl) z)
      refine g_iload_n d_Md_holderIn_22 rfl ?_
      refine P_iret d_Md_holderIn_23 rfl ?_
      have h6 : h = 6 := by
        rcases (show h = 6 ∨ h < 6 by omega) with z | z
        · exact z
        · exact absurd ((hH h z).mpr rfl) (hb h (Nat.zero_le _) z)
      exact R_i k (by rw [h6]; rfl)
    | succ m =>
      show EW X m_Md_holderIn 2 [.ref 139, .int (nI r), .int (nI p), .int (nI m)] [] (hp X dl mI dr) Q
      refine g_iload_n d_Md_holderIn_2 rfl ?_
      refine N_if_lt d_Md_holderIn_3 22 (by decide) (by omega) ?_
      refine g_aload_n d_Md_holderIn_6 rfl ?_
      refine g_iload_n d_Md_holderIn_7 rfl ?_
      refine g_iload_n d_Md_holderIn_8 rfl ?_
      refine g_iload_n d_Md_holderIn_9 rfl ?_
      refine C_V3 d_Md_holderIn_10 k_Md_232 rfl (Nat.le_of_ble_eq_true rfl) (by decide) (Nat.le_of_ble_eq_true rfl) ?_
      refine (c_Md_placeIn hr (show m < 6 by omega) hL hpb (hb100 m (by omega))) ?_
      refine P_if_ge d_Md_holderIn_13 22 (by decide) (fun c2 => ?_) (fun c2 => ?_)
      · have hge : 0 ≤ hrI (plc (Ls m) p) := c2
        have hin : p ∈ Ls m := by
          by_cases z : p ∈ Ls m
          · exact z
          · have e : plc (Ls m) p = 0 := by unfold plc; rw [if_neg (fun y => z (idx_lt.mp y))]
            rw [e] at hge
            exact absurd hge (by decide)
        have e := (hH m (by omega)).mp hin
        refine g_iload_n d_Md_holderIn_22 rfl ?_
        refine P_iret d_Md_holderIn_23 rfl ?_
        exact R_i k (by rw [e]; exact hoI_5 (by omega))
      · have hin : ¬ p ∈ Ls m := fun z => by
          have e : plc (Ls m) p = (Ls m).idxOf p + 1 := by unfold plc; rw [if_pos (idx_lt.mpr z)]
          have h10 := (hL m (by omega)).2.1
          have := idx_lt.mpr z
          rw [e] at c2
          exact c2 (Int32.not_lt.mp (nI_pos (show (Ls m).idxOf p < 2 ^ 31 by omega)))
        refine S_iinc_4_3 (-1) d_Md_holderIn_16 rfl rfl rfl ?_
        refine P_goto d_Md_holderIn_19 2 (by decide) ?_
        have e : nI m + -1 = hrI m := hrI_m1 (c := m) (by omega)
        rw [e]
        exact ih m (by omega) m (by omega) (fun u h1 h2 => by
          rcases (show u = m ∨ m + 1 ≤ u by omega) with rfl | z
          · exact hin
          · exact hb u z h2) rfl

theorem c_Md_holderIn {X : CX} {dl : List (Nat × Nat)} {mI : Nat → Nat → Int32} {dr : Nat → Nat → Nat} {Q : Option Value → AH → Prop} {r p h : Nat} {Ls : Nat → List Nat} (hr : r ≤ 1023) (hL : LL r Ls mI) (hpb : p < 100) (hb100 : ∀ m, m < 6 → ∀ x ∈ Ls m, x < 100) (hh : h ≤ 6) (hH : ∀ m, m < 6 → (p ∈ Ls m ↔ h = m)) (k : Q (some (.int (hoI h))) (hp X dl mI dr)) : EW X m_Md_holderIn 0 (enL m_Md_holderIn.2.2.1 [.ref 139, .int (nI r), .int (nI p)]) [] (hp X dl mI dr) Q := by
  show EW X m_Md_holderIn 0 [.ref 139, .int (nI r), .int (nI p), jk] [] (hp X dl mI dr) Q
  refine N_iconst d_Md_holderIn_0 5 rfl ?_
  refine S_istore_n_4_3 d_Md_holderIn_1 rfl rfl ?_
  exact lp_Md_holderIn hr hL hpb hb100 hh hH k _ 6 (Nat.le_refl _) (fun m h1 h2 => by omega) rfl

theorem er_get {l : List Nat} {p : Nat} (h : p ∈ l) (j : Nat) : (l.erase p).getD j 0 = l.getD (if j < l.idxOf p then j else j + 1) 0 := by
  rw [List.erase_eq_eraseIdx_of_idxOf rfl, List.getD_eq_getElem?_getD, List.getElem?_eraseIdx, List.getD_eq_getElem?_getD]
  split <;> rfl
theorem lp_Md_leavesOne {X : CX} {dl : List (Nat × Nat)} {mI : Nat → Nat → Int32} {dr : Nat → Nat → Nat} {Q : Option Value → AH → Prop} {r m : Nat} {Ls : Nat → List Nat} (hr : r ≤ 1023) (hm : m < 6) (hL : LL r Ls mI) {p : Nat} (hin : p ∈ Ls m) (k : ∀ mI', LL r (va_up Ls m ((Ls m).erase p)) mI' → FW (r + 27) (r + 93) mI mI' → Q none (hp X dl mI' dr)) : ∀ (d : Nat) (e : Nat) (mI2 : Nat → Nat → Int32), ((Ls m).idxOf p ≤ e ∧ e ≤ (Ls m).length - 1) → (mI2 140 (r + 27 + m) = nI ((Ls m).length - 1)) → (∀ j, j < (Ls m).length → mI2 140 (r + 33 + 10 * m + j) = nI ((Ls m).getD (if (Ls m).idxOf p ≤ j ∧ j < e then j + 1 else j) 0)) → (∀ j, ¬ (r + 33 + 10 * m ≤ j ∧ j < r + 33 + 10 * m + 10) → j ≠ r + 27 + m → mI2 140 j = mI 140 j) → (∀ q, q ≠ 140 → mI2 q = mI q) → (Ls m).length - 1 - e = d → EW X m_Md_leavesOne 28 [.ref 139, .int (nI r), .int (nI p), .int (nI m), .int (nI ((Ls m).idxOf p)), .int (nI e)] [] (hp X dl mI2 dr) Q := by
  intro d
  induction d using Nat.strongRecOn with
  | _ d ih =>
    intro e mI2 he h1 h3 hF hG hd
    have hlt := idx_lt.mpr hin
    have h10 := (hL m hm).2.1
    refine g_iload d_Md_leavesOne_28 rfl ?_
    refine g_aload_n d_Md_leavesOne_30 rfl ?_
    refine H_getR 140 d_Md_leavesOne_31 f_Md_7.g rfl rfl (by decide) rfl ?_
    refine g_iload_n d_Md_leavesOne_34 rfl ?_
    refine N_bipush d_Md_leavesOne_35 27 rfl ?_
    refine N_iadd d_Md_leavesOne_37 ?_
    refine g_iload_n d_Md_leavesOne_38 rfl ?_
    refine N_iadd d_Md_leavesOne_39 ?_
    refine H_ialdN d_Md_leavesOne_40 rfl rfl (by omega) (by decide) ?_
    refine T_int (nI ((Ls m).length - 1)) h1 ?_
    refine N_icmp_ge d_Md_leavesOne_41 86 (by decide) ⟨by omega, by omega⟩ (fun c1 => ?_) (fun c1 => ?_)
    · refine g_aload_n d_Md_leavesOne_86 rfl ?_
      refine H_getR 140 d_Md_leavesOne_87 f_Md_7.g rfl rfl (by decide) rfl ?_
      refine g_iload_n d_Md_leavesOne_90 rfl ?_
      refine N_bipush d_Md_leavesOne_91 33 rfl ?_
      refine N_iadd d_Md_leavesOne_93 ?_
      refine N_bipush d_Md_leavesOne_94 10 rfl ?_
      refine g_iload_n d_Md_leavesOne_96 rfl ?_
      refine N_imul d_Md_leavesOne_97 ?_
      refine N_iadd d_Md_leavesOne_98 ?_
      refine g_aload_n d_Md_leavesOne_99 rfl ?_
      refine H_getR 140 d_Md_leavesOne_100 f_Md_7.g rfl rfl (by decide) rfl ?_
      refine g_iload_n d_Md_leavesOne_103 rfl ?_
      refine N_bipush d_Md_leavesOne_104 27 rfl ?_
      refine N_iadd d_Md_leavesOne_106 ?_
      refine g_iload_n d_Md_leavesOne_107 rfl ?_
      refine N_iadd d_Md_leavesOne_108 ?_
      refine H_ialdN d_Md_leavesOne_109 rfl rfl (by omega) (by decide) ?_
      refine T_int (nI ((Ls m).length - 1)) h1 ?_
      refine N_iadd d_Md_leavesOne_110 ?_
      refine N_iconst d_Md_leavesOne_111 0 rfl ?_
      refine H_iastN d_Md_leavesOne_112 rfl rfl (by omega) (by decide) ?_
      refine P_vret d_Md_leavesOne_113 rfl ?_
      have hel : ((Ls m).erase p).length = (Ls m).length - 1 := List.length_erase_of_mem hin
      refine k _ (fun u hu => ?_) ⟨fun q hq => by rw [sI_r hq]; exact hG q hq, fun j hj => by rw [sI_n (by omega)]; exact hF j (by omega) (by omega)⟩
      obtain ⟨g1, g2, g3⟩ := hL u hu
      by_cases z : u = m
      · subst z
        rw [va_up_s, hel]
        refine ⟨by rw [sI_n (by omega)]; exact h1, by omega, fun j hj => ?_⟩
        rw [sI_n (by omega), h3 j (by omega), er_get hin]
        by_cases y : j < (Ls u).idxOf p
        · rw [if_neg (by omega), if_pos y]
        · rw [if_pos (by omega), if_neg y]
      · rw [va_up_n _ _ z]
        refine ⟨by rw [sI_n (by omega), hF _ (by omega) (by omega)]; exact g1, g2, fun j hj => ?_⟩
        rw [sI_n (by omega), hF _ (by omega) (by omega)]; exact g3 j hj
    · refine g_aload_n d_Md_leavesOne_44 rfl ?_
      refine H_getR 140 d_Md_leavesOne_45 f_Md_7.g rfl rfl (by decide) rfl ?_
      refine g_iload_n d_Md_leavesOne_48 rfl ?_
      refine N_bipush d_Md_leavesOne_49 33 rfl ?_
      refine N_iadd d_Md_leavesOne_51 ?_
      refine N_bipush d_Md_leavesOne_52 10 rfl ?_
      refine g_iload_n d_Md_leavesOne_54 rfl ?_
      refine N_imul d_Md_leavesOne_55 ?_
      refine N_iadd d_Md_leavesOne_56 ?_
      refine g_iload d_Md_leavesOne_57 rfl ?_
      refine N_iadd d_Md_leavesOne_59 ?_
      refine g_aload_n d_Md_leavesOne_60 rfl ?_
      refine H_getR 140 d_Md_leavesOne_61 f_Md_7.g rfl rfl (by decide) rfl ?_
      refine g_iload_n d_Md_leavesOne_64 rfl ?_
      refine N_bipush d_Md_leavesOne_65 33 rfl ?_
      refine N_iadd d_Md_leavesOne_67 ?_
      refine N_bipush d_Md_leavesOne_68 10 rfl ?_
      refine g_iload_n d_Md_leavesOne_70 rfl ?_
      refine N_imul d_Md_leavesOne_71 ?_
      refine N_iadd d_Md_leavesOne_72 ?_
      refine g_iload d_Md_leavesOne_73 rfl ?_
      refine N_iadd d_Md_leavesOne_75 ?_
      refine N_iconst d_Md_leavesOne_76 1 rfl ?_
      refine N_iadd d_Md_leavesOne_77 ?_
      refine H_ialdN d_Md_leavesOne_78 rfl rfl (by omega) (by decide) ?_
      refine T_int (nI ((Ls m).getD (e + 1) 0)) (by rw [show r + 33 + 10 * m + e + 1 = r + 33 + 10 * m + (e + 1) by omega, h3 (e + 1) (by omega), if_neg (by omega)]) ?_
      refine H_iastN d_Md_leavesOne_79 rfl rfl (by omega) (by decide) ?_
      refine N_iinc_6_5_1 d_Md_leavesOne_80 rfl rfl ?_
      refine P_goto d_Md_leavesOne_83 28 (by decide) ?_
      refine ih _ (by omega) (e + 1) _ (by omega) (by rw [sI_n (by omega)]; exact h1) (fun j hj => ?_) (fun j y1 y2 => by rw [sI_n (by omega)]; exact hF j y1 y2) (fun q hq => by rw [sI_r hq]; exact hG q hq) rfl
      by_cases z : j = e
      · rw [z, sI_s, if_pos (by omega)]
      · rw [sI_n (by omega), h3 j hj]
        by_cases y : (Ls m).idxOf p ≤ j ∧ j < e
        · rw [if_pos y, if_pos (by omega)]
        · rw [if_neg y, if_neg (by omega)]

theorem c_Md_leavesOne {X : CX} {dl : List (Nat × Nat)} {mI : Nat → Nat → Int32} {dr : Nat → Nat → Nat} {Q : Option Value → AH → Prop} {r m : Nat} {Ls : Nat → List Nat} (hr : r ≤ 1023) (hm : m < 6) (hL : LL r Ls mI) {p : Nat} (hpb : p < 100) (hb100 : ∀ x ∈ Ls m, x < 100) (hin : p ∈ Ls m) (k : ∀ mI', LL r (va_up Ls m ((Ls m).erase p)) mI' → FW (r + 27) (r + 93) mI mI' → Q none (hp X dl mI' dr)) : EW X m_Md_leavesOne 0 (enL m_Md_leavesOne.2.2.1 [.ref 139, .int (nI r), .int (nI p), .int (nI m)]) [] (hp X dl mI dr) Q := by
  show EW X m_Md_leavesOne 0 [.ref 139, .int (nI r), .int (nI p), .int (nI m), jk, jk] [] (hp X dl mI dr) Q
  have hlt := idx_lt.mpr hin
  obtain ⟨h1, h2, h3⟩ := hL m hm
  refine g_aload_n d_Md_leavesOne_0 rfl ?_
  refine g_iload_n d_Md_leavesOne_1 rfl ?_
  refine g_iload_n d_Md_leavesOne_2 rfl ?_
  refine g_iload_n d_Md_leavesOne_3 rfl ?_
  refine C_V3 d_Md_leavesOne_4 k_Md_232 rfl (Nat.le_of_ble_eq_true rfl) (by decide) (Nat.le_of_ble_eq_true rfl) ?_
  refine (c_Md_placeIn hr hm hL hpb hb100) ?_
  refine T_int (nI ((Ls m).idxOf p)) (by unfold plc; rw [if_pos hlt]; rfl) ?_
  refine S_istore_6_4 d_Md_leavesOne_7 rfl rfl ?_
  refine g_aload_n d_Md_leavesOne_9 rfl ?_
  refine H_getR 140 d_Md_leavesOne_10 f_Md_7.g rfl rfl (by decide) rfl ?_
  refine g_iload_n d_Md_leavesOne_13 rfl ?_
  refine N_bipush d_Md_leavesOne_14 27 rfl ?_
  refine N_iadd d_Md_leavesOne_16 ?_
  refine g_iload_n d_Md_leavesOne_17 rfl ?_
  refine N_iadd d_Md_leavesOne_18 ?_
  refine P_dup2 d_Md_leavesOne_19 ?_
  refine H_ialdN d_Md_leavesOne_20 rfl rfl (by omega) (by decide) ?_
  refine T_int (nI ((Ls m).length)) h1 ?_
  refine N_iconst d_Md_leavesOne_21 1 rfl ?_
  refine N_isub d_Md_leavesOne_22 (by omega) ?_
  refine H_iastN d_Md_leavesOne_23 rfl rfl (by omega) (by decide) ?_
  refine g_iload d_Md_leavesOne_24 rfl ?_
  refine S_istore_6_5 d_Md_leavesOne_26 rfl rfl ?_
  exact lp_Md_leavesOne hr hm hL hin k _ ((Ls m).idxOf p) _ (by omega) (sI_s _ _ _ _) (fun j hj => by rw [sI_n (by omega), if_neg (by omega)]; exact h3 j hj) (fun j y1 y2 => sI_n (fun z => y2 z.2)) (fun q hq => sI_r hq) rfl

theorem c_Md_isOpen {X : CX} {dl : List (Nat × Nat)} {mI : Nat → Nat → Int32} {dr : Nat → Nat → Nat} {Q : Option Value → AH → Prop} {T : TD} (hw : TW T) (hT : TM 3 7 142 T mI) {r p K : Nat} (hr : r ≤ 1023) (hpP : p < tP T) (hK : K < 2 ^ 31) (hk : mI 140 (r + 26) = nI K) (k : Q (some (.int (bI (opn T K p)))) (hp X dl mI dr)) : EW X m_Md_isOpen 0 (enL m_Md_isOpen.2.2.1 [.ref 139, .int (nI r), .int (nI p)]) [] (hp X dl mI dr) Q := by
  show EW X m_Md_isOpen 0 [.ref 139, .int (nI r), .int (nI p)] [] (hp X dl mI dr) Q
  have hw2 := hw.2.1
  have hkd := (hw.2.2.2 p hpP).1
  refine g_aload_n d_Md_isOpen_0 rfl ?_
  refine H_getR 140 d_Md_isOpen_1 f_Md_7.g rfl rfl (by decide) rfl ?_
  refine g_iload_n d_Md_isOpen_4 rfl ?_
  refine N_bipush d_Md_isOpen_5 26 rfl ?_
  refine N_iadd d_Md_isOpen_7 ?_
  refine H_ialdN d_Md_isOpen_8 rfl rfl (by omega) (by decide) ?_
  refine T_int (nI (K)) hk ?_
  refine g_iload_n d_Md_isOpen_9 rfl ?_
  refine C_S2 d_Md_isOpen_10 k_Md_236 (Nat.le_of_ble_eq_true rfl) (by decide) (Nat.le_of_ble_eq_true rfl) ?_
  refine (c_Md_has hK (by omega)) ?_
  refine B_ne d_Md_isOpen_13 51 (by decide) (fun c1 => ?_) (fun c1 => ?_)
  · refine N_iconst d_Md_isOpen_51 0 rfl ?_
    refine P_zret d_Md_isOpen_52 rfl (by decide) ?_
    have g3 := not_bits (tnd T p) K (tnd_lt hw hpP) hK
    refine R_i k ?_
    first | exact bI_t' ⟨by rw [← Bool.not_eq_true]; assumption, by omega, g3.mp (by assumption)⟩ | exact bI_f' (fun z => absurd z.1 (by rw [← Bool.not_eq_true]; exact fun y => y (by assumption))) | exact bI_f' (fun z => by have := z.2.1; omega) | exact bI_f' (fun z => absurd (g3.mpr z.2.2) (by assumption))
  · refine g_aload_n d_Md_isOpen_16 rfl ?_
    refine H_getR 145 d_Md_isOpen_17 f_Md_26.g rfl rfl (by decide) rfl ?_
    refine g_iload_n d_Md_isOpen_20 rfl ?_
    refine H_ialdN d_Md_isOpen_21 rfl rfl (by omega) (by decide) ?_
    refine T_int (nI (tkd T p)) (hT.2.2.2.1 p hpP).1 ?_
    refine N_iconst d_Md_isOpen_22 2 rfl ?_
    refine N_icmp_gt d_Md_isOpen_23 51 (by decide) ⟨by omega, by omega⟩ (fun c2 => ?_) (fun c2 => ?_)
    · refine N_iconst d_Md_isOpen_51 0 rfl ?_
      refine P_zret d_Md_isOpen_52 rfl (by decide) ?_
      have g3 := not_bits (tnd T p) K (tnd_lt hw hpP) hK
      refine R_i k ?_
      first | exact bI_t' ⟨by rw [← Bool.not_eq_true]; assumption, by omega, g3.mp (by assumption)⟩ | exact bI_f' (fun z => absurd z.1 (by rw [← Bool.not_eq_true]; exact fun y => y (by assumption))) | exact bI_f' (fun z => by have := z.2.1; omega) | exact bI_f' (fun z => absurd (g3.mpr z.2.2) (by assumption))
    · refine g_aload_n d_Md_isOpen_26 rfl ?_
      refine H_getR 147 d_Md_isOpen_27 f_Md_32.g rfl rfl (by decide) rfl ?_
      refine g_iload_n d_Md_isOpen_30 rfl ?_
      refine H_ialdN d_Md_isOpen_31 rfl rfl (by omega) (by decide) ?_
      refine T_int (nI (tnd T p)) (hT.2.2.2.1 p hpP).2.2.1 ?_
      refine g_aload_n d_Md_isOpen_32 rfl ?_
      refine H_getR 140 d_Md_isOpen_33 f_Md_7.g rfl rfl (by decide) rfl ?_
      refine g_iload_n d_Md_isOpen_36 rfl ?_
      refine N_bipush d_Md_isOpen_37 26 rfl ?_
      refine N_iadd d_Md_isOpen_39 ?_
      refine H_ialdN d_Md_isOpen_40 rfl rfl (by omega) (by decide) ?_
      refine T_int (nI (K)) hk ?_
      refine P_iconst d_Md_isOpen_41 (-1) rfl ?_
      refine P_ixor d_Md_isOpen_42 ?_
      refine P_iand d_Md_isOpen_43 ?_
      refine P_if_ne d_Md_isOpen_44 51 (by decide) (fun c3 => ?_) (fun c3 => ?_)
      · refine N_iconst d_Md_isOpen_51 0 rfl ?_
        refine P_zret d_Md_isOpen_52 rfl (by decide) ?_
        have g3 := not_bits (tnd T p) K (tnd_lt hw hpP) hK
        refine R_i k ?_
        first | exact bI_t' ⟨by rw [← Bool.not_eq_true]; assumption, by omega, g3.mp (by assumption)⟩ | exact bI_f' (fun z => absurd z.1 (by rw [← Bool.not_eq_true]; exact fun y => y (by assumption))) | exact bI_f' (fun z => by have := z.2.1; omega) | exact bI_f' (fun z => absurd (g3.mpr z.2.2) (by assumption))
      · refine N_iconst d_Md_isOpen_47 1 rfl ?_
        refine P_goto d_Md_isOpen_48 52 (by decide) ?_
        refine P_zret d_Md_isOpen_52 rfl (by decide) ?_
        have g3 := not_bits (tnd T p) K (tnd_lt hw hpP) hK
        refine R_i k ?_
        first | exact bI_t' ⟨by rw [← Bool.not_eq_true]; assumption, by omega, g3.mp (by assumption)⟩ | exact bI_f' (fun z => absurd z.1 (by rw [← Bool.not_eq_true]; exact fun y => y (by assumption))) | exact bI_f' (fun z => by have := z.2.1; omega) | exact bI_f' (fun z => absurd (g3.mpr z.2.2) (by assumption))

theorem c_Md_becomesKept {X : CX} {dl : List (Nat × Nat)} {mI : Nat → Nat → Int32} {dr : Nat → Nat → Nat} {Q : Option Value → AH → Prop} {r m : Nat} {Ls : Nat → List Nat} (hr : r ≤ 1023) (hm : m < 6) (hL : LL r Ls mI) {p K : Nat} (hpb : p < 10) (hb100 : ∀ x ∈ Ls m, x < 100) (hin : p ∈ Ls m) (hk : mI 140 (r + 26) = nI K) (k : ∀ mI', LL r (va_up Ls m ((Ls m).erase p)) mI' → mI' 140 (r + 26) = nI (K ||| 2 ^ p) → FW (r + 26) (r + 93) mI mI' → Q none (hp X dl mI' dr)) : EW X m_Md_becomesKept 0 (enL m_Md_becomesKept.2.2.1 [.ref 139, .int (nI r), .int (nI p), .int (nI m)]) [] (hp X dl mI dr) Q := by
  show EW X m_Md_becomesKept 0 [.ref 139, .int (nI r), .int (nI p), .int (nI m)] [] (hp X dl mI dr) Q
  refine g_aload_n d_Md_becomesKept_0 rfl ?_
  refine g_iload_n d_Md_becomesKept_1 rfl ?_
  refine g_iload_n d_Md_becomesKept_2 rfl ?_
  refine g_iload_n d_Md_becomesKept_3 rfl ?_
  refine C_V3 d_Md_becomesKept_4 k_Md_239 rfl (Nat.le_of_ble_eq_true rfl) (by decide) (Nat.le_of_ble_eq_true rfl) ?_
  refine c_Md_leavesOne hr hm hL (by omega) hb100 hin (fun mI1 hL1 hF1 => ?_)
  refine g_aload_n d_Md_becomesKept_7 rfl ?_
  refine H_getR 140 d_Md_becomesKept_8 f_Md_7.g rfl rfl (by decide) rfl ?_
  refine g_iload_n d_Md_becomesKept_11 rfl ?_
  refine N_bipush d_Md_becomesKept_12 26 rfl ?_
  refine N_iadd d_Md_becomesKept_14 ?_
  refine P_dup2 d_Md_becomesKept_15 ?_
  refine H_ialdN d_Md_becomesKept_16 rfl rfl (by omega) (by decide) ?_
  refine T_int (nI (K)) ((hF1.2 _ (by omega)).trans hk) ?_
  refine N_iconst d_Md_becomesKept_17 1 rfl ?_
  refine g_iload_n d_Md_becomesKept_18 rfl ?_
  refine N_ishl d_Md_becomesKept_19 (by omega) (p2_lt (by omega)) ?_
  refine N_ior d_Md_becomesKept_20 ?_
  refine H_iastN d_Md_becomesKept_21 rfl rfl (by omega) (by decide) ?_
  refine P_vret d_Md_becomesKept_22 rfl ?_
  rw [Nat.one_mul]
  exact k _ (hL1.to (fun j h1 h2 => sI_n (by omega))) (sI_s _ _ _ _) (FW_sI (hF1.mo (by omega) (by omega)) (by omega))

