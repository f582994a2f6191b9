/-- how many m holds -/
def cntH (H : Nat → Nat) (m : Nat) : Nat → Nat
  | 0 => 0
  | p + 1 => cntH H m p + if H p = m then 1 else 0
theorem cntH_le (H : Nat → Nat) (m : Nat) : ∀ P, cntH H m P ≤ P
  | 0 => Nat.le_refl _
  | P + 1 => by have := cntH_le H m P; unfold cntH; split <;> omega
/-- the j-th that m holds -/
def hAt (H : Nat → Nat) (m : Nat) : List Nat → Nat → Int32
  | [], _ => -1
  | p :: l, j => if H p = m then (if j = 0 then nI p else hAt H m l (j - 1)) else hAt H m l j
/-- as the how manieth p is held -/
def rkH (H : Nat → Nat) (p : Nat) : List Nat → Nat
  | [] => 0
  | q :: l => if q = p then 0 else (if H q = H p then 1 else 0) + rkH H p l
theorem drop_c {l : List Nat} {i : Nat} (h : i < l.length) : l.drop i = l.getD i 0 :: l.drop (i + 1) := by
  rw [List.drop_eq_getElem_cons h, List.getD_eq_getElem?_getD, List.getElem?_eq_getElem h]
  rfl
theorem ho_eq {c d : Nat} (hc : c ≤ 6) (hd : d ≤ 6) : hoI c = hoI d ↔ c = d := by
  rcases (show c = 0 ∨ c = 1 ∨ c = 2 ∨ c = 3 ∨ c = 4 ∨ c = 5 ∨ c = 6 by omega) with rfl | rfl | rfl | rfl | rfl | rfl | rfl <;> rcases (show d = 0 ∨ d = 1 ∨ d = 2 ∨ d = 3 ∨ d = 4 ∨ d = 5 ∨ d = 6 by omega) with rfl | rfl | rfl | rfl | rfl | rfl | rfl <;> decide
theorem lp_St_howMany {X : CX} {dl : List (Nat × Nat)} {mI : Nat → Nat → Int32} {dr : Nat → Nat → Nat} {Q : Option Value → AH → Prop} {a : Nat} {T : TD} {σ : AS} {K : Nat} {m : Nat} (ha : StA a) (hw : TW T) (hT : TR 33 T mI) (hS : SR a T σ K mI) (hW : SV T σ) (hm : m < 6) (k : Q (some (.int (nI (cntH (aH σ) m (tP T))))) (hp X dl mI dr)) : ∀ (d : Nat) (i : Nat), (i ≤ tP T) → tP T - i = d → EW X m_St_howManyHeldBy 4 [.ref a, .int (nI m), .int (nI (cntH (aH σ) m i)), .int (nI i)] [] (hp X dl mI dr) Q := by
  intro d
  induction d using Nat.strongRecOn with
  | _ d ih =>
    intro i hi hd
    have hsl := st_lay ha X dl
    have hsr := st_ref ha dr
    have hw1 := hw.1
    have hw2 := hw.2.1
    refine g_iload_n d_St_howManyHeldBy_4 rfl ?_
    refine g_aload_n d_St_howManyHeldBy_5 rfl ?_
    refine H_getR 33 d_St_howManyHeldBy_6 f_St_27.g rfl hsl.1 (by decide) hsr.1 ?_
    refine H_getI d_St_howManyHeldBy_9 f_St_67.g rfl rfl (by decide) ?_
    refine T_int (nI (tP T)) hT.2.1 ?_
    refine N_icmp_ge d_St_howManyHeldBy_12 34 (by decide) ⟨by omega, by omega⟩ (fun c1 => ?_) (fun c1 => ?_)
    · refine g_iload_n d_St_howManyHeldBy_34 rfl ?_
      refine P_iret d_St_howManyHeldBy_35 rfl ?_
      have e : i = tP T := by omega
      subst e
      exact k
    · refine g_aload_n d_St_howManyHeldBy_15 rfl ?_
      refine H_getR (a + 4) d_St_howManyHeldBy_16 f_St_21.g rfl hsl.1 (by decide) hsr.2.2.2.2.1 ?_
      refine g_iload_n d_St_howManyHeldBy_19 rfl ?_
      refine H_ialdN d_St_howManyHeldBy_20 hsl.2.2.2.2.1 rfl (by omega) (by decide) ?_
      refine T_int (hoI (aH σ i)) (hS.2.2.2.1 i c1).2.2 ?_
      refine g_iload_n d_St_howManyHeldBy_21 rfl ?_
      refine P_icmp_ne d_St_howManyHeldBy_22 28 (by decide) (fun c2 => ?_) (fun c2 => ?_)
      · refine N_iinc_4_3_1 d_St_howManyHeldBy_28 rfl rfl ?_
        refine P_goto d_St_howManyHeldBy_31 4 (by decide) ?_
        rw [ho_ne (hW.2.1 i c1).1 hm] at c2
        have e : cntH (aH σ) m (i + 1) = cntH (aH σ) m i := by rw [cntH, if_neg c2, Nat.add_zero]
        rw [← e]
        exact ih _ (by omega) (i + 1) (by omega) rfl
      · refine N_iinc_4_2_1 d_St_howManyHeldBy_25 rfl rfl ?_
        refine N_iinc_4_3_1 d_St_howManyHeldBy_28 rfl rfl ?_
        refine P_goto d_St_howManyHeldBy_31 4 (by decide) ?_
        rw [ho_ne (hW.2.1 i c1).1 hm] at c2
        have e : cntH (aH σ) m (i + 1) = cntH (aH σ) m i + 1 := by rw [cntH, if_pos c2]
        rw [← e]
        exact ih _ (by omega) (i + 1) (by omega) rfl

theorem c_St_howManyHeldBy {X : CX} {dl : List (Nat × Nat)} {mI : Nat → Nat → Int32} {dr : Nat → Nat → Nat} {Q : Option Value → AH → Prop} {a : Nat} {T : TD} {σ : AS} {K : Nat} {m : Nat} (ha : StA a) (hw : TW T) (hT : TR 33 T mI) (hS : SR a T σ K mI) (hW : SV T σ) (hm : m < 6) (k : Q (some (.int (nI (cntH (aH σ) m (tP T))))) (hp X dl mI dr)) : EW X m_St_howManyHeldBy 0 (enL m_St_howManyHeldBy.2.2.1 [.ref a, .int (nI m)]) [] (hp X dl mI dr) Q := by
  show EW X m_St_howManyHeldBy 0 [.ref a, .int (nI m), jk, jk] [] (hp X dl mI dr) Q
  have hsl := st_lay ha X dl
  have hsr := st_ref ha dr
  have hw1 := hw.1
  have hw2 := hw.2.1
  refine N_iconst d_St_howManyHeldBy_0 0 rfl ?_
  refine S_istore_n_4_2 d_St_howManyHeldBy_1 rfl rfl ?_
  refine N_iconst d_St_howManyHeldBy_2 0 rfl ?_
  refine S_istore_n_4_3 d_St_howManyHeldBy_3 rfl rfl ?_
  exact lp_St_howMany ha hw hT hS hW hm k _ 0 (Nat.zero_le _) rfl

theorem lp_St_heldAt {X : CX} {dl : List (Nat × Nat)} {mI : Nat → Nat → Int32} {dr : Nat → Nat → Nat} {Q : Option Value → AH → Prop} {a : Nat} {T : TD} {σ : AS} {K : Nat} {m j0 : Nat} (ha : StA a) (hw : TW T) (hT : TR 33 T mI) (hS : SR a T σ K mI) (hW : SV T σ) (hm : m < 6) (hj0 : j0 < 2 ^ 31) (k : Q (some (.int (hAt (aH σ) m (aR σ) j0))) (hp X dl mI dr)) : ∀ (d : Nat) (i : Nat) (j : Nat), (i ≤ tP T) → (j < 2 ^ 31) → (hAt (aH σ) m (aR σ) j0 = hAt (aH σ) m ((aR σ).drop i) j) → tP T - i = d → EW X m_St_heldAt 5 [.ref a, .int (nI m), .int (nI j0), .int (nI j), .int (nI i)] [] (hp X dl mI dr) Q := by
  intro d
  induction d using Nat.strongRecOn with
  | _ d ih =>
    intro i j hi hj hh hd
    have hsl := st_lay ha X dl
    have hsr := st_ref ha dr
    have hw1 := hw.1
    have hw2 := hw.2.1
    refine g_iload d_St_heldAt_5 rfl ?_
    refine g_aload_n d_St_heldAt_7 rfl ?_
    refine H_getR 33 d_St_heldAt_8 f_St_27.g rfl hsl.1 (by decide) hsr.1 ?_
    refine H_getI d_St_heldAt_11 f_St_67.g rfl rfl (by decide) ?_
    refine T_int (nI (tP T)) hT.2.1 ?_
    refine N_icmp_ge d_St_heldAt_14 54 (by decide) ⟨by omega, by omega⟩ (fun c1 => ?_) (fun c1 => ?_)
    · refine P_iconst d_St_heldAt_54 (-1) rfl ?_
      refine P_iret d_St_heldAt_55 rfl ?_
      have e : i = (aR σ).length := by rw [hW.1.1]; omega
      rw [hh, e, List.drop_length] at k
      exact k
    · have hdr := drop_c (l := aR σ) (i := i) (by rw [hW.1.1]; omega)
      obtain ⟨p, hpd⟩ : ∃ p, p = (aR σ).getD i 0 := ⟨_, rfl⟩
      have hpP : p < tP T := by rw [hpd]; exact hW.1.2.2 _ (getD_mem (by rw [hW.1.1]; omega))
      have hW1 := hW.2.1 p hpP
      rw [← hpd] at hdr
      rw [hdr, hAt] at hh
      refine g_aload_n d_St_heldAt_17 rfl ?_
      refine H_getR (a + 4) d_St_heldAt_18 f_St_21.g rfl hsl.1 (by decide) hsr.2.2.2.2.1 ?_
      refine g_aload_n d_St_heldAt_21 rfl ?_
      refine H_getR (a + 5) d_St_heldAt_22 f_St_24.g rfl hsl.1 (by decide) hsr.2.2.2.2.2 ?_
      refine g_iload d_St_heldAt_25 rfl ?_
      refine H_ialdN d_St_heldAt_27 hsl.2.2.2.2.2 rfl (by omega) (by decide) ?_
      refine T_int (nI (p)) (by rw [hpd]; exact hS.2.2.2.2 i (by omega)) ?_
      refine H_ialdN d_St_heldAt_28 hsl.2.2.2.2.1 rfl (by omega) (by decide) ?_
      refine T_int (hoI (aH σ p)) (hS.2.2.2.1 p hpP).2.2 ?_
      refine g_iload_n d_St_heldAt_29 rfl ?_
      refine P_icmp_ne d_St_heldAt_30 48 (by decide) (fun c2 => ?_) (fun c2 => ?_)
      · rw [ho_ne hW1.1 hm] at c2
        rw [if_neg c2] at hh
        refine N_iinc_5_4_1 d_St_heldAt_48 rfl rfl ?_
        refine P_goto d_St_heldAt_51 5 (by decide) ?_
        exact ih _ (by omega) (i + 1) j (by omega) hj hh rfl
      · rw [ho_ne hW1.1 hm] at c2
        rw [if_pos c2] at hh
        refine g_iload_n d_St_heldAt_33 rfl ?_
        refine N_if_ne d_St_heldAt_34 45 (by decide) (by omega) (fun c3 => ?_) (fun c3 => ?_)
        · rw [if_neg c3] at hh
          obtain ⟨j1, rfl⟩ : ∃ j1, j = j1 + 1 := ⟨j - 1, by omega⟩
          refine N_iinc_5_3_m d_St_heldAt_45 rfl rfl ?_
          refine N_iinc_5_4_1 d_St_heldAt_48 rfl rfl ?_
          refine P_goto d_St_heldAt_51 5 (by decide) ?_
          exact ih _ (by omega) (i + 1) j1 (by omega) (by omega) hh rfl
        · refine g_aload_n d_St_heldAt_37 rfl ?_
          refine H_getR (a + 5) d_St_heldAt_38 f_St_24.g rfl hsl.1 (by decide) hsr.2.2.2.2.2 ?_
          refine g_iload d_St_heldAt_41 rfl ?_
          refine H_ialdN d_St_heldAt_43 hsl.2.2.2.2.2 rfl (by omega) (by decide) ?_
          refine T_int (nI (p)) (by rw [hpd]; exact hS.2.2.2.2 i (by omega)) ?_
          refine P_iret d_St_heldAt_44 rfl ?_
          rw [if_pos c3] at hh
          rw [hh] at k
          exact k

theorem c_St_heldAt {X : CX} {dl : List (Nat × Nat)} {mI : Nat → Nat → Int32} {dr : Nat → Nat → Nat} {Q : Option Value → AH → Prop} {a : Nat} {T : TD} {σ : AS} {K : Nat} {m j : Nat} (ha : StA a) (hw : TW T) (hT : TR 33 T mI) (hS : SR a T σ K mI) (hW : SV T σ) (hm : m < 6) (hj : j < 2 ^ 31) (k : Q (some (.int (hAt (aH σ) m (aR σ) j))) (hp X dl mI dr)) : EW X m_St_heldAt 0 (enL m_St_heldAt.2.2.1 [.ref a, .int (nI m), .int (nI j)]) [] (hp X dl mI dr) Q := by
  show EW X m_St_heldAt 0 [.ref a, .int (nI m), .int (nI j), jk, jk] [] (hp X dl mI dr) Q
  have hsl := st_lay ha X dl
  have hsr := st_ref ha dr
  have hw1 := hw.1
  have hw2 := hw.2.1
  refine g_iload_n d_St_heldAt_0 rfl ?_
  refine S_istore_n_5_3 d_St_heldAt_1 rfl rfl ?_
  refine N_iconst d_St_heldAt_2 0 rfl ?_
  refine S_istore_5_4 d_St_heldAt_3 rfl rfl ?_
  exact lp_St_heldAt ha hw hT hS hW hm hj k _ 0 j (Nat.zero_le _) hj rfl rfl

theorem lp_St_rankOf {X : CX} {dl : List (Nat × Nat)} {mI : Nat → Nat → Int32} {dr : Nat → Nat → Nat} {Q : Option Value → AH → Prop} {a : Nat} {T : TD} {σ : AS} {K : Nat} {p0 : Nat} (ha : StA a) (hw : TW T) (hT : TR 33 T mI) (hS : SR a T σ K mI) (hW : SV T σ) (hp0 : p0 < tP T) (k : Q (some (.int (nI (rkH (aH σ) p0 (aR σ))))) (hp X dl mI dr)) : ∀ (d : Nat) (i : Nat) (r : Nat), (i ≤ tP T) → (rkH (aH σ) p0 (aR σ) = r + rkH (aH σ) p0 ((aR σ).drop i)) → tP T - i = d → EW X m_St_rankOf 4 [.ref a, .int (nI p0), .int (nI r), .int (nI i)] [] (hp X dl mI dr) Q := by
  intro d
  induction d using Nat.strongRecOn with
  | _ d ih =>
    intro i r hi hr hd
    have hsl := st_lay ha X dl
    have hsr := st_ref ha dr
    have hw1 := hw.1
    have hw2 := hw.2.1
    refine g_iload_n d_St_rankOf_4 rfl ?_
    refine g_aload_n d_St_rankOf_5 rfl ?_
    refine H_getR 33 d_St_rankOf_6 f_St_27.g rfl hsl.1 (by decide) hsr.1 ?_
    refine H_getI d_St_rankOf_9 f_St_67.g rfl rfl (by decide) ?_
    refine T_int (nI (tP T)) hT.2.1 ?_
    refine N_icmp_ge d_St_rankOf_12 54 (by decide) ⟨by omega, by omega⟩ (fun c1 => ?_) (fun c1 => ?_)
    · refine g_iload_n d_St_rankOf_54 rfl ?_
      refine P_iret d_St_rankOf_55 rfl ?_
      have e : i = (aR σ).length := by rw [hW.1.1]; omega
      rw [e, List.drop_length, rkH, Nat.add_zero] at hr
      rw [hr] at k
      exact k
    · have hdr := drop_c (l := aR σ) (i := i) (by rw [hW.1.1]; omega)
      obtain ⟨p, hpd⟩ : ∃ p, p = (aR σ).getD i 0 := ⟨_, rfl⟩
      have hpP : p < tP T := by rw [hpd]; exact hW.1.2.2 _ (getD_mem (by rw [hW.1.1]; omega))
      have hW1 := hW.2.1 p hpP
      have hW2 := hW.2.1 p0 hp0
      rw [← hpd] at hdr
      rw [hdr, rkH] at hr
      refine g_aload_n d_St_rankOf_15 rfl ?_
      refine H_getR (a + 5) d_St_rankOf_16 f_St_24.g rfl hsl.1 (by decide) hsr.2.2.2.2.2 ?_
      refine g_iload_n d_St_rankOf_19 rfl ?_
      refine H_ialdN d_St_rankOf_20 hsl.2.2.2.2.2 rfl (by omega) (by decide) ?_
      refine T_int (nI (p)) (by rw [hpd]; exact hS.2.2.2.2 i (by omega)) ?_
      refine g_iload_n d_St_rankOf_21 rfl ?_
      refine N_icmp_eq d_St_rankOf_22 54 (by decide) ⟨by omega, by omega⟩ (fun c2 => ?_) (fun c2 => ?_)
      · refine g_iload_n d_St_rankOf_54 rfl ?_
        refine P_iret d_St_rankOf_55 rfl ?_
        rw [if_pos c2, Nat.add_zero] at hr
        rw [hr] at k
        exact k
      · refine g_aload_n d_St_rankOf_25 rfl ?_
        refine H_getR (a + 4) d_St_rankOf_26 f_St_21.g rfl hsl.1 (by decide) hsr.2.2.2.2.1 ?_
        refine g_aload_n d_St_rankOf_29 rfl ?_
        refine H_getR (a + 5) d_St_rankOf_30 f_St_24.g rfl hsl.1 (by decide) hsr.2.2.2.2.2 ?_
        refine g_iload_n d_St_rankOf_33 rfl ?_
        refine H_ialdN d_St_rankOf_34 hsl.2.2.2.2.2 rfl (by omega) (by decide) ?_
        refine T_int (nI (p)) (by rw [hpd]; exact hS.2.2.2.2 i (by omega)) ?_
        refine H_ialdN d_St_rankOf_35 hsl.2.2.2.2.1 rfl (by omega) (by decide) ?_
        refine T_int (hoI (aH σ p)) (hS.2.2.2.1 p hpP).2.2 ?_
        refine g_aload_n d_St_rankOf_36 rfl ?_
        refine H_getR (a + 4) d_St_rankOf_37 f_St_21.g rfl hsl.1 (by decide) hsr.2.2.2.2.1 ?_
        refine g_iload_n d_St_rankOf_40 rfl ?_
        refine H_ialdN d_St_rankOf_41 hsl.2.2.2.2.1 rfl (by omega) (by decide) ?_
        refine T_int (hoI (aH σ p0)) (hS.2.2.2.1 p0 hp0).2.2 ?_
        refine P_icmp_ne d_St_rankOf_42 48 (by decide) (fun c3 => ?_) (fun c3 => ?_)
        · refine N_iinc_4_3_1 d_St_rankOf_48 rfl rfl ?_
          refine P_goto d_St_rankOf_51 4 (by decide) ?_
          rw [ho_eq hW1.1 hW2.1] at c3
          rw [if_neg c2, if_neg c3, Nat.zero_add] at hr
          exact ih _ (by omega) (i + 1) r (by omega) hr rfl
        · refine N_iinc_4_2_1 d_St_rankOf_45 rfl rfl ?_
          refine N_iinc_4_3_1 d_St_rankOf_48 rfl rfl ?_
          refine P_goto d_St_rankOf_51 4 (by decide) ?_
          rw [ho_eq hW1.1 hW2.1] at c3
          rw [if_neg c2, if_pos c3, ← Nat.add_assoc] at hr
          exact ih _ (by omega) (i + 1) (r + 1) (by omega) hr rfl

theorem c_St_rankOf {X : CX} {dl : List (Nat × Nat)} {mI : Nat → Nat → Int32} {dr : Nat → Nat → Nat} {Q : Option Value → AH → Prop} {a : Nat} {T : TD} {σ : AS} {K : Nat} {p0 : Nat} (ha : StA a) (hw : TW T) (hT : TR 33 T mI) (hS : SR a T σ K mI) (hW : SV T σ) (hp0 : p0 < tP T) (k : Q (some (.int (nI (rkH (aH σ) p0 (aR σ))))) (hp X dl mI dr)) : EW X m_St_rankOf 0 (enL m_St_rankOf.2.2.1 [.ref a, .int (nI p0)]) [] (hp X dl mI dr) Q := by
  show EW X m_St_rankOf 0 [.ref a, .int (nI p0), jk, jk] [] (hp X dl mI dr) Q
  have hsl := st_lay ha X dl
  have hsr := st_ref ha dr
  have hw1 := hw.1
  have hw2 := hw.2.1
  refine N_iconst d_St_rankOf_0 0 rfl ?_
  refine S_istore_n_4_2 d_St_rankOf_1 rfl rfl ?_
  refine N_iconst d_St_rankOf_2 0 rfl ?_
  refine S_istore_n_4_3 d_St_rankOf_3 rfl rfl ?_
  exact lp_St_rankOf ha hw hT hS hW hp0 k _ 0 0 (Nat.zero_le _) (by rw [List.drop_zero, Nat.zero_add]) rfl

theorem idx_of {l : List Nat} {p i : Nat} (hi : i < l.length) (h : l.getD i 0 = p) (hb : ∀ j, j < i → l.getD j 0 ≠ p) : l.idxOf p = i := by
  have e : l = l.take i ++ p :: l.drop (i + 1) := by
    rw [← h, ← drop_c hi, List.take_append_drop]
  have hn : p ∉ l.take i := by
    intro hm
    obtain ⟨j, hj, hjp⟩ := List.getElem_of_mem hm
    have hj2 : j < i := by simp at hj; omega
    refine hb j hj2 ?_
    rw [List.getD_eq_getElem?_getD, List.getElem?_eq_getElem (by omega)]
    simpa using hjp
  rw [e, List.idxOf_append, if_neg hn, List.idxOf_cons_self]
  simp
  omega
theorem idx_all {l : List Nat} {p i : Nat} (hp : p ∈ l) (hi : i + 1 = l.length) (hb : ∀ j, j < i → l.getD j 0 ≠ p) : l.getD i 0 = p := by
  obtain ⟨j, hj, hjp⟩ := List.getElem_of_mem hp
  have e : l.getD j 0 = p := by rw [List.getD_eq_getElem?_getD, List.getElem?_eq_getElem hj]; exact hjp
  rcases Nat.lt_or_ge j i with h | h
  · exact absurd e (hb j h)
  · have : j = i := by omega
    rw [← this]; exact e
theorem lp_St_placeOf {X : CX} {dl : List (Nat × Nat)} {mI : Nat → Nat → Int32} {dr : Nat → Nat → Nat} {Q : Option Value → AH → Prop} {a : Nat} {T : TD} {σ : AS} {K : Nat} {p : Nat} (ha : StA a) (hw : TW T) (hT : TR 33 T mI) (hS : SR a T σ K mI) (hW : SV T σ) (hpm : p ∈ aR σ) (k : Q (some (.int (nI ((aR σ).idxOf p)))) (hp X dl mI dr)) : ∀ (d : Nat) (i : Nat), (i < tP T) → (∀ j, j < i → (aR σ).getD j 0 ≠ p) → tP T - i = d → EW X m_St_placeOf 2 [.ref a, .int (nI p), .int (nI i)] [] (hp X dl mI dr) Q := by
  intro d
  induction d using Nat.strongRecOn with
  | _ d ih =>
    intro i hi hb hd
    have hsl := st_lay ha X dl
    have hsr := st_ref ha dr
    have hw1 := hw.1
    have hw2 := hw.2.1
    refine g_iload_n d_St_placeOf_2 rfl ?_
    refine g_aload_n d_St_placeOf_3 rfl ?_
    refine H_getR 33 d_St_placeOf_4 f_St_27.g rfl hsl.1 (by decide) hsr.1 ?_
    refine H_getI d_St_placeOf_7 f_St_67.g rfl rfl (by decide) ?_
    refine T_int (nI (tP T)) hT.2.1 ?_
    refine N_iconst d_St_placeOf_10 1 rfl ?_
    refine N_isub d_St_placeOf_11 (by omega) ?_
    refine N_icmp_ge d_St_placeOf_12 31 (by decide) ⟨by omega, by omega⟩ (fun c1 => ?_) (fun c1 => ?_)
    · refine g_iload_n d_St_placeOf_31 rfl ?_
      refine P_iret d_St_placeOf_32 rfl ?_
      have hl := hW.1.1
      rw [idx_of (i := i) (by omega) (idx_all hpm (by omega) hb) hb] at k
      exact k
    · refine g_aload_n d_St_placeOf_15 rfl ?_
      refine H_getR (a + 5) d_St_placeOf_16 f_St_24.g rfl hsl.1 (by decide) hsr.2.2.2.2.2 ?_
      refine g_iload_n d_St_placeOf_19 rfl ?_
      refine H_ialdN d_St_placeOf_20 hsl.2.2.2.2.2 rfl (by omega) (by decide) ?_
      refine T_int (nI ((aR σ).getD i 0)) (hS.2.2.2.2 i (by omega)) ?_
      refine g_iload_n d_St_placeOf_21 rfl ?_
      refine N_icmp_eq d_St_placeOf_22 31 (by decide) ⟨by have := hW.1.2.2 _ (getD_mem (l := aR σ) (i := i) (by rw [hW.1.1]; omega)); omega, by have := hW.1.2.2 _ hpm; omega⟩ (fun c2 => ?_) (fun c2 => ?_)
      · refine g_iload_n d_St_placeOf_31 rfl ?_
        refine P_iret d_St_placeOf_32 rfl ?_
        have hl := hW.1.1
        rw [idx_of (i := i) (by omega) c2 hb] at k
        exact k
      · refine N_iinc_3_2_1 d_St_placeOf_25 rfl rfl ?_
        refine P_goto d_St_placeOf_28 2 (by decide) ?_
        exact ih _ (by omega) (i + 1) (by omega) (fun j hj => by
          rcases (show j = i ∨ j < i by omega) with rfl | hlt
          · exact c2
          · exact hb j hlt) rfl

theorem c_St_placeOf {X : CX} {dl : List (Nat × Nat)} {mI : Nat → Nat → Int32} {dr : Nat → Nat → Nat} {Q : Option Value → AH → Prop} {a : Nat} {T : TD} {σ : AS} {K : Nat} {p : Nat} (ha : StA a) (hw : TW T) (hT : TR 33 T mI) (hS : SR a T σ K mI) (hW : SV T σ) (hpm : p ∈ aR σ) (k : Q (some (.int (nI ((aR σ).idxOf p)))) (hp X dl mI dr)) : EW X m_St_placeOf 0 (enL m_St_placeOf.2.2.1 [.ref a, .int (nI p)]) [] (hp X dl mI dr) Q := by
  show EW X m_St_placeOf 0 [.ref a, .int (nI p), jk] [] (hp X dl mI dr) Q
  have hsl := st_lay ha X dl
  have hsr := st_ref ha dr
  have hw1 := hw.1
  have hw2 := hw.2.1
  refine N_iconst d_St_placeOf_0 0 rfl ?_
  refine S_istore_n_3_2 d_St_placeOf_1 rfl rfl ?_
  exact lp_St_placeOf ha hw hT hS hW hpm k _ 0 (by have := hW.1.2.2 _ hpm; omega) (fun j hj => by omega) rfl

/-- p is handed over -/
def hand (σ : AS) (p to : Nat) : AS := uH (uR σ (mvEnd (aR σ) ((aR σ).idxOf p))) p to
theorem SV_hand {T : TD} {σ : AS} (h : SV T σ) {p to : Nat} (hpm : p ∈ aR σ) (hto : to ≤ 5 ∧ (to < 5 → to < tn T)) : SV T (hand σ p to) := by
  refine ⟨row_perm h.1 (mvEnd_perm (List.idxOf_lt_length_of_mem hpm)), fun q hq => ?_, h.2.2⟩
  have h1 := h.2.1 q hq
  show va_up (aH σ) p to q ≤ 6 ∧ (va_up (aH σ) p to q < 5 → va_up (aH σ) p to q < tn T) ∧ _
  by_cases hqp : q = p
  · rw [hqp, va_up_s]; exact ⟨by omega, hto.2, (h.2.1 p (hqp ▸ hq)).2.2⟩
  · rw [va_up_n _ _ hqp]; exact h1
theorem kB_hand {T : TD} {σ : AS} {p to : Nat} (h6 : aH σ p ≠ 6) (hto : to ≤ 5) : kB (aH (hand σ p to)) (tP T) = kB (aH σ) (tP T) := kB_same _ _ _ (fun r _ => by
  show va_up (aH σ) p to r = 6 ↔ _
  by_cases hr : r = p
  · rw [hr, va_up_s]; omega
  · rw [va_up_n _ _ hr])
theorem c_St_handOver {X : CX} {dl : List (Nat × Nat)} {mI : Nat → Nat → Int32} {dr : Nat → Nat → Nat} {Q : Option Value → AH → Prop} {a : Nat} {T : TD} {σ : AS} {p to : Nat} (ha : StA a) (hw : TW T) (hT : TR 33 T mI) (hS : SC a T σ mI) (hW : SV T σ) (hpm : p ∈ aR σ) (h6 : aH σ p ≠ 6) (hto : to ≤ 5) (k : ∀ mI', SC a T (hand σ p to) mI' → Fa a mI mI' → Q none (hp X dl mI' dr)) : EW X m_St_handOver 0 (enL m_St_handOver.2.2.1 [.ref a, .int (nI p), .int (nI to)]) [] (hp X dl mI dr) Q := by
  show EW X m_St_handOver 0 [.ref a, .int (nI p), .int (nI to)] [] (hp X dl mI dr) Q
  have hsl := st_lay ha X dl
  have hsr := st_ref ha dr
  have hw1 := hw.1
  have hw2 := hw.2.1
  have hpP := hW.1.2.2 _ hpm
  refine g_aload_n d_St_handOver_0 rfl ?_
  refine g_aload_n d_St_handOver_1 rfl ?_
  refine g_iload_n d_St_handOver_2 rfl ?_
  refine C_V1 d_St_handOver_3 k_St_112 hsl.1 (Nat.le_of_ble_eq_true rfl) (by decide) (Nat.le_of_ble_eq_true rfl) ?_
  refine (c_St_placeOf ha hw hT hS hW hpm) ?_
  refine C_V1 d_St_handOver_6 k_St_106 hsl.1 (Nat.le_of_ble_eq_true rfl) (by decide) (Nat.le_of_ble_eq_true rfl) ?_
  refine c_St_moveToEnd ha hw hT hS hW.1.1 (by have := List.idxOf_lt_length_of_mem hpm; rw [hW.1.1] at this; exact this) (fun mI3 hS3 hF3 => ?_)
  refine g_aload_n d_St_handOver_9 rfl ?_
  refine H_getR (a + 4) d_St_handOver_10 f_St_21.g rfl hsl.1 (by decide) hsr.2.2.2.2.1 ?_
  refine g_iload_n d_St_handOver_13 rfl ?_
  refine g_iload_n d_St_handOver_14 rfl ?_
  refine H_iastN d_St_handOver_15 hsl.2.2.2.2.1 rfl (by omega) (by decide) ?_
  refine P_vret d_St_handOver_16 rfl ?_
  refine k _ ?_ (Fa_sI hF3 (by omega))
  have h5 := hS3.H p to
  rw [hoI_5 (by omega)] at h5
  unfold SC
  rw [kB_hand h6 hto]
  exact h5

/-- all before place i go on by one -/
def shF : List Nat → Nat → List Nat
  | l, 0 => l
  | l, i + 1 => shF (l.set (i + 1) (l.getD i 0)) i
def front (σ : AS) (p : Nat) : AS := uR σ ((shF (aR σ) ((aR σ).idxOf p)).set 0 p)
theorem shF_len : ∀ (i : Nat) (l : List Nat), (shF l i).length = l.length
  | 0, _ => rfl
  | i + 1, l => by rw [shF, shF_len i]; simp
theorem lp_St_putFirst {X : CX} {dl : List (Nat × Nat)} {mI : Nat → Nat → Int32} {dr : Nat → Nat → Nat} {Q : Option Value → AH → Prop} {a : Nat} {T : TD} {σ : AS} {K : Nat} {p l0 : Nat} (ha : StA a) (hw : TW T) (hpP : p < tP T) (hl0 : l0 < tP T) (hlen : (aR σ).length = tP T) (k : ∀ mI', SR a T (uR σ ((shF (aR σ) l0).set 0 p)) K mI' → Fa a mI mI' → Q none (hp X dl mI' dr)) : ∀ (d : Nat) (i : Nat) (l : List Nat) (mI2 : Nat → Nat → Int32), (i < tP T) → (l.length = tP T) → (shF l i = shF (aR σ) l0) → (SR a T (uR σ l) K mI2) → (Fa a mI mI2) → i = d → EW X m_St_putFirst 6 [.ref a, .int (nI p), .int (nI i)] [] (hp X dl mI2 dr) Q := by
  intro d
  induction d using Nat.strongRecOn with
  | _ d ih =>
    intro i l mI2 hi hl hs hS hF hd
    have hsl := st_lay ha X dl
    have hsr := st_ref ha dr
    have hw2 := hw.2.1
    refine g_iload_n d_St_putFirst_6 rfl ?_
    refine N_if_le d_St_putFirst_7 30 (by decide) (by omega) (fun c1 => ?_) (fun c1 => ?_)
    · refine g_aload_n d_St_putFirst_30 rfl ?_
      refine H_getR (a + 5) d_St_putFirst_31 f_St_24.g rfl hsl.1 (by decide) hsr.2.2.2.2.2 ?_
      refine N_iconst d_St_putFirst_34 0 rfl ?_
      refine g_iload_n d_St_putFirst_35 rfl ?_
      refine H_iastN d_St_putFirst_36 hsl.2.2.2.2.2 rfl (show 0 < 10 by decide) (by decide) ?_
      refine P_vret d_St_putFirst_37 rfl ?_
      refine k _ ?_ (Fa_sI hF (by omega))
      subst c1
      rw [← hs]
      exact hS.R 0 p (show 0 < l.length by omega)
    · obtain ⟨i1, rfl⟩ : ∃ i1, i = i1 + 1 := ⟨i - 1, by omega⟩
      refine g_aload_n d_St_putFirst_10 rfl ?_
      refine H_getR (a + 5) d_St_putFirst_11 f_St_24.g rfl hsl.1 (by decide) hsr.2.2.2.2.2 ?_
      refine g_iload_n d_St_putFirst_14 rfl ?_
      refine g_aload_n d_St_putFirst_15 rfl ?_
      refine H_getR (a + 5) d_St_putFirst_16 f_St_24.g rfl hsl.1 (by decide) hsr.2.2.2.2.2 ?_
      refine g_iload_n d_St_putFirst_19 rfl ?_
      refine N_iconst d_St_putFirst_20 1 rfl ?_
      refine N_isub d_St_putFirst_21 (by omega) ?_
      refine T_int (nI (i1)) (congrArg nI (by omega)) ?_
      refine H_ialdN d_St_putFirst_22 hsl.2.2.2.2.2 rfl (by omega) (by decide) ?_
      refine T_int (nI (l.getD i1 0)) (hS.2.2.2.2 i1 (by omega)) ?_
      refine H_iastN d_St_putFirst_23 hsl.2.2.2.2.2 rfl (by omega) (by decide) ?_
      refine N_iinc_3_2_m d_St_putFirst_24 rfl rfl ?_
      refine P_goto d_St_putFirst_27 6 (by decide) ?_
      exact ih _ (by omega) i1 (l.set (i1 + 1) (l.getD i1 0)) _ (by omega) (by simpa using hl) hs (hS.R (i1 + 1) (l.getD i1 0) (show i1 + 1 < l.length by omega)) (Fa_sI hF (by omega)) rfl

theorem c_St_putFirst {X : CX} {dl : List (Nat × Nat)} {mI : Nat → Nat → Int32} {dr : Nat → Nat → Nat} {Q : Option Value → AH → Prop} {a : Nat} {T : TD} {σ : AS} {K : Nat} {p : Nat} (ha : StA a) (hw : TW T) (hT : TR 33 T mI) (hS : SR a T σ K mI) (hW : SV T σ) (hpm : p ∈ aR σ) (k : ∀ mI', SR a T (front σ p) K mI' → Fa a mI mI' → Q none (hp X dl mI' dr)) : EW X m_St_putFirst 0 (enL m_St_putFirst.2.2.1 [.ref a, .int (nI p)]) [] (hp X dl mI dr) Q := by
  show EW X m_St_putFirst 0 [.ref a, .int (nI p), jk] [] (hp X dl mI dr) Q
  have hsl := st_lay ha X dl
  have hsr := st_ref ha dr
  have hw1 := hw.1
  have hw2 := hw.2.1
  have hpP := hW.1.2.2 _ hpm
  have hix := List.idxOf_lt_length_of_mem hpm
  rw [hW.1.1] at hix
  refine g_aload_n d_St_putFirst_0 rfl ?_
  refine g_iload_n d_St_putFirst_1 rfl ?_
  refine C_V1 d_St_putFirst_2 k_St_112 hsl.1 (Nat.le_of_ble_eq_true rfl) (by decide) (Nat.le_of_ble_eq_true rfl) ?_
  refine (c_St_placeOf ha hw hT hS hW hpm) ?_
  refine S_istore_n_3_2 d_St_putFirst_5 rfl rfl ?_
  exact lp_St_putFirst ha hw hpP hix hW.1.1 k _ _ (aR σ) mI hix hW.1.1 rfl hS Fa.rf rfl

def dead1 (σ : AS) (s i : Nat) : Nat := if aS σ i = 0 then s ||| 2 ^ i else s
def deadN (T : TD) (σ : AS) : Nat := (List.range (tn T)).foldl (dead1 σ) 0
def sumD (σ : AS) : Nat → Nat
  | 0 => 0
  | p + 1 => sumD σ p + aD σ p
def nv1 (T : TD) (K s p : Nat) : Nat := if K.testBit p = false ∧ (tkd T p = 4 ∨ (tkd T p ≤ 2 ∧ tnd T p &&& s ≠ 0)) then s ||| 2 ^ p else s
def nvN (T : TD) (K : Nat) : Nat := (List.range (tP T)).foldl (nv1 T K) 0
theorem or_lt {s i n : Nat} (h : s < 2 ^ n) (hi : i < n) : s ||| 1 * 2 ^ i < 2 ^ n := Nat.or_lt_two_pow h (by rw [Nat.one_mul]; exact Nat.pow_lt_pow_right (by decide) hi)
theorem lp_St_deadOnes {X : CX} {dl : List (Nat × Nat)} {mI : Nat → Nat → Int32} {dr : Nat → Nat → Nat} {Q : Option Value → AH → Prop} {a : Nat} {T : TD} {σ : AS} {K : Nat} (ha : StA a) (hw : TW T) (hT : TR 33 T mI) (hS : SR a T σ K mI) (hW : SV T σ) (k : Q (some (.int (nI (deadN T σ)))) (hp X dl mI dr)) : ∀ (d : Nat) (i : Nat) (s : Nat), (i ≤ tn T) → (s = (List.range i).foldl (dead1 σ) 0) → (s < 2 ^ 5) → tn T - i = d → EW X m_St_deadOnes 4 [.ref a, .int (nI s), .int (nI i)] [] (hp X dl mI dr) Q := by
  intro d
  induction d using Nat.strongRecOn with
  | _ d ih =>
    intro i s hi hs hb hd
    have hsl := st_lay ha X dl
    have hsr := st_ref ha dr
    have hw1 := hw.1
    have hw2 := hw.2.1
    refine g_iload_n d_St_deadOnes_4 rfl ?_
    refine g_aload_n d_St_deadOnes_5 rfl ?_
    refine H_getR 33 d_St_deadOnes_6 f_St_27.g rfl hsl.1 (by decide) hsr.1 ?_
    refine H_getI d_St_deadOnes_9 f_St_93.g rfl rfl (by decide) ?_
    refine T_int (nI (tn T)) hT.1 ?_
    refine N_icmp_ge d_St_deadOnes_12 36 (by decide) ⟨by omega, by omega⟩ (fun c1 => ?_) (fun c1 => ?_)
    · refine g_iload_n d_St_deadOnes_36 rfl ?_
      refine P_iret d_St_deadOnes_37 rfl ?_
      have e : i = tn T := by omega
      subst e
      rw [hs]
      exact k
    · have hnx : ∀ s', dead1 σ s i = s' → s' = (List.range (i + 1)).foldl (dead1 σ) 0 := fun s' e => by rw [List.range_succ, List.foldl_append, ← hs, ← e]; rfl
      have hs60 := hW.2.2 i c1
      refine g_aload_n d_St_deadOnes_15 rfl ?_
      refine H_getR (a + 1) d_St_deadOnes_16 f_St_9.g rfl hsl.1 (by decide) hsr.2.1 ?_
      refine g_iload_n d_St_deadOnes_19 rfl ?_
      refine H_ialdN d_St_deadOnes_20 hsl.2.1 rfl (by omega) (by decide) ?_
      refine T_int (nI (aS σ i)) (hS.2.2.1 i c1) ?_
      refine N_if_ne d_St_deadOnes_21 30 (by decide) (by omega) (fun c2 => ?_) (fun c2 => ?_)
      · refine N_iinc_3_2_1 d_St_deadOnes_30 rfl rfl ?_
        refine P_goto d_St_deadOnes_33 4 (by decide) ?_
        exact ih _ (by omega) (i + 1) s (by omega) (hnx _ (by unfold dead1; rw [if_neg c2])) hb rfl
      · refine g_iload_n d_St_deadOnes_24 rfl ?_
        refine N_iconst d_St_deadOnes_25 1 rfl ?_
        refine g_iload_n d_St_deadOnes_26 rfl ?_
        refine N_ishl d_St_deadOnes_27 (by omega) (p2_lt (by omega)) ?_
        refine N_ior d_St_deadOnes_28 ?_
        refine S_istore_n_3_1 d_St_deadOnes_29 rfl rfl ?_
        refine N_iinc_3_2_1 d_St_deadOnes_30 rfl rfl ?_
        refine P_goto d_St_deadOnes_33 4 (by decide) ?_
        exact ih _ (by omega) (i + 1) (s ||| 1 * 2 ^ i) (by omega) (hnx _ (by unfold dead1; rw [if_pos c2, Nat.one_mul])) (or_lt hb (by omega)) rfl

theorem c_St_deadOnes {X : CX} {dl : List (Nat × Nat)} {mI : Nat → Nat → Int32} {dr : Nat → Nat → Nat} {Q : Option Value → AH → Prop} {a : Nat} {T : TD} {σ : AS} {K : Nat} (ha : StA a) (hw : TW T) (hT : TR 33 T mI) (hS : SR a T σ K mI) (hW : SV T σ) (k : Q (some (.int (nI (deadN T σ)))) (hp X dl mI dr)) : EW X m_St_deadOnes 0 (enL m_St_deadOnes.2.2.1 [.ref a]) [] (hp X dl mI dr) Q := by
  show EW X m_St_deadOnes 0 [.ref a, jk, jk] [] (hp X dl mI dr) Q
  have hsl := st_lay ha X dl
  have hsr := st_ref ha dr
  have hw1 := hw.1
  have hw2 := hw.2.1
  refine N_iconst d_St_deadOnes_0 0 rfl ?_
  refine S_istore_n_3_1 d_St_deadOnes_1 rfl rfl ?_
  refine N_iconst d_St_deadOnes_2 0 rfl ?_
  refine S_istore_n_3_2 d_St_deadOnes_3 rfl rfl ?_
  exact lp_St_deadOnes ha hw hT hS hW k _ 0 0 (Nat.zero_le _) rfl (by decide) rfl

theorem lp_St_allDone {X : CX} {dl : List (Nat × Nat)} {mI : Nat → Nat → Int32} {dr : Nat → Nat → Nat} {Q : Option Value → AH → Prop} {a : Nat} {T : TD} {σ : AS} {K : Nat} (ha : StA a) (hw : TW T) (hT : TR 33 T mI) (hS : SR a T σ K mI) (hW : SV T σ) (k : Q (some (.int (nI (sumD σ (tP T))))) (hp X dl mI dr)) : ∀ (d : Nat) (i : Nat), (i ≤ tP T) → tP T - i = d → EW X m_St_allDone 4 [.ref a, .int (nI (sumD σ i)), .int (nI i)] [] (hp X dl mI dr) Q := by
  intro d
  induction d using Nat.strongRecOn with
  | _ d ih =>
    intro i hi hd
    have hsl := st_lay ha X dl
    have hsr := st_ref ha dr
    have hw1 := hw.1
    have hw2 := hw.2.1
    refine g_iload_n d_St_allDone_4 rfl ?_
    refine g_aload_n d_St_allDone_5 rfl ?_
    refine H_getR 33 d_St_allDone_6 f_St_27.g rfl hsl.1 (by decide) hsr.1 ?_
    refine H_getI d_St_allDone_9 f_St_67.g rfl rfl (by decide) ?_
    refine T_int (nI (tP T)) hT.2.1 ?_
    refine N_icmp_ge d_St_allDone_12 30 (by decide) ⟨by omega, by omega⟩ (fun c1 => ?_) (fun c1 => ?_)
    · refine g_iload_n d_St_allDone_30 rfl ?_
      refine P_iret d_St_allDone_31 rfl ?_
      have e : i = tP T := by omega
      subst e
      exact k
    · refine g_iload_n d_St_allDone_15 rfl ?_
      refine g_aload_n d_St_allDone_16 rfl ?_
      refine H_getR (a + 3) d_St_allDone_17 f_St_18.g rfl hsl.1 (by decide) hsr.2.2.2.1 ?_
      refine g_iload_n d_St_allDone_20 rfl ?_
      refine H_ialdN d_St_allDone_21 hsl.2.2.2.1 rfl (by omega) (by decide) ?_
      refine T_int (nI (aD σ i)) (hS.2.2.2.1 i c1).2.1 ?_
      refine N_iadd d_St_allDone_22 ?_
      refine S_istore_n_3_1 d_St_allDone_23 rfl rfl ?_
      refine N_iinc_3_2_1 d_St_allDone_24 rfl rfl ?_
      refine P_goto d_St_allDone_27 4 (by decide) ?_
      exact ih _ (by omega) (i + 1) (by omega) rfl

theorem c_St_allDone {X : CX} {dl : List (Nat × Nat)} {mI : Nat → Nat → Int32} {dr : Nat → Nat → Nat} {Q : Option Value → AH → Prop} {a : Nat} {T : TD} {σ : AS} {K : Nat} (ha : StA a) (hw : TW T) (hT : TR 33 T mI) (hS : SR a T σ K mI) (hW : SV T σ) (k : Q (some (.int (nI (sumD σ (tP T))))) (hp X dl mI dr)) : EW X m_St_allDone 0 (enL m_St_allDone.2.2.1 [.ref a]) [] (hp X dl mI dr) Q := by
  show EW X m_St_allDone 0 [.ref a, jk, jk] [] (hp X dl mI dr) Q
  have hsl := st_lay ha X dl
  have hsr := st_ref ha dr
  have hw1 := hw.1
  have hw2 := hw.2.1
  refine N_iconst d_St_allDone_0 0 rfl ?_
  refine S_istore_n_3_1 d_St_allDone_1 rfl rfl ?_
  refine N_iconst d_St_allDone_2 0 rfl ?_
  refine S_istore_n_3_2 d_St_allDone_3 rfl rfl ?_
  exact lp_St_allDone ha hw hT hS hW k _ 0 (Nat.zero_le _) rfl

theorem lp_St_neverKept {X : CX} {dl : List (Nat × Nat)} {mI : Nat → Nat → Int32} {dr : Nat → Nat → Nat} {Q : Option Value → AH → Prop} {a : Nat} {T : TD} {σ : AS} {K : Nat} (ha : StA a) (hw : TW T) (hT : TR 33 T mI) (hS : SR a T σ K mI) (hW : SV T σ) (hK : K < 2 ^ 10) (k : Q (some (.int (nI (nvN T K)))) (hp X dl mI dr)) : ∀ (d : Nat) (i : Nat) (s : Nat) (v3 : Value), (i ≤ tP T) → (s = (List.range i).foldl (nv1 T K) 0) → (s < 2 ^ 10) → tP T - i = d → EW X m_St_neverKept 4 [.ref a, .int (nI s), .int (nI i), v3] [] (hp X dl mI dr) Q := by
  intro d
  induction d using Nat.strongRecOn with
  | _ d ih =>
    intro i s v3 hi hs hb hd
    have hsl := st_lay ha X dl
    have hsr := st_ref ha dr
    have hw1 := hw.1
    have hw2 := hw.2.1
    refine g_iload_n d_St_neverKept_4 rfl ?_
    refine g_aload_n d_St_neverKept_5 rfl ?_
    refine H_getR 33 d_St_neverKept_6 f_St_27.g rfl hsl.1 (by decide) hsr.1 ?_
    refine H_getI d_St_neverKept_9 f_St_67.g rfl rfl (by decide) ?_
    refine T_int (nI (tP T)) hT.2.1 ?_
    refine N_icmp_ge d_St_neverKept_12 90 (by decide) ⟨by omega, by omega⟩ (fun c1 => ?_) (fun c1 => ?_)
    · refine g_iload_n d_St_neverKept_90 rfl ?_
      refine P_iret d_St_neverKept_91 rfl ?_
      have e : i = tP T := by omega
      subst e
      rw [hs]
      exact k
    · have hnx : ∀ s', nv1 T K s i = s' → s' = (List.range (i + 1)).foldl (nv1 T K) 0 := fun s' e => by rw [List.range_succ, List.foldl_append, ← hs, ← e]; rfl
      have hand0 : tnd T i &&& s < 2 ^ 31 := Nat.lt_of_le_of_lt Nat.and_le_left (tnd_lt hw c1)
      refine g_aload_n d_St_neverKept_15 rfl ?_
      refine H_getR 33 d_St_neverKept_16 f_St_27.g rfl hsl.1 (by decide) hsr.1 ?_
      refine H_getR 37 d_St_neverKept_19 f_St_49 rfl rfl (by decide) rfl ?_
      refine g_iload_n d_St_neverKept_22 rfl ?_
      refine H_ialdN d_St_neverKept_23 rfl rfl (by omega) (by decide) ?_
      refine T_int (nI (tkd T i)) (hT.2.2.2 i c1).1 ?_
      refine C_S1 d_St_neverKept_24 k_St_52 (Nat.le_of_ble_eq_true rfl) (by decide) (Nat.le_of_ble_eq_true rfl) ?_
      refine (c_Kd_canBeWorkedAt (hw.2.2.2 i c1).1) ?_
      refine B_eq d_St_neverKept_27 48 (by decide) (fun c2 => ?_) (fun c2 => ?_)
      · refine N_iconst d_St_neverKept_48 0 rfl ?_
        refine S_istore_n_4_3 d_St_neverKept_49 rfl rfl ?_
        have hkk := hw.2.2.2 i c1
        refine g_aload_n d_St_neverKept_50 rfl ?_
        refine H_getI d_St_neverKept_51 f_St_46.g rfl hsl.1 (by decide) ?_
        refine T_int (nI (K)) hS.2.1 ?_
        refine g_iload_n d_St_neverKept_54 rfl ?_
        refine N_ishr d_St_neverKept_55 (by omega) (by omega) ?_
        refine N_iconst d_St_neverKept_56 1 rfl ?_
        refine N_iand d_St_neverKept_57 ?_
        refine T_int (nI (K / 2 ^ i % 2)) (by rw [and1]) ?_
        refine N_if_ne d_St_neverKept_58 84 (by decide) (by omega) (fun e1 => ?_) (fun e1 => ?_)
        · refine N_iinc_4_2_1 d_St_neverKept_84 rfl rfl ?_
          refine P_goto d_St_neverKept_87 4 (by decide) ?_
          exact ih _ (by omega) (i + 1) s _ (by omega) (hnx _ (by unfold nv1; rw [if_neg (fun z => by have z1 := z.1; rw [← Bool.not_eq_true, tb_iff] at z1; omega)])) hb rfl
        · refine g_aload_n d_St_neverKept_61 rfl ?_
          refine H_getR 33 d_St_neverKept_62 f_St_27.g rfl hsl.1 (by decide) hsr.1 ?_
          refine H_getR 37 d_St_neverKept_65 f_St_49 rfl rfl (by decide) rfl ?_
          refine g_iload_n d_St_neverKept_68 rfl ?_
          refine H_ialdN d_St_neverKept_69 rfl rfl (by omega) (by decide) ?_
          refine T_int (nI (tkd T i)) (hT.2.2.2 i c1).1 ?_
          refine N_iconst d_St_neverKept_70 4 rfl ?_
          refine N_icmp_eq d_St_neverKept_71 78 (by decide) ⟨by omega, by omega⟩ (fun e2 => ?_) (fun e2 => ?_)
          · refine g_iload_n d_St_neverKept_78 rfl ?_
            refine N_iconst d_St_neverKept_79 1 rfl ?_
            refine g_iload_n d_St_neverKept_80 rfl ?_
            refine N_ishl d_St_neverKept_81 (by omega) (p2_lt (by omega)) ?_
            refine N_ior d_St_neverKept_82 ?_
            refine S_istore_n_4_1 d_St_neverKept_83 rfl rfl ?_
            refine N_iinc_4_2_1 d_St_neverKept_84 rfl rfl ?_
            refine P_goto d_St_neverKept_87 4 (by decide) ?_
            first | exact absurd rfl e3 | exact ih _ (by omega) (i + 1) (s ||| 1 * 2 ^ i) _ (by omega) (hnx _ (by unfold nv1; rw [if_pos ⟨by rw [← Bool.not_eq_true, tb_iff]; omega, by first | exact Or.inl (by assumption) | exact Or.inr ⟨by assumption, by assumption⟩⟩, Nat.one_mul])) (or_lt hb (by omega)) rfl
          · refine g_iload_n d_St_neverKept_74 rfl ?_
            refine N_if_eq d_St_neverKept_75 84 (by decide) (by omega) (fun e3 => ?_) (fun e3 => ?_)
            · refine N_iinc_4_2_1 d_St_neverKept_84 rfl rfl ?_
              refine P_goto d_St_neverKept_87 4 (by decide) ?_
              first | exact absurd e3 (by decide) | exact ih _ (by omega) (i + 1) s _ (by omega) (hnx _ (by unfold nv1; rw [if_neg (fun z => by rcases z.2 with z2 | z2 <;> first | omega | exact absurd z2.1 (by assumption) | exact z2.2 (by assumption))])) hb rfl
            · refine g_iload_n d_St_neverKept_78 rfl ?_
              refine N_iconst d_St_neverKept_79 1 rfl ?_
              refine g_iload_n d_St_neverKept_80 rfl ?_
              refine N_ishl d_St_neverKept_81 (by omega) (p2_lt (by omega)) ?_
              refine N_ior d_St_neverKept_82 ?_
              refine S_istore_n_4_1 d_St_neverKept_83 rfl rfl ?_
              refine N_iinc_4_2_1 d_St_neverKept_84 rfl rfl ?_
              refine P_goto d_St_neverKept_87 4 (by decide) ?_
              first | exact absurd rfl e3 | exact ih _ (by omega) (i + 1) (s ||| 1 * 2 ^ i) _ (by omega) (hnx _ (by unfold nv1; rw [if_pos ⟨by rw [← Bool.not_eq_true, tb_iff]; omega, by first | exact Or.inl (by assumption) | exact Or.inr ⟨by assumption, by assumption⟩⟩, Nat.one_mul])) (or_lt hb (by omega)) rfl
      · refine g_aload_n d_St_neverKept_30 rfl ?_
        refine H_getR 33 d_St_neverKept_31 f_St_27.g rfl hsl.1 (by decide) hsr.1 ?_
        refine H_getR 39 d_St_neverKept_34 f_St_58 rfl rfl (by decide) rfl ?_
        refine g_iload_n d_St_neverKept_37 rfl ?_
        refine H_ialdN d_St_neverKept_38 rfl rfl (by omega) (by decide) ?_
        refine T_int (nI (tnd T i)) (hT.2.2.2 i c1).2.2.1 ?_
        refine g_iload_n d_St_neverKept_39 rfl ?_
        refine N_iand d_St_neverKept_40 ?_
        refine N_if_eq d_St_neverKept_41 48 (by decide) hand0 (fun c3 => ?_) (fun c3 => ?_)
        · refine N_iconst d_St_neverKept_48 0 rfl ?_
          refine S_istore_n_4_3 d_St_neverKept_49 rfl rfl ?_
          have hkk := hw.2.2.2 i c1
          refine g_aload_n d_St_neverKept_50 rfl ?_
          refine H_getI d_St_neverKept_51 f_St_46.g rfl hsl.1 (by decide) ?_
          refine T_int (nI (K)) hS.2.1 ?_
          refine g_iload_n d_St_neverKept_54 rfl ?_
          refine N_ishr d_St_neverKept_55 (by omega) (by omega) ?_
          refine N_iconst d_St_neverKept_56 1 rfl ?_
          refine N_iand d_St_neverKept_57 ?_
          refine T_int (nI (K / 2 ^ i % 2)) (by rw [and1]) ?_
          refine N_if_ne d_St_neverKept_58 84 (by decide) (by omega) (fun e1 => ?_) (fun e1 => ?_)
          · refine N_iinc_4_2_1 d_St_neverKept_84 rfl rfl ?_
            refine P_goto d_St_neverKept_87 4 (by decide) ?_
            exact ih _ (by omega) (i + 1) s _ (by omega) (hnx _ (by unfold nv1; rw [if_neg (fun z => by have z1 := z.1; rw [← Bool.not_eq_true, tb_iff] at z1; omega)])) hb rfl
          · refine g_aload_n d_St_neverKept_61 rfl ?_
            refine H_getR 33 d_St_neverKept_62 f_St_27.g rfl hsl.1 (by decide) hsr.1 ?_
            refine H_getR 37 d_St_neverKept_65 f_St_49 rfl rfl (by decide) rfl ?_
            refine g_iload_n d_St_neverKept_68 rfl ?_
            refine H_ialdN d_St_neverKept_69 rfl rfl (by omega) (by decide) ?_
            refine T_int (nI (tkd T i)) (hT.2.2.2 i c1).1 ?_
            refine N_iconst d_St_neverKept_70 4 rfl ?_
            refine N_icmp_eq d_St_neverKept_71 78 (by decide) ⟨by omega, by omega⟩ (fun e2 => ?_) (fun e2 => ?_)
            · refine g_iload_n d_St_neverKept_78 rfl ?_
              refine N_iconst d_St_neverKept_79 1 rfl ?_
              refine g_iload_n d_St_neverKept_80 rfl ?_
              refine N_ishl d_St_neverKept_81 (by omega) (p2_lt (by omega)) ?_
              refine N_ior d_St_neverKept_82 ?_
              refine S_istore_n_4_1 d_St_neverKept_83 rfl rfl ?_
              refine N_iinc_4_2_1 d_St_neverKept_84 rfl rfl ?_
              refine P_goto d_St_neverKept_87 4 (by decide) ?_
              first | exact absurd rfl e3 | exact ih _ (by omega) (i + 1) (s ||| 1 * 2 ^ i) _ (by omega) (hnx _ (by unfold nv1; rw [if_pos ⟨by rw [← Bool.not_eq_true, tb_iff]; omega, by first | exact Or.inl (by assumption) | exact Or.inr ⟨by assumption, by assumption⟩⟩, Nat.one_mul])) (or_lt hb (by omega)) rfl
            · refine g_iload_n d_St_neverKept_74 rfl ?_
              refine N_if_eq d_St_neverKept_75 84 (by decide) (by omega) (fun e3 => ?_) (fun e3 => ?_)
              · refine N_iinc_4_2_1 d_St_neverKept_84 rfl rfl ?_
                refine P_goto d_St_neverKept_87 4 (by decide) ?_
                first | exact absurd e3 (by decide) | exact ih _ (by omega) (i + 1) s _ (by omega) (hnx _ (by unfold nv1; rw [if_neg (fun z => by rcases z.2 with z2 | z2 <;> first | omega | exact absurd z2.1 (by assumption) | exact z2.2 (by assumption))])) hb rfl
              · refine g_iload_n d_St_neverKept_78 rfl ?_
                refine N_iconst d_St_neverKept_79 1 rfl ?_
                refine g_iload_n d_St_neverKept_80 rfl ?_
                refine N_ishl d_St_neverKept_81 (by omega) (p2_lt (by omega)) ?_
                refine N_ior d_St_neverKept_82 ?_
                refine S_istore_n_4_1 d_St_neverKept_83 rfl rfl ?_
                refine N_iinc_4_2_1 d_St_neverKept_84 rfl rfl ?_
                refine P_goto d_St_neverKept_87 4 (by decide) ?_
                first | exact absurd rfl e3 | exact ih _ (by omega) (i + 1) (s ||| 1 * 2 ^ i) _ (by omega) (hnx _ (by unfold nv1; rw [if_pos ⟨by rw [← Bool.not_eq_true, tb_iff]; omega, by first | exact Or.inl (by assumption) | exact Or.inr ⟨by assumption, by assumption⟩⟩, Nat.one_mul])) (or_lt hb (by omega)) rfl
        · refine N_iconst d_St_neverKept_44 1 rfl ?_
          refine P_goto d_St_neverKept_45 49 (by decide) ?_
          refine S_istore_n_4_3 d_St_neverKept_49 rfl rfl ?_
          have hkk := hw.2.2.2 i c1
          refine g_aload_n d_St_neverKept_50 rfl ?_
          refine H_getI d_St_neverKept_51 f_St_46.g rfl hsl.1 (by decide) ?_
          refine T_int (nI (K)) hS.2.1 ?_
          refine g_iload_n d_St_neverKept_54 rfl ?_
          refine N_ishr d_St_neverKept_55 (by omega) (by omega) ?_
          refine N_iconst d_St_neverKept_56 1 rfl ?_
          refine N_iand d_St_neverKept_57 ?_
          refine T_int (nI (K / 2 ^ i % 2)) (by rw [and1]) ?_
          refine N_if_ne d_St_neverKept_58 84 (by decide) (by omega) (fun e1 => ?_) (fun e1 => ?_)
          · refine N_iinc_4_2_1 d_St_neverKept_84 rfl rfl ?_
            refine P_goto d_St_neverKept_87 4 (by decide) ?_
            exact ih _ (by omega) (i + 1) s _ (by omega) (hnx _ (by unfold nv1; rw [if_neg (fun z => by have z1 := z.1; rw [← Bool.not_eq_true, tb_iff] at z1; omega)])) hb rfl
          · refine g_aload_n d_St_neverKept_61 rfl ?_
            refine H_getR 33 d_St_neverKept_62 f_St_27.g rfl hsl.1 (by decide) hsr.1 ?_
            refine H_getR 37 d_St_neverKept_65 f_St_49 rfl rfl (by decide) rfl ?_
            refine g_iload_n d_St_neverKept_68 rfl ?_
            refine H_ialdN d_St_neverKept_69 rfl rfl (by omega) (by decide) ?_
            refine T_int (nI (tkd T i)) (hT.2.2.2 i c1).1 ?_
            refine N_iconst d_St_neverKept_70 4 rfl ?_
            refine N_icmp_eq d_St_neverKept_71 78 (by decide) ⟨by omega, by omega⟩ (fun e2 => ?_) (fun e2 => ?_)
            · refine g_iload_n d_St_neverKept_78 rfl ?_
              refine N_iconst d_St_neverKept_79 1 rfl ?_
              refine g_iload_n d_St_neverKept_80 rfl ?_
              refine N_ishl d_St_neverKept_81 (by omega) (p2_lt (by omega)) ?_
              refine N_ior d_St_neverKept_82 ?_
              refine S_istore_n_4_1 d_St_neverKept_83 rfl rfl ?_
              refine N_iinc_4_2_1 d_St_neverKept_84 rfl rfl ?_
              refine P_goto d_St_neverKept_87 4 (by decide) ?_
              first | exact absurd rfl e3 | exact ih _ (by omega) (i + 1) (s ||| 1 * 2 ^ i) _ (by omega) (hnx _ (by unfold nv1; rw [if_pos ⟨by rw [← Bool.not_eq_true, tb_iff]; omega, by first | exact Or.inl (by assumption) | exact Or.inr ⟨by assumption, by assumption⟩⟩, Nat.one_mul])) (or_lt hb (by omega)) rfl
            · refine g_iload_n d_St_neverKept_74 rfl ?_
              refine N_if_eq d_St_neverKept_75 84 (by decide) (by omega) (fun e3 => ?_) (fun e3 => ?_)
              · refine N_iinc_4_2_1 d_St_neverKept_84 rfl rfl ?_
                refine P_goto d_St_neverKept_87 4 (by decide) ?_
                first | exact absurd e3 (by decide) | exact ih _ (by omega) (i + 1) s _ (by omega) (hnx _ (by unfold nv1; rw [if_neg (fun z => by rcases z.2 with z2 | z2 <;> first | omega | exact absurd z2.1 (by assumption) | exact z2.2 (by assumption))])) hb rfl
              · refine g_iload_n d_St_neverKept_78 rfl ?_
                refine N_iconst d_St_neverKept_79 1 rfl ?_
                refine g_iload_n d_St_neverKept_80 rfl ?_
                refine N_ishl d_St_neverKept_81 (by omega) (p2_lt (by omega)) ?_
                refine N_ior d_St_neverKept_82 ?_
                refine S_istore_n_4_1 d_St_neverKept_83 rfl rfl ?_
                refine N_iinc_4_2_1 d_St_neverKept_84 rfl rfl ?_
                refine P_goto d_St_neverKept_87 4 (by decide) ?_
                first | exact absurd rfl e3 | exact ih _ (by omega) (i + 1) (s ||| 1 * 2 ^ i) _ (by omega) (hnx _ (by unfold nv1; rw [if_pos ⟨by rw [← Bool.not_eq_true, tb_iff]; omega, by first | exact Or.inl (by assumption) | exact Or.inr ⟨by assumption, by assumption⟩⟩, Nat.one_mul])) (or_lt hb (by omega)) rfl

theorem c_St_neverKept {X : CX} {dl : List (Nat × Nat)} {mI : Nat → Nat → Int32} {dr : Nat → Nat → Nat} {Q : Option Value → AH → Prop} {a : Nat} {T : TD} {σ : AS} {K : Nat} (ha : StA a) (hw : TW T) (hT : TR 33 T mI) (hS : SR a T σ K mI) (hW : SV T σ) (hK : K < 2 ^ 10) (k : Q (some (.int (nI (nvN T K)))) (hp X dl mI dr)) : EW X m_St_neverKept 0 (enL m_St_neverKept.2.2.1 [.ref a]) [] (hp X dl mI dr) Q := by
  show EW X m_St_neverKept 0 [.ref a, jk, jk, jk] [] (hp X dl mI dr) Q
  have hsl := st_lay ha X dl
  have hsr := st_ref ha dr
  have hw1 := hw.1
  have hw2 := hw.2.1
  refine N_iconst d_St_neverKept_0 0 rfl ?_
  refine S_istore_n_4_1 d_St_neverKept_1 rfl rfl ?_
  refine N_iconst d_St_neverKept_2 0 rfl ?_
  refine S_istore_n_4_2 d_St_neverKept_3 rfl rfl ?_
  exact lp_St_neverKept ha hw hT hS hW hK k _ 0 0 _ (Nat.zero_le _) rfl (by decide) rfl

