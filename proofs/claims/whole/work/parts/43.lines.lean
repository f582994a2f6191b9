theorem lnC_en {what v : Int32} (h : inN what 3) : lnC (enO what v) what v := by
  obtain ⟨j, hj, rfl⟩ := inN_of h (by decide)
  unfold enO
  rw [nI_toInt (by omega), tN_nI (by omega)]
  by_cases z : (j : Int) = 2
  · rw [if_pos z]
    show nI j = nI 2
    rw [show j = 2 by omega]
  · rw [if_neg z]
    exact ⟨rfl, rfl, by omega⟩
theorem PgR.put {dl : List (Nat × Nat)} {dr : Nat → Nat → Nat} {mI : Nat → Nat → Int32} {a : Nat} {L : PL} (G : PgR dl dr mI a L) {i : Nat} {c v : Int32} {o : Option (Nat × Int32)} (hi : i < L.length) (ho : lnC o c v) : PgR dl dr (sI (sI mI (a + 1) i c) (a + 2) i v) a (L.set i o) := by
  obtain ⟨g1, g2, g3, g4, g5, g6, g7, g8⟩ := G
  refine ⟨g1, g2, by rw [List.length_set]; exact g3, by rw [List.length_set]; exact g4, g5, g6, by rw [List.length_set]; exact g7, fun j hj => ?_⟩
  rw [List.length_set] at hj
  have e : (L.set i o).getD j none = if j = i then o else L.getD j none := by
    rw [List.getD_eq_getElem?_getD, List.getD_eq_getElem?_getD, List.getElem?_set]
    by_cases h : i = j
    · subst h; simp [hi]
    · rw [if_neg h, if_neg (fun z => h z.symm)]
  rw [e]
  by_cases z : j = i
  · subst z
    rw [if_pos rfl, sI_s, sI_r (by omega), sI_s]; exact ho
  · rw [if_neg z, sI_r (by omega), sI_n (fun y => z y.2), sI_n (fun y => z y.2), sI_r (by omega)]; exact g8 j hj
theorem CG_put {S : RS} {dl : List (Nat × Nat)} {dr : Nat → Nat → Nat} {mI : Nat → Nat → Int32} (h : CG S dl dr mI) {a i : Nat} {c v : Int32} {o : Option (Nat × Int32)} (G : PgR dl dr mI a (S.2 a)) (hi : i < (S.2 a).length) (ho : lnC o c v) : CG (S.1, va_up S.2 a ((S.2 a).set i o)) dl dr (sI (sI mI (a + 1) i c) (a + 2) i v) := by
  refine ⟨fun j hj => ⟨(h.1 j hj).1, fun l hl => ?_⟩, h.2⟩
  obtain ⟨g1, g2, g3, g4, g5, g6⟩ := (h.1 j hj).2 l hl
  refine ⟨g1, g2, g3, g4, g5, fun p hp1 => ⟨(g6 p hp1).1, fun hz => ?_⟩⟩
  have P := (g6 p hp1).2 hz
  by_cases z : l.getD p 0 = a
  · rw [z]
    show PgR dl dr _ a (va_up S.2 a ((S.2 a).set i o) a)
    rw [va_up_s]; exact G.put hi ho
  · show PgR dl dr _ _ (va_up S.2 a ((S.2 a).set i o) (l.getD p 0))
    rw [va_up_n _ _ z]
    have n1 : l.getD p 0 ≠ a + 1 := fun y => by
      have e1 := P.2.1
      rw [y, G.2.2.1] at e1; cases e1
    have n2 : a ≠ l.getD p 0 + 1 := fun y => by
      have e1 := G.2.1
      rw [y, P.2.2.1] at e1; cases e1
    exact P.mono (fun _ _ y => y) rfl (by rw [sI_r (by omega), sI_r (by omega)]) (by rw [sI_r (by omega), sI_r (by omega)])
theorem c_Pn_enter {X : CX} {dl : List (Nat × Nat)} {mI : Nat → Nat → Int32} {dr : Nat → Nat → Nat} {Q : Option Value → AH → Prop} {S : RS} (hC : CG S dl dr mI) {P : Nat} {g p i what v : Int32} (hP : mI 33 1 = nI P) (hPb : P < 100) (k : ∀ dl' mI' dr', CG (oEnt S P g p i what v).1 dl' dr' mI' → GX dl mI dl' mI' → Q (some (.int (oEnt S P g p i what v).2)) (hp X dl' mI' dr')) : EW X m_Pn_enter 0 (enL m_Pn_enter.2.2.1 [.ref 32, .int g, .int p, .int i, .int what, .int v]) [] (hp X dl mI dr) Q := by
  show EW X m_Pn_enter 0 [.ref 32, .int g, .int p, .int i, .int what, .int v, jk] [] (hp X dl mI dr) Q
  have hwi : (nI 0 ≤ what ∧ what ≤ nI 2) ↔ inN what 3 := by
    rw [Int32.le_iff_toInt_le, Int32.le_iff_toInt_le, nI_toInt (by decide), nI_toInt (by decide)]
    constructor <;> intro z <;> constructor <;> omega
  have hvi : ((-9999 : Int32) ≤ v ∧ v ≤ nI 9999) ↔ (-9999 ≤ v.toInt ∧ v.toInt ≤ 9999) := by
    rw [Int32.le_iff_toInt_le, Int32.le_iff_toInt_le, nI_toInt (by decide)]
    exact Iff.rfl
  refine g_iload_n d_Pn_enter_0 rfl ?_
  refine C_S1 d_Pn_enter_1 k_Pn_230 (Nat.le_of_ble_eq_true rfl) (by decide) (Nat.le_of_ble_eq_true rfl) ?_
  refine c_Pn_isRegister ?_
  refine B_eq d_Pn_enter_4 22 (by decide) (fun c1 => ?_) (fun c1 => ?_)
  · refine P_bipush d_Pn_enter_22 (-2) rfl ?_
    refine P_iret d_Pn_enter_24 rfl ?_
    have e : oEnt S P g p i what v = (S, -2) := by unfold oEnt; rw [if_pos (by first | exact Or.inl c1 | exact Or.inr ⟨by assumption, by assumption⟩)]
    rw [e] at k
    exact k dl mI dr hC GX.rf
  · refine g_iload d_Pn_enter_7 rfl ?_
    refine N_iconst d_Pn_enter_9 1 rfl ?_
    refine P_icmp_ne d_Pn_enter_10 25 (by decide) (fun c2 => ?_) (fun c2 => ?_)
    · have hA : ¬ (¬ inN g 3 ∨ (what = nI 1 ∧ ¬ inN v P)) := fun z => z.elim (fun y => y c1) (fun y => by first | exact absurd y.1 (by assumption) | exact y.2 (by assumption))
      have c1n := c1
      obtain ⟨j, hj, rfl⟩ := inN_of c1 (by decide)
      refine g_iload d_Pn_enter_25 rfl ?_
      refine N_iconst d_Pn_enter_27 0 rfl ?_
      refine N_iconst d_Pn_enter_28 2 rfl ?_
      refine C_S3 d_Pn_enter_29 k_Pn_71 (Nat.le_of_ble_eq_true rfl) (by decide) (Nat.le_of_ble_eq_true rfl) ?_
      refine c_Pn_isWithin ?_
      refine B_eq d_Pn_enter_32 54 (by decide) (fun dd1 => ?_) (fun dd1 => ?_)
      · refine P_bipush d_Pn_enter_54 (-3) rfl ?_
        refine P_iret d_Pn_enter_56 rfl ?_
        have hB : ¬ inN what 3 ∨ (what = nI 0 ∧ ¬ (-9999 ≤ v.toInt ∧ v.toInt ≤ 9999)) := by
          first
            | exact Or.inl (fun z => absurd (hwi.mpr z) (by assumption))
            | exact Or.inr ⟨by assumption, fun z => absurd (hvi.mpr z) (by assumption)⟩
        have e : oEnt S P (nI j) p i what v = (S, -3) := by unfold oEnt; rw [if_neg hA, if_pos hB]
        rw [e] at k
        exact k dl mI dr hC GX.rf
      · refine g_iload d_Pn_enter_35 rfl ?_
        refine P_if_ne d_Pn_enter_37 57 (by decide) (fun dd2 => ?_) (fun dd2 => ?_)
        · have hwh : nI 0 ≤ what ∧ what ≤ nI 2 := by assumption
          have hB : ¬ (¬ inN what 3 ∨ (what = nI 0 ∧ ¬ (-9999 ≤ v.toInt ∧ v.toInt ≤ 9999))) := fun z => z.elim (fun y => y (hwi.mp hwh)) (fun y => by first | exact absurd y.1 (by assumption) | exact y.2 (hvi.mp (by assumption)))
          refine g_aload_n d_Pn_enter_57 rfl ?_
          refine H_getR 125 d_Pn_enter_58 f_Pn_67.g rfl rfl (by decide) rfl ?_
          refine g_iload_n d_Pn_enter_61 rfl ?_
          refine g_iload_n d_Pn_enter_62 rfl ?_
          refine g_iload_n d_Pn_enter_63 rfl ?_
          refine C_V3 d_Pn_enter_64 k_Pn_254 rfl (Nat.le_of_ble_eq_true rfl) (by decide) (Nat.le_of_ble_eq_true rfl) ?_
          refine (c_Sh_flawOfLine hC hj) ?_
          refine S_istore_7_6 d_Pn_enter_67 rfl rfl ?_
          refine g_iload d_Pn_enter_69 rfl ?_
          refine P_if_eq d_Pn_enter_71 77 (by decide) (fun ee1 => ?_) (fun ee1 => ?_)
          · have hz : flL S (nI j) p i = 0 := by assumption
            obtain ⟨l, u, w, hs, hu, rfl, hnz, hw, rfl, ep, G⟩ := flL_0 hC hj hz
            have R := (hC.1 j hj).2 l hs
            have h5 := R.2.2.2.2.1
            have h6 := G.2.2.2.2.2.2.1
            have e : oEnt S P (nI j) (nI u) (nI w) what v = ((S.1, va_up S.2 (l.getD u 0) ((S.2 (l.getD u 0)).set w (enO what v))), 1) := by
              unfold oEnt
              rw [if_neg hA, if_neg hB, if_neg (fun z => z hz), ep, tN_nI (by omega)]
            rw [e] at k
            refine g_aload_n d_Pn_enter_77 rfl ?_
            refine H_getR 125 d_Pn_enter_78 f_Pn_67.g rfl rfl (by decide) rfl ?_
            refine H_getR 126 d_Pn_enter_81 f_Pn_233 rfl rfl (by decide) rfl ?_
            refine g_iload_n d_Pn_enter_84 rfl ?_
            refine H_aaldN (v := (dr 126 j)) d_Pn_enter_85 (Or.inr (Or.inl ⟨rfl, rfl⟩)) rfl rfl hj (by decide) rfl ?_
            refine H_getR (dr 126 j + 1) d_Pn_enter_86 f_Pn_244 rfl (R.l1 X) (by decide) R.f ?_
            refine g_iload_n d_Pn_enter_89 rfl ?_
            refine H_aaldN (v := (l.getD u 0)) d_Pn_enter_90 (Or.inr (Or.inr ⟨rfl, rfl⟩)) (R.l2 X) rfl hu (by omega) (R.p hu) ?_
            refine g_iload_n d_Pn_enter_91 rfl ?_
            refine g_iload d_Pn_enter_92 rfl ?_
            refine g_iload d_Pn_enter_94 rfl ?_
            refine C_V3 d_Pn_enter_96 k_Pn_258 (G.l1 X) (Nat.le_of_ble_eq_true rfl) (by decide) (Nat.le_of_ble_eq_true rfl) ?_
            refine c_Pg_put G hw ?_
            refine N_iconst d_Pn_enter_99 1 rfl ?_
            refine P_iret d_Pn_enter_100 rfl ?_
            exact k _ _ _ (CG_put hC G hw (lnC_en (hwi.mp hwh))) ⟨fun r hr => by rw [sI_r (by have := G.1; omega), sI_r (by have := G.1; omega)], [], by simp, by simp, by simp⟩
          · have e : oEnt S P (nI j) p i what v = (S, flL S (nI j) p i) := by unfold oEnt; rw [if_neg hA, if_neg hB, if_pos ee1]
            refine g_iload d_Pn_enter_74 rfl ?_
            refine P_iret d_Pn_enter_76 rfl ?_
            rw [e] at k
            exact k dl mI dr hC GX.rf
        · refine g_iload d_Pn_enter_40 rfl ?_
          refine P_sipush d_Pn_enter_42 (-9999) rfl ?_
          refine N_sipush d_Pn_enter_45 9999 rfl ?_
          refine C_S3 d_Pn_enter_48 k_Pn_71 (Nat.le_of_ble_eq_true rfl) (by decide) (Nat.le_of_ble_eq_true rfl) ?_
          refine c_Pn_isWithin ?_
          refine B_ne d_Pn_enter_51 57 (by decide) (fun dd3 => ?_) (fun dd3 => ?_)
          · have hwh : nI 0 ≤ what ∧ what ≤ nI 2 := by assumption
            have hB : ¬ (¬ inN what 3 ∨ (what = nI 0 ∧ ¬ (-9999 ≤ v.toInt ∧ v.toInt ≤ 9999))) := fun z => z.elim (fun y => y (hwi.mp hwh)) (fun y => by first | exact absurd y.1 (by assumption) | exact y.2 (hvi.mp (by assumption)))
            refine g_aload_n d_Pn_enter_57 rfl ?_
            refine H_getR 125 d_Pn_enter_58 f_Pn_67.g rfl rfl (by decide) rfl ?_
            refine g_iload_n d_Pn_enter_61 rfl ?_
            refine g_iload_n d_Pn_enter_62 rfl ?_
            refine g_iload_n d_Pn_enter_63 rfl ?_
            refine C_V3 d_Pn_enter_64 k_Pn_254 rfl (Nat.le_of_ble_eq_true rfl) (by decide) (Nat.le_of_ble_eq_true rfl) ?_
            refine (c_Sh_flawOfLine hC hj) ?_
            refine S_istore_7_6 d_Pn_enter_67 rfl rfl ?_
            refine g_iload d_Pn_enter_69 rfl ?_
            refine P_if_eq d_Pn_enter_71 77 (by decide) (fun ee1 => ?_) (fun ee1 => ?_)
            · have hz : flL S (nI j) p i = 0 := by assumption
              obtain ⟨l, u, w, hs, hu, rfl, hnz, hw, rfl, ep, G⟩ := flL_0 hC hj hz
              have R := (hC.1 j hj).2 l hs
              have h5 := R.2.2.2.2.1
              have h6 := G.2.2.2.2.2.2.1
              have e : oEnt S P (nI j) (nI u) (nI w) what v = ((S.1, va_up S.2 (l.getD u 0) ((S.2 (l.getD u 0)).set w (enO what v))), 1) := by
                unfold oEnt
                rw [if_neg hA, if_neg hB, if_neg (fun z => z hz), ep, tN_nI (by omega)]
              rw [e] at k
              refine g_aload_n d_Pn_enter_77 rfl ?_
              refine H_getR 125 d_Pn_enter_78 f_Pn_67.g rfl rfl (by decide) rfl ?_
              refine H_getR 126 d_Pn_enter_81 f_Pn_233 rfl rfl (by decide) rfl ?_
              refine g_iload_n d_Pn_enter_84 rfl ?_
              refine H_aaldN (v := (dr 126 j)) d_Pn_enter_85 (Or.inr (Or.inl ⟨rfl, rfl⟩)) rfl rfl hj (by decide) rfl ?_
              refine H_getR (dr 126 j + 1) d_Pn_enter_86 f_Pn_244 rfl (R.l1 X) (by decide) R.f ?_
              refine g_iload_n d_Pn_enter_89 rfl ?_
              refine H_aaldN (v := (l.getD u 0)) d_Pn_enter_90 (Or.inr (Or.inr ⟨rfl, rfl⟩)) (R.l2 X) rfl hu (by omega) (R.p hu) ?_
              refine g_iload_n d_Pn_enter_91 rfl ?_
              refine g_iload d_Pn_enter_92 rfl ?_
              refine g_iload d_Pn_enter_94 rfl ?_
              refine C_V3 d_Pn_enter_96 k_Pn_258 (G.l1 X) (Nat.le_of_ble_eq_true rfl) (by decide) (Nat.le_of_ble_eq_true rfl) ?_
              refine c_Pg_put G hw ?_
              refine N_iconst d_Pn_enter_99 1 rfl ?_
              refine P_iret d_Pn_enter_100 rfl ?_
              exact k _ _ _ (CG_put hC G hw (lnC_en (hwi.mp hwh))) ⟨fun r hr => by rw [sI_r (by have := G.1; omega), sI_r (by have := G.1; omega)], [], by simp, by simp, by simp⟩
            · have e : oEnt S P (nI j) p i what v = (S, flL S (nI j) p i) := by unfold oEnt; rw [if_neg hA, if_neg hB, if_pos ee1]
              refine g_iload d_Pn_enter_74 rfl ?_
              refine P_iret d_Pn_enter_76 rfl ?_
              rw [e] at k
              exact k dl mI dr hC GX.rf
          · refine P_bipush d_Pn_enter_54 (-3) rfl ?_
            refine P_iret d_Pn_enter_56 rfl ?_
            have hB : ¬ inN what 3 ∨ (what = nI 0 ∧ ¬ (-9999 ≤ v.toInt ∧ v.toInt ≤ 9999)) := by
              first
                | exact Or.inl (fun z => absurd (hwi.mpr z) (by assumption))
                | exact Or.inr ⟨by assumption, fun z => absurd (hvi.mpr z) (by assumption)⟩
            have e : oEnt S P (nI j) p i what v = (S, -3) := by unfold oEnt; rw [if_neg hA, if_pos hB]
            rw [e] at k
            exact k dl mI dr hC GX.rf
    · refine g_aload_n d_Pn_enter_13 rfl ?_
      refine g_iload d_Pn_enter_14 rfl ?_
      refine C_V1 d_Pn_enter_16 k_Pn_127 rfl (Nat.le_of_ble_eq_true rfl) (by decide) (Nat.le_of_ble_eq_true rfl) ?_
      refine (c_Pn_isPromise hP hPb) ?_
      refine B_ne d_Pn_enter_19 25 (by decide) (fun c3 => ?_) (fun c3 => ?_)
      · have hA : ¬ (¬ inN g 3 ∨ (what = nI 1 ∧ ¬ inN v P)) := fun z => z.elim (fun y => y c1) (fun y => by first | exact absurd y.1 (by assumption) | exact y.2 (by assumption))
        have c1n := c1
        obtain ⟨j, hj, rfl⟩ := inN_of c1 (by decide)
        refine g_iload d_Pn_enter_25 rfl ?_
        refine N_iconst d_Pn_enter_27 0 rfl ?_
        refine N_iconst d_Pn_enter_28 2 rfl ?_
        refine C_S3 d_Pn_enter_29 k_Pn_71 (Nat.le_of_ble_eq_true rfl) (by decide) (Nat.le_of_ble_eq_true rfl) ?_
        refine c_Pn_isWithin ?_
        refine B_eq d_Pn_enter_32 54 (by decide) (fun dd1 => ?_) (fun dd1 => ?_)
        · refine P_bipush d_Pn_enter_54 (-3) rfl ?_
          refine P_iret d_Pn_enter_56 rfl ?_
          have hB : ¬ inN what 3 ∨ (what = nI 0 ∧ ¬ (-9999 ≤ v.toInt ∧ v.toInt ≤ 9999)) := by
            first
              | exact Or.inl (fun z => absurd (hwi.mpr z) (by assumption))
              | exact Or.inr ⟨by assumption, fun z => absurd (hvi.mpr z) (by assumption)⟩
          have e : oEnt S P (nI j) p i what v = (S, -3) := by unfold oEnt; rw [if_neg hA, if_pos hB]
          rw [e] at k
          exact k dl mI dr hC GX.rf
        · refine g_iload d_Pn_enter_35 rfl ?_
          refine P_if_ne d_Pn_enter_37 57 (by decide) (fun dd2 => ?_) (fun dd2 => ?_)
          · have hwh : nI 0 ≤ what ∧ what ≤ nI 2 := by assumption
            have hB : ¬ (¬ inN what 3 ∨ (what = nI 0 ∧ ¬ (-9999 ≤ v.toInt ∧ v.toInt ≤ 9999))) := fun z => z.elim (fun y => y (hwi.mp hwh)) (fun y => by first | exact absurd y.1 (by assumption) | exact y.2 (hvi.mp (by assumption)))
            refine g_aload_n d_Pn_enter_57 rfl ?_
            refine H_getR 125 d_Pn_enter_58 f_Pn_67.g rfl rfl (by decide) rfl ?_
            refine g_iload_n d_Pn_enter_61 rfl ?_
            refine g_iload_n d_Pn_enter_62 rfl ?_
            refine g_iload_n d_Pn_enter_63 rfl ?_
            refine C_V3 d_Pn_enter_64 k_Pn_254 rfl (Nat.le_of_ble_eq_true rfl) (by decide) (Nat.le_of_ble_eq_true rfl) ?_
            refine (c_Sh_flawOfLine hC hj) ?_
            refine S_istore_7_6 d_Pn_enter_67 rfl rfl ?_
            refine g_iload d_Pn_enter_69 rfl ?_
            refine P_if_eq d_Pn_enter_71 77 (by decide) (fun ee1 => ?_) (fun ee1 => ?_)
            · have hz : flL S (nI j) p i = 0 := by assumption
              obtain ⟨l, u, w, hs, hu, rfl, hnz, hw, rfl, ep, G⟩ := flL_0 hC hj hz
              have R := (hC.1 j hj).2 l hs
              have h5 := R.2.2.2.2.1
              have h6 := G.2.2.2.2.2.2.1
              have e : oEnt S P (nI j) (nI u) (nI w) what v = ((S.1, va_up S.2 (l.getD u 0) ((S.2 (l.getD u 0)).set w (enO what v))), 1) := by
                unfold oEnt
                rw [if_neg hA, if_neg hB, if_neg (fun z => z hz), ep, tN_nI (by omega)]
              rw [e] at k
              refine g_aload_n d_Pn_enter_77 rfl ?_
              refine H_getR 125 d_Pn_enter_78 f_Pn_67.g rfl rfl (by decide) rfl ?_
              refine H_getR 126 d_Pn_enter_81 f_Pn_233 rfl rfl (by decide) rfl ?_
              refine g_iload_n d_Pn_enter_84 rfl ?_
              refine H_aaldN (v := (dr 126 j)) d_Pn_enter_85 (Or.inr (Or.inl ⟨rfl, rfl⟩)) rfl rfl hj (by decide) rfl ?_
              refine H_getR (dr 126 j + 1) d_Pn_enter_86 f_Pn_244 rfl (R.l1 X) (by decide) R.f ?_
              refine g_iload_n d_Pn_enter_89 rfl ?_
              refine H_aaldN (v := (l.getD u 0)) d_Pn_enter_90 (Or.inr (Or.inr ⟨rfl, rfl⟩)) (R.l2 X) rfl hu (by omega) (R.p hu) ?_
              refine g_iload_n d_Pn_enter_91 rfl ?_
              refine g_iload d_Pn_enter_92 rfl ?_
              refine g_iload d_Pn_enter_94 rfl ?_
              refine C_V3 d_Pn_enter_96 k_Pn_258 (G.l1 X) (Nat.le_of_ble_eq_true rfl) (by decide) (Nat.le_of_ble_eq_true rfl) ?_
              refine c_Pg_put G hw ?_
              refine N_iconst d_Pn_enter_99 1 rfl ?_
              refine P_iret d_Pn_enter_100 rfl ?_
              exact k _ _ _ (CG_put hC G hw (lnC_en (hwi.mp hwh))) ⟨fun r hr => by rw [sI_r (by have := G.1; omega), sI_r (by have := G.1; omega)], [], by simp, by simp, by simp⟩
            · have e : oEnt S P (nI j) p i what v = (S, flL S (nI j) p i) := by unfold oEnt; rw [if_neg hA, if_neg hB, if_pos ee1]
              refine g_iload d_Pn_enter_74 rfl ?_
              refine P_iret d_Pn_enter_76 rfl ?_
              rw [e] at k
              exact k dl mI dr hC GX.rf
          · refine g_iload d_Pn_enter_40 rfl ?_
            refine P_sipush d_Pn_enter_42 (-9999) rfl ?_
            refine N_sipush d_Pn_enter_45 9999 rfl ?_
            refine C_S3 d_Pn_enter_48 k_Pn_71 (Nat.le_of_ble_eq_true rfl) (by decide) (Nat.le_of_ble_eq_true rfl) ?_
            refine c_Pn_isWithin ?_
            refine B_ne d_Pn_enter_51 57 (by decide) (fun dd3 => ?_) (fun dd3 => ?_)
            · have hwh : nI 0 ≤ what ∧ what ≤ nI 2 := by assumption
              have hB : ¬ (¬ inN what 3 ∨ (what = nI 0 ∧ ¬ (-9999 ≤ v.toInt ∧ v.toInt ≤ 9999))) := fun z => z.elim (fun y => y (hwi.mp hwh)) (fun y => by first | exact absurd y.1 (by assumption) | exact y.2 (hvi.mp (by assumption)))
              refine g_aload_n d_Pn_enter_57 rfl ?_
              refine H_getR 125 d_Pn_enter_58 f_Pn_67.g rfl rfl (by decide) rfl ?_
              refine g_iload_n d_Pn_enter_61 rfl ?_
              refine g_iload_n d_Pn_enter_62 rfl ?_
              refine g_iload_n d_Pn_enter_63 rfl ?_
              refine C_V3 d_Pn_enter_64 k_Pn_254 rfl (Nat.le_of_ble_eq_true rfl) (by decide) (Nat.le_of_ble_eq_true rfl) ?_
              refine (c_Sh_flawOfLine hC hj) ?_
              refine S_istore_7_6 d_Pn_enter_67 rfl rfl ?_
              refine g_iload d_Pn_enter_69 rfl ?_
              refine P_if_eq d_Pn_enter_71 77 (by decide) (fun ee1 => ?_) (fun ee1 => ?_)
              · have hz : flL S (nI j) p i = 0 := by assumption
                obtain ⟨l, u, w, hs, hu, rfl, hnz, hw, rfl, ep, G⟩ := flL_0 hC hj hz
                have R := (hC.1 j hj).2 l hs
                have h5 := R.2.2.2.2.1
                have h6 := G.2.2.2.2.2.2.1
                have e : oEnt S P (nI j) (nI u) (nI w) what v = ((S.1, va_up S.2 (l.getD u 0) ((S.2 (l.getD u 0)).set w (enO what v))), 1) := by
                  unfold oEnt
                  rw [if_neg hA, if_neg hB, if_neg (fun z => z hz), ep, tN_nI (by omega)]
                rw [e] at k
                refine g_aload_n d_Pn_enter_77 rfl ?_
                refine H_getR 125 d_Pn_enter_78 f_Pn_67.g rfl rfl (by decide) rfl ?_
                refine H_getR 126 d_Pn_enter_81 f_Pn_233 rfl rfl (by decide) rfl ?_
                refine g_iload_n d_Pn_enter_84 rfl ?_
                refine H_aaldN (v := (dr 126 j)) d_Pn_enter_85 (Or.inr (Or.inl ⟨rfl, rfl⟩)) rfl rfl hj (by decide) rfl ?_
                refine H_getR (dr 126 j + 1) d_Pn_enter_86 f_Pn_244 rfl (R.l1 X) (by decide) R.f ?_
                refine g_iload_n d_Pn_enter_89 rfl ?_
                refine H_aaldN (v := (l.getD u 0)) d_Pn_enter_90 (Or.inr (Or.inr ⟨rfl, rfl⟩)) (R.l2 X) rfl hu (by omega) (R.p hu) ?_
                refine g_iload_n d_Pn_enter_91 rfl ?_
                refine g_iload d_Pn_enter_92 rfl ?_
                refine g_iload d_Pn_enter_94 rfl ?_
                refine C_V3 d_Pn_enter_96 k_Pn_258 (G.l1 X) (Nat.le_of_ble_eq_true rfl) (by decide) (Nat.le_of_ble_eq_true rfl) ?_
                refine c_Pg_put G hw ?_
                refine N_iconst d_Pn_enter_99 1 rfl ?_
                refine P_iret d_Pn_enter_100 rfl ?_
                exact k _ _ _ (CG_put hC G hw (lnC_en (hwi.mp hwh))) ⟨fun r hr => by rw [sI_r (by have := G.1; omega), sI_r (by have := G.1; omega)], [], by simp, by simp, by simp⟩
              · have e : oEnt S P (nI j) p i what v = (S, flL S (nI j) p i) := by unfold oEnt; rw [if_neg hA, if_neg hB, if_pos ee1]
                refine g_iload d_Pn_enter_74 rfl ?_
                refine P_iret d_Pn_enter_76 rfl ?_
                rw [e] at k
                exact k dl mI dr hC GX.rf
            · refine P_bipush d_Pn_enter_54 (-3) rfl ?_
              refine P_iret d_Pn_enter_56 rfl ?_
              have hB : ¬ inN what 3 ∨ (what = nI 0 ∧ ¬ (-9999 ≤ v.toInt ∧ v.toInt ≤ 9999)) := by
                first
                  | exact Or.inl (fun z => absurd (hwi.mpr z) (by assumption))
                  | exact Or.inr ⟨by assumption, fun z => absurd (hvi.mpr z) (by assumption)⟩
              have e : oEnt S P (nI j) p i what v = (S, -3) := by unfold oEnt; rw [if_neg hA, if_pos hB]
              rw [e] at k
              exact k dl mI dr hC GX.rf
      · refine P_bipush d_Pn_enter_22 (-2) rfl ?_
        refine P_iret d_Pn_enter_24 rfl ?_
        have e : oEnt S P g p i what v = (S, -2) := by unfold oEnt; rw [if_pos (by first | exact Or.inl c1 | exact Or.inr ⟨by assumption, by assumption⟩)]
        rw [e] at k
        exact k dl mI dr hC GX.rf

theorem c_Pn_read {X : CX} {dl : List (Nat × Nat)} {mI : Nat → Nat → Int32} {dr : Nat → Nat → Nat} {Q : Option Value → AH → Prop} {S : RS} (hC : CG S dl dr mI) {g p i what : Int32} (k : Q (some (.int (oRea S g p i what))) (hp X dl mI dr)) : EW X m_Pn_read 0 (enL m_Pn_read.2.2.1 [.ref 32, .int g, .int p, .int i, .int what]) [] (hp X dl mI dr) Q := by
  show EW X m_Pn_read 0 [.ref 32, .int g, .int p, .int i, .int what, jk, jk] [] (hp X dl mI dr) Q
  have hwi : (nI 0 ≤ what ∧ what ≤ nI 1) ↔ inN what 2 := by
    rw [Int32.le_iff_toInt_le, Int32.le_iff_toInt_le, nI_toInt (by decide), nI_toInt (by decide)]
    constructor <;> intro z <;> constructor <;> omega
  refine g_iload_n d_Pn_read_0 rfl ?_
  refine C_S1 d_Pn_read_1 k_Pn_230 (Nat.le_of_ble_eq_true rfl) (by decide) (Nat.le_of_ble_eq_true rfl) ?_
  refine c_Pn_isRegister ?_
  refine B_ne d_Pn_read_4 10 (by decide) (fun c1 => ?_) (fun c1 => ?_)
  · refine g_iload d_Pn_read_10 rfl ?_
    refine N_iconst d_Pn_read_12 0 rfl ?_
    refine N_iconst d_Pn_read_13 1 rfl ?_
    refine C_S3 d_Pn_read_14 k_Pn_71 (Nat.le_of_ble_eq_true rfl) (by decide) (Nat.le_of_ble_eq_true rfl) ?_
    refine c_Pn_isWithin ?_
    refine B_ne d_Pn_read_17 23 (by decide) (fun c2 => ?_) (fun c2 => ?_)
    · have c1n := c1
      obtain ⟨j, hj, rfl⟩ := inN_of c1 (by decide)
      refine g_aload_n d_Pn_read_23 rfl ?_
      refine H_getR 125 d_Pn_read_24 f_Pn_67.g rfl rfl (by decide) rfl ?_
      refine g_iload_n d_Pn_read_27 rfl ?_
      refine g_iload_n d_Pn_read_28 rfl ?_
      refine g_iload_n d_Pn_read_29 rfl ?_
      refine C_V3 d_Pn_read_30 k_Pn_254 rfl (Nat.le_of_ble_eq_true rfl) (by decide) (Nat.le_of_ble_eq_true rfl) ?_
      refine (c_Sh_flawOfLine hC hj) ?_
      refine S_istore_7_5 d_Pn_read_33 rfl rfl ?_
      refine g_iload d_Pn_read_35 rfl ?_
      refine P_if_eq d_Pn_read_37 43 (by decide) (fun c3 => ?_) (fun c3 => ?_)
      · have hz : flL S (nI j) p i = 0 := c3
        obtain ⟨l, u, w, hs, hu, rfl, hnz, hw, rfl, ep, G⟩ := flL_0 hC hj hz
        have R := (hC.1 j hj).2 l hs
        have h5 := R.2.2.2.2.1
        have h6 := G.2.2.2.2.2.2.1
        have hln := G.2.2.2.2.2.2.2 w hw
        have e : oRea S (nI j) (nI u) (nI w) what = rdV ((S.2 (l.getD u 0)).getD w none) (tN what) := by
          unfold oRea
          rw [if_neg (fun z => z c1), if_neg (fun z => z (hwi.mp c2)), if_neg (fun z => z hz), ep, tN_nI (by omega)]
        rw [e] at k
        obtain ⟨y, hy, rfl⟩ := inN_of (hwi.mp c2) (by decide)
        rw [tN_nI (by omega)] at k
        refine g_aload_n d_Pn_read_43 rfl ?_
        refine H_getR 125 d_Pn_read_44 f_Pn_67.g rfl rfl (by decide) rfl ?_
        refine H_getR 126 d_Pn_read_47 f_Pn_233 rfl rfl (by decide) rfl ?_
        refine g_iload_n d_Pn_read_50 rfl ?_
        refine H_aaldN (v := (dr 126 j)) d_Pn_read_51 (Or.inr (Or.inl ⟨rfl, rfl⟩)) rfl rfl hj (by decide) rfl ?_
        refine H_getR (dr 126 j + 1) d_Pn_read_52 f_Pn_244 rfl (R.l1 X) (by decide) R.f ?_
        refine g_iload_n d_Pn_read_55 rfl ?_
        refine H_aaldN (v := (l.getD u 0)) d_Pn_read_56 (Or.inr (Or.inr ⟨rfl, rfl⟩)) (R.l2 X) rfl hu (by omega) (R.p hu) ?_
        refine S_astore_7_6 d_Pn_read_57 rfl rfl ?_
        refine g_aload d_Pn_read_59 rfl ?_
        refine H_getR (l.getD u 0 + 1) d_Pn_read_61 f_Pn_262 rfl (G.l1 X) (by decide) G.f0 ?_
        refine g_iload_n d_Pn_read_64 rfl ?_
        refine H_ialdN d_Pn_read_65 (G.l2 X) rfl hw (by omega) ?_
        refine N_iconst d_Pn_read_66 2 rfl ?_
        refine P_icmp_ne d_Pn_read_67 73 (by decide) (fun c4 => ?_) (fun c4 => ?_)
        · obtain ⟨c, v, hcv⟩ : ∃ c v, (S.2 (l.getD u 0)).getD w none = some (c, v) := by
            rcases hq : (S.2 (l.getD u 0)).getD w none with _ | ⟨c, v⟩
            · exact absurd ((lnC_2 hln).mpr hq) (by assumption)
            · exact ⟨c, v, rfl⟩
          rw [hcv] at hln k
          obtain ⟨hs1, hs2, hs3⟩ : mI (l.getD u 0 + 1) w = nI c ∧ mI (l.getD u 0 + 2) w = v ∧ c ≤ 1 := hln
          have k : Q (some (.int (if c ≠ y then -16 else if c = 0 then v + 50000 else v))) (hp X dl mI dr) := k
          refine g_aload d_Pn_read_73 rfl ?_
          refine H_getR (l.getD u 0 + 1) d_Pn_read_75 f_Pn_262 rfl (G.l1 X) (by decide) G.f0 ?_
          refine g_iload_n d_Pn_read_78 rfl ?_
          refine H_ialdN d_Pn_read_79 (G.l2 X) rfl hw (by omega) ?_
          refine T_int (nI (c)) hs1 ?_
          refine g_iload d_Pn_read_80 rfl ?_
          refine N_icmp_eq d_Pn_read_82 88 (by decide) ⟨by omega, by omega⟩ (fun c5 => ?_) (fun c5 => ?_)
          · refine g_iload d_Pn_read_88 rfl ?_
            refine N_if_ne d_Pn_read_90 107 (by decide) (by omega) (fun c6 => ?_) (fun c6 => ?_)
            · refine g_aload d_Pn_read_107 rfl ?_
              refine H_getR (l.getD u 0 + 2) d_Pn_read_109 f_Pn_265 rfl (G.l1 X) (by decide) G.f1 ?_
              refine g_iload_n d_Pn_read_112 rfl ?_
              refine H_ialdN d_Pn_read_113 (G.l3 X) rfl hw (by omega) ?_
              refine T_int (v) hs2 ?_
              refine P_iret d_Pn_read_114 rfl ?_
              have hcy : c = y := by assumption
              first
                | (have hy0 : y = 0 := by assumption
                   exact R_i k (by rw [if_neg (fun z => z hcy), if_pos (by omega)]))
                | (have hy0 : ¬ y = 0 := by assumption
                   exact R_i k (by rw [if_neg (fun z => z hcy), if_neg (by omega)]))
            · refine g_aload d_Pn_read_93 rfl ?_
              refine H_getR (l.getD u 0 + 2) d_Pn_read_95 f_Pn_265 rfl (G.l1 X) (by decide) G.f1 ?_
              refine g_iload_n d_Pn_read_98 rfl ?_
              refine H_ialdN d_Pn_read_99 (G.l3 X) rfl hw (by omega) ?_
              refine T_int (v) hs2 ?_
              refine P_ldcw d_Pn_read_100 _ q_Pn_268 ?_
              refine P_iadd d_Pn_read_103 ?_
              refine P_goto d_Pn_read_104 114 (by decide) ?_
              refine P_iret d_Pn_read_114 rfl ?_
              have hcy : c = y := by assumption
              first
                | (have hy0 : y = 0 := by assumption
                   exact R_i k (by rw [if_neg (fun z => z hcy), if_pos (by omega)]))
                | (have hy0 : ¬ y = 0 := by assumption
                   exact R_i k (by rw [if_neg (fun z => z hcy), if_neg (by omega)]))
          · refine P_bipush d_Pn_read_85 (-16) rfl ?_
            refine P_iret d_Pn_read_87 rfl ?_
            exact R_i k (by rw [if_pos (by assumption)])
        · refine P_bipush d_Pn_read_70 (-15) rfl ?_
          refine P_iret d_Pn_read_72 rfl ?_
          rw [(lnC_2 hln).mp c4] at k
          exact k
      · refine g_iload d_Pn_read_40 rfl ?_
        refine P_iret d_Pn_read_42 rfl ?_
        exact R_i k (by unfold oRea; rw [if_neg (fun z => z c1), if_neg (fun z => z (hwi.mp c2)), if_pos c3])
    · refine P_bipush d_Pn_read_20 (-3) rfl ?_
      refine P_iret d_Pn_read_22 rfl ?_
      exact R_i k (by unfold oRea; rw [if_neg (fun z => z c1), if_pos (fun z => c2 (hwi.mpr z))])
  · refine P_bipush d_Pn_read_7 (-2) rfl ?_
    refine P_iret d_Pn_read_9 rfl ?_
    exact R_i k (by unfold oRea; rw [if_pos c1])

