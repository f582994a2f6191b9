theorem CG_grow {S : RS} {dl dl' : List (Nat × Nat)} {dr dr' : Nat → Nat → Nat} {mI mI' : Nat → Nat → Int32} {L : PL} (h : CG S dl dr mI) (hd : ∀ (i : Nat) (x : Nat × Nat), dl[i]? = some x → dl'[i]? = some x) (hr : ∀ r, r < 172 + dl.length → dr' r = dr r) (hm : ∀ r, 172 ≤ r → r < 172 + dl.length → mI' r = mI r) : CG (S.1, va_up S.2 (172 + dl.length) L) dl' dr' mI' := by
  have e : dr' 126 = dr 126 := hr 126 (by omega)
  refine ⟨fun j hj => ⟨fun hs => by rw [e]; exact (h.1 j hj).1 hs, fun l hl => ?_⟩, fun j j' hj hj' hne => by rw [e]; exact h.2 j j' hj hj' hne⟩
  rw [e]
  have R := (h.1 j hj).2 l hl
  exact R.mono hd (fun r _ q => hr r q) hm (fun p hp1 hz => va_up_n _ _ (by have := ((R.2.2.2.2.2 p hp1).2 hz).lt; omega))
theorem cg_some {S : RS} {dl : List (Nat × Nat)} {dr : Nat → Nat → Nat} {mI : Nat → Nat → Int32} (h : CG S dl dr mI) {g : Nat} (hg : g < 3) (hz : ¬ dr 126 g = 0) : ∃ l, S.1 g = some l ∧ RgR dl dr mI S.2 (dr 126 g) l := by
  rcases hs : S.1 g with _ | l
  · exact absurd ((h.1 g hg).1 hs) hz
  · exact ⟨l, rfl, (h.1 g hg).2 l hs⟩
theorem cg_none {S : RS} {dl : List (Nat × Nat)} {dr : Nat → Nat → Nat} {mI : Nat → Nat → Int32} (h : CG S dl dr mI) {g : Nat} (hg : g < 3) (hz : dr 126 g = 0) : S.1 g = none := by
  rcases hs : S.1 g with _ | l
  · rfl
  · have := ((h.1 g hg).2 l hs).1; omega
theorem rep_none (n i : Nat) : (List.replicate n (none : Option (Nat × Int32))).getD i none = none := by
  rw [List.getD_eq_getElem?_getD, List.getElem?_replicate]; split <;> rfl
theorem toInt_neg {n : Int32} (h : ¬ 0 ≤ n) : n.toInt < 0 := by
  have y := mt Int32.le_iff_toInt_le.mpr h
  have e0 : (0 : Int32).toInt = 0 := rfl
  omega
theorem toInt_nn {n : Int32} (h : 0 ≤ n) : 0 ≤ n.toInt := Int32.le_iff_toInt_le.mp h
theorem toInt_le {n : Int32} {j : Nat} (hj : j < 2 ^ 31) (h : n ≤ nI j) : n.toInt ≤ j := by have := Int32.le_iff_toInt_le.mp h; rw [nI_toInt hj] at this; exact this
theorem toInt_gt {n : Int32} {j : Nat} (hj : j < 2 ^ 31) (h : ¬ n ≤ nI j) : (j : Int) < n.toInt := by have := mt Int32.le_iff_toInt_le.mpr h; rw [nI_toInt hj] at this; omega
theorem c_Pn_page {X : CX} {dl : List (Nat × Nat)} {mI : Nat → Nat → Int32} {dr : Nat → Nat → Nat} {Q : Option Value → AH → Prop} {S : RS} (hC : CG S dl dr mI) {g p n : Int32} (k : ∀ dl' mI' dr', CG (oPag S (172 + dl.length) g p n).1 dl' dr' mI' → GX dl mI dl' mI' → Q (some (.int (oPag S (172 + dl.length) g p n).2)) (hp X dl' mI' dr')) : EW X m_Pn_page 0 (enL m_Pn_page.2.2.1 [.ref 32, .int g, .int p, .int n]) [] (hp X dl mI dr) Q := by
  show EW X m_Pn_page 0 [.ref 32, .int g, .int p, .int n, jk] [] (hp X dl mI dr) Q
  refine g_iload_n d_Pn_page_0 rfl ?_
  refine C_S1 d_Pn_page_1 k_Pn_230 (Nat.le_of_ble_eq_true rfl) (by decide) (Nat.le_of_ble_eq_true rfl) ?_
  refine c_Pn_isRegister ?_
  refine B_ne d_Pn_page_4 10 (by decide) (fun c1 => ?_) (fun c1 => ?_)
  · refine g_iload_n d_Pn_page_10 rfl ?_
    refine N_bipush d_Pn_page_11 6 rfl ?_
    refine P_icmp_le d_Pn_page_13 19 (by decide) (fun c2 => ?_) (fun c2 => ?_)
    · have h2 := toInt_le (by decide) c2
      have h2 : n.toInt ≤ 6 := h2
      have c1n := c1
      obtain ⟨j, hj, rfl⟩ := inN_of c1 (by decide)
      have ej : tN (nI j) = j := tN_nI (by omega)
      refine g_aload_n d_Pn_page_19 rfl ?_
      refine H_getR 125 d_Pn_page_20 f_Pn_67.g rfl rfl (by decide) rfl ?_
      refine H_getR 126 d_Pn_page_23 f_Pn_233 rfl rfl (by decide) rfl ?_
      refine g_iload_n d_Pn_page_26 rfl ?_
      refine H_aaldN (v := (dr 126 j)) d_Pn_page_27 (Or.inr (Or.inl ⟨rfl, rfl⟩)) rfl rfl hj (by decide) rfl ?_
      refine S_astore_5_4 d_Pn_page_28 rfl rfl ?_
      refine g_aload d_Pn_page_30 rfl ?_
      refine P_ifnonnull d_Pn_page_32 38 (by decide) (fun c3 => ?_) (fun c3 => ?_)
      · obtain ⟨l, hs, R⟩ := cg_some hC hj c3
        have h5 := R.2.2.2.2.1
        refine g_aload d_Pn_page_38 rfl ?_
        refine g_iload_n d_Pn_page_40 rfl ?_
        refine C_V1 d_Pn_page_41 k_Pn_241 (R.l1 X) (Nat.le_of_ble_eq_true rfl) (by decide) (Nat.le_of_ble_eq_true rfl) ?_
        refine (c_Rg_hasPlace R) ?_
        refine B_ne d_Pn_page_44 50 (by decide) (fun c4 => ?_) (fun c4 => ?_)
        · have e : oPag S (172 + dl.length) (nI j) p n = if ¬ inN p l.length then (S, -12) else if n.toInt < 0 then (S, -17) else ((va_up S.1 j (some (l.set (tN p) (172 + dl.length))), va_up S.2 (172 + dl.length) (List.replicate (tN n) none)), n) := by unfold oPag; rw [if_neg (fun z => z c1), if_neg (by omega), ej, hs]
          rw [e] at k
          rw [if_neg (fun z => z c4)] at k
          refine g_iload_n d_Pn_page_50 rfl ?_
          refine P_if_ge d_Pn_page_51 57 (by decide) (fun c5 => ?_) (fun c5 => ?_)
          · have h0 := toInt_nn c5
            rw [if_neg (by omega)] at k
            obtain ⟨i, hi, rfl⟩ := inN_of c4 (by omega)
            obtain ⟨m, hm, rfl⟩ := inN_of (n := 7) (show inN n 7 from ⟨h0, by show n.toInt < 7; omega⟩) (by decide)
            rw [tN_nI (by omega), tN_nI (by omega)] at k
            refine g_aload d_Pn_page_57 rfl ?_
            refine H_getR (dr 126 j + 1) d_Pn_page_59 f_Pn_244 rfl (R.l1 X) (by decide) R.f ?_
            refine g_iload_n d_Pn_page_62 rfl ?_
            refine D_new d_Pn_page_63 n_Pn_248 ?_
            refine P_dupA d_Pn_page_66 ?_
            refine g_iload_n d_Pn_page_67 rfl ?_
            refine C_I1 d_Pn_page_68 k_Pn_250 (by omega) (Nat.le_of_ble_eq_true rfl) (by decide) (Nat.le_of_ble_eq_true rfl) ?_
            refine c_Pg_init (by omega) (by rw [List.getElem?_append_right (by omega), show 172 + dl.length - 172 - dl.length = 0 by omega]; rfl) (by omega) (fun mI' q1 q2 => ?_)
            rw [len1] at q1 q2 ⊢
            have hd3 : ∀ (i : Nat) (x : Nat × Nat), dl[i]? = some x → (dl ++ [(9, 2)] ++ [(20, m)] ++ [(20, m)])[i]? = some x := fun i x y => ap_get _ _ (ap_get _ _ (ap_get _ _ y))
            generalize hdr : (sR (va_up (sR (va_up (va_up dr (172 + dl.length) fun x => 0) (172 + dl.length + 1) fun x => 0) (172 + dl.length) 0 (172 + dl.length + 1)) (172 + dl.length + 1 + 1) fun x => 0) (172 + dl.length) 1 (172 + dl.length + 1 + 1)) = dr3
            have hr3 : ∀ r, r < 172 + dl.length → dr3 r = dr r := fun r hr => by
              rw [← hdr, sR_r (by omega), va_up_n _ _ (by omega), sR_r (by omega), va_up_n _ _ (by omega), va_up_n _ _ (by omega)]
            have hm3 : ∀ r, r < 172 + dl.length → mI' r = mI r := fun r hr => by rw [q2 r (by omega), va_up_n _ _ (by omega)]
            have hC3 := CG_grow (L := List.replicate m none) hC hd3 hr3 (fun r _ hr => hm3 r hr)
            have e126 : dr3 126 = dr 126 := hr3 126 (by omega)
            have R3 := (hC3.1 j hj).2 l hs
            rw [e126] at R3
            have hP3 : PgR (dl ++ [(9, 2)] ++ [(20, m)] ++ [(20, m)]) dr3 mI' (172 + dl.length) (List.replicate m none) := by
              refine ⟨by omega, ?_, ?_, ?_, ?_, ?_, by rw [List.length_replicate]; omega, fun i hi => ?_⟩
              · rw [List.append_assoc, List.append_assoc, List.getElem?_append_right (by omega), show 172 + dl.length - 172 - dl.length = 0 by omega]; rfl
              · rw [List.append_assoc, List.append_assoc, List.getElem?_append_right (by omega), show 172 + dl.length + 1 - 172 - dl.length = 1 by omega, List.length_replicate]; rfl
              · rw [List.append_assoc, List.append_assoc, List.getElem?_append_right (by omega), show 172 + dl.length + 2 - 172 - dl.length = 2 by omega, List.length_replicate]; rfl
              · rw [← hdr, sR_n (by omega), va_up_n _ _ (by omega), sR_s]
              · rw [← hdr, sR_s]
              · rw [rep_none]
                rw [List.length_replicate] at hi
                exact q1 i hi
            have hg3 := CG_leaf hC3 hj hs hi (x := 172 + dl.length) (fun _ => by
              show PgR _ _ _ _ (va_up S.2 (172 + dl.length) (List.replicate m none) (172 + dl.length))
              rw [va_up_s]; exact hP3)
            rw [e126] at hg3
            refine D_aast d_Pn_page_71 (Or.inr (Or.inr ⟨rfl, rfl⟩)) (Or.inl (by have := R3.1; omega)) (R3.l2 X) rfl hi (by omega) (hP3.l1 X) cl_Pg ?_
            refine g_iload_n d_Pn_page_72 rfl ?_
            refine P_iret d_Pn_page_73 rfl ?_
            exact k _ _ _ hg3 ⟨fun r hr => hm3 r (by omega), [(9, 2), (20, m), (20, m)], by simp, by simp, by simp; omega⟩
          · refine P_bipush d_Pn_page_54 (-17) rfl ?_
            refine P_iret d_Pn_page_56 rfl ?_
            rw [if_pos (toInt_neg c5)] at k
            exact k dl mI dr hC GX.rf
        · refine P_bipush d_Pn_page_47 (-12) rfl ?_
          refine P_iret d_Pn_page_49 rfl ?_
          have e : oPag S (172 + dl.length) (nI j) p n = if ¬ inN p l.length then (S, -12) else if n.toInt < 0 then (S, -17) else ((va_up S.1 j (some (l.set (tN p) (172 + dl.length))), va_up S.2 (172 + dl.length) (List.replicate (tN n) none)), n) := by unfold oPag; rw [if_neg (fun z => z c1), if_neg (by omega), ej, hs]
          rw [e] at k
          rw [if_pos c4] at k
          exact k dl mI dr hC GX.rf
      · refine P_bipush d_Pn_page_35 (-11) rfl ?_
        refine P_iret d_Pn_page_37 rfl ?_
        have hs := cg_none hC hj c3
        have e : oPag S (172 + dl.length) (nI j) p n = (S, -11) := by unfold oPag; rw [if_neg (fun z => z c1), if_neg (by omega), ej, hs]
        rw [e] at k
        exact k dl mI dr hC GX.rf
    · refine P_bipush d_Pn_page_16 (-3) rfl ?_
      refine P_iret d_Pn_page_18 rfl ?_
      have h2 := toInt_gt (by decide) c2
      have e : oPag S (172 + dl.length) g p n = (S, -3) := by unfold oPag; rw [if_neg (fun z => z c1), if_pos (by exact h2)]
      rw [e] at k
      exact k dl mI dr hC GX.rf
  · refine P_bipush d_Pn_page_7 (-2) rfl ?_
    refine P_iret d_Pn_page_9 rfl ?_
    have e : oPag S (172 + dl.length) g p n = (S, -2) := by unfold oPag; rw [if_pos c1]
    rw [e] at k
    exact k dl mI dr hC GX.rf

theorem flP_0 {S : RS} {dl : List (Nat × Nat)} {dr : Nat → Nat → Nat} {mI : Nat → Nat → Int32} (h : CG S dl dr mI) {i j : Nat} {p q : Int32} (hi : i < 3) (hj : j < 3) (hz : flP S (nI i) p (nI j) q = 0) : ∃ l l', S.1 i = some l ∧ S.1 j = some l' ∧ inN p l.length ∧ inN q l'.length := by
  unfold flP at hz
  rw [tN_nI (by omega), tN_nI (by omega)] at hz
  rcases hs : S.1 i with _ | l
  · rw [hs] at hz; exact absurd (show (-11 : Int32) = 0 from hz) (by decide)
  · rcases hs' : S.1 j with _ | l'
    · rw [hs, hs'] at hz; exact absurd (show (-11 : Int32) = 0 from hz) (by decide)
    · rw [hs, hs'] at hz
      by_cases y : inN p l.length ∧ inN q l'.length
      · exact ⟨l, l', rfl, rfl, y.1, y.2⟩
      · have hz : (if inN p l.length ∧ inN q l'.length then (0 : Int32) else -12) = 0 := hz
        rw [if_neg y] at hz
        exact absurd hz (by decide)
theorem flL_0 {S : RS} {dl : List (Nat × Nat)} {dr : Nat → Nat → Nat} {mI : Nat → Nat → Int32} (h : CG S dl dr mI) {g : Nat} {p i : Int32} (hg : g < 3) (hz : flL S (nI g) p i = 0) : ∃ l u w, S.1 g = some l ∧ u < l.length ∧ p = nI u ∧ l.getD u 0 ≠ 0 ∧ w < (S.2 (l.getD u 0)).length ∧ i = nI w ∧ pgE S (nI g) p = l.getD u 0 ∧ PgR dl dr mI (l.getD u 0) (S.2 (l.getD u 0)) := by
  unfold flL at hz
  rw [tN_nI (by omega)] at hz
  rcases hs : S.1 g with _ | l
  · rw [hs] at hz; exact absurd (show (-11 : Int32) = 0 from hz) (by decide)
  · rw [hs] at hz
    have R := (h.1 g hg).2 l hs
    have h5 := R.2.2.2.2.1
    have hz : (if ¬ inN p l.length then (-12 : Int32) else if l.getD (tN p) 0 = 0 then -13 else if inN i (S.2 (l.getD (tN p) 0)).length then 0 else -14) = 0 := hz
    by_cases y : inN p l.length
    · rw [if_neg (fun z => z y)] at hz
      obtain ⟨u, hu, rfl⟩ := inN_of y (by omega)
      rw [tN_nI (by omega)] at hz
      by_cases y2 : l.getD u 0 = 0
      · rw [if_pos y2] at hz; exact absurd hz (by decide)
      · rw [if_neg y2] at hz
        have G := (R.2.2.2.2.2 u hu).2 y2
        have h6 := G.2.2.2.2.2.2.1
        by_cases y3 : inN i (S.2 (l.getD u 0)).length
        · obtain ⟨w, hw, rfl⟩ := inN_of y3 (by omega)
          exact ⟨l, u, w, rfl, hu, rfl, y2, hw, rfl, by unfold pgE; rw [tN_nI (by omega), hs, tN_nI (by omega)], G⟩
        · rw [if_neg y3] at hz; exact absurd hz (by decide)
    · rw [if_pos y] at hz; exact absurd hz (by decide)
theorem c_Pn_bind {X : CX} {dl : List (Nat × Nat)} {mI : Nat → Nat → Int32} {dr : Nat → Nat → Nat} {Q : Option Value → AH → Prop} {S : RS} (hC : CG S dl dr mI) {o p o' q : Int32} (k : ∀ dl' mI' dr', CG (oBin S o p o' q).1 dl' dr' mI' → GX dl mI dl' mI' → Q (some (.int (oBin S o p o' q).2)) (hp X dl' mI' dr')) : EW X m_Pn_bind 0 (enL m_Pn_bind.2.2.1 [.ref 32, .int o, .int p, .int o', .int q]) [] (hp X dl mI dr) Q := by
  show EW X m_Pn_bind 0 [.ref 32, .int o, .int p, .int o', .int q, jk] [] (hp X dl mI dr) Q
  refine g_iload_n d_Pn_bind_0 rfl ?_
  refine C_S1 d_Pn_bind_1 k_Pn_230 (Nat.le_of_ble_eq_true rfl) (by decide) (Nat.le_of_ble_eq_true rfl) ?_
  refine c_Pn_isRegister ?_
  refine B_eq d_Pn_bind_4 14 (by decide) (fun c1 => ?_) (fun c1 => ?_)
  · refine P_bipush d_Pn_bind_14 (-2) rfl ?_
    refine P_iret d_Pn_bind_16 rfl ?_
    have e : oBin S o p o' q = (S, -2) := by unfold oBin; rw [if_pos (by first | exact Or.inl c1 | exact Or.inr c2)]
    rw [e] at k
    exact k dl mI dr hC GX.rf
  · refine g_iload_n d_Pn_bind_7 rfl ?_
    refine C_S1 d_Pn_bind_8 k_Pn_230 (Nat.le_of_ble_eq_true rfl) (by decide) (Nat.le_of_ble_eq_true rfl) ?_
    refine c_Pn_isRegister ?_
    refine B_ne d_Pn_bind_11 17 (by decide) (fun c2 => ?_) (fun c2 => ?_)
    · have c1n := c1
      have c2n := c2
      obtain ⟨i, hi, rfl⟩ := inN_of c1 (by decide)
      obtain ⟨j, hj, rfl⟩ := inN_of c2 (by decide)
      have ei : tN (nI i) = i := tN_nI (by omega)
      have ej : tN (nI j) = j := tN_nI (by omega)
      refine g_aload_n d_Pn_bind_17 rfl ?_
      refine H_getR 125 d_Pn_bind_18 f_Pn_67.g rfl rfl (by decide) rfl ?_
      refine g_iload_n d_Pn_bind_21 rfl ?_
      refine g_iload_n d_Pn_bind_22 rfl ?_
      refine g_iload_n d_Pn_bind_23 rfl ?_
      refine g_iload d_Pn_bind_24 rfl ?_
      refine C_V4 d_Pn_bind_26 k_Pn_251 rfl (Nat.le_of_ble_eq_true rfl) (by decide) (Nat.le_of_ble_eq_true rfl) ?_
      refine (c_Sh_flawOfPlaces hC hi hj) ?_
      refine S_istore_6_5 d_Pn_bind_29 rfl rfl ?_
      refine g_iload d_Pn_bind_31 rfl ?_
      refine P_if_eq d_Pn_bind_33 39 (by decide) (fun c3 => ?_) (fun c3 => ?_)
      · have hz : flP S (nI i) p (nI j) q = 0 := by assumption
        obtain ⟨l, l', hs, hs', hin, hin'⟩ := flP_0 hC hi hj hz
        have R := (hC.1 i hi).2 l hs
        have R' := (hC.1 j hj).2 l' hs'
        have h5 := R.2.2.2.2.1
        have h5' := R'.2.2.2.2.1
        have ep : pgE S (nI i) p = l.getD (tN p) 0 := by unfold pgE; rw [ei, hs]
        have eq : pgE S (nI j) q = l'.getD (tN q) 0 := by unfold pgE; rw [ej, hs']
        obtain ⟨u, hu, rfl⟩ := inN_of hin (by omega)
        obtain ⟨w, hw, rfl⟩ := inN_of hin' (by omega)
        rw [tN_nI (by omega)] at ep
        rw [tN_nI (by omega)] at eq
        refine g_aload_n d_Pn_bind_39 rfl ?_
        refine H_getR 125 d_Pn_bind_40 f_Pn_67.g rfl rfl (by decide) rfl ?_
        refine H_getR 126 d_Pn_bind_43 f_Pn_233 rfl rfl (by decide) rfl ?_
        refine g_iload_n d_Pn_bind_46 rfl ?_
        refine H_aaldN (v := (dr 126 j)) d_Pn_bind_47 (Or.inr (Or.inl ⟨rfl, rfl⟩)) rfl rfl hj (by decide) rfl ?_
        refine H_getR (dr 126 j + 1) d_Pn_bind_48 f_Pn_244 rfl (R'.l1 X) (by decide) R'.f ?_
        refine g_iload d_Pn_bind_51 rfl ?_
        refine g_aload_n d_Pn_bind_53 rfl ?_
        refine H_getR 125 d_Pn_bind_54 f_Pn_67.g rfl rfl (by decide) rfl ?_
        refine H_getR 126 d_Pn_bind_57 f_Pn_233 rfl rfl (by decide) rfl ?_
        refine g_iload_n d_Pn_bind_60 rfl ?_
        refine H_aaldN (v := (dr 126 i)) d_Pn_bind_61 (Or.inr (Or.inl ⟨rfl, rfl⟩)) rfl rfl hi (by decide) rfl ?_
        refine H_getR (dr 126 i + 1) d_Pn_bind_62 f_Pn_244 rfl (R.l1 X) (by decide) R.f ?_
        refine g_iload_n d_Pn_bind_65 rfl ?_
        refine H_aaldN (v := (l.getD u 0)) d_Pn_bind_66 (Or.inr (Or.inr ⟨rfl, rfl⟩)) (R.l2 X) rfl hu (by omega) (R.p hu) ?_
        have e : oBin S (nI i) (nI u) (nI j) (nI w) = ((va_up S.1 j (some (l'.set w (l.getD u 0))), S.2), 1) := by
          unfold oBin
          rw [if_neg (fun z => z.elim (fun y => y c1) (fun y => y c2)), if_neg (fun z => z hz), ej, hs', ep, tN_nI (by omega)]
        rw [e] at k
        have hlf := CG_leaf hC hj hs' hw (x := l.getD u 0) (fun y => (R.2.2.2.2.2 u hu).2 y)
        by_cases y : l.getD u 0 = 0
        · rw [y] at hlf k ⊢
          refine D_aastN d_Pn_bind_67 (Or.inr (Or.inr ⟨rfl, rfl⟩)) (Or.inl (by have := R'.1; omega)) (R'.l2 X) rfl hw (by omega) ?_
          refine N_iconst d_Pn_bind_68 1 rfl ?_
          refine P_iret d_Pn_bind_69 rfl ?_
          exact k _ _ _ hlf GX.rf
        · refine D_aast d_Pn_bind_67 (Or.inr (Or.inr ⟨rfl, rfl⟩)) (Or.inl (by have := R'.1; omega)) (R'.l2 X) rfl hw (by omega) (((R.2.2.2.2.2 u hu).2 y).l1 X) cl_Pg ?_
          refine N_iconst d_Pn_bind_68 1 rfl ?_
          refine P_iret d_Pn_bind_69 rfl ?_
          exact k _ _ _ hlf GX.rf
      · refine g_iload d_Pn_bind_36 rfl ?_
        refine P_iret d_Pn_bind_38 rfl ?_
        have hnz : flP S (nI i) p (nI j) q ≠ 0 := by assumption
        have e : oBin S (nI i) p (nI j) q = (S, flP S (nI i) p (nI j) q) := by unfold oBin; rw [if_neg (fun z => z.elim (fun y => y c1) (fun y => y c2)), if_pos hnz]
        rw [e] at k
        exact k dl mI dr hC GX.rf
    · refine P_bipush d_Pn_bind_14 (-2) rfl ?_
      refine P_iret d_Pn_bind_16 rfl ?_
      have e : oBin S o p o' q = (S, -2) := by unfold oBin; rw [if_pos (by first | exact Or.inl c1 | exact Or.inr c2)]
      rw [e] at k
      exact k dl mI dr hC GX.rf

theorem c_Pn_same {X : CX} {dl : List (Nat × Nat)} {mI : Nat → Nat → Int32} {dr : Nat → Nat → Nat} {Q : Option Value → AH → Prop} {S : RS} (hC : CG S dl dr mI) {o p o' q : Int32} (k : Q (some (.int (oSam S o p o' q))) (hp X dl mI dr)) : EW X m_Pn_same 0 (enL m_Pn_same.2.2.1 [.ref 32, .int o, .int p, .int o', .int q]) [] (hp X dl mI dr) Q := by
  show EW X m_Pn_same 0 [.ref 32, .int o, .int p, .int o', .int q, jk, jk, jk] [] (hp X dl mI dr) Q
  refine g_iload_n d_Pn_same_0 rfl ?_
  refine C_S1 d_Pn_same_1 k_Pn_230 (Nat.le_of_ble_eq_true rfl) (by decide) (Nat.le_of_ble_eq_true rfl) ?_
  refine c_Pn_isRegister ?_
  refine B_eq d_Pn_same_4 14 (by decide) (fun c1 => ?_) (fun c1 => ?_)
  · refine P_bipush d_Pn_same_14 (-2) rfl ?_
    refine P_iret d_Pn_same_16 rfl ?_
    exact R_i k (by unfold oSam; rw [if_pos (by first | exact Or.inl c1 | exact Or.inr c2)])
  · refine g_iload_n d_Pn_same_7 rfl ?_
    refine C_S1 d_Pn_same_8 k_Pn_230 (Nat.le_of_ble_eq_true rfl) (by decide) (Nat.le_of_ble_eq_true rfl) ?_
    refine c_Pn_isRegister ?_
    refine B_ne d_Pn_same_11 17 (by decide) (fun c2 => ?_) (fun c2 => ?_)
    · have c1n := c1
      have c2n := c2
      obtain ⟨i, hi, rfl⟩ := inN_of c1 (by decide)
      obtain ⟨j, hj, rfl⟩ := inN_of c2 (by decide)
      have ei : tN (nI i) = i := tN_nI (by omega)
      have ej : tN (nI j) = j := tN_nI (by omega)
      refine g_aload_n d_Pn_same_17 rfl ?_
      refine H_getR 125 d_Pn_same_18 f_Pn_67.g rfl rfl (by decide) rfl ?_
      refine g_iload_n d_Pn_same_21 rfl ?_
      refine g_iload_n d_Pn_same_22 rfl ?_
      refine g_iload_n d_Pn_same_23 rfl ?_
      refine g_iload d_Pn_same_24 rfl ?_
      refine C_V4 d_Pn_same_26 k_Pn_251 rfl (Nat.le_of_ble_eq_true rfl) (by decide) (Nat.le_of_ble_eq_true rfl) ?_
      refine (c_Sh_flawOfPlaces hC hi hj) ?_
      refine S_istore_8_5 d_Pn_same_29 rfl rfl ?_
      refine g_iload d_Pn_same_31 rfl ?_
      refine P_if_eq d_Pn_same_33 39 (by decide) (fun c3 => ?_) (fun c3 => ?_)
      · have hz : flP S (nI i) p (nI j) q = 0 := by assumption
        obtain ⟨l, l', hs, hs', hin, hin'⟩ := flP_0 hC hi hj hz
        have R := (hC.1 i hi).2 l hs
        have R' := (hC.1 j hj).2 l' hs'
        have h5 := R.2.2.2.2.1
        have h5' := R'.2.2.2.2.1
        have ep : pgE S (nI i) p = l.getD (tN p) 0 := by unfold pgE; rw [ei, hs]
        have eq : pgE S (nI j) q = l'.getD (tN q) 0 := by unfold pgE; rw [ej, hs']
        obtain ⟨u, hu, rfl⟩ := inN_of hin (by omega)
        obtain ⟨w, hw, rfl⟩ := inN_of hin' (by omega)
        rw [tN_nI (by omega)] at ep
        rw [tN_nI (by omega)] at eq
        refine g_aload_n d_Pn_same_39 rfl ?_
        refine H_getR 125 d_Pn_same_40 f_Pn_67.g rfl rfl (by decide) rfl ?_
        refine H_getR 126 d_Pn_same_43 f_Pn_233 rfl rfl (by decide) rfl ?_
        refine g_iload_n d_Pn_same_46 rfl ?_
        refine H_aaldN (v := (dr 126 i)) d_Pn_same_47 (Or.inr (Or.inl ⟨rfl, rfl⟩)) rfl rfl hi (by decide) rfl ?_
        refine H_getR (dr 126 i + 1) d_Pn_same_48 f_Pn_244 rfl (R.l1 X) (by decide) R.f ?_
        refine g_iload_n d_Pn_same_51 rfl ?_
        refine H_aaldN (v := (l.getD u 0)) d_Pn_same_52 (Or.inr (Or.inr ⟨rfl, rfl⟩)) (R.l2 X) rfl hu (by omega) (R.p hu) ?_
        refine S_astore_8_6 d_Pn_same_53 rfl rfl ?_
        refine g_aload_n d_Pn_same_55 rfl ?_
        refine H_getR 125 d_Pn_same_56 f_Pn_67.g rfl rfl (by decide) rfl ?_
        refine H_getR 126 d_Pn_same_59 f_Pn_233 rfl rfl (by decide) rfl ?_
        refine g_iload_n d_Pn_same_62 rfl ?_
        refine H_aaldN (v := (dr 126 j)) d_Pn_same_63 (Or.inr (Or.inl ⟨rfl, rfl⟩)) rfl rfl hj (by decide) rfl ?_
        refine H_getR (dr 126 j + 1) d_Pn_same_64 f_Pn_244 rfl (R'.l1 X) (by decide) R'.f ?_
        refine g_iload d_Pn_same_67 rfl ?_
        refine H_aaldN (v := (l'.getD w 0)) d_Pn_same_69 (Or.inr (Or.inr ⟨rfl, rfl⟩)) (R'.l2 X) rfl hw (by omega) (R'.p hw) ?_
        have e : oSam S (nI i) (nI u) (nI j) (nI w) = if l.getD u 0 = 0 ∨ l'.getD w 0 = 0 then -13 else if l.getD u 0 = l'.getD w 0 then 1 else 0 := by
          unfold oSam
          rw [if_neg (fun z => z.elim (fun y => y c1) (fun y => y c2)), if_neg (fun z => z hz), ep, eq]
        rw [e] at k
        refine S_astore_8_7 d_Pn_same_70 rfl rfl ?_
        refine g_aload d_Pn_same_72 rfl ?_
        refine P_ifnull d_Pn_same_74 82 (by decide) (fun c4 => ?_) (fun c4 => ?_)
        · refine P_bipush d_Pn_same_82 (-13) rfl ?_
          refine P_iret d_Pn_same_84 rfl ?_
          exact R_i k (by rw [if_pos (by first | exact Or.inl (by assumption) | exact Or.inr (by assumption))])
        · refine g_aload d_Pn_same_77 rfl ?_
          refine P_ifnonnull d_Pn_same_79 85 (by decide) (fun c5 => ?_) (fun c5 => ?_)
          · refine g_aload d_Pn_same_85 rfl ?_
            refine g_aload d_Pn_same_87 rfl ?_
            refine P_acmp_ne d_Pn_same_89 96 (by decide) (R.z hu) (R'.z hw) (fun c6 => ?_) (fun c6 => ?_)
            · refine N_iconst d_Pn_same_96 0 rfl ?_
              refine P_iret d_Pn_same_97 rfl ?_
              first
                | exact R_i k (by rw [if_neg (fun z => by rcases z with z | z <;> exact absurd z (by assumption)), if_pos (by assumption)]; rfl)
                | exact R_i k (by rw [if_neg (fun z => by rcases z with z | z <;> exact absurd z (by assumption)), if_neg (by assumption)]; rfl)
            · refine N_iconst d_Pn_same_92 1 rfl ?_
              refine P_goto d_Pn_same_93 97 (by decide) ?_
              refine P_iret d_Pn_same_97 rfl ?_
              first
                | exact R_i k (by rw [if_neg (fun z => by rcases z with z | z <;> exact absurd z (by assumption)), if_pos (by assumption)]; rfl)
                | exact R_i k (by rw [if_neg (fun z => by rcases z with z | z <;> exact absurd z (by assumption)), if_neg (by assumption)]; rfl)
          · refine P_bipush d_Pn_same_82 (-13) rfl ?_
            refine P_iret d_Pn_same_84 rfl ?_
            exact R_i k (by rw [if_pos (by first | exact Or.inl (by assumption) | exact Or.inr (by assumption))])
      · refine g_iload d_Pn_same_36 rfl ?_
        refine P_iret d_Pn_same_38 rfl ?_
        have hnz : flP S (nI i) p (nI j) q ≠ 0 := by assumption
        exact R_i k (by unfold oSam; rw [if_neg (fun z => z.elim (fun y => y c1) (fun y => y c2)), if_pos hnz])
    · refine P_bipush d_Pn_same_14 (-2) rfl ?_
      refine P_iret d_Pn_same_16 rfl ?_
      exact R_i k (by unfold oSam; rw [if_pos (by first | exact Or.inl c1 | exact Or.inr c2)])

theorem c_Pn_drop {X : CX} {dl : List (Nat × Nat)} {mI : Nat → Nat → Int32} {dr : Nat → Nat → Nat} {Q : Option Value → AH → Prop} {S : RS} (hC : CG S dl dr mI) {g : Int32} (k : ∀ dl' mI' dr', CG (oDro S g).1 dl' dr' mI' → GX dl mI dl' mI' → Q (some (.int (oDro S g).2)) (hp X dl' mI' dr')) : EW X m_Pn_drop 0 (enL m_Pn_drop.2.2.1 [.ref 32, .int g]) [] (hp X dl mI dr) Q := by
  show EW X m_Pn_drop 0 [.ref 32, .int g, jk] [] (hp X dl mI dr) Q
  refine g_iload_n d_Pn_drop_0 rfl ?_
  refine C_S1 d_Pn_drop_1 k_Pn_230 (Nat.le_of_ble_eq_true rfl) (by decide) (Nat.le_of_ble_eq_true rfl) ?_
  refine c_Pn_isRegister ?_
  refine B_ne d_Pn_drop_4 10 (by decide) (fun c1 => ?_) (fun c1 => ?_)
  · have c1n := c1
    obtain ⟨j, hj, rfl⟩ := inN_of c1 (by decide)
    have ej : tN (nI j) = j := tN_nI (by omega)
    refine g_aload_n d_Pn_drop_10 rfl ?_
    refine H_getR 125 d_Pn_drop_11 f_Pn_67.g rfl rfl (by decide) rfl ?_
    refine H_getR 126 d_Pn_drop_14 f_Pn_233 rfl rfl (by decide) rfl ?_
    refine g_iload_n d_Pn_drop_17 rfl ?_
    refine H_aaldN (v := (dr 126 j)) d_Pn_drop_18 (Or.inr (Or.inl ⟨rfl, rfl⟩)) rfl rfl hj (by decide) rfl ?_
    refine S_astore_n_3_2 d_Pn_drop_19 rfl rfl ?_
    refine g_aload_n d_Pn_drop_20 rfl ?_
    refine P_ifnonnull d_Pn_drop_21 27 (by decide) (fun c2 => ?_) (fun c2 => ?_)
    · obtain ⟨l, hs, R⟩ := cg_some hC hj c2
      have e : oDro S (nI j) = ((va_up S.1 j none, S.2), nI l.length) := by unfold oDro; rw [if_neg (fun z => z c1), ej, hs]
      rw [e] at k
      have hlt := R.1
      have R2 : RgR dl (sR dr 126 j 0) mI S.2 (dr 126 j) l := R.mono (fun _ _ y => y) (fun r q1 q2 => sR_r (by omega)) (fun r q1 q2 => rfl) (fun _ _ _ => rfl)
      refine g_aload_n d_Pn_drop_27 rfl ?_
      refine H_getR 125 d_Pn_drop_28 f_Pn_67.g rfl rfl (by decide) rfl ?_
      refine H_getR 126 d_Pn_drop_31 f_Pn_233 rfl rfl (by decide) rfl ?_
      refine g_iload_n d_Pn_drop_34 rfl ?_
      refine P_null d_Pn_drop_35 ?_
      refine D_aastN d_Pn_drop_36 (Or.inr (Or.inl ⟨rfl, rfl⟩)) (Or.inr rfl) rfl rfl hj (by decide) ?_
      refine g_aload_n d_Pn_drop_37 rfl ?_
      refine H_getR (dr 126 j + 1) d_Pn_drop_38 f_Pn_244 rfl (R2.l1 X) (by decide) R2.f ?_
      refine P_alen d_Pn_drop_41 (by decide) (R2.l2 X) ?_
      refine P_iret d_Pn_drop_42 rfl ?_
      exact k _ _ _ (CG_dro hC) GX.rf
    · refine P_bipush d_Pn_drop_24 (-11) rfl ?_
      refine P_iret d_Pn_drop_26 rfl ?_
      have hs := cg_none hC hj c2
      have e : oDro S (nI j) = (S, -11) := by unfold oDro; rw [if_neg (fun z => z c1), ej, hs]
      rw [e] at k
      exact k dl mI dr hC GX.rf
  · refine P_bipush d_Pn_drop_7 (-2) rfl ?_
    refine P_iret d_Pn_drop_9 rfl ?_
    have e : oDro S g = (S, -2) := by unfold oDro; rw [if_pos c1]
    rw [e] at k
    exact k dl mI dr hC GX.rf

theorem c_Pn_pages {X : CX} {dl : List (Nat × Nat)} {mI : Nat → Nat → Int32} {dr : Nat → Nat → Nat} {Q : Option Value → AH → Prop} {S : RS} (hC : CG S dl dr mI) {g what : Int32} (k : Q (some (.int (oPgs S g what))) (hp X dl mI dr)) : EW X m_Pn_pages 0 (enL m_Pn_pages.2.2.1 [.ref 32, .int g, .int what]) [] (hp X dl mI dr) Q := by
  show EW X m_Pn_pages 0 [.ref 32, .int g, .int what, jk] [] (hp X dl mI dr) Q
  refine g_iload_n d_Pn_pages_0 rfl ?_
  refine C_S1 d_Pn_pages_1 k_Pn_230 (Nat.le_of_ble_eq_true rfl) (by decide) (Nat.le_of_ble_eq_true rfl) ?_
  refine c_Pn_isRegister ?_
  refine B_ne d_Pn_pages_4 10 (by decide) (fun c1 => ?_) (fun c1 => ?_)
  · refine g_iload_n d_Pn_pages_10 rfl ?_
    refine N_iconst d_Pn_pages_11 0 rfl ?_
    refine N_iconst d_Pn_pages_12 3 rfl ?_
    refine C_S3 d_Pn_pages_13 k_Pn_71 (Nat.le_of_ble_eq_true rfl) (by decide) (Nat.le_of_ble_eq_true rfl) ?_
    refine c_Pn_isWithin ?_
    have hin : (nI 0 ≤ what ∧ what ≤ nI 3) ↔ inN what 4 := by
      rw [Int32.le_iff_toInt_le, Int32.le_iff_toInt_le, nI_toInt (by decide), nI_toInt (by decide)]
      constructor <;> intro z <;> constructor <;> omega
    refine B_ne d_Pn_pages_16 22 (by decide) (fun c2 => ?_) (fun c2 => ?_)
    · have c1n := c1
      obtain ⟨j, hj, rfl⟩ := inN_of c1 (by decide)
      have ej : tN (nI j) = j := tN_nI (by omega)
      refine g_aload_n d_Pn_pages_22 rfl ?_
      refine H_getR 125 d_Pn_pages_23 f_Pn_67.g rfl rfl (by decide) rfl ?_
      refine H_getR 126 d_Pn_pages_26 f_Pn_233 rfl rfl (by decide) rfl ?_
      refine g_iload_n d_Pn_pages_29 rfl ?_
      refine H_aaldN (v := (dr 126 j)) d_Pn_pages_30 (Or.inr (Or.inl ⟨rfl, rfl⟩)) rfl rfl hj (by decide) rfl ?_
      refine S_astore_n_4_3 d_Pn_pages_31 rfl rfl ?_
      refine g_aload_n d_Pn_pages_32 rfl ?_
      refine P_ifnonnull d_Pn_pages_33 39 (by decide) (fun c3 => ?_) (fun c3 => ?_)
      · obtain ⟨l, hs, R⟩ := cg_some hC hj c3
        have e : oPgs S (nI j) what = if what = nI 0 then nI l.length else if what = nI 1 then nI (thC l l.length) else if what = nI 2 then nI (unC l l.length) else nI (fiC S.2 l l.length) := by
          unfold oPgs
          rw [if_neg (fun z => z c1), if_neg (fun z => z (hin.mp c2)), ej, hs]
        rw [e] at k
        refine g_iload_n d_Pn_pages_39 rfl ?_
        by_cases q0 : what = nI 0
        · rw [q0]
          refine P_tableIn d_Pn_pages_40 (28) 68 (by decide) (by decide) rfl (by decide) ?_
          refine g_aload_n d_Pn_pages_68 rfl ?_
          refine H_getR (dr 126 j + 1) d_Pn_pages_69 f_Pn_244 rfl (R.l1 X) (by decide) R.f ?_
          refine P_alen d_Pn_pages_72 (by decide) (R.l2 X) ?_
          refine P_iret d_Pn_pages_73 rfl ?_
          exact R_i k (by rw [if_pos q0])
        by_cases q1 : what = nI 1
        · rw [q1]
          refine P_tableIn d_Pn_pages_40 (34) 74 (by decide) (by decide) rfl (by decide) ?_
          refine g_aload_n d_Pn_pages_74 rfl ?_
          refine C_V0 d_Pn_pages_75 k_Pn_269 (R.l1 X) (Nat.le_of_ble_eq_true rfl) (by decide) (Nat.le_of_ble_eq_true rfl) ?_
          refine (c_Rg_pagesThere R) ?_
          refine P_iret d_Pn_pages_78 rfl ?_
          exact R_i k (by rw [if_neg q0, if_pos q1])
        by_cases q2 : what = nI 2
        · rw [q2]
          refine P_tableIn d_Pn_pages_40 (39) 79 (by decide) (by decide) rfl (by decide) ?_
          refine g_aload_n d_Pn_pages_79 rfl ?_
          refine C_V0 d_Pn_pages_80 k_Pn_272 (R.l1 X) (Nat.le_of_ble_eq_true rfl) (by decide) (Nat.le_of_ble_eq_true rfl) ?_
          refine (c_Rg_unlikePages R) ?_
          refine P_iret d_Pn_pages_83 rfl ?_
          exact R_i k (by rw [if_neg q0, if_neg q1, if_pos q2])
        refine P_tableOut d_Pn_pages_40 84 (by decide) (sw_out 2 (fun j hj => by rcases (show j = 0 ∨ j = 1 ∨ j = 2 by omega) with rfl | rfl | rfl <;> assumption)) ?_
        refine g_aload_n d_Pn_pages_84 rfl ?_
        refine C_V0 d_Pn_pages_85 k_Pn_275 (R.l1 X) (Nat.le_of_ble_eq_true rfl) (by decide) (Nat.le_of_ble_eq_true rfl) ?_
        refine (c_Rg_filledLines R) ?_
        refine P_iret d_Pn_pages_88 rfl ?_
        exact R_i k (by rw [if_neg q0, if_neg q1, if_neg q2])
      · refine P_bipush d_Pn_pages_36 (-11) rfl ?_
        refine P_iret d_Pn_pages_38 rfl ?_
        have hs := cg_none hC hj c3
        exact R_i k (by unfold oPgs; rw [if_neg (fun z => z c1), if_neg (fun z => z (hin.mp c2)), ej, hs])
    · refine P_bipush d_Pn_pages_19 (-3) rfl ?_
      refine P_iret d_Pn_pages_21 rfl ?_
      exact R_i k (by unfold oPgs; rw [if_neg (fun z => z c1), if_pos (fun z => c2 (hin.mpr z))])
  · refine P_bipush d_Pn_pages_7 (-2) rfl ?_
    refine P_iret d_Pn_pages_9 rfl ?_
    exact R_i k (by unfold oPgs; rw [if_pos c1])

