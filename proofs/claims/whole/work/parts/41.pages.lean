theorem len1 (dl : List (Nat × Nat)) (x : Nat × Nat) : 172 + (dl ++ [x]).length = 172 + dl.length + 1 := by rw [List.length_append]; rfl
theorem c_Rg_init {X : CX} {dl : List (Nat × Nat)} {mI : Nat → Nat → Int32} {dr : Nat → Nat → Nat} {Q : Option Value → AH → Prop} {a n : Nat} (ha : 172 ≤ a) (hl : dl[a - 172]? = some (8, 1)) (hn : n < 100) (k : Q none (hp X (dl ++ [(24, n)]) (va_up mI (172 + dl.length) (fun _ => 0)) (sR (va_up dr (172 + dl.length) (fun _ => 0)) a 0 (172 + dl.length)))) : EW X m_Rg_init 0 (enL m_Rg_init.2.2.1 [.ref a, .int (nI n)]) [] (hp X dl mI dr) Q := by
  show EW X m_Rg_init 0 [.ref a, .int (nI n)] [] (hp X dl mI dr) Q
  refine g_aload_n d_Rg_init_0 rfl ?_
  refine P_objInit d_Rg_init_1 o_Rg_1 (by omega) (by decide) (Nat.le_of_ble_eq_true rfl) ?_
  refine g_aload_n d_Rg_init_4 rfl ?_
  refine g_iload_n d_Rg_init_5 rfl ?_
  refine N_iconst d_Rg_init_6 0 rfl ?_
  refine P_mmax d_Rg_init_7 z_Rg_7 (by decide) (Nat.le_of_ble_eq_true rfl) ?_
  rw [nI_max (by omega) (by omega), Nat.max_eq_left (Nat.zero_le _)]
  refine D_anew d_Rg_init_10 (Or.inr (Or.inr ⟨rfl, rfl⟩)) w_Rg_13 (by omega) ?_
  refine D_putR d_Rg_init_13 f_Rg_15 (fun _ => rfl) rfl ha (ap_get _ _ hl) (by decide) ?_
  refine P_vret d_Rg_init_16 rfl ?_
  exact k

theorem lp_Pg_init {X : CX} {dl : List (Nat × Nat)} {mI : Nat → Nat → Int32} {dr : Nat → Nat → Nat} {Q : Option Value → AH → Prop} {a n m : Nat} {v1 : Value} (ha : 172 ≤ a) (hl : dl[a - 172]? = some (9, 2)) (hl1 : dl[m - 172]? = some (20, n)) (hm : 172 ≤ m) (h0 : dr a 0 = m) (hn : n < 100) (k : ∀ mI', (∀ i, i < n → mI' m i = nI 2) → (∀ r, r ≠ m → mI' r = mI r) → Q none (hp X dl mI' dr)) : ∀ (d : Nat) (i : Nat) (mI2 : Nat → Nat → Int32), (i ≤ n) → (∀ j, j < i → mI2 m j = nI 2) → (∀ r, r ≠ m → mI2 r = mI r) → n - i = d → EW X m_Pg_init 26 [.ref a, v1, .int (nI n), .int (nI i)] [] (hp X dl mI2 dr) Q := by
  intro d
  induction d using Nat.strongRecOn with
  | _ d ih =>
    intro i mI2 hi hz hF hd
    refine g_iload_n d_Pg_init_26 rfl ?_
    refine g_iload_n d_Pg_init_27 rfl ?_
    refine N_icmp_ge d_Pg_init_28 44 (by decide) ⟨by omega, by omega⟩ (fun c1 => ?_) (fun c1 => ?_)
    · refine P_vret d_Pg_init_44 rfl ?_
      exact k mI2 (fun j hj => hz j (by omega)) hF
    · refine g_aload_n d_Pg_init_31 rfl ?_
      refine H_getR m d_Pg_init_32 f_Pg_13.g rfl (show (lf X dl)[a]? = some (9, 2) by rw [lf_d X ha]; exact hl) (by decide) ((fR_d (Or.inl ha)).trans h0) ?_
      refine g_iload_n d_Pg_init_35 rfl ?_
      refine N_iconst d_Pg_init_36 2 rfl ?_
      refine H_iastN d_Pg_init_37 (show (lf X dl)[m]? = some (20, n) by rw [lf_d X hm]; exact hl1) rfl c1 (by omega) ?_
      refine N_iinc_4_3_1 d_Pg_init_38 rfl rfl ?_
      refine P_goto d_Pg_init_41 26 (by decide) ?_
      exact ih _ (by omega) (i + 1) _ (by omega) (fun j hj => by
        by_cases z : j = i
        · rw [z]; exact sI_s _ _ _ _
        · rw [sI_n (by omega)]; exact hz j (by omega)) (fun r hr => by rw [sI_r hr]; exact hF r hr) rfl

theorem c_Pg_init {X : CX} {dl : List (Nat × Nat)} {mI : Nat → Nat → Int32} {dr : Nat → Nat → Nat} {Q : Option Value → AH → Prop} {a n : Nat} (ha : 172 ≤ a) (hl : dl[a - 172]? = some (9, 2)) (hn : n < 100) (k : ∀ mI', (∀ i, i < n → mI' (172 + dl.length) i = nI 2) → (∀ r, r < 172 + dl.length → mI' r = mI r) → Q none (hp X (dl ++ [(20, n)] ++ [(20, n)]) mI' (sR (va_up (sR (va_up dr (172 + dl.length) (fun _ => 0)) a 0 (172 + dl.length)) (172 + dl.length + 1) (fun _ => 0)) a 1 (172 + dl.length + 1)))) : EW X m_Pg_init 0 (enL m_Pg_init.2.2.1 [.ref a, .int (nI n)]) [] (hp X dl mI dr) Q := by
  show EW X m_Pg_init 0 [.ref a, .int (nI n), jk, jk] [] (hp X dl mI dr) Q
  refine g_aload_n d_Pg_init_0 rfl ?_
  refine P_objInit d_Pg_init_1 o_Pg_1 (by omega) (by decide) (Nat.le_of_ble_eq_true rfl) ?_
  refine g_iload_n d_Pg_init_4 rfl ?_
  refine N_iconst d_Pg_init_5 0 rfl ?_
  refine P_mmax d_Pg_init_6 z_Pg_7 (by decide) (Nat.le_of_ble_eq_true rfl) ?_
  rw [nI_max (by omega) (by omega), Nat.max_eq_left (Nat.zero_le _)]
  refine S_istore_n_4_2 d_Pg_init_9 rfl rfl ?_
  refine g_aload_n d_Pg_init_10 rfl ?_
  refine g_iload_n d_Pg_init_11 rfl ?_
  refine D_newa d_Pg_init_12 (by omega) ?_
  refine D_putR d_Pg_init_14 f_Pg_13 (fun _ => rfl) rfl ha (ap_get _ _ hl) (by decide) ?_
  refine g_aload_n d_Pg_init_17 rfl ?_
  refine g_iload_n d_Pg_init_18 rfl ?_
  refine D_newa d_Pg_init_19 (by omega) ?_
  rw [len1]
  refine D_putR d_Pg_init_21 f_Pg_19 (fun _ => rfl) rfl ha (ap_get _ _ (ap_get _ _ hl)) (by decide) ?_
  refine N_iconst d_Pg_init_24 0 rfl ?_
  refine S_istore_n_4_3 d_Pg_init_25 rfl rfl ?_
  have hal : a - 172 < dl.length := (List.getElem?_eq_some_iff.mp hl).1
  refine lp_Pg_init (m := 172 + dl.length) ha (ap_get _ _ (ap_get _ _ hl)) (by rw [List.append_assoc, List.getElem?_append_right (by omega), show 172 + dl.length - 172 - dl.length = 0 by omega]; rfl) (by omega) ?_ hn (fun mI' h1 h2 => k mI' h1 (fun r hr => ?_)) _ 0 _ (Nat.zero_le _) (fun j hj => absurd hj (Nat.not_lt_zero _)) (fun r _ => rfl) rfl
  · rw [sR_n (by omega), va_up_n _ _ (by omega), sR_s]
  · rw [h2 r (by omega), va_up_n _ _ (by omega), va_up_n _ _ (by omega)]

theorem c_Pg_put {X : CX} {dl : List (Nat × Nat)} {mI : Nat → Nat → Int32} {dr : Nat → Nat → Nat} {Q : Option Value → AH → Prop} {a : Nat} {L : PL} (G : PgR dl dr mI a L) {i : Nat} {c v : Int32} (hi : i < L.length) (k : Q none (hp X dl (sI (sI mI (a + 1) i c) (a + 2) i v) dr)) : EW X m_Pg_put 0 (enL m_Pg_put.2.2.1 [.ref a, .int (nI i), .int c, .int v]) [] (hp X dl mI dr) Q := by
  show EW X m_Pg_put 0 [.ref a, .int (nI i), .int c, .int v] [] (hp X dl mI dr) Q
  have h6 := G.2.2.2.2.2.2.1
  refine g_aload_n d_Pg_put_0 rfl ?_
  refine H_getR (a + 1) d_Pg_put_1 f_Pg_13.g rfl (G.l1 X) (by decide) G.f0 ?_
  refine g_iload_n d_Pg_put_4 rfl ?_
  refine g_iload_n d_Pg_put_5 rfl ?_
  refine H_iastN d_Pg_put_6 (G.l2 X) rfl hi (by omega) ?_
  refine g_aload_n d_Pg_put_7 rfl ?_
  refine H_getR (a + 2) d_Pg_put_8 f_Pg_19.g rfl (G.l1 X) (by decide) G.f1 ?_
  refine g_iload_n d_Pg_put_11 rfl ?_
  refine g_iload_n d_Pg_put_12 rfl ?_
  refine H_iastN d_Pg_put_13 (G.l3 X) rfl hi (by omega) ?_
  refine P_vret d_Pg_put_14 rfl ?_
  exact k

theorem GX_of {dl ext : List (Nat × Nat)} {mI mI' : Nat → Nat → Int32} (h : ∀ r, r < 172 → mI' r = mI r) (h1 : ext.length ≤ 3) (h2 : (ext.map (fun q => q.2)).sum ≤ 20) : GX dl mI (dl ++ ext) mI' := ⟨h, ext, rfl, h1, h2⟩
theorem rep_get (n p : Nat) : (List.replicate n (0 : Nat)).getD p 0 = 0 := by
  rw [List.getD_eq_getElem?_getD, List.getElem?_replicate]; split <;> rfl
theorem CG_reg {S : RS} {dl : List (Nat × Nat)} {dr : Nat → Nat → Nat} {mI : Nat → Nat → Int32} (h : CG S dl dr mI) {g n : Nat} (hg : g < 3) (hn : n ≤ 5) : CG (va_up S.1 g (some (List.replicate n 0)), S.2) (dl ++ [(8, 1)] ++ [(24, n)]) (sR (sR (va_up (va_up dr (172 + dl.length) (fun _ => 0)) (172 + dl.length + 1) (fun _ => 0)) (172 + dl.length) 0 (172 + dl.length + 1)) 126 g (172 + dl.length)) (va_up (va_up mI (172 + dl.length) (fun _ => 0)) (172 + dl.length + 1) (fun _ => 0)) := by
  have hold : ∀ j, j ≠ g → sR (sR (va_up (va_up dr (172 + dl.length) (fun _ => 0)) (172 + dl.length + 1) (fun _ => 0)) (172 + dl.length) 0 (172 + dl.length + 1)) 126 g (172 + dl.length) 126 j = dr 126 j := fun j hj => by
    rw [sR_n (by omega), sR_r (by omega), va_up_n _ _ (by omega), va_up_n _ _ (by omega)]
  refine ⟨fun j hj => ?_, fun j j' hj hj' hne => ?_⟩
  · by_cases z : j = g
    · subst z
      refine ⟨fun hs => ?_, fun l hl => ?_⟩
      · have hs : va_up S.1 j (some (List.replicate n 0)) j = none := hs
        rw [va_up_s] at hs; cases hs
      · have hl : va_up S.1 j (some (List.replicate n 0)) j = some l := hl
        rw [va_up_s] at hl
        injection hl with hl
        subst hl
        rw [sR_s]
        refine ⟨by omega, ?_, ?_, ?_, by rw [List.length_replicate]; exact hn, fun p hp1 => ⟨?_, fun hz => absurd (rep_get n p) hz⟩⟩
        · rw [List.append_assoc, List.getElem?_append_right (by omega), show 172 + dl.length - 172 - dl.length = 0 by omega]; rfl
        · rw [List.append_assoc, List.getElem?_append_right (by omega), show 172 + dl.length + 1 - 172 - dl.length = 1 by omega, List.length_replicate]; rfl
        · rw [sR_r (by omega), sR_s]
        · rw [rep_get, sR_r (by omega), sR_r (by omega), va_up_s]
    · have h1 := h.1 j hj
      refine ⟨fun hs => ?_, fun l hl => ?_⟩
      · rw [hold j z]
        have hs : va_up S.1 g (some (List.replicate n 0)) j = none := hs
        rw [va_up_n _ _ z] at hs
        exact h1.1 hs
      · rw [hold j z]
        have hl : va_up S.1 g (some (List.replicate n 0)) j = some l := hl
        rw [va_up_n _ _ z] at hl
        refine RgR.mono (h1.2 l hl) (fun i x y => ap_get _ _ (ap_get _ _ y)) (fun r q1 q2 => ?_) (fun r q1 q2 => ?_) (fun _ _ _ => rfl)
        · rw [sR_r (by omega), sR_r (by omega), va_up_n _ _ (by omega), va_up_n _ _ (by omega)]
        · rw [va_up_n _ _ (by omega), va_up_n _ _ (by omega)]
  · have hlt : ∀ j, j < 3 → dr 126 j < 172 + dl.length := fun j hj => by
      rcases hs : S.1 j with _ | l
      · rw [(h.1 j hj).1 hs]; omega
      · have := ((h.1 j hj).2 l hs).lt; omega
    by_cases z : j = g
    · subst z
      rw [sR_s, hold j' (fun y => hne y.symm)]
      intro _
      have := hlt j' hj'; omega
    · rw [hold j z]
      intro hz
      by_cases z' : j' = g
      · subst z'
        rw [sR_s]
        have := hlt j hj; omega
      · rw [hold j' z']; exact h.2 j j' hj hj' hne hz
theorem CG_dro {S : RS} {dl : List (Nat × Nat)} {dr : Nat → Nat → Nat} {mI : Nat → Nat → Int32} (h : CG S dl dr mI) {g : Nat} : CG (va_up S.1 g none, S.2) dl (sR dr 126 g 0) mI := by
  refine ⟨fun j hj => ?_, fun j j' hj hj' hne => ?_⟩
  · by_cases z : j = g
    · subst z
      refine ⟨fun _ => sR_s _ _ _ _, fun l hl => ?_⟩
      have hl : va_up S.1 j none j = some l := hl
      rw [va_up_s] at hl; cases hl
    · have h1 := h.1 j hj
      rw [sR_n (fun y => z y.2)]
      refine ⟨fun hs => ?_, fun l hl => ?_⟩
      · have hs : va_up S.1 g none j = none := hs
        rw [va_up_n _ _ z] at hs
        exact h1.1 hs
      · have hl : va_up S.1 g none j = some l := hl
        rw [va_up_n _ _ z] at hl
        exact RgR.mono (h1.2 l hl) (fun _ _ y => y) (fun r q1 q2 => sR_r (by omega)) (fun r q1 q2 => rfl) (fun _ _ _ => rfl)
  · by_cases z : j = g
    · subst z; rw [sR_s]; intro y; exact absurd rfl y
    · rw [sR_n (fun y => z y.2)]
      intro hz
      by_cases z' : j' = g
      · subst z'; rw [sR_s]; exact hz
      · rw [sR_n (fun y => z' y.2)]; exact h.2 j j' hj hj' hne hz
/-- a leaf of a register is bound to x -/
theorem CG_leaf {S : RS} {dl : List (Nat × Nat)} {dr : Nat → Nat → Nat} {mI : Nat → Nat → Int32} (h : CG S dl dr mI) {g p x : Nat} {l : List Nat} (hg : g < 3) (hs : S.1 g = some l) (hp1 : p < l.length) (hx : x ≠ 0 → PgR dl dr mI x (S.2 x)) : CG (va_up S.1 g (some (l.set p x)), S.2) dl (sR dr (dr 126 g + 1) p x) mI := by
  have R := (h.1 g hg).2 l hs
  have ha := R.1
  have h126 : ∀ j, sR dr (dr 126 g + 1) p x 126 j = dr 126 j := fun j => by rw [sR_r (by omega)]
  have hPg : ∀ a L, PgR dl dr mI a L → PgR dl (sR dr (dr 126 g + 1) p x) mI a L := fun a L G => G.mono (fun _ _ y => y) (sR_r (fun z => by
    have e1 := G.2.1
    have e2 := R.2.2.1
    rw [z, e2] at e1
    cases e1)) rfl rfl
  refine ⟨fun j hj => ?_, fun j j' hj hj' hne => by rw [h126, h126]; exact h.2 j j' hj hj' hne⟩
  rw [h126]
  have h1 := h.1 j hj
  by_cases z : j = g
  · subst z
    refine ⟨fun hs2 => ?_, fun l2 hl => ?_⟩
    · have hs2 : va_up S.1 j (some (l.set p x)) j = none := hs2
      rw [va_up_s] at hs2; cases hs2
    · have hl : va_up S.1 j (some (l.set p x)) j = some l2 := hl
      rw [va_up_s] at hl
      injection hl with hl
      subst hl
      obtain ⟨g1, g2, g3, g4, g5, g6⟩ := R
      refine ⟨g1, g2, by rw [List.length_set]; exact g3, by rw [sR_r (by omega)]; exact g4, by rw [List.length_set]; exact g5, fun q hq => ?_⟩
      rw [List.length_set] at hq
      rw [getD_set l p q x hp1]
      by_cases y : q = p
      · rw [if_pos y, y]
        exact ⟨sR_s _ _ _ _, fun hz => hPg _ _ (hx hz)⟩
      · rw [if_neg y, sR_n (fun w => y w.2)]
        exact ⟨(g6 q hq).1, fun hz => hPg _ _ ((g6 q hq).2 hz)⟩
  · refine ⟨fun hs2 => ?_, fun l2 hl => ?_⟩
    · have hs2 : va_up S.1 g (some (l.set p x)) j = none := hs2
      rw [va_up_n _ _ z] at hs2
      exact h1.1 hs2
    · have hl : va_up S.1 g (some (l.set p x)) j = some l2 := hl
      rw [va_up_n _ _ z] at hl
      have R2 := h1.2 l2 hl
      have hne : dr 126 j ≠ dr 126 g := h.2 j g hj hg z (by have := R2.1; omega)
      have hne2 : dr 126 j ≠ dr 126 g + 1 := fun y => by
        have e1 := R2.2.1
        have e2 := R.2.2.1
        rw [y, e2] at e1
        cases e1
      obtain ⟨g1, g2, g3, g4, g5, g6⟩ := R2
      exact ⟨g1, g2, g3, by rw [sR_r hne2]; exact g4, g5, fun q hq => ⟨by rw [sR_r (by omega)]; exact (g6 q hq).1, fun hz => hPg _ _ ((g6 q hq).2 hz)⟩⟩
theorem c_Pn_register {X : CX} {dl : List (Nat × Nat)} {mI : Nat → Nat → Int32} {dr : Nat → Nat → Nat} {Q : Option Value → AH → Prop} {S : RS} (hC : CG S dl dr mI) {g n : Int32} (k : ∀ dl' mI' dr', CG (oReg S g n).1 dl' dr' mI' → GX dl mI dl' mI' → Q (some (.int (oReg S g n).2)) (hp X dl' mI' dr')) : EW X m_Pn_register 0 (enL m_Pn_register.2.2.1 [.ref 32, .int g, .int n]) [] (hp X dl mI dr) Q := by
  show EW X m_Pn_register 0 [.ref 32, .int g, .int n] [] (hp X dl mI dr) Q
  refine g_iload_n d_Pn_register_0 rfl ?_
  refine C_S1 d_Pn_register_1 k_Pn_230 (Nat.le_of_ble_eq_true rfl) (by decide) (Nat.le_of_ble_eq_true rfl) ?_
  refine c_Pn_isRegister ?_
  refine B_ne d_Pn_register_4 10 (by decide) (fun c1 => ?_) (fun c1 => ?_)
  · refine g_iload_n d_Pn_register_10 rfl ?_
    refine N_iconst d_Pn_register_11 5 rfl ?_
    refine P_icmp_le d_Pn_register_12 18 (by decide) (fun c2 => ?_) (fun c2 => ?_)
    · rw [Int32.le_iff_toInt_le] at c2
      have c2 : n.toInt ≤ 5 := c2
      refine g_iload_n d_Pn_register_18 rfl ?_
      refine P_if_ge d_Pn_register_19 25 (by decide) (fun cc1 => ?_) (fun cc1 => ?_)
      · have c4 : 0 ≤ n.toInt := Int32.le_iff_toInt_le.mp cc1
        have e : oReg S g n = ((va_up S.1 (tN g) (some (List.replicate (tN n) 0)), S.2), n) := by unfold oReg; rw [if_neg (fun z => z c1), if_neg (by omega), if_neg (by omega)]
        rw [e] at k
        obtain ⟨j, hj, rfl⟩ := inN_of c1 (by decide)
        obtain ⟨m, hm, rfl⟩ := inN_of (n := 6) (show inN n 6 from ⟨c4, by show n.toInt < 6; omega⟩) (by decide)
        rw [tN_nI (by omega), tN_nI (by omega)] at k
        refine g_aload_n d_Pn_register_25 rfl ?_
        refine H_getR 125 d_Pn_register_26 f_Pn_67.g rfl rfl (by decide) rfl ?_
        refine H_getR 126 d_Pn_register_29 f_Pn_233 rfl rfl (by decide) rfl ?_
        refine g_iload_n d_Pn_register_32 rfl ?_
        refine D_new d_Pn_register_33 n_Pn_237 ?_
        refine P_dupA d_Pn_register_36 ?_
        refine g_iload_n d_Pn_register_37 rfl ?_
        refine C_I1 d_Pn_register_38 k_Pn_239 (by omega) (Nat.le_of_ble_eq_true rfl) (by decide) (Nat.le_of_ble_eq_true rfl) ?_
        refine c_Rg_init (by omega) (by rw [List.getElem?_append_right (by omega), show 172 + dl.length - 172 - dl.length = 0 by omega]; rfl) (by omega) ?_
        rw [len1]
        refine D_aast d_Pn_register_41 (Or.inr (Or.inl ⟨rfl, rfl⟩)) (Or.inr rfl) rfl rfl hj (by decide) (show (lf X _)[172 + dl.length]? = some (8, 1) by rw [lf_d X (by omega), List.append_assoc, List.getElem?_append_right (by omega), show 172 + dl.length - 172 - dl.length = 0 by omega]; rfl) cl_Rg ?_
        refine g_iload_n d_Pn_register_42 rfl ?_
        refine P_iret d_Pn_register_43 rfl ?_
        exact k _ _ _ (CG_reg hC hj (by omega)) (by rw [List.append_assoc]; exact GX_of (fun r hr => by rw [va_up_n _ _ (by omega), va_up_n _ _ (by omega)]) (by simp) (by simp; omega))
      · have c4 : n.toInt < 0 := by
          have y := mt Int32.le_iff_toInt_le.mpr cc1
          have e0 : (0 : Int32).toInt = 0 := rfl
          omega
        refine P_bipush d_Pn_register_22 (-17) rfl ?_
        refine P_iret d_Pn_register_24 rfl ?_
        have e : oReg S g n = (S, -17) := by unfold oReg; rw [if_neg (fun z => z c1), if_neg (by omega), if_pos c4]
        rw [e] at k
        exact k dl mI dr hC GX.rf
    · refine P_bipush d_Pn_register_15 (-3) rfl ?_
      refine P_iret d_Pn_register_17 rfl ?_
      have c2 : 5 < n.toInt := by
        have y := mt Int32.le_iff_toInt_le.mpr c2
        have e0 : (nI 5).toInt = 5 := rfl
        omega
      have e : oReg S g n = (S, -3) := by unfold oReg; rw [if_neg (fun z => z c1), if_pos c2]
      rw [e] at k
      exact k dl mI dr hC GX.rf
  · refine P_bipush d_Pn_register_7 (-2) rfl ?_
    refine P_iret d_Pn_register_9 rfl ?_
    have e : oReg S g n = (S, -2) := by unfold oReg; rw [if_pos c1]
    rw [e] at k
    exact k dl mI dr hC GX.rf

