/-! REGISTERS AND PAGES: the cells behind the fixed ones -/
def sR (dr : Nat → Nat → Nat) (r f v : Nat) : Nat → Nat → Nat := va_up dr r (va_up (dr r) f v)
theorem sR_s (dr : Nat → Nat → Nat) (r f v : Nat) : sR dr r f v r f = v := by unfold sR; rw [va_up_s, va_up_s]
theorem sR_n {dr : Nat → Nat → Nat} {r f v a b : Nat} (h : ¬ (a = r ∧ b = f)) : sR dr r f v a b = dr a b := by
  unfold sR
  by_cases h1 : a = r
  · subst h1; rw [va_up_s, va_up_n _ _ (fun z => h ⟨rfl, z⟩)]
  · rw [va_up_n _ _ h1]
theorem sR_r {dr : Nat → Nat → Nat} {r f v a : Nat} (h : ¬ a = r) : sR dr r f v a = dr a := va_up_n _ _ h
theorem fR_d {dr : Nat → Nat → Nat} {r f : Nat} (h : 172 ≤ r ∨ r = 126) : fR dr r f = dr r f := by
  unfold fR
  rw [if_neg (by omega), if_pos h]
theorem wR_hp {X : CX} {dl : List (Nat × Nat)} {mI : Nat → Nat → Int32} {dr : Nat → Nat → Nat} {r f v : Nat} (h : 172 ≤ r ∨ r = 126) : wR (hp X dl mI dr) r f v = hp X dl mI (sR dr r f v) := by
  have e : va_up (fR dr) r (va_up (fR dr r) f v) = fR (sR dr r f v) := by
    funext q g
    by_cases h1 : q = r
    · subst h1
      rw [va_up_s, fR_d h]
      by_cases h2 : g = f
      · subst h2; rw [va_up_s, sR_s]
      · rw [va_up_n _ _ h2, sR_n (fun z => h2 z.2), fR_d h]
    · rw [va_up_n _ _ h1]
      unfold fR
      rw [sR_r h1]
  unfold wR hp
  exact congrArg (fun z => (lf X dl, mI, z)) e
theorem lf_len (X : CX) (dl : List (Nat × Nat)) : (lf X dl).length = 172 + dl.length := by
  unfold lf
  rw [List.length_append, List.length_append]
  have h1 : (lay0 (xL X)).length = 32 := rfl
  have h2 : fixL.length = 140 := rfl
  omega
theorem lf_d (X : CX) {dl : List (Nat × Nat)} {r : Nat} (h : 172 ≤ r) : (lf X dl)[r]? = dl[r - 172]? := by
  unfold lf
  have h1 : (lay0 (xL X)).length = 32 := rfl
  have h2 : fixL.length = 140 := rfl
  rw [← List.append_assoc, List.getElem?_append_right (by rw [List.length_append]; omega), List.length_append, h1, h2]
theorem nw_hp {X : CX} {dl : List (Nat × Nat)} {mI : Nat → Nat → Int32} {dr : Nat → Nat → Nat} {t n : Nat} : nw (hp X dl mI dr) t n = hp X (dl ++ [(t, n)]) (va_up mI (172 + dl.length) (fun _ => 0)) (va_up dr (172 + dl.length) (fun _ => 0)) := by
  have e1 : (hp X dl mI dr).1.length = 172 + dl.length := lf_len X dl
  unfold nw
  rw [e1]
  have e2 : lf X dl ++ [(t, n)] = lf X (dl ++ [(t, n)]) := by unfold lf; rw [List.append_assoc, List.append_assoc]
  have e3 : va_up (fR dr) (172 + dl.length) (fun _ => 0) = fR (va_up dr (172 + dl.length) (fun _ => 0)) := by
    funext q g
    by_cases h1 : q = 172 + dl.length
    · subst h1; rw [va_up_s, fR_d (Or.inl (by omega)), va_up_s]
    · rw [va_up_n _ _ h1]; unfold fR; rw [va_up_n _ _ h1]
  show (lf X dl ++ [(t, n)], va_up mI _ _, va_up (fR dr) _ _) = _
  rw [e2, e3]
  rfl
section DRules
variable {X : CX} {M : MD} {pc : Nat} {ls rest : List Value} {dl : List (Nat × Nat)} {mI : Nat → Nat → Int32} {dr : Nat → Nat → Nat} {Q : Option Value → AH → Prop}
theorem D_new {c n idx : Nat} (hd : decode M.2.1 pc = .ok (.new idx, 3)) (hN : NL M.1.cls idx c n) (k : EW X M (pc + 3) ls (.ref (172 + dl.length) :: rest) (hp X (dl ++ [(c, n)]) (va_up mI (172 + dl.length) (fun _ => 0)) (va_up dr (172 + dl.length) (fun _ => 0))) Q) : EW X M pc ls rest (hp X dl mI dr) Q := by
  refine P_new hd hN ?_
  rw [nw_hp, show (hp X dl mI dr).1.length = 172 + dl.length from lf_len X dl]
  exact k
theorem D_newa {j : Nat} (hd : decode M.2.1 pc = .ok (.newarray .int, 2)) (hs : j < 65536) (k : EW X M (pc + 2) ls (.ref (172 + dl.length) :: rest) (hp X (dl ++ [(20, j)]) (va_up mI (172 + dl.length) (fun _ => 0)) (va_up dr (172 + dl.length) (fun _ => 0))) Q) : EW X M pc ls (.int (nI j) :: rest) (hp X dl mI dr) Q := by
  refine P_newa (n := j) hd (Or.inl ⟨rfl, rfl⟩) (nI_pos (by omega)) (nI_clamp (by omega)) hs ?_
  rw [nw_hp, show (hp X dl mI dr).1.length = 172 + dl.length from lf_len X dl]
  exact k
theorem D_anew {j t idx : Nat} {C : String} (hd : decode M.2.1 pc = .ok (.anewarray idx, 3)) (hC : RT t C) (hlk : Cond.classLink M.1.cls idx C ∈ tbG) (hs : j < 65536) (k : EW X M (pc + 3) ls (.ref (172 + dl.length) :: rest) (hp X (dl ++ [(t, j)]) (va_up mI (172 + dl.length) (fun _ => 0)) (va_up dr (172 + dl.length) (fun _ => 0))) Q) : EW X M pc ls (.int (nI j) :: rest) (hp X dl mI dr) Q := by
  refine P_anew (n := j) hd hC hlk (nI_pos (by omega)) (nI_clamp (by omega)) hs ?_
  rw [nw_hp, show (hp X dl mI dr).1.length = 172 + dl.length from lf_len X dl]
  exact k
theorem D_putR {idx c f n r x : Nat} {fin : Bool} (hd : decode M.2.1 pc = .ok (.putfield idx, 3)) (hF : FL M.1.cls idx c f fin) (hfi : fin = true → M.1.name = "<init>") (hb : rf c f = true) (hr : 172 ≤ r) (hl : dl[r - 172]? = some (c, n)) (hn : f < n) (k : EW X M (pc + 3) ls rest (hp X dl mI (sR dr r f x)) Q) : EW X M pc ls (.ref x :: .ref r :: rest) (hp X dl mI dr) Q := by
  refine P_putR hd hF hfi hb (show (lf X dl)[r]? = some (c, n) by rw [lf_d X hr]; exact hl) hn ?_
  rw [wR_hp (Or.inl hr)]
  exact k
theorem D_aast {i : Int32} {j r n t v c N : Nat} {C : String} {T : u_T} {N2 : Nat} {ty : Nat → FieldType} (hd : decode M.2.1 pc = .ok (.aastore, 1)) (hC : RT t C) (hr : 172 ≤ r ∨ r = 126) (hl : (lf X dl)[r]? = some (t, n)) (hi : i = nI j) (hj : j < n) (hn : n < 65536) (hv : (lf X dl)[v]? = some (c, N)) (hc : Cl c C T N2 ty) (k : EW X M (pc + 1) ls rest (hp X dl mI (sR dr r j v)) Q) : EW X M pc ls (.ref v :: .int i :: .ref r :: rest) (hp X dl mI dr) Q := by
  subst hi
  refine P_aast hd hC hl (vp_in_nI hj (by omega)) hv hc ?_
  rw [nI_clamp (by omega), wR_hp hr]
  exact k
theorem D_aastN {i : Int32} {j r n t : Nat} {C : String} (hd : decode M.2.1 pc = .ok (.aastore, 1)) (hC : RT t C) (hr : 172 ≤ r ∨ r = 126) (hl : (lf X dl)[r]? = some (t, n)) (hi : i = nI j) (hj : j < n) (hn : n < 65536) (k : EW X M (pc + 1) ls rest (hp X dl mI (sR dr r j 0)) Q) : EW X M pc ls (.ref 0 :: .int i :: .ref r :: rest) (hp X dl mI dr) Q := by
  subst hi
  refine P_aastN hd hC hl (vp_in_nI hj (by omega)) ?_
  rw [nI_clamp (by omega), wR_hp hr]
  exact k
end DRules
/-! what registers are -/
abbrev PL : Type := List (Option (Nat × Int32))
/-- registers by their numbers: the pages by their places, 0 for a missing one; the lines of a page -/
abbrev RS : Type := (Nat → Option (List Nat)) × (Nat → PL)
def lnC (o : Option (Nat × Int32)) (s v : Int32) : Prop := match o with
  | none => s = nI 2
  | some (c, w) => s = nI c ∧ v = w ∧ c ≤ 1
def PgR (dl : List (Nat × Nat)) (dr : Nat → Nat → Nat) (mI : Nat → Nat → Int32) (a : Nat) (L : PL) : Prop := 172 ≤ a ∧ dl[a - 172]? = some (9, 2) ∧ dl[a + 1 - 172]? = some (20, L.length) ∧ dl[a + 2 - 172]? = some (20, L.length) ∧ dr a 0 = a + 1 ∧ dr a 1 = a + 2 ∧ L.length ≤ 6 ∧ ∀ i, i < L.length → lnC (L.getD i none) (mI (a + 1) i) (mI (a + 2) i)
def RgR (dl : List (Nat × Nat)) (dr : Nat → Nat → Nat) (mI : Nat → Nat → Int32) (C : Nat → PL) (a : Nat) (l : List Nat) : Prop := 172 ≤ a ∧ dl[a - 172]? = some (8, 1) ∧ dl[a + 1 - 172]? = some (24, l.length) ∧ dr a 0 = a + 1 ∧ l.length ≤ 5 ∧ ∀ p, p < l.length → dr (a + 1) p = l.getD p 0 ∧ (l.getD p 0 ≠ 0 → PgR dl dr mI (l.getD p 0) (C (l.getD p 0)))
def CG (S : RS) (dl : List (Nat × Nat)) (dr : Nat → Nat → Nat) (mI : Nat → Nat → Int32) : Prop := (∀ g, g < 3 → (S.1 g = none → dr 126 g = 0) ∧ ∀ l, S.1 g = some l → RgR dl dr mI S.2 (dr 126 g) l) ∧ ∀ g g', g < 3 → g' < 3 → g ≠ g' → dr 126 g ≠ 0 → dr 126 g ≠ dr 126 g'
section Rg
variable {dl : List (Nat × Nat)} {dr : Nat → Nat → Nat} {mI : Nat → Nat → Int32} {C : Nat → PL} {a : Nat} {l : List Nat} {L : PL}
theorem RgR.l1 (h : RgR dl dr mI C a l) (X : CX) : (lf X dl)[a]? = some (8, 1) := by rw [lf_d X h.1]; exact h.2.1
theorem RgR.l2 (h : RgR dl dr mI C a l) (X : CX) : (lf X dl)[a + 1]? = some (24, l.length) := by rw [lf_d X (by have := h.1; omega)]; exact h.2.2.1
theorem RgR.f (h : RgR dl dr mI C a l) : fR dr a 0 = a + 1 := by rw [fR_d (Or.inl h.1)]; exact h.2.2.2.1
theorem RgR.p (h : RgR dl dr mI C a l) {p : Nat} (hp1 : p < l.length) : fR dr (a + 1) p = l.getD p 0 := by rw [fR_d (Or.inl (by have := h.1; omega))]; exact (h.2.2.2.2.2 p hp1).1
theorem RgR.z (h : RgR dl dr mI C a l) {p : Nat} (hp1 : p < l.length) : l.getD p 0 = 0 ∨ 32 ≤ l.getD p 0 := by
  by_cases z : l.getD p 0 = 0
  · exact Or.inl z
  · have := ((h.2.2.2.2.2 p hp1).2 z).1; exact Or.inr (by omega)
theorem PgR.l1 (h : PgR dl dr mI a L) (X : CX) : (lf X dl)[a]? = some (9, 2) := by rw [lf_d X h.1]; exact h.2.1
theorem PgR.l2 (h : PgR dl dr mI a L) (X : CX) : (lf X dl)[a + 1]? = some (20, L.length) := by rw [lf_d X (by have := h.1; omega)]; exact h.2.2.1
theorem PgR.l3 (h : PgR dl dr mI a L) (X : CX) : (lf X dl)[a + 2]? = some (20, L.length) := by rw [lf_d X (by have := h.1; omega)]; exact h.2.2.2.1
theorem PgR.f0 (h : PgR dl dr mI a L) : fR dr a 0 = a + 1 := by rw [fR_d (Or.inl h.1)]; exact h.2.2.2.2.1
theorem PgR.f1 (h : PgR dl dr mI a L) : fR dr a 1 = a + 2 := by rw [fR_d (Or.inl h.1)]; exact h.2.2.2.2.2.1
end Rg
/-! counts -/
def thC (l : List Nat) : Nat → Nat
  | 0 => 0
  | p + 1 => thC l p + if l.getD p 0 = 0 then 0 else 1
abbrev fsP (l : List Nat) (p : Nat) : Prop := (∀ q, q < p → l.getD q 0 ≠ l.getD p 0) ∧ l.getD p 0 ≠ 0
def unC (l : List Nat) : Nat → Nat
  | 0 => 0
  | p + 1 => unC l p + if fsP l p then 1 else 0
def flC (L : PL) : Nat → Nat
  | 0 => 0
  | i + 1 => flC L i + if L.getD i none = none then 0 else 1
def fiC (C : Nat → PL) (l : List Nat) : Nat → Nat
  | 0 => 0
  | p + 1 => fiC C l p + if fsP l p then flC (C (l.getD p 0)) (C (l.getD p 0)).length else 0
theorem thC_le (l : List Nat) : ∀ p, thC l p ≤ p
  | 0 => Nat.le_refl _
  | p + 1 => by have := thC_le l p; rw [thC]; split <;> omega
theorem unC_le (l : List Nat) : ∀ p, unC l p ≤ p
  | 0 => Nat.le_refl _
  | p + 1 => by have := unC_le l p; rw [unC]; split <;> omega
theorem flC_le (L : PL) : ∀ p, flC L p ≤ p
  | 0 => Nat.le_refl _
  | p + 1 => by have := flC_le L p; rw [flC]; split <;> omega
theorem lnC_2 {o : Option (Nat × Int32)} {s v : Int32} (h : lnC o s v) : s = nI 2 ↔ o = none := by
  match o, h with
  | none, h => exact ⟨fun _ => rfl, fun _ => h⟩
  | some (c, w), h =>
    have h1 : s = nI c := h.1
    have h2 : c ≤ 1 := h.2.2
    exact ⟨fun z => by rw [h1, nI_eq (by omega) (by omega)] at z; omega, fun z => nomatch z⟩
theorem c_Rg_hasPlace {X : CX} {dl : List (Nat × Nat)} {mI : Nat → Nat → Int32} {dr : Nat → Nat → Nat} {Q : Option Value → AH → Prop} {C : Nat → PL} {a : Nat} {l : List Nat} (R : RgR dl dr mI C a l) {x : Int32} (k : Q (some (.int (bI (inN x l.length)))) (hp X dl mI dr)) : EW X m_Rg_hasPlace 0 (enL m_Rg_hasPlace.2.2.1 [.ref a, .int x]) [] (hp X dl mI dr) Q := by
  show EW X m_Rg_hasPlace 0 [.ref a, .int x] [] (hp X dl mI dr) Q
  have h5 := R.2.2.2.2.1
  refine g_iload_n d_Rg_hasPlace_0 rfl ?_
  refine N_iconst d_Rg_hasPlace_1 0 rfl ?_
  refine g_aload_n d_Rg_hasPlace_2 rfl ?_
  refine H_getR (a + 1) d_Rg_hasPlace_3 f_Rg_15.g rfl (R.l1 X) (by decide) R.f ?_
  refine P_alen d_Rg_hasPlace_6 (by decide) (R.l2 X) ?_
  refine N_iconst d_Rg_hasPlace_7 1 rfl ?_
  refine P_isub d_Rg_hasPlace_8 ?_
  refine C_S3 d_Rg_hasPlace_9 k_Rg_21 (Nat.le_of_ble_eq_true rfl) (by decide) (Nat.le_of_ble_eq_true rfl) ?_
  refine c_Pn_isWithin ?_
  refine P_zret d_Rg_hasPlace_12 rfl (bI_01 _) ?_
  refine R_i k (bI_iff ?_)
  rw [Int32.le_iff_toInt_le, Int32.le_iff_toInt_le, nI_m1 (by omega), nI_toInt (by omega)]
  constructor <;> intro z <;> constructor <;> omega

theorem lp_Rg_pagesThere {X : CX} {dl : List (Nat × Nat)} {mI : Nat → Nat → Int32} {dr : Nat → Nat → Nat} {Q : Option Value → AH → Prop} {C : Nat → PL} {a : Nat} {l : List Nat} (R : RgR dl dr mI C a l) (k : Q (some (.int (nI (thC l l.length)))) (hp X dl mI dr)) : ∀ (d : Nat) (p : Nat), (p ≤ l.length) → l.length - p = d → EW X m_Rg_pagesThere 4 [.ref a, .int (nI (thC l p)), .int (nI p)] [] (hp X dl mI dr) Q := by
  intro d
  induction d using Nat.strongRecOn with
  | _ d ih =>
    intro p hp1 hd
    have h5 := R.2.2.2.2.1
    refine g_iload_n d_Rg_pagesThere_4 rfl ?_
    refine g_aload_n d_Rg_pagesThere_5 rfl ?_
    refine H_getR (a + 1) d_Rg_pagesThere_6 f_Rg_15.g rfl (R.l1 X) (by decide) R.f ?_
    refine P_alen d_Rg_pagesThere_9 (by decide) (R.l2 X) ?_
    refine N_icmp_ge d_Rg_pagesThere_10 31 (by decide) ⟨by omega, by omega⟩ (fun c1 => ?_) (fun c1 => ?_)
    · refine g_iload_n d_Rg_pagesThere_31 rfl ?_
      refine P_iret d_Rg_pagesThere_32 rfl ?_
      rw [show l.length = p by omega] at k
      exact k
    · refine g_aload_n d_Rg_pagesThere_13 rfl ?_
      refine H_getR (a + 1) d_Rg_pagesThere_14 f_Rg_15.g rfl (R.l1 X) (by decide) R.f ?_
      refine g_iload_n d_Rg_pagesThere_17 rfl ?_
      refine H_aaldN (v := (l.getD p 0)) d_Rg_pagesThere_18 (Or.inr (Or.inr ⟨rfl, rfl⟩)) (R.l2 X) rfl c1 (by omega) (R.p c1) ?_
      refine P_ifnull d_Rg_pagesThere_19 25 (by decide) (fun c2 => ?_) (fun c2 => ?_)
      · refine N_iinc_3_2_1 d_Rg_pagesThere_25 rfl rfl ?_
        refine P_goto d_Rg_pagesThere_28 4 (by decide) ?_
        have e : thC l p = thC l (p + 1) := by rw [thC, if_pos c2]; rfl
        rw [e]
        exact ih _ (by omega) (p + 1) (by omega) rfl
      · refine N_iinc_3_1_1 d_Rg_pagesThere_22 rfl rfl ?_
        refine N_iinc_3_2_1 d_Rg_pagesThere_25 rfl rfl ?_
        refine P_goto d_Rg_pagesThere_28 4 (by decide) ?_
        have e : thC l p + 1 = thC l (p + 1) := by rw [thC, if_neg c2]
        rw [e]
        exact ih _ (by omega) (p + 1) (by omega) rfl

theorem c_Rg_pagesThere {X : CX} {dl : List (Nat × Nat)} {mI : Nat → Nat → Int32} {dr : Nat → Nat → Nat} {Q : Option Value → AH → Prop} {C : Nat → PL} {a : Nat} {l : List Nat} (R : RgR dl dr mI C a l) (k : Q (some (.int (nI (thC l l.length)))) (hp X dl mI dr)) : EW X m_Rg_pagesThere 0 (enL m_Rg_pagesThere.2.2.1 [.ref a]) [] (hp X dl mI dr) Q := by
  show EW X m_Rg_pagesThere 0 [.ref a, jk, jk] [] (hp X dl mI dr) Q
  refine N_iconst d_Rg_pagesThere_0 0 rfl ?_
  refine S_istore_n_3_1 d_Rg_pagesThere_1 rfl rfl ?_
  refine N_iconst d_Rg_pagesThere_2 0 rfl ?_
  refine S_istore_n_3_2 d_Rg_pagesThere_3 rfl rfl ?_
  exact lp_Rg_pagesThere R k _ 0 (Nat.zero_le _) rfl

theorem lp_Rg_isFirst {X : CX} {dl : List (Nat × Nat)} {mI : Nat → Nat → Int32} {dr : Nat → Nat → Nat} {Q : Option Value → AH → Prop} {C : Nat → PL} {a : Nat} {l : List Nat} (R : RgR dl dr mI C a l) {p : Nat} (hp1 : p < l.length) (k : Q (some (.int (bI (fsP l p)))) (hp X dl mI dr)) : ∀ (d : Nat) (q : Nat), (q ≤ p) → (∀ j, j < q → l.getD j 0 ≠ l.getD p 0) → p - q = d → EW X m_Rg_isFirstOfItsPage 2 [.ref a, .int (nI p), .int (nI q)] [] (hp X dl mI dr) Q := by
  intro d
  induction d using Nat.strongRecOn with
  | _ d ih =>
    intro q hq hn hd
    have h5 := R.2.2.2.2.1
    refine g_iload_n d_Rg_isFirstOfItsPage_2 rfl ?_
    refine g_iload_n d_Rg_isFirstOfItsPage_3 rfl ?_
    refine N_icmp_ge d_Rg_isFirstOfItsPage_4 30 (by decide) ⟨by omega, by omega⟩ (fun c1 => ?_) (fun c1 => ?_)
    · refine g_aload_n d_Rg_isFirstOfItsPage_30 rfl ?_
      refine H_getR (a + 1) d_Rg_isFirstOfItsPage_31 f_Rg_15.g rfl (R.l1 X) (by decide) R.f ?_
      refine g_iload_n d_Rg_isFirstOfItsPage_34 rfl ?_
      refine H_aaldN (v := (l.getD p 0)) d_Rg_isFirstOfItsPage_35 (Or.inr (Or.inr ⟨rfl, rfl⟩)) (R.l2 X) rfl hp1 (by omega) (R.p hp1) ?_
      refine P_ifnull d_Rg_isFirstOfItsPage_36 43 (by decide) (fun c2 => ?_) (fun c2 => ?_)
      · refine N_iconst d_Rg_isFirstOfItsPage_43 0 rfl ?_
        refine P_zret d_Rg_isFirstOfItsPage_44 rfl (by decide) ?_
        first | exact R_i k (bI_t' ⟨fun j hj => hn j (by omega), c2⟩) | exact R_i k (bI_f' (fun z => z.2 c2))
      · refine N_iconst d_Rg_isFirstOfItsPage_39 1 rfl ?_
        refine P_goto d_Rg_isFirstOfItsPage_40 44 (by decide) ?_
        refine P_zret d_Rg_isFirstOfItsPage_44 rfl (by decide) ?_
        first | exact R_i k (bI_t' ⟨fun j hj => hn j (by omega), c2⟩) | exact R_i k (bI_f' (fun z => z.2 c2))
    · refine g_aload_n d_Rg_isFirstOfItsPage_7 rfl ?_
      refine H_getR (a + 1) d_Rg_isFirstOfItsPage_8 f_Rg_15.g rfl (R.l1 X) (by decide) R.f ?_
      refine g_iload_n d_Rg_isFirstOfItsPage_11 rfl ?_
      refine H_aaldN (v := (l.getD q 0)) d_Rg_isFirstOfItsPage_12 (Or.inr (Or.inr ⟨rfl, rfl⟩)) (R.l2 X) rfl (show q < l.length by omega) (by omega) (R.p (show q < l.length by omega)) ?_
      refine g_aload_n d_Rg_isFirstOfItsPage_13 rfl ?_
      refine H_getR (a + 1) d_Rg_isFirstOfItsPage_14 f_Rg_15.g rfl (R.l1 X) (by decide) R.f ?_
      refine g_iload_n d_Rg_isFirstOfItsPage_17 rfl ?_
      refine H_aaldN (v := (l.getD p 0)) d_Rg_isFirstOfItsPage_18 (Or.inr (Or.inr ⟨rfl, rfl⟩)) (R.l2 X) rfl hp1 (by omega) (R.p hp1) ?_
      refine P_acmp_ne d_Rg_isFirstOfItsPage_19 24 (by decide) (R.z (by omega)) (R.z hp1) (fun c3 => ?_) (fun c3 => ?_)
      · refine N_iinc_3_2_1 d_Rg_isFirstOfItsPage_24 rfl rfl ?_
        refine P_goto d_Rg_isFirstOfItsPage_27 2 (by decide) ?_
        exact ih _ (by omega) (q + 1) (by omega) (fun j hj => by
          rcases (show j = q ∨ j < q by omega) with rfl | z
          · exact c3
          · exact hn j z) rfl
      · refine N_iconst d_Rg_isFirstOfItsPage_22 0 rfl ?_
        refine P_zret d_Rg_isFirstOfItsPage_23 rfl (by decide) ?_
        exact R_i k (bI_f' (fun z => z.1 q (by omega) c3))

theorem c_Rg_isFirstOfItsPage {X : CX} {dl : List (Nat × Nat)} {mI : Nat → Nat → Int32} {dr : Nat → Nat → Nat} {Q : Option Value → AH → Prop} {C : Nat → PL} {a : Nat} {l : List Nat} (R : RgR dl dr mI C a l) {p : Nat} (hp1 : p < l.length) (k : Q (some (.int (bI (fsP l p)))) (hp X dl mI dr)) : EW X m_Rg_isFirstOfItsPage 0 (enL m_Rg_isFirstOfItsPage.2.2.1 [.ref a, .int (nI p)]) [] (hp X dl mI dr) Q := by
  show EW X m_Rg_isFirstOfItsPage 0 [.ref a, .int (nI p), jk] [] (hp X dl mI dr) Q
  refine N_iconst d_Rg_isFirstOfItsPage_0 0 rfl ?_
  refine S_istore_n_3_2 d_Rg_isFirstOfItsPage_1 rfl rfl ?_
  exact lp_Rg_isFirst R hp1 k _ 0 (Nat.zero_le _) (fun j hj => absurd hj (Nat.not_lt_zero _)) rfl

theorem lp_Rg_unlike {X : CX} {dl : List (Nat × Nat)} {mI : Nat → Nat → Int32} {dr : Nat → Nat → Nat} {Q : Option Value → AH → Prop} {C : Nat → PL} {a : Nat} {l : List Nat} (R : RgR dl dr mI C a l) (k : Q (some (.int (nI (unC l l.length)))) (hp X dl mI dr)) : ∀ (d : Nat) (p : Nat), (p ≤ l.length) → l.length - p = d → EW X m_Rg_unlikePages 4 [.ref a, .int (nI (unC l p)), .int (nI p)] [] (hp X dl mI dr) Q := by
  intro d
  induction d using Nat.strongRecOn with
  | _ d ih =>
    intro p hp1 hd
    have h5 := R.2.2.2.2.1
    refine g_iload_n d_Rg_unlikePages_4 rfl ?_
    refine g_aload_n d_Rg_unlikePages_5 rfl ?_
    refine H_getR (a + 1) d_Rg_unlikePages_6 f_Rg_15.g rfl (R.l1 X) (by decide) R.f ?_
    refine P_alen d_Rg_unlikePages_9 (by decide) (R.l2 X) ?_
    refine N_icmp_ge d_Rg_unlikePages_10 30 (by decide) ⟨by omega, by omega⟩ (fun c1 => ?_) (fun c1 => ?_)
    · refine g_iload_n d_Rg_unlikePages_30 rfl ?_
      refine P_iret d_Rg_unlikePages_31 rfl ?_
      rw [show l.length = p by omega] at k
      exact k
    · refine g_aload_n d_Rg_unlikePages_13 rfl ?_
      refine g_iload_n d_Rg_unlikePages_14 rfl ?_
      refine C_V1 d_Rg_unlikePages_15 k_Rg_27 (R.l1 X) (Nat.le_of_ble_eq_true rfl) (by decide) (Nat.le_of_ble_eq_true rfl) ?_
      refine (c_Rg_isFirstOfItsPage R c1) ?_
      refine B_eq d_Rg_unlikePages_18 24 (by decide) (fun c2 => ?_) (fun c2 => ?_)
      · refine N_iinc_3_2_1 d_Rg_unlikePages_24 rfl rfl ?_
        refine P_goto d_Rg_unlikePages_27 4 (by decide) ?_
        have e : unC l p = unC l (p + 1) := by rw [unC, if_neg c2]; rfl
        rw [e]
        exact ih _ (by omega) (p + 1) (by omega) rfl
      · refine N_iinc_3_1_1 d_Rg_unlikePages_21 rfl rfl ?_
        refine N_iinc_3_2_1 d_Rg_unlikePages_24 rfl rfl ?_
        refine P_goto d_Rg_unlikePages_27 4 (by decide) ?_
        have e : unC l p + 1 = unC l (p + 1) := by rw [unC, if_pos c2]
        rw [e]
        exact ih _ (by omega) (p + 1) (by omega) rfl

theorem c_Rg_unlikePages {X : CX} {dl : List (Nat × Nat)} {mI : Nat → Nat → Int32} {dr : Nat → Nat → Nat} {Q : Option Value → AH → Prop} {C : Nat → PL} {a : Nat} {l : List Nat} (R : RgR dl dr mI C a l) (k : Q (some (.int (nI (unC l l.length)))) (hp X dl mI dr)) : EW X m_Rg_unlikePages 0 (enL m_Rg_unlikePages.2.2.1 [.ref a]) [] (hp X dl mI dr) Q := by
  show EW X m_Rg_unlikePages 0 [.ref a, jk, jk] [] (hp X dl mI dr) Q
  refine N_iconst d_Rg_unlikePages_0 0 rfl ?_
  refine S_istore_n_3_1 d_Rg_unlikePages_1 rfl rfl ?_
  refine N_iconst d_Rg_unlikePages_2 0 rfl ?_
  refine S_istore_n_3_2 d_Rg_unlikePages_3 rfl rfl ?_
  exact lp_Rg_unlike R k _ 0 (Nat.zero_le _) rfl

theorem lp_Pg_filled {X : CX} {dl : List (Nat × Nat)} {mI : Nat → Nat → Int32} {dr : Nat → Nat → Nat} {Q : Option Value → AH → Prop} {a : Nat} {L : PL} (G : PgR dl dr mI a L) (k : Q (some (.int (nI (flC L L.length)))) (hp X dl mI dr)) : ∀ (d : Nat) (i : Nat), (i ≤ L.length) → L.length - i = d → EW X m_Pg_filled 4 [.ref a, .int (nI (flC L i)), .int (nI i)] [] (hp X dl mI dr) Q := by
  intro d
  induction d using Nat.strongRecOn with
  | _ d ih =>
    intro i hi hd
    have h6 := G.2.2.2.2.2.2.1
    refine g_iload_n d_Pg_filled_4 rfl ?_
    refine g_aload_n d_Pg_filled_5 rfl ?_
    refine H_getR (a + 1) d_Pg_filled_6 f_Pg_13.g rfl (G.l1 X) (by decide) G.f0 ?_
    refine P_alen d_Pg_filled_9 (by decide) (G.l2 X) ?_
    refine N_icmp_ge d_Pg_filled_10 32 (by decide) ⟨by omega, by omega⟩ (fun c1 => ?_) (fun c1 => ?_)
    · refine g_iload_n d_Pg_filled_32 rfl ?_
      refine P_iret d_Pg_filled_33 rfl ?_
      rw [show L.length = i by omega] at k
      exact k
    · refine g_aload_n d_Pg_filled_13 rfl ?_
      refine H_getR (a + 1) d_Pg_filled_14 f_Pg_13.g rfl (G.l1 X) (by decide) G.f0 ?_
      refine g_iload_n d_Pg_filled_17 rfl ?_
      refine H_ialdN d_Pg_filled_18 (G.l2 X) rfl c1 (by omega) ?_
      refine N_iconst d_Pg_filled_19 2 rfl ?_
      refine P_icmp_eq d_Pg_filled_20 26 (by decide) (fun c2 => ?_) (fun c2 => ?_)
      · refine N_iinc_3_2_1 d_Pg_filled_26 rfl rfl ?_
        refine P_goto d_Pg_filled_29 4 (by decide) ?_
        have e : flC L i = flC L (i + 1) := by rw [flC, if_pos ((lnC_2 (G.2.2.2.2.2.2.2 i c1)).mp c2)]; rfl
        rw [e]
        exact ih _ (by omega) (i + 1) (by omega) rfl
      · refine N_iinc_3_1_1 d_Pg_filled_23 rfl rfl ?_
        refine N_iinc_3_2_1 d_Pg_filled_26 rfl rfl ?_
        refine P_goto d_Pg_filled_29 4 (by decide) ?_
        have e : flC L i + 1 = flC L (i + 1) := by rw [flC, if_neg (fun z => c2 ((lnC_2 (G.2.2.2.2.2.2.2 i c1)).mpr z))]
        rw [e]
        exact ih _ (by omega) (i + 1) (by omega) rfl

theorem c_Pg_filled {X : CX} {dl : List (Nat × Nat)} {mI : Nat → Nat → Int32} {dr : Nat → Nat → Nat} {Q : Option Value → AH → Prop} {a : Nat} {L : PL} (G : PgR dl dr mI a L) (k : Q (some (.int (nI (flC L L.length)))) (hp X dl mI dr)) : EW X m_Pg_filled 0 (enL m_Pg_filled.2.2.1 [.ref a]) [] (hp X dl mI dr) Q := by
  show EW X m_Pg_filled 0 [.ref a, jk, jk] [] (hp X dl mI dr) Q
  refine N_iconst d_Pg_filled_0 0 rfl ?_
  refine S_istore_n_3_1 d_Pg_filled_1 rfl rfl ?_
  refine N_iconst d_Pg_filled_2 0 rfl ?_
  refine S_istore_n_3_2 d_Pg_filled_3 rfl rfl ?_
  exact lp_Pg_filled G k _ 0 (Nat.zero_le _) rfl

theorem lp_Rg_filledLines {X : CX} {dl : List (Nat × Nat)} {mI : Nat → Nat → Int32} {dr : Nat → Nat → Nat} {Q : Option Value → AH → Prop} {C : Nat → PL} {a : Nat} {l : List Nat} (R : RgR dl dr mI C a l) (k : Q (some (.int (nI (fiC C l l.length)))) (hp X dl mI dr)) : ∀ (d : Nat) (p : Nat), (p ≤ l.length) → l.length - p = d → EW X m_Rg_filledLines 4 [.ref a, .int (nI (fiC C l p)), .int (nI p)] [] (hp X dl mI dr) Q := by
  intro d
  induction d using Nat.strongRecOn with
  | _ d ih =>
    intro p hp1 hd
    have h5 := R.2.2.2.2.1
    refine g_iload_n d_Rg_filledLines_4 rfl ?_
    refine g_aload_n d_Rg_filledLines_5 rfl ?_
    refine H_getR (a + 1) d_Rg_filledLines_6 f_Rg_15.g rfl (R.l1 X) (by decide) R.f ?_
    refine P_alen d_Rg_filledLines_9 (by decide) (R.l2 X) ?_
    refine N_icmp_ge d_Rg_filledLines_10 39 (by decide) ⟨by omega, by omega⟩ (fun c1 => ?_) (fun c1 => ?_)
    · refine g_iload_n d_Rg_filledLines_39 rfl ?_
      refine P_iret d_Rg_filledLines_40 rfl ?_
      rw [show l.length = p by omega] at k
      exact k
    · refine g_aload_n d_Rg_filledLines_13 rfl ?_
      refine g_iload_n d_Rg_filledLines_14 rfl ?_
      refine C_V1 d_Rg_filledLines_15 k_Rg_27 (R.l1 X) (Nat.le_of_ble_eq_true rfl) (by decide) (Nat.le_of_ble_eq_true rfl) ?_
      refine (c_Rg_isFirstOfItsPage R c1) ?_
      refine B_eq d_Rg_filledLines_18 33 (by decide) (fun c2 => ?_) (fun c2 => ?_)
      · refine N_iinc_3_2_1 d_Rg_filledLines_33 rfl rfl ?_
        refine P_goto d_Rg_filledLines_36 4 (by decide) ?_
        have e : fiC C l p = fiC C l (p + 1) := by rw [fiC, if_neg c2]; rfl
        rw [e]
        exact ih _ (by omega) (p + 1) (by omega) rfl
      · have G := (R.2.2.2.2.2 p c1).2 c2.2
        refine g_iload_n d_Rg_filledLines_21 rfl ?_
        refine g_aload_n d_Rg_filledLines_22 rfl ?_
        refine H_getR (a + 1) d_Rg_filledLines_23 f_Rg_15.g rfl (R.l1 X) (by decide) R.f ?_
        refine g_iload_n d_Rg_filledLines_26 rfl ?_
        refine H_aaldN (v := (l.getD p 0)) d_Rg_filledLines_27 (Or.inr (Or.inr ⟨rfl, rfl⟩)) (R.l2 X) rfl c1 (by omega) (R.p c1) ?_
        refine C_V0 d_Rg_filledLines_28 k_Rg_31 (G.l1 X) (Nat.le_of_ble_eq_true rfl) (by decide) (Nat.le_of_ble_eq_true rfl) ?_
        refine (c_Pg_filled G) ?_
        refine N_iadd d_Rg_filledLines_31 ?_
        refine S_istore_n_3_1 d_Rg_filledLines_32 rfl rfl ?_
        refine N_iinc_3_2_1 d_Rg_filledLines_33 rfl rfl ?_
        refine P_goto d_Rg_filledLines_36 4 (by decide) ?_
        have e : fiC C l p + flC (C (l.getD p 0)) (C (l.getD p 0)).length = fiC C l (p + 1) := by rw [fiC, if_pos c2]
        rw [e]
        exact ih _ (by omega) (p + 1) (by omega) rfl

theorem c_Rg_filledLines {X : CX} {dl : List (Nat × Nat)} {mI : Nat → Nat → Int32} {dr : Nat → Nat → Nat} {Q : Option Value → AH → Prop} {C : Nat → PL} {a : Nat} {l : List Nat} (R : RgR dl dr mI C a l) (k : Q (some (.int (nI (fiC C l l.length)))) (hp X dl mI dr)) : EW X m_Rg_filledLines 0 (enL m_Rg_filledLines.2.2.1 [.ref a]) [] (hp X dl mI dr) Q := by
  show EW X m_Rg_filledLines 0 [.ref a, jk, jk] [] (hp X dl mI dr) Q
  refine N_iconst d_Rg_filledLines_0 0 rfl ?_
  refine S_istore_n_3_1 d_Rg_filledLines_1 rfl rfl ?_
  refine N_iconst d_Rg_filledLines_2 0 rfl ?_
  refine S_istore_n_3_2 d_Rg_filledLines_3 rfl rfl ?_
  exact lp_Rg_filledLines R k _ 0 (Nat.zero_le _) rfl

