def tN (x : Int32) : Nat := x.toInt.toNat
theorem tN_nI {j : Nat} (h : j < 2 ^ 31) : tN (nI j) = j := by unfold tN; rw [nI_toInt h]; rfl
/-! WHAT IS DONE WITH REGISTERS: the new ones, and the answer; a new page gets the number a -/
def flP (S : RS) (o p o' q : Int32) : Int32 := match S.1 (tN o), S.1 (tN o') with
  | some l, some l' => if inN p l.length ∧ inN q l'.length then 0 else -12
  | _, _ => -11
def flL (S : RS) (g p i : Int32) : Int32 := match S.1 (tN g) with
  | none => -11
  | some l => if ¬ inN p l.length then -12 else if l.getD (tN p) 0 = 0 then -13 else if inN i (S.2 (l.getD (tN p) 0)).length then 0 else -14
def oReg (S : RS) (g n : Int32) : RS × Int32 := if ¬ inN g 3 then (S, -2) else if 5 < n.toInt then (S, -3) else if n.toInt < 0 then (S, -17) else ((va_up S.1 (tN g) (some (List.replicate (tN n) 0)), S.2), n)
def oPag (S : RS) (a : Nat) (g p n : Int32) : RS × Int32 := if ¬ inN g 3 then (S, -2) else if 6 < n.toInt then (S, -3) else match S.1 (tN g) with
  | none => (S, -11)
  | some l => if ¬ inN p l.length then (S, -12) else if n.toInt < 0 then (S, -17) else ((va_up S.1 (tN g) (some (l.set (tN p) a)), va_up S.2 a (List.replicate (tN n) none)), n)
def pgE (S : RS) (g p : Int32) : Nat := match S.1 (tN g) with
  | none => 0
  | some l => l.getD (tN p) 0
def oBin (S : RS) (o p o' q : Int32) : RS × Int32 := if ¬ inN o 3 ∨ ¬ inN o' 3 then (S, -2) else if flP S o p o' q ≠ 0 then (S, flP S o p o' q) else
  match S.1 (tN o') with
  | none => (S, 0)
  | some l' => ((va_up S.1 (tN o') (some (l'.set (tN q) (pgE S o p))), S.2), 1)
def oSam (S : RS) (o p o' q : Int32) : Int32 := if ¬ inN o 3 ∨ ¬ inN o' 3 then -2 else if flP S o p o' q ≠ 0 then flP S o p o' q else if pgE S o p = 0 ∨ pgE S o' q = 0 then -13 else if pgE S o p = pgE S o' q then 1 else 0
def enO (what v : Int32) : Option (Nat × Int32) := if what.toInt = 2 then none else some (tN what, v)
def oEnt (S : RS) (P : Nat) (g p i what v : Int32) : RS × Int32 := if ¬ inN g 3 ∨ (what = nI 1 ∧ ¬ inN v P) then (S, -2) else if ¬ inN what 3 ∨ (what = nI 0 ∧ ¬ (-9999 ≤ v.toInt ∧ v.toInt ≤ 9999)) then (S, -3) else if flL S g p i ≠ 0 then (S, flL S g p i) else
  ((S.1, va_up S.2 (pgE S g p) ((S.2 (pgE S g p)).set (tN i) (enO what v))), 1)
def rdV (o : Option (Nat × Int32)) (y : Nat) : Int32 := match o with
  | none => -15
  | some (c, v) => if c ≠ y then -16 else if c = 0 then v + 50000 else v
def oRea (S : RS) (g p i what : Int32) : Int32 := if ¬ inN g 3 then -2 else if ¬ inN what 2 then -3 else if flL S g p i ≠ 0 then flL S g p i else
  rdV ((S.2 (pgE S g p)).getD (tN i) none) (tN what)
def oPgs (S : RS) (g what : Int32) : Int32 := if ¬ inN g 3 then -2 else if ¬ inN what 4 then -3 else match S.1 (tN g) with
  | none => -11
  | some l => if what = nI 0 then nI l.length else if what = nI 1 then nI (thC l l.length) else if what = nI 2 then nI (unC l l.length) else nI (fiC S.2 l l.length)
def oDro (S : RS) (g : Int32) : RS × Int32 := if ¬ inN g 3 then (S, -2) else match S.1 (tN g) with
  | none => (S, -11)
  | some l => ((va_up S.1 (tN g) none, S.2), nI l.length)
def rsN (S : RS) : Nat → Nat
  | 0 => 0
  | g + 1 => rsN S g + if S.1 g = none then 0 else 1
/-! how the class holds them -/
def GX (dl : List (Nat × Nat)) (mI : Nat → Nat → Int32) (dl' : List (Nat × Nat)) (mI' : Nat → Nat → Int32) : Prop := (∀ r, r < 172 → mI' r = mI r) ∧ ∃ ext, dl' = dl ++ ext ∧ ext.length ≤ 3 ∧ (ext.map (fun q => q.2)).sum ≤ 20
theorem GX.rf {dl : List (Nat × Nat)} {mI : Nat → Nat → Int32} : GX dl mI dl mI := ⟨fun _ _ => rfl, [], by simp, by simp, by simp⟩
section CGl
variable {S : RS} {dl dl' : List (Nat × Nat)} {dr dr' : Nat → Nat → Nat} {mI mI' : Nat → Nat → Int32} {C C' : Nat → PL} {a : Nat} {l : List Nat} {L : PL}
theorem PgR.mono (h : PgR dl dr mI a L) (hd : ∀ (i : Nat) (x : Nat × Nat), dl[i]? = some x → dl'[i]? = some x) (hr : dr' a = dr a) (h1 : mI' (a + 1) = mI (a + 1)) (h2 : mI' (a + 2) = mI (a + 2)) : PgR dl' dr' mI' a L := by
  obtain ⟨g1, g2, g3, g4, g5, g6, g7, g8⟩ := h
  exact ⟨g1, hd _ _ g2, hd _ _ g3, hd _ _ g4, by rw [hr]; exact g5, by rw [hr]; exact g6, g7, fun i hi => by rw [h1, h2]; exact g8 i hi⟩
theorem RgR.lt (h : RgR dl dr mI C a l) : a + 1 < 172 + dl.length := by
  have h2 := h.2.2.1
  have := (List.getElem?_eq_some_iff.mp h2).1
  have := h.1
  omega
theorem PgR.lt (h : PgR dl dr mI a L) : a + 2 < 172 + dl.length := by
  have h2 := h.2.2.2.1
  have := (List.getElem?_eq_some_iff.mp h2).1
  have := h.1
  omega
/-- an old register over a larger heap -/
theorem RgR.mono (h : RgR dl dr mI C a l) (hd : ∀ (i : Nat) (x : Nat × Nat), dl[i]? = some x → dl'[i]? = some x) (hr : ∀ r, 172 ≤ r → r < 172 + dl.length → dr' r = dr r) (hm : ∀ r, 172 ≤ r → r < 172 + dl.length → mI' r = mI r) (hC : ∀ p, p < l.length → l.getD p 0 ≠ 0 → C' (l.getD p 0) = C (l.getD p 0)) : RgR dl' dr' mI' C' a l := by
  have hlt := h.lt
  obtain ⟨g1, g2, g3, g4, g5, g6⟩ := h
  refine ⟨g1, hd _ _ g2, hd _ _ g3, by rw [hr _ g1 (by omega)]; exact g4, g5, fun p hp1 => ⟨by rw [hr _ (by omega) hlt]; exact (g6 p hp1).1, fun hz => ?_⟩⟩
  have hP := (g6 p hp1).2 hz
  have hl := hP.lt
  have h1 := hP.1
  rw [hC p hp1 hz]
  exact hP.mono hd (hr _ h1 (by omega)) (hm _ (by omega) (by omega)) (hm _ (by omega) (by omega))
theorem CG.to (h : CG S dl dr mI) (hm : ∀ r, 172 ≤ r → mI' r = mI r) : CG S dl dr mI' := ⟨fun g hg => ⟨(h.1 g hg).1, fun l hl => RgR.mono ((h.1 g hg).2 l hl) (fun _ _ z => z) (fun _ _ _ => rfl) (fun r z _ => hm r z) (fun _ _ _ => rfl)⟩, h.2⟩
theorem ap_get {dl ext : List (Nat × Nat)} : ∀ (i : Nat) (x : Nat × Nat), dl[i]? = some x → (dl ++ ext)[i]? = some x := fun i x h => by
  rw [List.getElem?_append_left (List.getElem?_eq_some_iff.mp h).1]; exact h
end CGl
theorem CG_clr {S : RS} {dl : List (Nat × Nat)} {dr' : Nat → Nat → Nat} {mI : Nat → Nat → Int32} (h : ∀ g, g < 3 → dr' 126 g = 0) : CG (fun _ => none, S.2) dl dr' mI := ⟨fun g hg => ⟨fun _ => h g hg, fun l hl => nomatch hl⟩, fun g g' hg _ _ hz => absurd (h g hg) hz⟩
theorem lp_Sh_clear {X : CX} {dl : List (Nat × Nat)} {mI : Nat → Nat → Int32} {dr : Nat → Nat → Nat} {Q : Option Value → AH → Prop} {S : RS} (k : ∀ dr', CG (fun _ => none, S.2) dl dr' mI → Q none (hp X dl mI dr')) : ∀ (d : Nat) (g : Nat) (dr2 : Nat → Nat → Nat), (g ≤ 3) → (∀ j, j < g → dr2 126 j = 0) → 3 - g = d → EW X m_Sh_clear 2 [.ref 125, .int (nI g)] [] (hp X dl mI dr2) Q := by
  intro d
  induction d using Nat.strongRecOn with
  | _ d ih =>
    intro g dr2 hg hz hd
    refine g_iload_n d_Sh_clear_2 rfl ?_
    refine N_iconst d_Sh_clear_3 3 rfl ?_
    refine N_icmp_ge d_Sh_clear_4 20 (by decide) ⟨by omega, by omega⟩ (fun c1 => ?_) (fun c1 => ?_)
    · refine P_vret d_Sh_clear_20 rfl ?_
      exact k dr2 (CG_clr (fun j hj => hz j (by omega)))
    · refine g_aload_n d_Sh_clear_7 rfl ?_
      refine H_getR 126 d_Sh_clear_8 f_Sh_13.g rfl rfl (by decide) rfl ?_
      refine g_iload_n d_Sh_clear_11 rfl ?_
      refine P_null d_Sh_clear_12 ?_
      refine D_aastN d_Sh_clear_13 (Or.inr (Or.inl ⟨rfl, rfl⟩)) (Or.inr rfl) rfl rfl c1 (by decide) ?_
      refine N_iinc_2_1_1 d_Sh_clear_14 rfl rfl ?_
      refine P_goto d_Sh_clear_17 2 (by decide) ?_
      exact ih _ (by omega) (g + 1) _ (by omega) (fun j hj => by
        by_cases z : j = g
        · rw [z]; exact sR_s _ _ _ _
        · rw [sR_n (by omega)]; exact hz j (by omega)) rfl

theorem c_Sh_clear {X : CX} {dl : List (Nat × Nat)} {mI : Nat → Nat → Int32} {dr : Nat → Nat → Nat} {Q : Option Value → AH → Prop} {S : RS} (k : ∀ dr', CG (fun _ => none, S.2) dl dr' mI → Q none (hp X dl mI dr')) : EW X m_Sh_clear 0 (enL m_Sh_clear.2.2.1 [.ref 125]) [] (hp X dl mI dr) Q := by
  show EW X m_Sh_clear 0 [.ref 125, jk] [] (hp X dl mI dr) Q
  refine N_iconst d_Sh_clear_0 0 rfl ?_
  refine S_istore_n_2_1 d_Sh_clear_1 rfl rfl ?_
  exact lp_Sh_clear (dr := dr) k _ 0 dr (Nat.zero_le _) (fun j hj => absurd hj (Nat.not_lt_zero _)) rfl

theorem lp_Sh_there {X : CX} {dl : List (Nat × Nat)} {mI : Nat → Nat → Int32} {dr : Nat → Nat → Nat} {Q : Option Value → AH → Prop} {S : RS} (hC : CG S dl dr mI) (k : Q (some (.int (nI (rsN S 3)))) (hp X dl mI dr)) : ∀ (d : Nat) (g : Nat), (g ≤ 3) → 3 - g = d → EW X m_Sh_registersThere 4 [.ref 125, .int (nI (rsN S g)), .int (nI g)] [] (hp X dl mI dr) Q := by
  intro d
  induction d using Nat.strongRecOn with
  | _ d ih =>
    intro g hg hd
    refine g_iload_n d_Sh_registersThere_4 rfl ?_
    refine N_iconst d_Sh_registersThere_5 3 rfl ?_
    refine N_icmp_ge d_Sh_registersThere_6 27 (by decide) ⟨by omega, by omega⟩ (fun c1 => ?_) (fun c1 => ?_)
    · refine g_iload_n d_Sh_registersThere_27 rfl ?_
      refine P_iret d_Sh_registersThere_28 rfl ?_
      rw [show g = 3 by omega]
      exact k
    · refine g_aload_n d_Sh_registersThere_9 rfl ?_
      refine H_getR 126 d_Sh_registersThere_10 f_Sh_13.g rfl rfl (by decide) rfl ?_
      refine g_iload_n d_Sh_registersThere_13 rfl ?_
      refine H_aaldN (v := (dr 126 g)) d_Sh_registersThere_14 (Or.inr (Or.inl ⟨rfl, rfl⟩)) rfl rfl c1 (by decide) rfl ?_
      refine P_ifnull d_Sh_registersThere_15 21 (by decide) (fun c2 => ?_) (fun c2 => ?_)
      · refine N_iinc_3_2_1 d_Sh_registersThere_21 rfl rfl ?_
        refine P_goto d_Sh_registersThere_24 4 (by decide) ?_
        have e : rsN S g = rsN S (g + 1) := by
          have hn : S.1 g = none := by
            rcases h : S.1 g with _ | l
            · rfl
            · have := ((hC.1 g c1).2 l h).1; omega
          rw [rsN, if_pos hn]; rfl
        rw [e]
        exact ih _ (by omega) (g + 1) (by omega) rfl
      · refine N_iinc_3_1_1 d_Sh_registersThere_18 rfl rfl ?_
        refine N_iinc_3_2_1 d_Sh_registersThere_21 rfl rfl ?_
        refine P_goto d_Sh_registersThere_24 4 (by decide) ?_
        have e : rsN S g + 1 = rsN S (g + 1) := by rw [rsN, if_neg (fun z => c2 ((hC.1 g c1).1 z))]
        rw [e]
        exact ih _ (by omega) (g + 1) (by omega) rfl

theorem c_Sh_registersThere {X : CX} {dl : List (Nat × Nat)} {mI : Nat → Nat → Int32} {dr : Nat → Nat → Nat} {Q : Option Value → AH → Prop} {S : RS} (hC : CG S dl dr mI) (k : Q (some (.int (nI (rsN S 3)))) (hp X dl mI dr)) : EW X m_Sh_registersThere 0 (enL m_Sh_registersThere.2.2.1 [.ref 125]) [] (hp X dl mI dr) Q := by
  show EW X m_Sh_registersThere 0 [.ref 125, jk, jk] [] (hp X dl mI dr) Q
  refine N_iconst d_Sh_registersThere_0 0 rfl ?_
  refine S_istore_n_3_1 d_Sh_registersThere_1 rfl rfl ?_
  refine N_iconst d_Sh_registersThere_2 0 rfl ?_
  refine S_istore_n_3_2 d_Sh_registersThere_3 rfl rfl ?_
  exact lp_Sh_there hC k _ 0 (Nat.zero_le _) rfl

theorem c_Sh_flawOfPlaces {X : CX} {dl : List (Nat × Nat)} {mI : Nat → Nat → Int32} {dr : Nat → Nat → Nat} {Q : Option Value → AH → Prop} {S : RS} (hC : CG S dl dr mI) {i j : Nat} {p q : Int32} (hi : i < 3) (hj : j < 3) (k : Q (some (.int (flP S (nI i) p (nI j) q))) (hp X dl mI dr)) : EW X m_Sh_flawOfPlaces 0 (enL m_Sh_flawOfPlaces.2.2.1 [.ref 125, .int (nI i), .int p, .int (nI j), .int q]) [] (hp X dl mI dr) Q := by
  show EW X m_Sh_flawOfPlaces 0 [.ref 125, .int (nI i), .int p, .int (nI j), .int q, jk, jk] [] (hp X dl mI dr) Q
  unfold flP at k
  rw [tN_nI (show i < 2 ^ 31 by omega), tN_nI (show j < 2 ^ 31 by omega)] at k
  have h1 := hC.1 i hi
  have h2 := hC.1 j hj
  refine g_aload_n d_Sh_flawOfPlaces_0 rfl ?_
  refine H_getR 126 d_Sh_flawOfPlaces_1 f_Sh_13.g rfl rfl (by decide) rfl ?_
  refine g_iload_n d_Sh_flawOfPlaces_4 rfl ?_
  refine H_aaldN (v := (dr 126 i)) d_Sh_flawOfPlaces_5 (Or.inr (Or.inl ⟨rfl, rfl⟩)) rfl rfl hi (by decide) rfl ?_
  refine S_astore_7_5 d_Sh_flawOfPlaces_6 rfl rfl ?_
  refine g_aload_n d_Sh_flawOfPlaces_8 rfl ?_
  refine H_getR 126 d_Sh_flawOfPlaces_9 f_Sh_13.g rfl rfl (by decide) rfl ?_
  refine g_iload_n d_Sh_flawOfPlaces_12 rfl ?_
  refine H_aaldN (v := (dr 126 j)) d_Sh_flawOfPlaces_13 (Or.inr (Or.inl ⟨rfl, rfl⟩)) rfl rfl hj (by decide) rfl ?_
  refine S_astore_7_6 d_Sh_flawOfPlaces_14 rfl rfl ?_
  refine g_aload d_Sh_flawOfPlaces_16 rfl ?_
  refine P_ifnull d_Sh_flawOfPlaces_18 26 (by decide) (fun c1 => ?_) (fun c1 => ?_)
  · refine P_bipush d_Sh_flawOfPlaces_26 (-11) rfl ?_
    refine P_iret d_Sh_flawOfPlaces_28 rfl ?_
    have hn : S.1 i = none := by
      rcases h : S.1 i with _ | l
      · rfl
      · have := (h1.2 l h).1; omega
    rw [hn] at k
    exact k
  · refine g_aload d_Sh_flawOfPlaces_21 rfl ?_
    refine P_ifnonnull d_Sh_flawOfPlaces_23 29 (by decide) (fun c2 => ?_) (fun c2 => ?_)
    · obtain ⟨l, hl⟩ : ∃ l, S.1 i = some l := by
        rcases h : S.1 i with _ | l
        · exact absurd (h1.1 h) (by assumption)
        · exact ⟨l, rfl⟩
      obtain ⟨l', hl'⟩ : ∃ l, S.1 j = some l := by
        rcases h : S.1 j with _ | l
        · exact absurd (h2.1 h) (by assumption)
        · exact ⟨l, rfl⟩
      have R1 := h1.2 l hl
      have R2 := h2.2 l' hl'
      rw [hl, hl'] at k
      refine g_aload d_Sh_flawOfPlaces_29 rfl ?_
      refine g_iload_n d_Sh_flawOfPlaces_31 rfl ?_
      refine C_V1 d_Sh_flawOfPlaces_32 k_Sh_17 (R1.l1 X) (Nat.le_of_ble_eq_true rfl) (by decide) (Nat.le_of_ble_eq_true rfl) ?_
      refine (c_Rg_hasPlace R1) ?_
      refine B_eq d_Sh_flawOfPlaces_35 52 (by decide) (fun c3 => ?_) (fun c3 => ?_)
      · refine P_bipush d_Sh_flawOfPlaces_52 (-12) rfl ?_
        refine P_iret d_Sh_flawOfPlaces_54 rfl ?_
        first | exact R_i k (by show (if _ then _ else _) = _; rw [if_pos ⟨by assumption, by assumption⟩]; rfl) | exact R_i k (by show (if _ then _ else _) = _; rw [if_neg (fun z => by first | exact absurd z.1 (by assumption) | exact absurd z.2 (by assumption))])
      · refine g_aload d_Sh_flawOfPlaces_38 rfl ?_
        refine g_iload d_Sh_flawOfPlaces_40 rfl ?_
        refine C_V1 d_Sh_flawOfPlaces_42 k_Sh_17 (R2.l1 X) (Nat.le_of_ble_eq_true rfl) (by decide) (Nat.le_of_ble_eq_true rfl) ?_
        refine (c_Rg_hasPlace R2) ?_
        refine B_eq d_Sh_flawOfPlaces_45 52 (by decide) (fun c4 => ?_) (fun c4 => ?_)
        · refine P_bipush d_Sh_flawOfPlaces_52 (-12) rfl ?_
          refine P_iret d_Sh_flawOfPlaces_54 rfl ?_
          first | exact R_i k (by show (if _ then _ else _) = _; rw [if_pos ⟨by assumption, by assumption⟩]; rfl) | exact R_i k (by show (if _ then _ else _) = _; rw [if_neg (fun z => by first | exact absurd z.1 (by assumption) | exact absurd z.2 (by assumption))])
        · refine N_iconst d_Sh_flawOfPlaces_48 0 rfl ?_
          refine P_goto d_Sh_flawOfPlaces_49 54 (by decide) ?_
          refine P_iret d_Sh_flawOfPlaces_54 rfl ?_
          first | exact R_i k (by show (if _ then _ else _) = _; rw [if_pos ⟨by assumption, by assumption⟩]; rfl) | exact R_i k (by show (if _ then _ else _) = _; rw [if_neg (fun z => by first | exact absurd z.1 (by assumption) | exact absurd z.2 (by assumption))])
    · refine P_bipush d_Sh_flawOfPlaces_26 (-11) rfl ?_
      refine P_iret d_Sh_flawOfPlaces_28 rfl ?_
      have hn : S.1 j = none := by
        rcases h : S.1 j with _ | l
        · rfl
        · have := (h2.2 l h).1; omega
      rw [hn] at k
      revert k
      cases S.1 i <;> exact fun k => k

theorem c_Sh_flawOfLine {X : CX} {dl : List (Nat × Nat)} {mI : Nat → Nat → Int32} {dr : Nat → Nat → Nat} {Q : Option Value → AH → Prop} {S : RS} (hC : CG S dl dr mI) {g : Nat} {p i : Int32} (hg : g < 3) (k : Q (some (.int (flL S (nI g) p i))) (hp X dl mI dr)) : EW X m_Sh_flawOfLine 0 (enL m_Sh_flawOfLine.2.2.1 [.ref 125, .int (nI g), .int p, .int i]) [] (hp X dl mI dr) Q := by
  show EW X m_Sh_flawOfLine 0 [.ref 125, .int (nI g), .int p, .int i, jk, jk] [] (hp X dl mI dr) Q
  have h1 := hC.1 g hg
  have e : flP S (nI g) p (nI g) p = match S.1 g with | none => -11 | some l => if inN p l.length then 0 else -12 := by
    unfold flP
    rw [tN_nI (show g < 2 ^ 31 by omega)]
    cases S.1 g with
    | none => rfl
    | some l =>
      show (if inN p l.length ∧ inN p l.length then (0 : Int32) else -12) = if inN p l.length then 0 else -12
      by_cases z : inN p l.length
      · rw [if_pos ⟨z, z⟩, if_pos z]
      · rw [if_neg (fun y => z y.1), if_neg z]
  unfold flL at k
  rw [tN_nI (show g < 2 ^ 31 by omega)] at k
  refine g_aload_n d_Sh_flawOfLine_0 rfl ?_
  refine g_iload_n d_Sh_flawOfLine_1 rfl ?_
  refine g_iload_n d_Sh_flawOfLine_2 rfl ?_
  refine g_iload_n d_Sh_flawOfLine_3 rfl ?_
  refine g_iload_n d_Sh_flawOfLine_4 rfl ?_
  refine C_V4 d_Sh_flawOfLine_5 k_Sh_21 rfl (Nat.le_of_ble_eq_true rfl) (by decide) (Nat.le_of_ble_eq_true rfl) ?_
  refine (c_Sh_flawOfPlaces hC hg hg) ?_
  rw [e]
  refine S_istore_6_4 d_Sh_flawOfLine_8 rfl rfl ?_
  rcases hs : S.1 g with _ | l
  · rw [hs] at k
    show EW X m_Sh_flawOfLine 10 [.ref 125, .int (nI g), .int p, .int i, .int (-11), jk] [] (hp X dl mI dr) Q
    refine g_iload d_Sh_flawOfLine_10 rfl ?_
    refine P_if_eq d_Sh_flawOfLine_12 18 (by decide) (fun z => absurd z (by decide)) (fun _ => ?_)
    refine g_iload d_Sh_flawOfLine_15 rfl ?_
    refine P_iret d_Sh_flawOfLine_17 rfl ?_
    exact k
  rw [hs] at k
  have R := h1.2 l hs
  by_cases hin : inN p l.length
  rotate_left
  · show EW X m_Sh_flawOfLine 10 [.ref 125, .int (nI g), .int p, .int i, .int (if inN p l.length then 0 else -12), jk] [] (hp X dl mI dr) Q
    rw [if_neg hin]
    refine g_iload d_Sh_flawOfLine_10 rfl ?_
    refine P_if_eq d_Sh_flawOfLine_12 18 (by decide) (fun z => absurd z (by decide)) (fun _ => ?_)
    refine g_iload d_Sh_flawOfLine_15 rfl ?_
    refine P_iret d_Sh_flawOfLine_17 rfl ?_
    exact R_i k (by show (if _ then _ else _) = _; rw [if_pos hin])
  show EW X m_Sh_flawOfLine 10 [.ref 125, .int (nI g), .int p, .int i, .int (if inN p l.length then 0 else -12), jk] [] (hp X dl mI dr) Q
  have k : Q (some (.int (if ¬ inN p l.length then -12 else if l.getD (tN p) 0 = 0 then -13 else if inN i (S.2 (l.getD (tN p) 0)).length then 0 else -14))) (hp X dl mI dr) := k
  rw [if_neg (fun z => z hin)] at k
  rw [if_pos hin]
  obtain ⟨j, hj, rfl⟩ := inN_of hin (by have := R.2.2.2.2.1; omega)
  rw [tN_nI (by have := R.2.2.2.2.1; omega)] at k
  refine g_iload d_Sh_flawOfLine_10 rfl ?_
  refine P_if_eq d_Sh_flawOfLine_12 18 (by decide) (fun c1 => ?_) (fun c1 => ?_)
  · refine g_aload_n d_Sh_flawOfLine_18 rfl ?_
    refine H_getR 126 d_Sh_flawOfLine_19 f_Sh_13.g rfl rfl (by decide) rfl ?_
    refine g_iload_n d_Sh_flawOfLine_22 rfl ?_
    refine H_aaldN (v := (dr 126 g)) d_Sh_flawOfLine_23 (Or.inr (Or.inl ⟨rfl, rfl⟩)) rfl rfl hg (by decide) rfl ?_
    refine H_getR (dr 126 g + 1) d_Sh_flawOfLine_24 f_Sh_25 rfl (R.l1 X) (by decide) R.f ?_
    refine g_iload_n d_Sh_flawOfLine_27 rfl ?_
    refine H_aaldN (v := (l.getD j 0)) d_Sh_flawOfLine_28 (Or.inr (Or.inr ⟨rfl, rfl⟩)) (R.l2 X) rfl hj (by have := R.2.2.2.2.1; omega) (R.p hj) ?_
    refine S_astore_6_5 d_Sh_flawOfLine_29 rfl rfl ?_
    refine g_aload d_Sh_flawOfLine_31 rfl ?_
    refine P_ifnonnull d_Sh_flawOfLine_33 39 (by decide) (fun c2 => ?_) (fun c2 => ?_)
    · have G := (R.2.2.2.2.2 j hj).2 (by assumption)
      have h6 := G.2.2.2.2.2.2.1
      rw [if_neg (by assumption)] at k
      refine g_iload_n d_Sh_flawOfLine_39 rfl ?_
      refine N_iconst d_Sh_flawOfLine_40 0 rfl ?_
      refine g_aload d_Sh_flawOfLine_41 rfl ?_
      refine H_getR (l.getD j 0 + 1) d_Sh_flawOfLine_43 f_Sh_29 rfl (G.l1 X) (by decide) G.f0 ?_
      refine P_alen d_Sh_flawOfLine_46 (by decide) (G.l2 X) ?_
      refine N_iconst d_Sh_flawOfLine_47 1 rfl ?_
      refine P_isub d_Sh_flawOfLine_48 ?_
      refine C_S3 d_Sh_flawOfLine_49 k_Sh_35 (Nat.le_of_ble_eq_true rfl) (by decide) (Nat.le_of_ble_eq_true rfl) ?_
      refine c_Pn_isWithin ?_
      have hin2 : (nI 0 ≤ i ∧ i ≤ nI (S.2 (l.getD j 0)).length - nI 1) ↔ inN i (S.2 (l.getD j 0)).length := by
        rw [Int32.le_iff_toInt_le, Int32.le_iff_toInt_le, nI_m1 (by omega), nI_toInt (by omega)]
        constructor <;> intro z <;> constructor <;> omega
      refine B_eq d_Sh_flawOfLine_52 59 (by decide) (fun c3 => ?_) (fun c3 => ?_)
      · refine P_bipush d_Sh_flawOfLine_59 (-14) rfl ?_
        refine P_iret d_Sh_flawOfLine_61 rfl ?_
        first | exact R_i k (by rw [if_pos (hin2.mp (by assumption))]; rfl) | exact R_i k (by rw [if_neg (fun z => absurd (hin2.mpr z) (by assumption))])
      · refine N_iconst d_Sh_flawOfLine_55 0 rfl ?_
        refine P_goto d_Sh_flawOfLine_56 61 (by decide) ?_
        refine P_iret d_Sh_flawOfLine_61 rfl ?_
        first | exact R_i k (by rw [if_pos (hin2.mp (by assumption))]; rfl) | exact R_i k (by rw [if_neg (fun z => absurd (hin2.mpr z) (by assumption))])
    · refine P_bipush d_Sh_flawOfLine_36 (-13) rfl ?_
      refine P_iret d_Sh_flawOfLine_38 rfl ?_
      exact R_i k (by rw [if_pos c2])
  · exact absurd rfl c1

