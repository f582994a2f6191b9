abbrev frP (mI : Nat → Nat → Int32) (u e : Nat) : Prop := ∀ j, j < e → mI 167 (j / 5) < 0 ∨ mI 168 j ≠ nI u
theorem frP_s {mI : Nat → Nat → Int32} {u e : Nat} : frP mI u (e + 1) ↔ frP mI u e ∧ (mI 167 (e / 5) < 0 ∨ mI 168 e ≠ nI u) := by
  refine ⟨fun h => ⟨fun j hj => h j (by omega), h e (by omega)⟩, fun h j hj => ?_⟩
  by_cases z : j = e
  · rw [z]; exact h.2
  · exact h.1 j (by omega)
theorem pgn : ∀ (n : Nat) (f : Nat → Int32), n < 1000 → ¬ (∀ u, u < n + 1 → ∃ e, e < n ∧ f e = nI u)
  | 0, f, _ => fun h => by obtain ⟨e, he, _⟩ := h 0 (by omega); omega
  | n + 1, f, hn => fun h => by
    obtain ⟨e0, h0, hf0⟩ := h (n + 1) (by omega)
    refine pgn n (fun e => if e = e0 then f n else f e) (by omega) (fun u hu => ?_)
    obtain ⟨e, he, hf⟩ := h u (by omega)
    have hne : e ≠ e0 := fun z => by
      rw [z, hf0, nI_eq (by omega) (by omega)] at hf; omega
    by_cases z : e = n
    · subst z
      exact ⟨e0, by omega, by show (if e0 = e0 then f e else f e0) = _; rw [if_pos rfl]; exact hf⟩
    · exact ⟨e, by omega, by show (if e = e0 then f n else f e) = _; rw [if_neg hne]; exact hf⟩
theorem hrI_ge {c : Nat} (h : c < 2 ^ 20) : 0 ≤ hrI c ↔ c ≠ 0 := by
  have h1 := hrI_neg h
  rw [Int32.lt_iff_toInt_lt] at h1
  rw [Int32.le_iff_toInt_le]
  have e0 : (0 : Int32).toInt = 0 := rfl
  constructor
  · intro z y; have := h1.mpr y; omega
  · intro z
    have : ¬ (hrI c).toInt < (0 : Int32).toInt := fun y => z (h1.mp y)
    omega
theorem lp_Md_freePage1 {X : CX} {dl : List (Nat × Nat)} {mI : Nat → Nat → Int32} {dr : Nat → Nat → Nat} {Q : Option Value → AH → Prop} {u : Nat} {F : Int32} (hu : u < 16) (k : ∀ b v4, ((b = 1 ∧ frP mI u 15) ∨ (b = 0 ∧ ¬ frP mI u 15)) → EW X m_Md_freePage 61 [.ref 139, .int F, .int (nI u), .int (nI b), v4] [] (hp X dl mI dr) Q) : ∀ (d : Nat) (e : Nat) (b : Nat), (e ≤ 15) → ((b = 1 ∧ frP mI u e) ∨ (b = 0 ∧ ¬ frP mI u e)) → 15 - e = d → EW X m_Md_freePage 15 [.ref 139, .int F, .int (nI u), .int (nI b), .int (nI e)] [] (hp X dl mI dr) Q := by
  intro d
  induction d using Nat.strongRecOn with
  | _ d ih =>
    intro e b he hb hd
    have hb1 : b ≤ 1 := by rcases hb with h | h <;> omega
    have hB : b ≠ 0 → frP mI u e := fun z => (hb.resolve_right (fun y => z y.1)).2
    have hN : b = 0 → ¬ frP mI u e := fun z => (hb.resolve_left (fun y => by have := y.1; omega)).2
    refine g_iload d_Md_freePage_15 rfl ?_
    refine N_bipush d_Md_freePage_17 15 rfl ?_
    refine N_icmp_ge d_Md_freePage_19 61 (by decide) ⟨by omega, by omega⟩ (fun c1 => ?_) (fun c1 => ?_)
    · have e1 : e = 15 := by omega
      subst e1
      exact k b _ hb
    · refine g_iload_n d_Md_freePage_22 rfl ?_
      refine N_if_eq d_Md_freePage_23 53 (by decide) (by omega) (fun c2 => ?_) (fun c2 => ?_)
      · refine N_iconst d_Md_freePage_53 0 rfl ?_
        refine S_istore_n_5_3 d_Md_freePage_54 rfl rfl ?_
        refine N_iinc_5_4_1 d_Md_freePage_55 rfl rfl ?_
        refine P_goto d_Md_freePage_58 15 (by decide) ?_
        refine ih (15 - (e + 1)) (by omega) (e + 1) _ (by omega) ?_ rfl
        first
          | exact Or.inl ⟨rfl, frP_s.mpr ⟨hB (by assumption), Or.inl (by assumption)⟩⟩
          | exact Or.inl ⟨rfl, frP_s.mpr ⟨hB (by assumption), Or.inr (by assumption)⟩⟩
          | exact Or.inr ⟨rfl, fun z => hN (by assumption) (frP_s.mp z).1⟩
          | exact Or.inr ⟨rfl, fun z => (frP_s.mp z).2.elim (by assumption) (fun y => y (by assumption))⟩
      · refine g_aload_n d_Md_freePage_26 rfl ?_
        refine H_getR 167 d_Md_freePage_27 f_Md_92.g rfl rfl (by decide) rfl ?_
        refine g_iload d_Md_freePage_30 rfl ?_
        refine N_iconst d_Md_freePage_32 5 rfl ?_
        refine N_idiv d_Md_freePage_33 (by omega) (by omega) (by omega) ?_
        refine H_ialdN d_Md_freePage_34 rfl rfl (by omega) (by decide) ?_
        refine P_if_lt d_Md_freePage_35 49 (by decide) (fun c3 => ?_) (fun c3 => ?_)
        · refine N_iconst d_Md_freePage_49 1 rfl ?_
          refine P_goto d_Md_freePage_50 54 (by decide) ?_
          refine S_istore_n_5_3 d_Md_freePage_54 rfl rfl ?_
          refine N_iinc_5_4_1 d_Md_freePage_55 rfl rfl ?_
          refine P_goto d_Md_freePage_58 15 (by decide) ?_
          refine ih (15 - (e + 1)) (by omega) (e + 1) _ (by omega) ?_ rfl
          first
            | exact Or.inl ⟨rfl, frP_s.mpr ⟨hB (by assumption), Or.inl (by assumption)⟩⟩
            | exact Or.inl ⟨rfl, frP_s.mpr ⟨hB (by assumption), Or.inr (by assumption)⟩⟩
            | exact Or.inr ⟨rfl, fun z => hN (by assumption) (frP_s.mp z).1⟩
            | exact Or.inr ⟨rfl, fun z => (frP_s.mp z).2.elim (by assumption) (fun y => y (by assumption))⟩
        · refine g_aload_n d_Md_freePage_38 rfl ?_
          refine H_getR 168 d_Md_freePage_39 f_Md_95.g rfl rfl (by decide) rfl ?_
          refine g_iload d_Md_freePage_42 rfl ?_
          refine H_ialdN d_Md_freePage_44 rfl rfl (by omega) (by decide) ?_
          refine g_iload_n d_Md_freePage_45 rfl ?_
          refine P_icmp_eq d_Md_freePage_46 53 (by decide) (fun c4 => ?_) (fun c4 => ?_)
          · refine N_iconst d_Md_freePage_53 0 rfl ?_
            refine S_istore_n_5_3 d_Md_freePage_54 rfl rfl ?_
            refine N_iinc_5_4_1 d_Md_freePage_55 rfl rfl ?_
            refine P_goto d_Md_freePage_58 15 (by decide) ?_
            refine ih (15 - (e + 1)) (by omega) (e + 1) _ (by omega) ?_ rfl
            first
              | exact Or.inl ⟨rfl, frP_s.mpr ⟨hB (by assumption), Or.inl (by assumption)⟩⟩
              | exact Or.inl ⟨rfl, frP_s.mpr ⟨hB (by assumption), Or.inr (by assumption)⟩⟩
              | exact Or.inr ⟨rfl, fun z => hN (by assumption) (frP_s.mp z).1⟩
              | exact Or.inr ⟨rfl, fun z => (frP_s.mp z).2.elim (by assumption) (fun y => y (by assumption))⟩
          · refine N_iconst d_Md_freePage_49 1 rfl ?_
            refine P_goto d_Md_freePage_50 54 (by decide) ?_
            refine S_istore_n_5_3 d_Md_freePage_54 rfl rfl ?_
            refine N_iinc_5_4_1 d_Md_freePage_55 rfl rfl ?_
            refine P_goto d_Md_freePage_58 15 (by decide) ?_
            refine ih (15 - (e + 1)) (by omega) (e + 1) _ (by omega) ?_ rfl
            first
              | exact Or.inl ⟨rfl, frP_s.mpr ⟨hB (by assumption), Or.inl (by assumption)⟩⟩
              | exact Or.inl ⟨rfl, frP_s.mpr ⟨hB (by assumption), Or.inr (by assumption)⟩⟩
              | exact Or.inr ⟨rfl, fun z => hN (by assumption) (frP_s.mp z).1⟩
              | exact Or.inr ⟨rfl, fun z => (frP_s.mp z).2.elim (by assumption) (fun y => y (by assumption))⟩

theorem lp_Md_freePage {X : CX} {dl : List (Nat × Nat)} {mI : Nat → Nat → Int32} {dr : Nat → Nat → Nat} {Q : Option Value → AH → Prop} (k : ∀ u, u < 16 → frP mI u 15 → Q (some (.int (nI u))) (hp X dl mI dr)) : ∀ (d : Nat) (u : Nat) (c : Nat) (v3 : Value) (v4 : Value), (u ≤ 16) → ((c = 0 ∧ ∀ j, j < u → ¬ frP mI j 15) ∨ (1 ≤ c ∧ c ≤ 16 ∧ frP mI (c - 1) 15)) → 16 - u = d → EW X m_Md_freePage 4 [.ref 139, .int (hrI c), .int (nI u), v3, v4] [] (hp X dl mI dr) Q := by
  intro d
  induction d using Nat.strongRecOn with
  | _ d ih =>
    intro u c v3 v4 hu hc hd
    refine g_iload_n d_Md_freePage_4 rfl ?_
    refine N_bipush d_Md_freePage_5 16 rfl ?_
    refine N_icmp_ge d_Md_freePage_7 81 (by decide) ⟨by omega, by omega⟩ (fun c1 => ?_) (fun c1 => ?_)
    · refine g_iload_n d_Md_freePage_81 rfl ?_
      refine P_iret d_Md_freePage_82 rfl ?_
      have eu : u = 16 := by omega
      rcases hc with ⟨h1, h2⟩ | ⟨h1, h2, h3⟩
      · refine absurd (fun j hj => ?_) (pgn 15 (mI 168) (by omega))
        have hj2 := h2 j (by omega)
        rcases Classical.em (∃ e, e < 15 ∧ mI 168 e = nI j) with y | y
        · exact y
        · exact absurd (fun e he => Or.inr (fun z => y ⟨e, he, z⟩)) hj2
      · obtain ⟨c', rfl⟩ : ∃ c', c = c' + 1 := ⟨c - 1, by omega⟩
        exact k c' (by omega) h3
    · refine N_iconst d_Md_freePage_10 1 rfl ?_
      refine S_istore_n_5_3 d_Md_freePage_11 rfl rfl ?_
      refine N_iconst d_Md_freePage_12 0 rfl ?_
      refine S_istore_5_4 d_Md_freePage_13 rfl rfl ?_
      have hc16 : c ≤ 16 := by rcases hc with h | h <;> omega
      refine lp_Md_freePage1 (by omega) (fun b w4 hb => ?_) _ 0 1 (Nat.zero_le _) (Or.inl ⟨rfl, fun j hj => absurd hj (Nat.not_lt_zero _)⟩) rfl
      have hb1 : b ≤ 1 := by rcases hb with h | h <;> omega
      refine g_iload_n d_Md_freePage_61 rfl ?_
      refine N_if_eq d_Md_freePage_62 73 (by decide) (by omega) (fun dd1 => ?_) (fun dd1 => ?_)
      · refine g_iload_n d_Md_freePage_73 rfl ?_
        refine S_istore_n_5_1 d_Md_freePage_74 rfl rfl ?_
        refine N_iinc_5_2_1 d_Md_freePage_75 rfl rfl ?_
        refine P_goto d_Md_freePage_78 4 (by decide) ?_
        first
          | exact ih (16 - (u + 1)) (by omega) (u + 1) (u + 1) _ _ (by omega) (Or.inr ⟨by omega, by omega, (hb.resolve_right (fun y => absurd y.1 (by assumption))).2⟩) rfl
          | exact ih (16 - (u + 1)) (by omega) (u + 1) c _ _ (by omega) (by
              rcases hc with h | h
              · refine Or.inl ⟨h.1, fun j hj => ?_⟩
                by_cases z : j = u
                · rw [z]
                  first
                    | exact (hb.resolve_left (fun y => by have := y.1; omega)).2
                    | exact absurd h.1 ((hrI_ge (by omega)).mp (by assumption))
                · exact h.2 j (by omega)
              · exact Or.inr h) rfl
      · refine g_iload_n d_Md_freePage_65 rfl ?_
        refine P_if_ge d_Md_freePage_66 73 (by decide) (fun dd2 => ?_) (fun dd2 => ?_)
        · refine g_iload_n d_Md_freePage_73 rfl ?_
          refine S_istore_n_5_1 d_Md_freePage_74 rfl rfl ?_
          refine N_iinc_5_2_1 d_Md_freePage_75 rfl rfl ?_
          refine P_goto d_Md_freePage_78 4 (by decide) ?_
          first
            | exact ih (16 - (u + 1)) (by omega) (u + 1) (u + 1) _ _ (by omega) (Or.inr ⟨by omega, by omega, (hb.resolve_right (fun y => absurd y.1 (by assumption))).2⟩) rfl
            | exact ih (16 - (u + 1)) (by omega) (u + 1) c _ _ (by omega) (by
                rcases hc with h | h
                · refine Or.inl ⟨h.1, fun j hj => ?_⟩
                  by_cases z : j = u
                  · rw [z]
                    first
                      | exact (hb.resolve_left (fun y => by have := y.1; omega)).2
                      | exact absurd h.1 ((hrI_ge (by omega)).mp (by assumption))
                  · exact h.2 j (by omega)
                · exact Or.inr h) rfl
        · refine g_iload_n d_Md_freePage_69 rfl ?_
          refine P_goto d_Md_freePage_70 74 (by decide) ?_
          refine S_istore_n_5_1 d_Md_freePage_74 rfl rfl ?_
          refine N_iinc_5_2_1 d_Md_freePage_75 rfl rfl ?_
          refine P_goto d_Md_freePage_78 4 (by decide) ?_
          first
            | exact ih (16 - (u + 1)) (by omega) (u + 1) (u + 1) _ _ (by omega) (Or.inr ⟨by omega, by omega, (hb.resolve_right (fun y => absurd y.1 (by assumption))).2⟩) rfl
            | exact ih (16 - (u + 1)) (by omega) (u + 1) c _ _ (by omega) (by
                rcases hc with h | h
                · refine Or.inl ⟨h.1, fun j hj => ?_⟩
                  by_cases z : j = u
                  · rw [z]
                    first
                      | exact (hb.resolve_left (fun y => by have := y.1; omega)).2
                      | exact absurd h.1 ((hrI_ge (by omega)).mp (by assumption))
                  · exact h.2 j (by omega)
                · exact Or.inr h) rfl

theorem c_Md_freePage {X : CX} {dl : List (Nat × Nat)} {mI : Nat → Nat → Int32} {dr : Nat → Nat → Nat} {Q : Option Value → AH → Prop}  (k : ∀ u, u < 16 → frP mI u 15 → Q (some (.int (nI u))) (hp X dl mI dr)) : EW X m_Md_freePage 0 (enL m_Md_freePage.2.2.1 [.ref 139]) [] (hp X dl mI dr) Q := by
  show EW X m_Md_freePage 0 [.ref 139, jk, jk, jk, jk] [] (hp X dl mI dr) Q
  refine P_iconst d_Md_freePage_0 (-1) rfl ?_
  refine S_istore_n_5_1 d_Md_freePage_1 rfl rfl ?_
  refine N_iconst d_Md_freePage_2 0 rfl ?_
  refine S_istore_n_5_2 d_Md_freePage_3 rfl rfl ?_
  exact lp_Md_freePage k _ 0 0 _ _ (Nat.zero_le _) (Or.inl ⟨rfl, fun j hj => absurd hj (Nat.not_lt_zero _)⟩) rfl

def FZ (mI mI' : Nat → Nat → Int32) : Prop := ∀ q, ¬ (167 ≤ q ∧ q ≤ 171) → mI' q = mI q
theorem FZ.rf {mI : Nat → Nat → Int32} : FZ mI mI := fun _ _ => rfl
theorem FZ_sI {r f : Nat} {m1 m2 : Nat → Nat → Int32} {x : Int32} (h : FZ m1 m2) (hr : 167 ≤ r ∧ r ≤ 171) : FZ m1 (sI m2 r f x) := fun q hq => (sI_r (by omega)).trans (h q hq)
def pC (S : RS) (g : Nat) : Nat := match S.1 g with
  | none => 0
  | some l => l.length + 1
def bC (κ : Nat → Nat) (a : Nat) : Nat := if a = 0 then 0 else κ a + 1
section RK1
variable {κ κ' : Nat → Nat} {S : RS} {C C' : Nat → PL} {mI mI' : Nat → Nat → Int32} {g p k : Nat} {l : List Nat} {L : PL}
theorem RK.pg (h : RK κ S mI) (hg : g < 3) : mI 167 g = hrI (pC S g) := by
  unfold pC
  rcases hs : S.1 g with _ | l
  · exact (h.1 g hg).1 hs
  · exact ((h.1 g hg).2 l hs).1
theorem RK.le (h : RK κ S mI) (hg : g < 3) : pC S g ≤ 6 := by
  unfold pC
  rcases hs : S.1 g with _ | l
  · exact Nat.zero_le _
  · have := ((h.1 g hg).2 l hs).2.1
    show l.length + 1 ≤ 6; omega
theorem pC_0 (h : pC S g = 0) : S.1 g = none := by
  unfold pC at h
  rcases hs : S.1 g with _ | l
  · rfl
  · rw [hs] at h; exact absurd h (Nat.succ_ne_zero _)
theorem pC_1 (h : pC S g ≠ 0) : ∃ l, S.1 g = some l := by
  unfold pC at h
  rcases hs : S.1 g with _ | l
  · rw [hs] at h; exact absurd rfl h
  · exact ⟨l, rfl⟩
theorem RK.b (h : RK κ S mI) (hg : g < 3) (hs : S.1 g = some l) (hp1 : p < l.length) : mI 168 (5 * g + p) = hrI (bC κ (l.getD p 0)) ∧ bC κ (l.getD p 0) ≤ 16 := by
  have R := ((h.1 g hg).2 l hs).2.2 p hp1
  unfold bC
  by_cases z : l.getD p 0 = 0
  · rw [if_pos z]; exact ⟨R.1 z, Nat.zero_le _⟩
  · rw [if_neg z]; exact ⟨(R.2 z).2.1, by have := (R.2 z).1; omega⟩
theorem bC_0 {a : Nat} : bC κ a = 0 ↔ a = 0 := by
  unfold bC
  by_cases z : a = 0
  · rw [if_pos z]; exact ⟨fun _ => z, fun _ => rfl⟩
  · rw [if_neg z]; exact ⟨fun y => absurd y (Nat.succ_ne_zero _), fun y => absurd y z⟩
theorem PgM.to (h : PgM k L mI) (h9 : mI' 169 k = mI 169 k) (h0 : ∀ i, i < 6 → mI' 170 (6 * k + i) = mI 170 (6 * k + i)) (h1 : ∀ i, i < 6 → mI' 171 (6 * k + i) = mI 171 (6 * k + i)) : PgM k L mI' := by
  obtain ⟨e1, e2, e3⟩ := h
  exact ⟨h9.trans e1, e2, fun i hi => by rw [h0 i (by omega), h1 i (by omega)]; exact e3 i hi⟩
theorem RgM.to (h : RgM κ C g l mI) (h7 : mI' 167 g = mI 167 g) (h8 : ∀ p, p < 5 → mI' 168 (5 * g + p) = mI 168 (5 * g + p)) (hP : ∀ p, p < l.length → l.getD p 0 ≠ 0 → κ' (l.getD p 0) = κ (l.getD p 0) ∧ PgM (κ (l.getD p 0)) (C' (l.getD p 0)) mI') : RgM κ' C' g l mI' := by
  obtain ⟨e1, e2, e3⟩ := h
  refine ⟨h7.trans e1, e2, fun p hp1 => ⟨fun z => by rw [h8 p (by omega)]; exact (e3 p hp1).1 z, fun z => ?_⟩⟩
  obtain ⟨y1, y2⟩ := hP p hp1 z
  rw [y1]
  exact ⟨((e3 p hp1).2 z).1, by rw [h8 p (by omega)]; exact ((e3 p hp1).2 z).2.1, y2⟩
theorem bdA_up {l0 : List Nat} {a : Nat} (h : bdA (va_up S.1 g (some l0), C) a) : bdA S a ∨ ∃ p, p < l0.length ∧ l0.getD p 0 = a := by
  obtain ⟨z0, j, l, p, hj, hl, hp1, hq⟩ := h
  have hl : va_up S.1 g (some l0) j = some l := hl
  by_cases z : j = g
  · subst z
    rw [va_up_s] at hl
    injection hl with hl
    subst hl
    exact Or.inr ⟨p, hp1, hq⟩
  · rw [va_up_n _ _ z] at hl
    exact Or.inl ⟨z0, j, l, p, hj, hl, hp1, hq⟩
theorem bdA_no {a : Nat} (h : bdA (va_up S.1 g none, C) a) : bdA S a := by
  obtain ⟨z0, j, l, p, hj, hl, hp1, hq⟩ := h
  have hl : va_up S.1 g none j = some l := hl
  by_cases z : j = g
  · subst z
    rw [va_up_s] at hl; cases hl
  · rw [va_up_n _ _ z] at hl
    exact ⟨z0, j, l, p, hj, hl, hp1, hq⟩
theorem RK_up {l0 : List Nat} (h : RK κ S mI) (hR : RgM κ' C' g l0 mI') (h7 : ∀ j, j < 3 → j ≠ g → mI' 167 j = mI 167 j) (h8 : ∀ j, j < 3 → j ≠ g → ∀ p, p < 5 → mI' 168 (5 * j + p) = mI 168 (5 * j + p)) (hP : ∀ j l, j < 3 → j ≠ g → S.1 j = some l → ∀ p, p < l.length → l.getD p 0 ≠ 0 → κ' (l.getD p 0) = κ (l.getD p 0) ∧ PgM (κ (l.getD p 0)) (C' (l.getD p 0)) mI') (hi : ∀ a b, bdA (va_up S.1 g (some l0), C') a → bdA (va_up S.1 g (some l0), C') b → κ' a = κ' b → a = b) : RK κ' (va_up S.1 g (some l0), C') mI' := by
  refine ⟨fun j hj => ?_, hi⟩
  by_cases z : j = g
  · subst z
    refine ⟨fun hs => ?_, fun l hl => ?_⟩
    · have hs : va_up S.1 j (some l0) j = none := hs
      rw [va_up_s] at hs; cases hs
    · have hl : va_up S.1 j (some l0) j = some l := hl
      rw [va_up_s] at hl
      injection hl with hl
      subst hl
      exact hR
  · refine ⟨fun hs => ?_, fun l hl => ?_⟩
    · have hs : va_up S.1 g (some l0) j = none := hs
      rw [va_up_n _ _ z] at hs
      rw [h7 j hj z]; exact (h.1 j hj).1 hs
    · have hl : va_up S.1 g (some l0) j = some l := hl
      rw [va_up_n _ _ z] at hl
      exact ((h.1 j hj).2 l hl).to (h7 j hj z) (fun p hp1 => h8 j hj z p hp1) (fun p hp1 hz => hP j l hj z hl p hp1 hz)
theorem RK_reg (h : RK κ S mI) {n : Nat} (hg : g < 3) (hn : n ≤ 5) (h7 : mI' 167 g = nI n) (h7' : ∀ j, j ≠ g → mI' 167 j = mI 167 j) (h8 : ∀ p, p < 5 → mI' 168 (5 * g + p) = -1) (h8' : ∀ j, ¬ (5 * g ≤ j ∧ j < 5 * g + 5) → mI' 168 j = mI 168 j) (ho : ∀ q, 169 ≤ q → q ≤ 171 → mI' q = mI q) : RK κ (va_up S.1 g (some (List.replicate n 0)), S.2) mI' := by
  have hP : ∀ k L, PgM k L mI → PgM k L mI' := fun k L G => G.to (by rw [ho 169 (by omega) (by omega)]) (fun i _ => by rw [ho 170 (by omega) (by omega)]) (fun i _ => by rw [ho 171 (by omega) (by omega)])
  have hb : ∀ a, bdA (va_up S.1 g (some (List.replicate n 0)), S.2) a → bdA S a := fun a ha => (bdA_up ha).elim id (fun ⟨p, _, hq⟩ => absurd (hq.symm.trans (rep_get n p)) ha.1)
  refine RK_up h ⟨by rw [List.length_replicate]; exact h7, by rw [List.length_replicate]; exact hn, fun p hp1 => ⟨fun _ => h8 p (by rw [List.length_replicate] at hp1; omega), fun y => absurd (rep_get n p) y⟩⟩ (fun j _ z => h7' j z) (fun j _ z p hp1 => h8' _ (by omega)) (fun j l hj z hl p hp1 hz => ⟨rfl, hP _ _ ((((h.1 j hj).2 l hl).2.2 p hp1).2 hz).2.2⟩) (fun a b ha hb' => h.2 a b (hb a ha) (hb b hb'))
theorem RK_dro (h : RK κ S mI) : RK κ (va_up S.1 g none, S.2) (sI mI 167 g (-1)) := by
  refine ⟨fun j hj => ?_, fun a b ha hb => h.2 a b (bdA_no ha) (bdA_no hb)⟩
  by_cases z : j = g
  · subst z
    refine ⟨fun _ => sI_s _ _ _ _, fun l hl => ?_⟩
    have hl : va_up S.1 j none j = some l := hl
    rw [va_up_s] at hl; cases hl
  · refine ⟨fun hs => ?_, fun l hl => ?_⟩
    · have hs : va_up S.1 g none j = none := hs
      rw [va_up_n _ _ z] at hs
      rw [sI_n (fun y => z y.2)]; exact (h.1 j hj).1 hs
    · have hl : va_up S.1 g none j = some l := hl
      rw [va_up_n _ _ z] at hl
      have R := (h.1 j hj).2 l hl
      exact R.to (sI_n (fun y => z y.2)) (fun p hp1 => sI_n (by omega)) (fun p hp1 hz => ⟨rfl, ((R.2.2 p hp1).2 hz).2.2.to (sI_n (by omega)) (fun i _ => sI_n (by omega)) (fun i _ => sI_n (by omega))⟩)
theorem RK_bin (h : RK κ S mI) {i j u w : Nat} {l' : List Nat} (hi : i < 3) (hj : j < 3) (hs : S.1 i = some l) (hs' : S.1 j = some l') (hu : u < l.length) (hw : w < l'.length) : RK κ (va_up S.1 j (some (l'.set w (l.getD u 0))), S.2) (sI mI 168 (5 * j + w) (mI 168 (5 * i + u))) := by
  have R := (h.1 i hi).2 l hs
  have R' := (h.1 j hj).2 l' hs'
  have hl5 := R'.2.1
  have hP : ∀ k L, PgM k L mI → PgM k L (sI mI 168 (5 * j + w) (mI 168 (5 * i + u))) := fun k L G => G.to (sI_n (by omega)) (fun i _ => sI_n (by omega)) (fun i _ => sI_n (by omega))
  have hb : ∀ a, bdA (va_up S.1 j (some (l'.set w (l.getD u 0))), S.2) a → bdA S a := fun a ha => (bdA_up ha).elim id (fun ⟨p, hp1, hq⟩ => by
    rw [List.length_set] at hp1
    rw [getD_set l' w p _ hw] at hq
    by_cases z : p = w
    · rw [if_pos z] at hq; exact ⟨ha.1, i, l, u, hi, hs, hu, hq⟩
    · rw [if_neg z] at hq; exact ⟨ha.1, j, l', p, hj, hs', hp1, hq⟩)
  refine RK_up h ⟨by rw [sI_n (by omega), List.length_set]; exact R'.1, by rw [List.length_set]; exact hl5, fun p hp1 => ?_⟩ (fun j' _ z => sI_n (by omega)) (fun j' hj' z p hp1 => sI_n (by omega)) (fun j' l2 hj' z hl p hp1 hz => ⟨rfl, hP _ _ ((((h.1 j' hj').2 l2 hl).2.2 p hp1).2 hz).2.2⟩) (fun a b ha hb' => h.2 a b (hb a ha) (hb b hb'))
  rw [List.length_set] at hp1
  rw [getD_set l' w p _ hw]
  by_cases z : p = w
  · rw [if_pos z, z, sI_s]
    exact ⟨fun y => (R.2.2 u hu).1 y, fun y => ⟨((R.2.2 u hu).2 y).1, ((R.2.2 u hu).2 y).2.1, hP _ _ ((R.2.2 u hu).2 y).2.2⟩⟩
  · rw [if_neg z, sI_n (by omega)]
    exact ⟨fun y => (R'.2.2 p hp1).1 y, fun y => ⟨((R'.2.2 p hp1).2 y).1, ((R'.2.2 p hp1).2 y).2.1, hP _ _ ((R'.2.2 p hp1).2 y).2.2⟩⟩
theorem RK_pag (h : RK κ S mI) {u n a : Nat} (hg : g < 3) (hs : S.1 g = some l) (hp1 : p < l.length) (hu : u < 16) (hn : n ≤ 6) (hf : frP mI u 15) (ha0 : a ≠ 0) (ha : ¬ bdA S a) (h7 : mI' 167 = mI 167) (h8 : mI' 168 (5 * g + p) = nI u) (h8' : ∀ j, j ≠ 5 * g + p → mI' 168 j = mI 168 j) (h9 : mI' 169 u = nI n) (h9' : ∀ j, j ≠ u → mI' 169 j = mI 169 j) (h0 : ∀ i, i < 6 → mI' 170 (6 * u + i) = nI 0) (h0' : ∀ j, ¬ (6 * u ≤ j ∧ j < 6 * u + 6) → mI' 170 j = mI 170 j ∧ mI' 171 j = mI 171 j) : RK (va_up κ a u) (va_up S.1 g (some (l.set p a)), va_up S.2 a (List.replicate n none)) mI' := by
  have hne : ∀ j l2 q, j < 3 → S.1 j = some l2 → q < l2.length → l2.getD q 0 ≠ 0 → κ (l2.getD q 0) ≠ u := fun j l2 q hj hl hq hz y => by
    obtain ⟨z1, z2, z3⟩ := ((((h.1 j hj).2 l2 hl).2.2 q hq).2 hz)
    have hl5 := ((h.1 j hj).2 l2 hl).2.1
    rcases hf (5 * j + q) (by omega) with w | w
    · rw [show (5 * j + q) / 5 = j by omega, ((h.1 j hj).2 l2 hl).1] at w
      exact absurd w (by have e0 : (0 : Int32).toInt = 0 := rfl
                         rw [Int32.lt_iff_toInt_lt, nI_toInt (by omega)]; omega)
    · exact w (by rw [z2, y])
  have hadr : ∀ j l2 q, j < 3 → S.1 j = some l2 → q < l2.length → l2.getD q 0 ≠ 0 → l2.getD q 0 ≠ a := fun j l2 q hj hl hq hz y => ha ⟨ha0, j, l2, q, hj, hl, hq, y⟩
  have hold : ∀ j l2 q, j < 3 → S.1 j = some l2 → q < l2.length → l2.getD q 0 ≠ 0 → va_up κ a u (l2.getD q 0) = κ (l2.getD q 0) ∧ PgM (κ (l2.getD q 0)) (va_up S.2 a (List.replicate n none) (l2.getD q 0)) mI' := fun j l2 q hj hl hq hz => by
    have e1 := hadr j l2 q hj hl hq hz
    have e2 := hne j l2 q hj hl hq hz
    rw [va_up_n _ _ e1, va_up_n _ _ e1]
    refine ⟨rfl, ((((h.1 j hj).2 l2 hl).2.2 q hq).2 hz).2.2.to (h9' _ e2) (fun i hi => (h0' _ (by omega)).1) (fun i hi => (h0' _ (by omega)).2)⟩
  have R := (h.1 g hg).2 l hs
  have hl5 := R.2.1
  refine RK_up h ⟨by rw [h7, List.length_set]; exact R.1, by rw [List.length_set]; exact hl5, fun q hq => ?_⟩ (fun j _ z => by rw [h7]) (fun j hj z q hq => h8' _ (by omega)) (fun j l2 hj z hl q hq hz => hold j l2 q hj hl hq hz) (fun x y hx hy => ?_)
  · rw [List.length_set] at hq
    rw [getD_set l p q _ hp1]
    by_cases z : q = p
    · rw [if_pos z, z, va_up_s, va_up_s]
      refine ⟨fun y => absurd y ha0, fun _ => ⟨hu, h8, ?_, by rw [List.length_replicate]; exact hn, fun i hi => ?_⟩⟩
      · rw [List.length_replicate]; exact h9
      · rw [rep_none]; rw [List.length_replicate] at hi; exact h0 i (by omega)
    · rw [if_neg z, h8' _ (by omega)]
      refine ⟨fun y => (R.2.2 q hq).1 y, fun y => ?_⟩
      obtain ⟨e1, e2⟩ := hold g l q hg hs hq y
      rw [e1]
      exact ⟨((R.2.2 q hq).2 y).1, ((R.2.2 q hq).2 y).2.1, e2⟩
  · have hcl : ∀ x, bdA (va_up S.1 g (some (l.set p a)), va_up S.2 a (List.replicate n none)) x → x = a ∨ (bdA S x ∧ κ x ≠ u) := fun x hx => by
      have hfin : ∀ j l2 q, j < 3 → S.1 j = some l2 → q < l2.length → l2.getD q 0 = x → bdA S x ∧ κ x ≠ u := fun j l2 q hj hl hq hx2 => ⟨⟨hx.1, j, l2, q, hj, hl, hq, hx2⟩, by rw [← hx2]; exact hne j l2 q hj hl hq (by rw [hx2]; exact hx.1)⟩
      rcases bdA_up hx with w | ⟨q, hq, hxq⟩
      · obtain ⟨z0, j, l2, q, hj, hl, hq, hx2⟩ := w
        exact Or.inr (hfin j l2 q hj hl hq hx2)
      · rw [List.length_set] at hq
        rw [getD_set l p q _ hp1] at hxq
        by_cases z : q = p
        · rw [if_pos z] at hxq; exact Or.inl hxq.symm
        · rw [if_neg z] at hxq; exact Or.inr (hfin g l q hg hs hq hxq)
    intro hk
    rcases hcl x hx with rfl | ⟨x1, x2⟩
    · rcases hcl y hy with w | ⟨y1, y2⟩
      · exact w.symm
      · have : y ≠ x := fun w => ha (w ▸ y1)
        rw [va_up_s, va_up_n _ _ this] at hk
        exact absurd hk.symm y2
    · have hxa : x ≠ a := fun w => ha (w ▸ x1)
      rcases hcl y hy with rfl | ⟨y1, y2⟩
      · rw [va_up_s, va_up_n _ _ hxa] at hk
        exact absurd hk x2
      · have hya : y ≠ a := fun w => ha (w ▸ y1)
        rw [va_up_n _ _ hxa, va_up_n _ _ hya] at hk
        exact h.2 x y x1 y1 hk
theorem RK_ent (h : RK κ S mI) {u i : Nat} {w c v : Int32} (hg : g < 3) (hs : S.1 g = some l) (hu : u < l.length) (hz : l.getD u 0 ≠ 0) (hi : i < (S.2 (l.getD u 0)).length) (hl : lnM (enO w v) c (if w = nI 2 then 0 else v)) : RK κ (S.1, va_up S.2 (l.getD u 0) ((S.2 (l.getD u 0)).set i (enO w v))) (sI (sI mI 170 (6 * κ (l.getD u 0) + i) c) 171 (6 * κ (l.getD u 0) + i) (if w = nI 2 then 0 else v)) := by
  obtain ⟨e1, e2, e3, e4, e5⟩ := (((h.1 g hg).2 l hs).2.2 u hu).2 hz
  refine ⟨fun j hj => ⟨fun hs2 => by rw [sI_n (by omega), sI_n (by omega)]; exact (h.1 j hj).1 hs2, fun l2 hl2 => ?_⟩, h.2⟩
  have R := (h.1 j hj).2 l2 hl2
  refine R.to (by rw [sI_n (by omega), sI_n (by omega)]) (fun p hp1 => by rw [sI_n (by omega), sI_n (by omega)]) (fun p hp1 hz2 => ⟨rfl, ?_⟩)
  have G := ((R.2.2 p hp1).2 hz2).2.2
  have hl6 := G.2.1
  show PgM _ (va_up S.2 (l.getD u 0) ((S.2 (l.getD u 0)).set i (enO w v)) (l2.getD p 0)) _
  by_cases y : l2.getD p 0 = l.getD u 0
  · rw [y, va_up_s]
    refine ⟨by rw [sI_n (by omega), sI_n (by omega), List.length_set]; exact e3, by rw [List.length_set]; exact e4, fun q hq => ?_⟩
    rw [List.length_set] at hq
    by_cases x : q = i
    · rw [x, sI_s, sI_n (by omega), sI_s, List.getD_eq_getElem?_getD, List.getElem?_set_self hi]
      exact hl
    · rw [sI_n (by omega), sI_n (by omega), sI_n (by omega), sI_n (by omega), List.getD_eq_getElem?_getD, List.getElem?_set_ne (fun z => x z.symm), ← List.getD_eq_getElem?_getD]
      exact e5 q hq
  · rw [va_up_n _ _ y]
    have hk : κ (l2.getD p 0) ≠ κ (l.getD u 0) := fun z => y (h.2 _ _ ⟨hz2, j, l2, p, hj, hl2, hp1, rfl⟩ ⟨hz, g, l, u, hg, hs, hu, rfl⟩ z)
    exact G.to (by rw [sI_n (by omega), sI_n (by omega)]) (fun q hq => by rw [sI_n (by omega), sI_n (by omega)]) (fun q hq => by rw [sI_n (by omega), sI_n (by omega)])
end RK1
