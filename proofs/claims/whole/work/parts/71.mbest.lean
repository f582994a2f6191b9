theorem mem_tk {l : List Nat} {i p : Nat} (h : i < l.length) : p ∈ l.take (i + 1) ↔ p ∈ l.take i ∨ p = l.getD i 0 := by
  rw [List.take_succ, List.mem_append, List.getElem?_eq_getElem h, List.getD_eq_getElem?_getD, List.getElem?_eq_getElem h]
  show _ ∨ p ∈ [l[i]] ↔ _ ∨ p = l[i]
  rw [List.mem_singleton]
theorem plc_z {l : List Nat} {p : Nat} : plc l p ≠ 0 ↔ p ∈ l := by
  unfold plc
  by_cases z : p ∈ l
  · rw [if_pos (List.idxOf_lt_length_iff.mpr z)]; exact ⟨fun _ => z, fun _ => Nat.succ_ne_zero _⟩
  · rw [if_neg (fun y => z (List.idxOf_lt_length_iff.mp y))]; exact ⟨fun y => absurd rfl y, fun y => absurd y z⟩
theorem plc_le {l : List Nat} {p : Nat} : plc l p ≤ l.length := by
  unfold plc; split <;> omega
theorem FQ_sI {r f : Nat} {m1 m2 : Nat → Nat → Int32} {x : Int32} (h : FQ m1 m2) (hr : 159 ≤ r ∧ r ≤ 163) : FQ m1 (sI m2 r f x) := ⟨fun q z1 z2 => (sI_r (by omega)).trans (h.1 q z1 z2), fun j hj => (congrFun (sI_r (by omega)) j).trans (h.2 j hj)⟩
theorem gl_D {π : List Nat} (h : π ≠ []) : π.getLastD 0 = π.getD (π.length - 1) 0 := by
  rw [List.getLastD_eq_getLast?, List.getLast?_eq_getElem?, List.getD_eq_getElem?_getD]
theorem dl_D {π : List Nat} {j : Nat} (h : j < π.length - 1) : π.dropLast.getD j 0 = π.getD j 0 := by
  rw [List.dropLast_eq_take, List.getD_eq_getElem?_getD, List.getD_eq_getElem?_getD, List.getElem?_take_of_lt h]
theorem ap_D {π : List Nat} {x j : Nat} : (π ++ [x]).getD j 0 = if j < π.length then π.getD j 0 else if j = π.length then x else 0 := by
  by_cases h : j < π.length
  · rw [if_pos h, List.getD_eq_getElem?_getD, List.getElem?_append_left h, ← List.getD_eq_getElem?_getD]
  · rw [if_neg h, List.getD_eq_getElem?_getD, List.getElem?_append_right (by omega)]
    by_cases z : j = π.length
    · rw [if_pos z, z, Nat.sub_self]; rfl
    · rw [if_neg z]
      obtain ⟨d, hd⟩ : ∃ d, j - π.length = d + 1 := ⟨j - π.length - 1, by omega⟩
      rw [hd]; rfl
theorem dfs_e {s f c : Nat} {π : List Nat} : dfs s (f + 1) π c = (if π.length = s then (match π with
      | [] => some [[]]
      | x :: xs => (dfs s f (x :: xs).dropLast ((x :: xs).getLastD 0 + 1)).map (fun Ls => (x :: xs) :: Ls))
    else match nxJ π (s - c) c with
      | some j => dfs s f (π ++ [j]) 0
      | none => (match π with
        | [] => some []
        | x :: xs => dfs s f (x :: xs).dropLast ((x :: xs).getLastD 0 + 1))) := rfl
theorem dfs_leaf {s f c : Nat} {π : List Nat} {Ls : List (List Nat)} (h : dfs s (f + 1) π c = some Ls) (hl : π.length = s) : ∃ Ls', Ls = π :: Ls' ∧ (π = [] → Ls' = []) ∧ (π ≠ [] → dfs s f π.dropLast (π.getLastD 0 + 1) = some Ls') := by
  rw [dfs_e, if_pos hl] at h
  cases π with
  | nil => injection h with h; exact ⟨[], h.symm, fun _ => rfl, fun z => absurd rfl z⟩
  | cons x xs =>
    rcases hd : dfs s f (x :: xs).dropLast ((x :: xs).getLastD 0 + 1) with _ | Ls'
    · have h : (dfs s f (x :: xs).dropLast ((x :: xs).getLastD 0 + 1)).map (fun Ls => (x :: xs) :: Ls) = some Ls := h
      rw [hd] at h; cases h
    · have h : (dfs s f (x :: xs).dropLast ((x :: xs).getLastD 0 + 1)).map (fun Ls => (x :: xs) :: Ls) = some Ls := h
      rw [hd] at h
      injection h with h
      exact ⟨Ls', h.symm, (fun z => nomatch z), fun _ => rfl⟩
theorem dfs_some {s f c j : Nat} {π : List Nat} {Ls : List (List Nat)} (h : dfs s (f + 1) π c = some Ls) (hl : π.length ≠ s) (hj : nxJ π (s - c) c = some j) : dfs s f (π ++ [j]) 0 = some Ls := by
  rw [dfs_e, if_neg hl, hj] at h; exact h
theorem dfs_none {s f c : Nat} {π : List Nat} {Ls : List (List Nat)} (h : dfs s (f + 1) π c = some Ls) (hl : π.length ≠ s) (hj : nxJ π (s - c) c = none) : (π = [] → Ls = []) ∧ (π ≠ [] → dfs s f π.dropLast (π.getLastD 0 + 1) = some Ls) := by
  rw [dfs_e, if_neg hl, hj] at h
  cases π with
  | nil => injection h with h; exact ⟨fun _ => h.symm, fun z => absurd rfl z⟩
  | cons x xs => exact ⟨(fun z => nomatch z), fun _ => h⟩
def cd (b : List Nat) (c : Nat) : Nat := if c = 0 then 0 else b.getD (c - 1) 0 + 1
/-- the first that is held and not used -/
theorem fst_j {b π : List Nat} {c P p : Nat} {g : Nat → Prop} (hB : ∀ x y, x < b.length → y < b.length → (b.getD x 0 < b.getD y 0 ↔ x < y)) (hc : c ≤ b.length) (hb : ∀ x ∈ b, x < P) (hg : ∀ x, g x ↔ (x ∈ b ∧ ¬ x ∈ π.map (fun j => b.getD j 0))) (hπ : ∀ x ∈ π, x < b.length) (h1 : cd b c ≤ p) (h2 : p ≤ P) (h3 : ∀ x, cd b c ≤ x → x < p → ¬ g x) (h4 : p < P → g p) : (∀ j, nxJ π (b.length - c) c = some j → p = b.getD j 0 ∧ p < P) ∧ (nxJ π (b.length - c) c = none → p = P) := by
  have hidx : ∀ x, x ∈ b → ∃ i, i < b.length ∧ b.getD i 0 = x := fun x hx => by
    obtain ⟨i, hi, he⟩ := List.mem_iff_getElem.mp hx
    exact ⟨i, hi, by rw [List.getD_eq_getElem?_getD, List.getElem?_eq_getElem hi]; exact he⟩
  have hcl : ∀ i, i < b.length → cd b c ≤ b.getD i 0 → c ≤ i := fun i hi hle => by
    unfold cd at hle
    by_cases z : c = 0
    · omega
    · rw [if_neg z] at hle
      have := (hB (c - 1) i (by omega) hi).mp (by omega)
      omega
  refine ⟨fun j hj => ?_, fun hn => ?_⟩
  · obtain ⟨j1, j2, j3, j4⟩ := nxJ_some _ _ _ _ hj
    have hjb : j < b.length := by omega
    have hjP := hb _ (gD_mem hjb)
    have hgood : g (b.getD j 0) := (hg _).mpr ⟨gD_mem hjb, fun hm => by
      obtain ⟨i, hi, he⟩ := List.mem_map.mp hm
      have hib := hπ i hi
      have e1 := hB i j hib hjb
      have e2 := hB j i hjb hib
      have : i = j := by omega
      exact j3 (this ▸ hi)⟩
    have hge : cd b c ≤ b.getD j 0 := by
      unfold cd
      by_cases z : c = 0
      · rw [if_pos z]; exact Nat.zero_le _
      · rw [if_neg z]
        have := (hB (c - 1) j (by omega) hjb).mpr (by omega)
        omega
    have hnot : ¬ b.getD j 0 < p := fun z => h3 _ hge z hgood
    have hnot2 : ¬ p < b.getD j 0 := fun z => by
      have hgp := (hg p).mp (h4 (by omega))
      obtain ⟨i, hi, he⟩ := hidx p hgp.1
      have hci := hcl i hi (by omega)
      have hij := (hB i j hi hjb).mp (by omega)
      exact hgp.2 (List.mem_map.mpr ⟨i, j4 i hci hij, he⟩)
    exact ⟨by omega, by omega⟩
  · rcases Nat.lt_or_ge p P with z | z
    · have hgp := (hg p).mp (h4 z)
      obtain ⟨i, hi, he⟩ := hidx p hgp.1
      have hci := hcl i hi (by omega)
      exact absurd (List.mem_map.mpr ⟨i, nxJ_none _ _ _ hn i hci (by omega), he⟩) hgp.2
    · omega
theorem SM_oT {T : TD} {σ : AS} {m K : Nat} {l : List Nat} {mI mI' : Nat → Nat → Int32} (hw : TW T) (hW : SV T σ) (hm : m < 6) (hl : l.Perm (Lm σ m)) (h : SM 93 T σ K mI) (h1 : ∀ j, j < l.length → mI' 140 (126 + 10 * m + j) = nI (l.getD j 0)) (h2 : ∀ j, ¬ (126 + 10 * m ≤ j ∧ j < 126 + 10 * m + l.length) → mI' 140 j = mI 140 j) : SM 93 T (oT σ m l) K mI' := by
  have hw1 := hw.1
  have hw2 := hw.2.1
  have hL := h.ll hw hW
  have hl10 := (hL m hm).2.1
  have hlen := hl.length_eq
  refine ⟨by rw [h2 _ (by omega)]; exact h.1, by rw [h2 _ (by omega)]; exact h.2.1, fun i hi => by rw [h2 _ (by omega)]; exact h.2.2.1 i hi, fun p hp1 => ⟨by rw [h2 _ (by omega)]; exact (h.2.2.2.1 p hp1).1, by rw [h2 _ (by omega)]; exact (h.2.2.2.1 p hp1).2⟩, fun u hu => ?_⟩
  by_cases z : u = m
  · subst z
    rw [Lm_own hl, h2 _ (by omega), hlen]
    refine ⟨(hL u hu).1, fun k hk => ?_⟩
    have := h1 k (by omega)
    rw [show 93 + 33 + 10 * u + k = 126 + 10 * u + k by omega]; exact this
  · rw [Lm_oth hl z, h2 _ (by omega)]
    refine ⟨(hL u hu).1, fun k hk => ?_⟩
    have hu10 := (hL u hu).2.1
    rw [h2 _ (by omega)]; exact (hL u hu).2.2 k hk
theorem SW_oT {T : TD} {σ : AS} {m : Nat} {l : List Nat} (h : SW T σ) (hl : l.Perm (Lm σ m)) : SW T (oT σ m l) := ⟨(SV_oT h.v hl).1, h.2.1, h.2.2⟩
theorem lp_Md_bo1 {X : CX} {dl : List (Nat × Nat)} {mI : Nat → Nat → Int32} {dr : Nat → Nat → Nat} {Q : Option Value → AH → Prop} {a1 a2 a3 a4 : Int32} {v8 : Value} {l : List Nat} (hl : ∀ j, j < l.length → mI 160 j = nI (l.getD j 0)) (hlb : ∀ x ∈ l, x < 10) (hll : l.length ≤ 5) (k : ∀ U v7, U < 2 ^ 10 → (∀ p, U.testBit p = decide (p ∈ l)) → EW X m_Md_bestOrder 61 [.ref 139, .int a1, .int a2, .int a3, .int a4, .int (nI l.length), .int (nI U), v7, v8] [] (hp X dl mI dr) Q) : ∀ (d : Nat) (i : Nat) (U : Nat), (i ≤ l.length) → (U < 2 ^ 10) → (∀ p, U.testBit p = decide (p ∈ l.take i)) → l.length - i = d → EW X m_Md_bestOrder 34 [.ref 139, .int a1, .int a2, .int a3, .int a4, .int (nI l.length), .int (nI U), .int (nI i), v8] [] (hp X dl mI dr) Q := by
  intro d
  induction d using Nat.strongRecOn with
  | _ d ih =>
    intro i U hi hU hb hd
    refine g_iload d_Md_bestOrder_34 rfl ?_
    refine g_iload d_Md_bestOrder_36 rfl ?_
    refine N_icmp_ge d_Md_bestOrder_38 61 (by decide) ⟨by omega, by omega⟩ (fun c1 => ?_) (fun c1 => ?_)
    · have e1 : i = l.length := by omega
      subst e1
      rw [List.take_length] at hb
      exact k U _ hU hb
    · have hil : i < l.length := by omega
      have hx := hlb _ (gD_mem hil)
      refine g_iload d_Md_bestOrder_41 rfl ?_
      refine N_iconst d_Md_bestOrder_43 1 rfl ?_
      refine g_aload_n d_Md_bestOrder_44 rfl ?_
      refine H_getR 160 d_Md_bestOrder_45 f_Md_71.g rfl rfl (by decide) rfl ?_
      refine g_iload d_Md_bestOrder_48 rfl ?_
      refine H_ialdN d_Md_bestOrder_50 rfl rfl (by omega) (by decide) ?_
      refine T_int (nI (l.getD i 0)) (hl i hil) ?_
      refine N_ishl d_Md_bestOrder_51 (by omega) (p2_lt (by omega)) ?_
      refine N_ior d_Md_bestOrder_52 ?_
      refine S_istore_9_6 d_Md_bestOrder_53 rfl rfl ?_
      refine N_iinc_9_7_1 d_Md_bestOrder_55 rfl rfl ?_
      refine P_goto d_Md_bestOrder_58 34 (by decide) ?_
      refine ih (l.length - (i + 1)) (by omega) (i + 1) _ (by omega) (Nat.or_lt_two_pow hU (by rw [Nat.one_mul]; exact Nat.pow_lt_pow_right (by decide) hx)) (fun p => ?_) rfl
      have e : decide (p ∈ l.take (i + 1)) = (decide (p ∈ l.take i) || decide (l.getD i 0 = p)) := by
        rw [← Bool.decide_or]; exact decide_eq_decide.mpr ((mem_tk hil).trans (or_congr Iff.rfl eq_comm))
      rw [Nat.testBit_or, hb p, Nat.one_mul, Nat.testBit_two_pow, e]

theorem lp_Md_bo2 {X : CX} {dl : List (Nat × Nat)} {mI : Nat → Nat → Int32} {dr : Nat → Nat → Nat} {Q : Option Value → AH → Prop} {m : Nat} {a2 a4 a5 a6 : Int32} {v8 : Value} {l : List Nat} (hm : m < 6) (hll : l.length ≤ 5) (hl : ∀ j, j < l.length → mI 160 j = nI (l.getD j 0)) (k : ∀ mI' v7, (∀ j, j < l.length → mI' 140 (126 + 10 * m + j) = nI (l.getD j 0)) → (∀ j, ¬ (126 + 10 * m ≤ j ∧ j < 126 + 10 * m + l.length) → mI' 140 j = mI 140 j) → (∀ q, q ≠ 140 → mI' q = mI q) → EW X m_Md_bestOrder 108 [.ref 139, .int (nI m), .int a2, .int (nI l.length), .int a4, .int a5, .int a6, v7, v8] [] (hp X dl mI' dr) Q) : ∀ (d : Nat) (i : Nat) (mI2 : Nat → Nat → Int32), (i ≤ l.length) → (∀ j, j < i → mI2 140 (126 + 10 * m + j) = nI (l.getD j 0)) → (∀ j, ¬ (126 + 10 * m ≤ j ∧ j < 126 + 10 * m + l.length) → mI2 140 j = mI 140 j) → (∀ q, q ≠ 140 → mI2 q = mI q) → l.length - i = d → EW X m_Md_bestOrder 74 [.ref 139, .int (nI m), .int a2, .int (nI l.length), .int a4, .int a5, .int a6, .int (nI i), v8] [] (hp X dl mI2 dr) Q := by
  intro d
  induction d using Nat.strongRecOn with
  | _ d ih =>
    intro i mI2 hi h1 h2 h3 hd
    refine g_iload d_Md_bestOrder_74 rfl ?_
    refine g_iload_n d_Md_bestOrder_76 rfl ?_
    refine N_icmp_ge d_Md_bestOrder_77 108 (by decide) ⟨by omega, by omega⟩ (fun c1 => ?_) (fun c1 => ?_)
    · exact k mI2 _ (fun j hj => h1 j (by omega)) h2 h3
    · refine g_aload_n d_Md_bestOrder_80 rfl ?_
      refine H_getR 140 d_Md_bestOrder_81 f_Md_7.g rfl rfl (by decide) rfl ?_
      refine N_bipush d_Md_bestOrder_84 126 rfl ?_
      refine N_bipush d_Md_bestOrder_86 10 rfl ?_
      refine g_iload_n d_Md_bestOrder_88 rfl ?_
      refine N_imul d_Md_bestOrder_89 ?_
      refine N_iadd d_Md_bestOrder_90 ?_
      refine g_iload d_Md_bestOrder_91 rfl ?_
      refine N_iadd d_Md_bestOrder_93 ?_
      refine g_aload_n d_Md_bestOrder_94 rfl ?_
      refine H_getR 160 d_Md_bestOrder_95 f_Md_71.g rfl rfl (by decide) rfl ?_
      refine g_iload d_Md_bestOrder_98 rfl ?_
      refine H_ialdN d_Md_bestOrder_100 rfl rfl (by omega) (by decide) ?_
      refine T_int (nI (l.getD i 0)) (by rw [h3 160 (by omega)]; exact hl i (by omega)) ?_
      refine H_iastN d_Md_bestOrder_101 rfl rfl (by omega) (by decide) ?_
      refine N_iinc_9_7_1 d_Md_bestOrder_102 rfl rfl ?_
      refine P_goto d_Md_bestOrder_105 74 (by decide) ?_
      refine ih (l.length - (i + 1)) (by omega) (i + 1) _ (by omega) (fun j hj => ?_) (fun j hj => by rw [sI_n (by omega)]; exact h2 j hj) (fun q hq => by rw [sI_r hq]; exact h3 q hq) rfl
      by_cases z : j = i
      · rw [z]; exact sI_s _ _ _ _
      · rw [sI_n (by omega)]; exact h1 j (by omega)

theorem lp_Md_bo3 {X : CX} {dl : List (Nat × Nat)} {mI : Nat → Nat → Int32} {dr : Nat → Nat → Nat} {Q : Option Value → AH → Prop} {a1 a2 a4 a5 a6 a7 : Int32} {l : List Nat} (hll : l.length ≤ 5) (hl : ∀ j, j < l.length → mI 160 j = nI (l.getD j 0)) (k : ∀ mI' v8, (∀ j, j < l.length → mI' 161 j = nI (l.getD j 0)) → (∀ q, q ≠ 161 → mI' q = mI q) → EW X m_Md_bestOrder 165 [.ref 139, .int a1, .int a2, .int (nI l.length), .int a4, .int a5, .int a6, .int a7, v8] [] (hp X dl mI' dr) Q) : ∀ (d : Nat) (i : Nat) (mI2 : Nat → Nat → Int32), (i ≤ l.length) → (∀ j, j < i → mI2 161 j = nI (l.getD j 0)) → (∀ q, q ≠ 161 → mI2 q = mI q) → l.length - i = d → EW X m_Md_bestOrder 139 [.ref 139, .int a1, .int a2, .int (nI l.length), .int a4, .int a5, .int a6, .int a7, .int (nI i)] [] (hp X dl mI2 dr) Q := by
  intro d
  induction d using Nat.strongRecOn with
  | _ d ih =>
    intro i mI2 hi h1 h3 hd
    refine g_iload d_Md_bestOrder_139 rfl ?_
    refine g_iload_n d_Md_bestOrder_141 rfl ?_
    refine N_icmp_ge d_Md_bestOrder_142 165 (by decide) ⟨by omega, by omega⟩ (fun c1 => ?_) (fun c1 => ?_)
    · exact k mI2 _ (fun j hj => h1 j (by omega)) h3
    · refine g_aload_n d_Md_bestOrder_145 rfl ?_
      refine H_getR 161 d_Md_bestOrder_146 f_Md_74.g rfl rfl (by decide) rfl ?_
      refine g_iload d_Md_bestOrder_149 rfl ?_
      refine g_aload_n d_Md_bestOrder_151 rfl ?_
      refine H_getR 160 d_Md_bestOrder_152 f_Md_71.g rfl rfl (by decide) rfl ?_
      refine g_iload d_Md_bestOrder_155 rfl ?_
      refine H_ialdN d_Md_bestOrder_157 rfl rfl (by omega) (by decide) ?_
      refine T_int (nI (l.getD i 0)) (by rw [h3 160 (by omega)]; exact hl i (by omega)) ?_
      refine H_iastN d_Md_bestOrder_158 rfl rfl (by omega) (by decide) ?_
      refine N_iinc_9_8_1 d_Md_bestOrder_159 rfl rfl ?_
      refine P_goto d_Md_bestOrder_162 139 (by decide) ?_
      refine ih (l.length - (i + 1)) (by omega) (i + 1) _ (by omega) (fun j hj => ?_) (fun q hq => by rw [sI_r hq]; exact h3 q hq) rfl
      by_cases z : j = i
      · rw [z]; exact sI_s _ _ _ _
      · rw [sI_n (by omega)]; exact h1 j (by omega)

theorem lp_Md_bo4 {X : CX} {dl : List (Nat × Nat)} {mI : Nat → Nat → Int32} {dr : Nat → Nat → Nat} {Q : Option Value → AH → Prop} {T : TD} (hw : TW T) (hT : TM 3 7 142 T mI) {σ : AS} (hS : SM 0 T σ (KO T σ) mI) (hW : SV T σ) {m U p0 : Nat} {a2 a3 a4 a5 : Int32} {v8 : Value} (hm : m < 6) (hU : U < 2 ^ 10) (k : ∀ p, p0 ≤ p → p ≤ tP T → (∀ x, p0 ≤ x → x < p → ¬ (x ∈ Lm σ m ∧ U.testBit x = false)) → (p < tP T → (p ∈ Lm σ m ∧ U.testBit p = false)) → EW X m_Md_bestOrder 218 [.ref 139, .int (nI m), .int a2, .int a3, .int a4, .int a5, .int (nI U), .int (nI p), v8] [] (hp X dl mI dr) Q) : ∀ (d : Nat) (p : Nat), (p0 ≤ p) → (p ≤ tP T) → (∀ x, p0 ≤ x → x < p → ¬ (x ∈ Lm σ m ∧ U.testBit x = false)) → tP T - p = d → EW X m_Md_bestOrder 182 [.ref 139, .int (nI m), .int a2, .int a3, .int a4, .int a5, .int (nI U), .int (nI p), v8] [] (hp X dl mI dr) Q := by
  intro d
  induction d using Nat.strongRecOn with
  | _ d ih =>
    intro p h0 h1 h2 hd
    have hw1 := hw.1
    have hw2 := hw.2.1
    refine g_iload d_Md_bestOrder_182 rfl ?_
    refine g_aload_n d_Md_bestOrder_184 rfl ?_
    refine H_getI d_Md_bestOrder_185 f_Md_115.g rfl rfl (by decide) ?_
    refine T_int (nI (tP T)) hT.2.1 ?_
    refine N_icmp_ge d_Md_bestOrder_188 218 (by decide) ⟨by omega, by omega⟩ (fun c1 => ?_) (fun c1 => ?_)
    · first
        | exact k p h0 h1 h2 (fun z => absurd z (by omega))
        | exact k p h0 h1 h2 (fun _ => ⟨plc_z.mp ((hrI_ge (by omega)).mp (by assumption)), by rw [← Bool.not_eq_true]; assumption⟩)
    · have hb100 : ∀ x ∈ Lm σ m, x < 100 := fun x hx => by have := ((Lm_mem hW).mp hx).1; omega
      have hpl1 := @plc_le (Lm σ m) p
      have hlen := (hS.ll hw hW m hm).2.1
      refine g_iload d_Md_bestOrder_191 rfl ?_
      refine g_iload d_Md_bestOrder_193 rfl ?_
      refine C_S2 d_Md_bestOrder_195 k_Md_236 (Nat.le_of_ble_eq_true rfl) (by decide) (Nat.le_of_ble_eq_true rfl) ?_
      refine (c_Md_has (by omega) (by omega)) ?_
      refine B_ne d_Md_bestOrder_198 212 (by decide) (fun c2 => ?_) (fun c2 => ?_)
      · refine N_iinc_9_7_1 d_Md_bestOrder_212 rfl rfl ?_
        refine P_goto d_Md_bestOrder_215 182 (by decide) ?_
        refine ih (tP T - (p + 1)) (by omega) (p + 1) (by omega) (by omega) (fun x hx1 hx2 => ?_) rfl
        by_cases z : x = p
        · rw [z]
          first
            | (have hb : U.testBit p = true := by assumption
               exact fun y => by rw [hb] at y; cases y.2)
            | exact fun y => absurd ((hrI_ge (by omega)).mpr (plc_z.mpr y.1)) (by assumption)
        · exact h2 x hx1 (by omega)
      · refine g_aload_n d_Md_bestOrder_201 rfl ?_
        refine N_iconst d_Md_bestOrder_202 0 rfl ?_
        refine g_iload d_Md_bestOrder_203 rfl ?_
        refine g_iload_n d_Md_bestOrder_205 rfl ?_
        refine C_V3 d_Md_bestOrder_206 k_Md_232 rfl (Nat.le_of_ble_eq_true rfl) (by decide) (Nat.le_of_ble_eq_true rfl) ?_
        refine c_Md_placeIn (r := 0) (m := m) (by omega) hm (hS.ll hw hW) (by omega) hb100 ?_
        refine P_if_ge d_Md_bestOrder_209 218 (by decide) (fun c3 => ?_) (fun c3 => ?_)
        · first
            | exact k p h0 h1 h2 (fun z => absurd z (by omega))
            | exact k p h0 h1 h2 (fun _ => ⟨plc_z.mp ((hrI_ge (by omega)).mp (by assumption)), by rw [← Bool.not_eq_true]; assumption⟩)
        · refine N_iinc_9_7_1 d_Md_bestOrder_212 rfl rfl ?_
          refine P_goto d_Md_bestOrder_215 182 (by decide) ?_
          refine ih (tP T - (p + 1)) (by omega) (p + 1) (by omega) (by omega) (fun x hx1 hx2 => ?_) rfl
          by_cases z : x = p
          · rw [z]
            first
              | (have hb : U.testBit p = true := by assumption
                 exact fun y => by rw [hb] at y; cases y.2)
              | exact fun y => absurd ((hrI_ge (by omega)).mpr (plc_z.mpr y.1)) (by assumption)
          · exact h2 x hx1 (by omega)

theorem bo_bk {X : CX} {dl : List (Nat × Nat)} {mI : Nat → Nat → Int32} {dr : Nat → Nat → Nat} {Q : Option Value → AH → Prop} {π : List Nat} {a1 a2 a3 a4 : Int32} {v6 v7 v8 : Value} (hE : π = [] → Q (some (.int a4)) (hp X dl mI dr)) (hH : π ≠ [] → EW X m_Md_bestOrder 23 [.ref 139, .int a1, .int a2, .int a3, .int a4, .int (nI (π.length - 1)), v6, v7, v8] [] (hp X dl mI dr) Q) : EW X m_Md_bestOrder 253 [.ref 139, .int a1, .int a2, .int a3, .int a4, .int (hrI π.length), v6, v7, v8] [] (hp X dl mI dr) Q := by
  refine P_goto d_Md_bestOrder_253 23 (by decide) ?_
  cases π with
  | nil =>
    refine g_iload d_Md_bestOrder_23 rfl ?_
    refine P_if_lt d_Md_bestOrder_25 256 (by decide) (fun _ => ?_) (fun z => absurd (by decide) z)
    refine g_iload d_Md_bestOrder_256 rfl ?_
    refine P_iret d_Md_bestOrder_258 rfl ?_
    exact hE rfl
  | cons x xs => exact hH (fun z => nomatch z)
theorem lp_Md_bo {X : CX} {dl : List (Nat × Nat)} {mI : Nat → Nat → Int32} {dr : Nat → Nat → Nat} {Q : Option Value → AH → Prop} {T : TD} (hw : TW T) (hT : TM 3 7 142 T mI) {σ : AS} (hS : SM 0 T σ (KO T σ) mI) (hW : SW T σ) {m n : Nat} {r : BQ} (hm : m < 6) (hn : n < 2 ^ 31) (hc5 : (Lm σ m).length ≤ 5) (k : ∀ mI', (r.1 ≠ 0 → ∀ j, j < (Lm σ m).length → mI' 161 j = r.2 j) → FQ mI mI' → Q (some (.int (hrI r.1))) (hp X dl mI' dr)) {b : List Nat} (eb : b = (hpl (aH σ) m (tP T))) : ∀ (d : Nat) (f : Nat) (π : List Nat) (c : Nat) (q : BQ) (Ls : List (List Nat)) (mI2 : Nat → Nat → Int32) (v6 : Value) (v7 : Value) (v8 : Value), (dfs b.length f π c = some Ls) → (π.Nodup) → (∀ x ∈ π, x < b.length) → (c ≤ b.length) → (∀ j, j < π.length → mI2 160 j = nI (b.getD (π.getD j 0) 0)) → (mI2 160 π.length = hrI (cd b c)) → (q.1 ≤ 11) → (q.1 ≠ 0 → ∀ j, j < b.length → mI2 161 j = q.2 j) → (FQ mI mI2) → (r = foW T n σ m b Ls q) → f = d → EW X m_Md_bestOrder 23 [.ref 139, .int (nI m), .int (nI n), .int (nI b.length), .int (hrI q.1), .int (nI π.length), v6, v7, v8] [] (hp X dl mI2 dr) Q := by
  intro d
  induction d using Nat.strongRecOn with
  | _ d ih =>
    intro f π c q Ls mI2 v6 v7 v8 hf hπ1 hπ2 hc ht hcd hq hbs hF hr hd
    have hw1 := hw.1
    have hw2 := hw.2.1
    have hbl : b.length = (Lm σ m).length := by rw [eb]; exact (Lm_perm hW.v m).length_eq.symm
    have hπl := row_len b.length π hπ1 hπ2
    have hB : ∀ x y, x < b.length → y < b.length → (b.getD x 0 < b.getD y 0 ↔ x < y) := by rw [eb]; exact hpl_mono
    have hbP : ∀ x ∈ b, x < tP T := fun x hx => by rw [eb] at hx; exact (hpl_mem.mp hx).1
    have hbm : ∀ x, x ∈ Lm σ m ↔ x ∈ b := fun x => by rw [eb]; exact (Lm_perm hW.v m).mem_iff
    obtain ⟨f, rfl⟩ : ∃ f', f = f' + 1 := by
      cases f with
      | zero => cases hf
      | succ f' => exact ⟨f', rfl⟩
    have hl1 : ∀ j, j < (π.map (fun j => b.getD j 0)).length → mI2 160 j = nI ((π.map (fun j => b.getD j 0)).getD j 0) := fun j hj => by
      rw [List.length_map] at hj
      rw [gD_map hj]; exact ht j hj
    have hlb : ∀ x ∈ π.map (fun j => b.getD j 0), x < 10 := fun x hx => by
      obtain ⟨i, hi, he⟩ := List.mem_map.mp hx
      have := hbP _ (gD_mem (hπ2 i hi))
      omega
    refine g_iload d_Md_bestOrder_23 rfl ?_
    refine N_if_lt d_Md_bestOrder_25 256 (by decide) (by omega) ?_
    refine N_iconst d_Md_bestOrder_28 0 rfl ?_
    refine S_istore_9_6 d_Md_bestOrder_29 rfl rfl ?_
    refine N_iconst d_Md_bestOrder_31 0 rfl ?_
    refine S_istore_9_7 d_Md_bestOrder_32 rfl rfl ?_
    rw [show nI π.length = nI (π.map (fun j => b.getD j 0)).length by rw [List.length_map]]
    refine lp_Md_bo1 hl1 hlb (by rw [List.length_map]; omega) (fun U w7 hU hUb => ?_) _ 0 0 (Nat.zero_le _) (by decide) (fun p => by rw [Nat.zero_testBit]; rfl) rfl
    rw [List.length_map]
    refine g_iload d_Md_bestOrder_61 rfl ?_
    refine g_iload_n d_Md_bestOrder_63 rfl ?_
    refine N_icmp_ne d_Md_bestOrder_64 171 (by decide) ⟨by omega, by omega⟩ (fun dd1 => ?_) (fun dd1 => ?_)
    · have hls : π.length ≠ b.length := by omega
      have hcdP : cd b c ≤ tP T := by
        unfold cd
        by_cases z : c = 0
        · rw [if_pos z]; exact Nat.zero_le _
        · rw [if_neg z]; exact hbP _ (gD_mem (l := b) (i := c - 1) (by omega))
      have hcd1 : hrI (cd b c) + nI 1 = nI (cd b c) := by
        rcases cd b c with _ | x
        · rfl
        · exact nI_add _ _
      refine g_aload_n d_Md_bestOrder_171 rfl ?_
      refine H_getR 160 d_Md_bestOrder_172 f_Md_71.g rfl rfl (by decide) rfl ?_
      refine g_iload d_Md_bestOrder_175 rfl ?_
      refine H_ialdN d_Md_bestOrder_177 rfl rfl (by omega) (by decide) ?_
      refine T_int (hrI (cd b c)) hcd ?_
      refine N_iconst d_Md_bestOrder_178 1 rfl ?_
      refine P_iadd d_Md_bestOrder_179 ?_
      refine T_int (nI (cd b c)) hcd1 ?_
      refine S_istore_9_7 d_Md_bestOrder_180 rfl rfl ?_
      have hT2 := hT.q hF
      refine lp_Md_bo4 hw hT2 (hS.q hw hW.v hF) hW.v hm hU (fun p z1 z2 z3 z4 => ?_) _ (cd b c) (Nat.le_refl _) hcdP (fun x y1 y2 => by omega) rfl
      have hfj := fst_j (π := π) hB hc hbP (g := fun x => x ∈ Lm σ m ∧ U.testBit x = false) (fun x => by
        rw [hbm x, hUb x, decide_eq_false_iff_not]) hπ2 z1 z2 z3 z4
      have hF3 : FQ mI (sI mI2 160 π.length (nI p)) := FQ_sI hF (by omega)
      refine g_aload_n d_Md_bestOrder_218 rfl ?_
      refine H_getR 160 d_Md_bestOrder_219 f_Md_71.g rfl rfl (by decide) rfl ?_
      refine g_iload d_Md_bestOrder_222 rfl ?_
      refine g_iload d_Md_bestOrder_224 rfl ?_
      refine H_iastN d_Md_bestOrder_226 rfl rfl (by omega) (by decide) ?_
      refine g_iload d_Md_bestOrder_227 rfl ?_
      refine g_aload_n d_Md_bestOrder_229 rfl ?_
      refine H_getI d_Md_bestOrder_230 f_Md_115.g rfl rfl (by decide) ?_
      refine T_int (nI (tP T)) (by rw [sI_r (by omega)]; exact hT2.2.1) ?_
      refine N_icmp_lt d_Md_bestOrder_233 242 (by decide) ⟨by omega, by omega⟩ (fun hh1 => ?_) (fun hh1 => ?_)
      · rcases hj : nxJ π (b.length - c) c with _ | j
        · exact absurd (hfj.2 hj) (by omega)
        · obtain ⟨ep, ep2⟩ := hfj.1 j hj
          obtain ⟨j1, j2, j3, j4⟩ := nxJ_some _ _ _ _ hj
          refine N_iinc_9_5_1 d_Md_bestOrder_242 rfl rfl ?_
          refine g_aload_n d_Md_bestOrder_245 rfl ?_
          refine H_getR 160 d_Md_bestOrder_246 f_Md_71.g rfl rfl (by decide) rfl ?_
          refine g_iload d_Md_bestOrder_249 rfl ?_
          refine P_iconst d_Md_bestOrder_251 (-1) rfl ?_
          refine H_iastN d_Md_bestOrder_252 rfl rfl (by omega) (by decide) ?_
          refine P_goto d_Md_bestOrder_253 23 (by decide) ?_
          have g := ih f (by omega) f (π ++ [j]) 0 q Ls (sI (sI mI2 160 π.length (nI p)) 160 (π.length + 1) (-1)) (.int (nI U)) (.int (nI p)) v8 (dfs_some hf hls hj) (List.nodup_append.mpr ⟨hπ1, by simp, by simp; exact fun a ha y => j3 (y ▸ ha)⟩) (fun x hx => by
            rcases List.mem_append.mp hx with y | y
            · exact hπ2 x y
            · rw [List.mem_singleton.mp y]; omega) (Nat.zero_le _) (fun i hi => ?_) ?_ hq (fun y i hi => by rw [sI_r (by omega), sI_r (by omega)]; exact hbs y i hi) (FQ_sI hF3 (by omega)) hr rfl
          · rw [List.length_append] at g
            exact g
          · rw [List.length_append, List.length_singleton] at hi
            rw [ap_D, sI_n (by omega)]
            by_cases y : i < π.length
            · rw [if_pos y, sI_n (by omega)]; exact ht i y
            · rw [if_neg y, if_pos (by omega), show i = π.length by omega, sI_s, ep]
          · rw [List.length_append, List.length_singleton, sI_s]; rfl
      · rcases hj : nxJ π (b.length - c) c with _ | j
        · obtain ⟨hE1, hE2⟩ := dfs_none hf hls hj
          refine S_iinc_9_5 (-1) d_Md_bestOrder_236 rfl rfl rfl ?_
          rw [show nI π.length + -1 = hrI π.length from hrI_m1 (c := π.length) (by omega)]
          refine P_goto d_Md_bestOrder_239 253 (by decide) ?_
          refine bo_bk (fun z => ?_) (fun z => ?_)
          · rw [hr, hE1 z] at k
            exact k _ (by rw [← hbl]; exact fun y i hi => by rw [sI_r (by omega)]; exact hbs y i hi) hF3
          · have hz : π.length ≠ 0 := fun y => z (List.length_eq_zero_iff.mp y)
            have hlast := hπ2 _ (gD_mem (l := π) (i := π.length - 1) (by omega))
            rw [← List.length_dropLast]
            refine ih f (by omega) f π.dropLast (π.getLastD 0 + 1) q Ls (sI mI2 160 π.length (nI p)) _ _ _ (hE2 z) (hπ1.sublist (List.dropLast_sublist _)) (fun x hx => hπ2 x ((List.dropLast_sublist _).subset hx)) (by rw [gl_D z]; omega) (fun j hj => ?_) ?_ hq (fun y i hi => by rw [sI_r (by omega)]; exact hbs y i hi) hF3 hr rfl
            · rw [List.length_dropLast] at hj
              rw [dl_D hj]; exact (fun i (hi : i < π.length) => (show sI mI2 160 π.length (nI p) 160 i = nI (b.getD (π.getD i 0) 0) from by rw [sI_n (by omega)]; exact ht i hi)) j (by omega)
            · rw [List.length_dropLast, gl_D z]
              show _ = hrI (cd b (π.getD (π.length - 1) 0 + 1))
              unfold cd
              rw [if_neg (Nat.succ_ne_zero _)]
              exact (fun i (hi : i < π.length) => (show sI mI2 160 π.length (nI p) 160 i = nI (b.getD (π.getD i 0) 0) from by rw [sI_n (by omega)]; exact ht i hi)) (π.length - 1) (by omega)
        · have := (hfj.1 j hj).2
          omega
    · have hls : π.length = b.length := by omega
      obtain ⟨Ls', hLs, hE1, hE2⟩ := dfs_leaf hf hls
      have hpm : (π.map (fun j => b.getD j 0)).Perm (Lm σ m) := by
        have h1 := (row_prm b.length π hπ1 hπ2 hls).map (fun j => b.getD j 0)
        rw [map_rg] at h1
        rw [eb] at h1 ⊢
        exact h1.trans (Lm_perm hW.v m).symm
      refine g_aload_n d_Md_bestOrder_67 rfl ?_
      refine C_V0 d_Md_bestOrder_68 k_Md_284 rfl (Nat.le_of_ble_eq_true rfl) (by decide) (Nat.le_of_ble_eq_true rfl) ?_
      refine c_Md_tries hw (hS.q hw hW.v hF) hW.v (fun mI3 hS3 hF3 => ?_)
      refine N_iconst d_Md_bestOrder_71 0 rfl ?_
      refine S_istore_9_7 d_Md_bestOrder_72 rfl rfl ?_
      rw [show nI b.length = nI (π.map (fun j => b.getD j 0)).length by rw [List.length_map, hls]]
      refine lp_Md_bo2 hm (by rw [List.length_map]; omega) (fun j hj => by rw [hF3.1 160 (by omega)]; exact hl1 j hj) (fun mI4 u7 g1 g2 g3 => ?_) _ 0 mI3 (Nat.zero_le _) (fun j hj => absurd hj (Nat.not_lt_zero _)) (fun _ _ => rfl) (fun _ _ => rfl) rfl
      have hS4 := SM_oT hw hW.v hm hpm hS3 g1 g2
      have hF4 : FQ mI mI4 := (hF.tr hF3.q).tr (FW.q ⟨g3, fun j hj => g2 j (by rw [List.length_map]; omega)⟩)
      have hl4 : ∀ j, j < (π.map (fun j => b.getD j 0)).length → mI4 160 j = nI ((π.map (fun j => b.getD j 0)).getD j 0) := fun j hj => by rw [g3 160 (by omega), hF3.1 160 (by omega)]; exact hl1 j hj
      have hb4 : mI4 161 = mI2 161 := by rw [g3 161 (by omega), hF3.1 161 (by omega)]
      refine g_aload_n d_Md_bestOrder_108 rfl ?_
      refine g_iload_n d_Md_bestOrder_109 rfl ?_
      refine C_V1 d_Md_bestOrder_110 k_Md_287 rfl (Nat.le_of_ble_eq_true rfl) (by decide) (Nat.le_of_ble_eq_true rfl) ?_
      refine c_Md_goesOn hw (hT.q hF4) (SW_oT hW hpm) hS4 hn (fun mI5 hS5 hF5 => ?_)
      have hF5q := hF4.tr hF5.q
      have hKb := kB_lt (aH (yrN T n (oT σ m (π.map (fun j => b.getD j 0))))) (tP T)
      have hK31 : KO T (yrN T n (oT σ m (π.map (fun j => b.getD j 0)))) < 2 ^ 31 := p2_31 hKb hw2
      refine g_aload_n d_Md_bestOrder_113 rfl ?_
      refine H_getR 140 d_Md_bestOrder_114 f_Md_7.g rfl rfl (by decide) rfl ?_
      refine N_bipush d_Md_bestOrder_117 119 rfl ?_
      refine H_ialdN d_Md_bestOrder_119 rfl rfl (by omega) (by decide) ?_
      refine T_int (nI (KO T (yrN T n (oT σ m (π.map (fun j => b.getD j 0)))))) hS5.2.1 ?_
      refine C_S1 d_Md_bestOrder_120 k_Md_290 (Nat.le_of_ble_eq_true rfl) (by decide) (Nat.le_of_ble_eq_true rfl) ?_
      refine (c_Md_ones hK31) ?_
      have ho := onesN_le (KO T (yrN T n (oT σ m (π.map (fun j => b.getD j 0))))) 10
      refine S_istore_9_7 d_Md_bestOrder_123 rfl rfl ?_
      refine g_iload d_Md_bestOrder_125 rfl ?_
      refine g_iload d_Md_bestOrder_127 rfl ?_
      refine P_icmp_le d_Md_bestOrder_129 165 (by decide) (fun ee1 => ?_) (fun ee1 => ?_)
      · have hle := (hrI_le (a := onesN (KO T (yrN T n (oT σ m (π.map (fun j => b.getD j 0))))) 10) (c := q.1) (by omega) (by omega)).mp ee1
        have hwg : (wg T n (oT σ m (π.map (fun j => b.getD j 0))) (fun j => nI ((π.map (fun j => b.getD j 0)).getD j 0)) q) = q := by unfold wg; rw [if_neg (fun y => by have : q.1 ≤ onesN (KO T (yrN T n (oT σ m (π.map (fun j => b.getD j 0))))) 10 := y; omega)]
        rw [show (π.map (fun j => b.getD j 0)).length = b.length by rw [List.length_map, hls]]
        have hl5 : ∀ j, j < π.length → mI5 160 j = nI (b.getD (π.getD j 0) 0) := fun j hj => by rw [hF5.1 160 (by omega) (by omega), hl4 j (by rw [List.length_map]; exact hj), gD_map hj]
        have hb5 : q.1 ≠ 0 → ∀ j, j < b.length → mI5 161 j = q.2 j := fun y j hj => by rw [hF5.1 161 (by omega) (by omega), hb4]; exact hbs y j hj
        refine S_iinc_9_5 (-1) d_Md_bestOrder_165 rfl rfl rfl ?_
        rw [show nI π.length + -1 = hrI π.length from hrI_m1 (c := π.length) (by omega)]
        refine P_goto d_Md_bestOrder_168 253 (by decide) ?_
        refine bo_bk (fun z => ?_) (fun z => ?_)
        · have hr2 : r = q := by rw [hr, hLs, hE1 z, foW_c, hwg]; rfl
          rw [hr2] at k
          exact k mI5 (by rw [← hbl]; exact hb5) hF5q
        · have hz : π.length ≠ 0 := fun y => z (List.length_eq_zero_iff.mp y)
          have hlast := hπ2 _ (gD_mem (l := π) (i := π.length - 1) (by omega))
          rw [← List.length_dropLast]
          refine ih f (by omega) f π.dropLast (π.getLastD 0 + 1) q Ls' mI5 _ _ _ (hE2 z) (hπ1.sublist (List.dropLast_sublist _)) (fun x hx => hπ2 x ((List.dropLast_sublist _).subset hx)) (by rw [gl_D z]; omega) (fun j hj => ?_) ?_ hq hb5 hF5q (by rw [hr, hLs, foW_c, hwg]) rfl
          · rw [List.length_dropLast] at hj
            rw [dl_D hj]; exact hl5 j (by omega)
          · rw [List.length_dropLast, gl_D z]
            show _ = hrI (cd b (π.getD (π.length - 1) 0 + 1))
            unfold cd
            rw [if_neg (Nat.succ_ne_zero _)]
            exact hl5 (π.length - 1) (by omega)
      · have hle := mt (hrI_le (a := onesN (KO T (yrN T n (oT σ m (π.map (fun j => b.getD j 0))))) 10) (c := q.1) (by omega) (by omega)).mpr ee1
        have hwg : (wg T n (oT σ m (π.map (fun j => b.getD j 0))) (fun j => nI ((π.map (fun j => b.getD j 0)).getD j 0)) q) = (onesN (KO T (yrN T n (oT σ m (π.map (fun j => b.getD j 0))))) 10 + 1, fun j => nI ((π.map (fun j => b.getD j 0)).getD j 0)) := by unfold wg; exact if_pos (show q.1 ≤ onesN (KO T (yrN T n (oT σ m (π.map (fun j => b.getD j 0))))) 10 by omega)
        refine g_iload d_Md_bestOrder_132 rfl ?_
        refine S_istore_9_4 d_Md_bestOrder_134 rfl rfl ?_
        refine N_iconst d_Md_bestOrder_136 0 rfl ?_
        refine S_istore_9_8 d_Md_bestOrder_137 rfl rfl ?_
        refine lp_Md_bo3 (by rw [List.length_map]; omega) (fun j hj => by rw [hF5.1 160 (by omega) (by omega)]; exact hl4 j hj) (fun mI6 u8 g4 g5 => ?_) _ 0 mI5 (Nat.zero_le _) (fun j hj => absurd hj (Nat.not_lt_zero _)) (fun _ _ => rfl) rfl
        rw [show (π.map (fun j => b.getD j 0)).length = b.length by rw [List.length_map, hls]] at g4 ⊢
        have hF6 : FQ mI mI6 := hF5q.tr ⟨fun q y1 y2 => g5 q (by omega), fun j _ => by rw [g5 140 (by omega)]⟩
        have hl6 : ∀ j, j < π.length → mI6 160 j = nI (b.getD (π.getD j 0) 0) := fun j hj => by rw [g5 160 (by omega), hF5.1 160 (by omega) (by omega), hl4 j (by rw [List.length_map]; exact hj), gD_map hj]
        have hb6 : (onesN (KO T (yrN T n (oT σ m (π.map (fun j => b.getD j 0))))) 10 + 1, fun j => nI ((π.map (fun j => b.getD j 0)).getD j 0)).1 ≠ 0 → ∀ j, j < b.length → mI6 161 j = (onesN (KO T (yrN T n (oT σ m (π.map (fun j => b.getD j 0))))) 10 + 1, fun j => nI ((π.map (fun j => b.getD j 0)).getD j 0)).2 j := fun _ j hj => g4 j (by omega)
        rw [show nI (onesN (KO T (yrN T n (oT σ m (π.map (fun j => b.getD j 0))))) 10) = hrI (onesN (KO T (yrN T n (oT σ m (π.map (fun j => b.getD j 0))))) 10 + 1, fun j => nI ((π.map (fun j => b.getD j 0)).getD j 0)).1 from rfl]
        refine S_iinc_9_5 (-1) d_Md_bestOrder_165 rfl rfl rfl ?_
        rw [show nI π.length + -1 = hrI π.length from hrI_m1 (c := π.length) (by omega)]
        refine P_goto d_Md_bestOrder_168 253 (by decide) ?_
        refine bo_bk (fun z => ?_) (fun z => ?_)
        · have hr2 : r = (onesN (KO T (yrN T n (oT σ m (π.map (fun j => b.getD j 0))))) 10 + 1, fun j => nI ((π.map (fun j => b.getD j 0)).getD j 0)) := by rw [hr, hLs, hE1 z, foW_c, hwg]; rfl
          rw [hr2] at k
          exact k mI6 (by rw [← hbl]; exact hb6) hF6
        · have hz : π.length ≠ 0 := fun y => z (List.length_eq_zero_iff.mp y)
          have hlast := hπ2 _ (gD_mem (l := π) (i := π.length - 1) (by omega))
          rw [← List.length_dropLast]
          refine ih f (by omega) f π.dropLast (π.getLastD 0 + 1) (onesN (KO T (yrN T n (oT σ m (π.map (fun j => b.getD j 0))))) 10 + 1, fun j => nI ((π.map (fun j => b.getD j 0)).getD j 0)) Ls' mI6 _ _ _ (hE2 z) (hπ1.sublist (List.dropLast_sublist _)) (fun x hx => hπ2 x ((List.dropLast_sublist _).subset hx)) (by rw [gl_D z]; omega) (fun j hj => ?_) ?_ (show onesN (KO T (yrN T n (oT σ m (π.map (fun j => b.getD j 0))))) 10 + 1 ≤ 11 by omega) hb6 hF6 (by rw [hr, hLs, foW_c, hwg]) rfl
          · rw [List.length_dropLast] at hj
            rw [dl_D hj]; exact hl6 j (by omega)
          · rw [List.length_dropLast, gl_D z]
            show _ = hrI (cd b (π.getD (π.length - 1) 0 + 1))
            unfold cd
            rw [if_neg (Nat.succ_ne_zero _)]
            exact hl6 (π.length - 1) (by omega)

