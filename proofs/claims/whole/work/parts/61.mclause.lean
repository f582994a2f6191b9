/-- nothing but these fields of the model and its draft has changed -/
def F8 (S : List Nat) (mI mI' : Nat → Nat → Int32) : Prop := (∀ q, q ≠ 139 → ¬ (151 ≤ q ∧ q ≤ 158) → mI' q = mI q) ∧ ∀ f, ¬ f ∈ S → mI' 139 f = mI 139 f
theorem F8.rf {S : List Nat} {mI : Nat → Nat → Int32} : F8 S mI mI := ⟨fun _ _ _ => rfl, fun _ _ => rfl⟩
theorem F8.tr {S : List Nat} {m1 m2 m3 : Nat → Nat → Int32} (h : F8 S m1 m2) (g : F8 S m2 m3) : F8 S m1 m3 := ⟨fun q hq h2 => (g.1 q hq h2).trans (h.1 q hq h2), fun f hf => (g.2 f hf).trans (h.2 f hf)⟩
theorem F8.mo {S S' : List Nat} {m1 m2 : Nat → Nat → Int32} (h : F8 S m1 m2) (hs : ∀ f, f ∈ S → f ∈ S') : F8 S' m1 m2 := ⟨h.1, fun f hf => h.2 f (fun z => hf (hs f z))⟩
theorem F9.e {S S' : List Nat} {m1 m2 : Nat → Nat → Int32} (h : F9 S m1 m2) (hs : ∀ f, f ∈ S → f ∈ S') : F8 S' m1 m2 := ⟨fun q hq _ => h.1 q hq, fun f hf => h.2 f (fun z => hf (hs f z))⟩
theorem F8_sI {S : List Nat} {f : Nat} {m1 m2 : Nat → Nat → Int32} {x : Int32} (h : F8 S m1 m2) (hf : f ∈ S) : F8 S m1 (sI m2 139 f x) := ⟨fun q hq h2 => (sI_r hq).trans (h.1 q hq h2), fun g hg => (sI_n (fun z => hg (by rw [z.2]; exact hf))).trans (h.2 g hg)⟩
theorem F8_sC {S : List Nat} {r f : Nat} {m1 m2 : Nat → Nat → Int32} {x : Int32} (h : F8 S m1 m2) (hr : 151 ≤ r ∧ r ≤ 158) : F8 S m1 (sI m2 r f x) := ⟨fun q hq h2 => (sI_r (by omega)).trans (h.1 q hq h2), fun g hg => (congrFun (sI_r (by omega)) g).trans (h.2 g hg)⟩
theorem XM.f8 {S : List Nat} {t : Nat → Int32} {L : Nat} {mI mI' : Nat → Nat → Int32} (h : XM t L mI) (hF : F8 S mI mI') (hs : ¬ 14 ∈ S) : XM t L mI' := ⟨h.1, (hF.2 14 hs).trans h.2.1, fun i hi => by rw [hF.1 150 (by omega) (by omega)]; exact h.2.2 i hi⟩
theorem TKM.f8 {S : List Nat} {t : Nat → Int32} {L x : Nat} {mI mI' : Nat → Nat → Int32} (h : TKM t L x mI) (hF : F8 S mI mI') (hs : ¬ 14 ∈ S ∧ ¬ 16 ∈ S ∧ ¬ 17 ∈ S ∧ ¬ 18 ∈ S) : TKM t L x mI' := ⟨h.1.f8 hF hs.1, h.2.1, (hF.2 18 hs.2.2.2).trans h.2.2.1, (hF.2 16 hs.2.1).trans h.2.2.2.1, (hF.2 17 hs.2.2.1).trans h.2.2.2.2⟩
theorem TM.f9 {S : List Nat} {T : TD} {mI mI' : Nat → Nat → Int32} (h : TM 19 23 151 T mI) (hF : F9 S mI mI') (hs : ¬ 19 ∈ S ∧ ¬ 23 ∈ S) : TM 19 23 151 T mI' := h.to (hF.2 19 hs.1) (hF.2 23 hs.2) (fun q z1 z2 => hF.1 q (by omega))
theorem mo1 : ∀ f : Nat, f ∈ [15, 16, 17, 18] → f ∈ [15, 16, 17, 18, 19, 23, 30] := by decide
theorem mo2 : ∀ f : Nat, f ∈ [15, 16, 17, 18, 30] → f ∈ [15, 16, 17, 18, 19, 23, 30] := by decide
theorem up_cell {mI : Nat → Nat → Int32} {r n i v : Nat} {g : Nat → Nat} (h : ∀ i, i < n → mI r i = nI (g i)) (hi : i < n + 1) : sI mI r n (nI v) r i = nI (va_up g n v i) := by
  by_cases z : i = n
  · rw [z, va_up_s]; exact sI_s _ _ _ _
  · rw [va_up_n _ _ z, sI_n (fun y => z y.2)]; exact h i (by omega)
theorem up_cellH {mI : Nat → Nat → Int32} {r n i v : Nat} {g : Nat → Nat} (h : ∀ i, i < n → mI r i = hrI (g i)) (hi : i < n + 1) : sI mI r n (hrI v) r i = hrI (va_up g n v i) := by
  by_cases z : i = n
  · rw [z, va_up_s]; exact sI_s _ _ _ _
  · rw [va_up_n _ _ z, sI_n (fun y => z y.2)]; exact h i (by omega)
theorem t_Md_takesMan {X : CX} {dl : List (Nat × Nat)} {mI : Nat → Nat → Int32} {dr : Nat → Nat → Nat} {Q : Option Value → AH → Prop} {T : TD} {s y c : Nat} (hT : TM 19 23 151 T mI) (hn : tn T < 5) (k : ∀ mI', TM 19 23 151 (tPer T s y c) mI' → F8 [19] mI mI' → Q (some (.int (nI 1))) (hp X dl mI' dr)) : EW X m_Md_takesMan 79 [.ref 139, .int (nI s), .int (nI y), .int (hrI c)] [] (hp X dl mI dr) Q := by
  refine g_aload_n d_Md_takesMan_79 rfl ?_
  refine H_getR 151 d_Md_takesMan_80 f_Md_44.g rfl rfl (by decide) rfl ?_
  refine g_aload_n d_Md_takesMan_83 rfl ?_
  refine H_getI d_Md_takesMan_84 f_Md_176.g rfl rfl (by decide) ?_
  refine T_int (nI (tn T)) hT.1 ?_
  refine g_iload_n d_Md_takesMan_87 rfl ?_
  refine H_iastN d_Md_takesMan_88 rfl rfl (by omega) (by decide) ?_
  refine g_aload_n d_Md_takesMan_89 rfl ?_
  refine H_getR 152 d_Md_takesMan_90 f_Md_47.g rfl rfl (by decide) rfl ?_
  refine g_aload_n d_Md_takesMan_93 rfl ?_
  refine H_getI d_Md_takesMan_94 f_Md_176.g rfl rfl (by decide) ?_
  refine T_int (nI (tn T)) (by rw [sI_r (by omega)]; exact hT.1) ?_
  refine g_iload_n d_Md_takesMan_97 rfl ?_
  refine H_iastN d_Md_takesMan_98 rfl rfl (by omega) (by decide) ?_
  refine g_aload_n d_Md_takesMan_99 rfl ?_
  refine H_getR 153 d_Md_takesMan_100 f_Md_50.g rfl rfl (by decide) rfl ?_
  refine g_aload_n d_Md_takesMan_103 rfl ?_
  refine H_getI d_Md_takesMan_104 f_Md_176.g rfl rfl (by decide) ?_
  refine T_int (nI (tn T)) (by rw [sI_r (by omega), sI_r (by omega)]; exact hT.1) ?_
  refine g_iload_n d_Md_takesMan_107 rfl ?_
  refine H_iastN d_Md_takesMan_108 rfl rfl (by omega) (by decide) ?_
  refine g_aload_n d_Md_takesMan_109 rfl ?_
  refine P_dupA d_Md_takesMan_110 ?_
  refine H_getI d_Md_takesMan_111 f_Md_176.g rfl rfl (by decide) ?_
  refine T_int (nI (tn T)) (by rw [sI_r (by omega), sI_r (by omega), sI_r (by omega)]; exact hT.1) ?_
  refine N_iconst d_Md_takesMan_114 1 rfl ?_
  refine N_iadd d_Md_takesMan_115 ?_
  refine H_putI d_Md_takesMan_116 f_Md_176 rfl rfl (by decide) ?_
  refine N_iconst d_Md_takesMan_119 1 rfl ?_
  refine P_zret d_Md_takesMan_120 rfl (by decide) ?_
  obtain ⟨h1, h2, h3, h4, h5⟩ := hT
  refine k _ ⟨sI_s _ _ _ _, ?_, fun i hi => ⟨?_, ?_, ?_⟩, fun p hp1 => ?_, fun p q1 q2 => ?_⟩ (F8_sI (F8_sC (F8_sC (F8_sC F8.rf (by omega)) (by omega)) (by omega)) (by decide))
  · rw [sI_n (by omega), sI_r (by omega), sI_r (by omega), sI_r (by omega)]; exact h2
  · rw [sI_r (by omega), sI_r (by omega), sI_r (by omega)]; exact up_cell (fun i hi => (h3 i hi).1) hi
  · rw [sI_r (by omega), sI_r (by omega)]; exact up_cell (fun i hi => by rw [sI_r (by omega)]; exact (h3 i hi).2.1) hi
  · rw [sI_r (by omega)]; exact up_cellH (fun i hi => by rw [sI_r (by omega), sI_r (by omega)]; exact (h3 i hi).2.2) hi
  · simp only [sI_r (show ¬ (151 + 3 : Nat) = 139 by omega), sI_r (show ¬ (151 + 3 : Nat) = 153 by omega), sI_r (show ¬ (151 + 3 : Nat) = 152 by omega), sI_r (show ¬ (151 + 3 : Nat) = 151 by omega), sI_r (show ¬ (151 + 4 : Nat) = 139 by omega), sI_r (show ¬ (151 + 4 : Nat) = 153 by omega), sI_r (show ¬ (151 + 4 : Nat) = 152 by omega), sI_r (show ¬ (151 + 4 : Nat) = 151 by omega), sI_r (show ¬ (151 + 5 : Nat) = 139 by omega), sI_r (show ¬ (151 + 5 : Nat) = 153 by omega), sI_r (show ¬ (151 + 5 : Nat) = 152 by omega), sI_r (show ¬ (151 + 5 : Nat) = 151 by omega), sI_r (show ¬ (151 + 6 : Nat) = 139 by omega), sI_r (show ¬ (151 + 6 : Nat) = 153 by omega), sI_r (show ¬ (151 + 6 : Nat) = 152 by omega), sI_r (show ¬ (151 + 6 : Nat) = 151 by omega), sI_r (show ¬ (151 + 7 : Nat) = 139 by omega), sI_r (show ¬ (151 + 7 : Nat) = 153 by omega), sI_r (show ¬ (151 + 7 : Nat) = 152 by omega), sI_r (show ¬ (151 + 7 : Nat) = 151 by omega)]
    exact h4 p hp1
  · rw [sI_r (by omega), sI_r (by omega), sI_r (by omega), sI_r (by omega)]; exact h5 p q1 q2
theorem t_Md_takesPromise {X : CX} {dl : List (Nat × Nat)} {mI : Nat → Nat → Int32} {dr : Nat → Nat → Nat} {Q : Option Value → AH → Prop} {T : TD} {kd wk nd hd : Nat} (hT : TM 19 23 151 T mI) (hn : tP T < 10) (h30 : mI 139 30 = nI nd) (k : ∀ mI', TM 19 23 151 (tPro T kd wk nd hd) mI' → F8 [23] mI mI' → Q (some (.int (nI 1))) (hp X dl mI' dr)) : EW X m_Md_takesPromise 75 [.ref 139, .int (nI kd), .int (nI hd), .int (nI wk)] [] (hp X dl mI dr) Q := by
  refine g_aload_n d_Md_takesPromise_75 rfl ?_
  refine H_getR 154 d_Md_takesPromise_76 f_Md_53.g rfl rfl (by decide) rfl ?_
  refine g_aload_n d_Md_takesPromise_79 rfl ?_
  refine H_getI d_Md_takesPromise_80 f_Md_183.g rfl rfl (by decide) ?_
  refine T_int (nI (tP T)) hT.2.1 ?_
  refine g_iload_n d_Md_takesPromise_83 rfl ?_
  refine H_iastN d_Md_takesPromise_84 rfl rfl (by omega) (by decide) ?_
  refine g_aload_n d_Md_takesPromise_85 rfl ?_
  refine H_getR 155 d_Md_takesPromise_86 f_Md_56.g rfl rfl (by decide) rfl ?_
  refine g_aload_n d_Md_takesPromise_89 rfl ?_
  refine H_getI d_Md_takesPromise_90 f_Md_183.g rfl rfl (by decide) ?_
  refine T_int (nI (tP T)) (by rw [sI_r (by omega)]; exact hT.2.1) ?_
  refine g_iload_n d_Md_takesPromise_93 rfl ?_
  refine H_iastN d_Md_takesPromise_94 rfl rfl (by omega) (by decide) ?_
  refine g_aload_n d_Md_takesPromise_95 rfl ?_
  refine H_getR 156 d_Md_takesPromise_96 f_Md_59.g rfl rfl (by decide) rfl ?_
  refine g_aload_n d_Md_takesPromise_99 rfl ?_
  refine H_getI d_Md_takesPromise_100 f_Md_183.g rfl rfl (by decide) ?_
  refine T_int (nI (tP T)) (by rw [sI_r (by omega), sI_r (by omega)]; exact hT.2.1) ?_
  refine g_aload_n d_Md_takesPromise_103 rfl ?_
  refine H_getI d_Md_takesPromise_104 f_Md_150.g rfl rfl (by decide) ?_
  refine T_int (nI (nd)) (by rw [sI_r (by omega), sI_r (by omega)]; exact h30) ?_
  refine H_iastN d_Md_takesPromise_107 rfl rfl (by omega) (by decide) ?_
  refine g_aload_n d_Md_takesPromise_108 rfl ?_
  refine H_getR 157 d_Md_takesPromise_109 f_Md_62.g rfl rfl (by decide) rfl ?_
  refine g_aload_n d_Md_takesPromise_112 rfl ?_
  refine H_getI d_Md_takesPromise_113 f_Md_183.g rfl rfl (by decide) ?_
  refine T_int (nI (tP T)) (by rw [sI_r (by omega), sI_r (by omega), sI_r (by omega)]; exact hT.2.1) ?_
  refine g_iload_n d_Md_takesPromise_116 rfl ?_
  refine H_iastN d_Md_takesPromise_117 rfl rfl (by omega) (by decide) ?_
  refine g_aload_n d_Md_takesPromise_118 rfl ?_
  refine P_dupA d_Md_takesPromise_119 ?_
  refine H_getI d_Md_takesPromise_120 f_Md_183.g rfl rfl (by decide) ?_
  refine T_int (nI (tP T)) (by rw [sI_r (by omega), sI_r (by omega), sI_r (by omega), sI_r (by omega)]; exact hT.2.1) ?_
  refine N_iconst d_Md_takesPromise_123 1 rfl ?_
  refine N_iadd d_Md_takesPromise_124 ?_
  refine H_putI d_Md_takesPromise_125 f_Md_183 rfl rfl (by decide) ?_
  refine N_iconst d_Md_takesPromise_128 1 rfl ?_
  refine P_zret d_Md_takesPromise_129 rfl (by decide) ?_
  obtain ⟨h1, h2, h3, h4, h5⟩ := hT
  refine k _ ⟨?_, sI_s _ _ _ _, fun i hi => ⟨?_, ?_, ?_⟩, fun p hp1 => ⟨?_, ?_, ?_, ?_, ?_⟩, fun p q1 q2 => ?_⟩ (F8_sI (F8_sC (F8_sC (F8_sC (F8_sC F8.rf (by omega)) (by omega)) (by omega)) (by omega)) (by decide))
  · rw [sI_n (by omega), sI_r (by omega), sI_r (by omega), sI_r (by omega), sI_r (by omega)]; exact h1
  · rw [sI_r (by omega), sI_r (by omega), sI_r (by omega), sI_r (by omega), sI_r (by omega)]; exact (h3 i hi).1
  · rw [sI_r (by omega), sI_r (by omega), sI_r (by omega), sI_r (by omega), sI_r (by omega)]; exact (h3 i hi).2.1
  · rw [sI_r (by omega), sI_r (by omega), sI_r (by omega), sI_r (by omega), sI_r (by omega)]; exact (h3 i hi).2.2
  · rw [sI_r (by omega), sI_r (by omega), sI_r (by omega), sI_r (by omega)]; exact up_cell (fun i hi => (h4 i hi).1) hp1
  · rw [sI_r (by omega), sI_r (by omega), sI_r (by omega)]; exact up_cell (fun i hi => by rw [sI_r (by omega)]; exact (h4 i hi).2.1) hp1
  · rw [sI_r (by omega), sI_r (by omega)]; exact up_cell (fun i hi => by rw [sI_r (by omega), sI_r (by omega)]; exact (h4 i hi).2.2.1) hp1
  · rw [sI_r (by omega)]; exact up_cell (fun i hi => by rw [sI_r (by omega), sI_r (by omega), sI_r (by omega)]; exact (h4 i hi).2.2.2.1) hp1
  · rw [sI_r (by omega), sI_r (by omega), sI_r (by omega), sI_r (by omega), sI_r (by omega)]
    show _ = nI (va_up (tsf T) (tP T) 0 p)
    have hp2 : p < tP T + 1 := hp1
    by_cases z : p = tP T
    · rw [z, va_up_s]; exact h5 _ (Nat.le_refl _) hn
    · rw [va_up_n _ _ z]; exact (h4 p (by omega)).2.2.2.2
  · rw [sI_r (by omega), sI_r (by omega), sI_r (by omega), sI_r (by omega), sI_r (by omega)]; exact h5 p (by have q3 : tP T + 1 ≤ p := q1; omega) q2
theorem t_Md_takesStrife {X : CX} {dl : List (Nat × Nat)} {mI : Nat → Nat → Int32} {dr : Nat → Nat → Nat} {Q : Option Value → AH → Prop} {T : TD} {a b : Nat} {v2 : Value} (hw : TW T) (hT : TM 19 23 151 T mI) (ha : a < tP T) (hb : b < tP T) (hne : b ≠ a) (h30 : mI 139 30 = nI b) (k : ∀ mI', TM 19 23 151 (tStr T a b) mI' → F8 [] mI mI' → Q (some (.int (nI 1))) (hp X dl mI' dr)) : EW X m_Md_takesStrife 61 [.ref 139, .int (nI a), v2] [] (hp X dl mI dr) Q := by
  have hw2 := hw.2.1
  refine g_aload_n d_Md_takesStrife_61 rfl ?_
  refine H_getR 158 d_Md_takesStrife_62 f_Md_65.g rfl rfl (by decide) rfl ?_
  refine g_iload_n d_Md_takesStrife_65 rfl ?_
  refine P_dup2 d_Md_takesStrife_66 ?_
  refine H_ialdN d_Md_takesStrife_67 rfl rfl (by omega) (by decide) ?_
  refine T_int (nI (tsf T a)) (hT.2.2.2.1 a ha).2.2.2.2 ?_
  refine N_iconst d_Md_takesStrife_68 1 rfl ?_
  refine g_aload_n d_Md_takesStrife_69 rfl ?_
  refine H_getI d_Md_takesStrife_70 f_Md_150.g rfl rfl (by decide) ?_
  refine T_int (nI (b)) h30 ?_
  refine N_ishl d_Md_takesStrife_73 (by omega) (p2_lt (by omega)) ?_
  refine N_ior d_Md_takesStrife_74 ?_
  refine H_iastN d_Md_takesStrife_75 rfl rfl (by omega) (by decide) ?_
  refine g_aload_n d_Md_takesStrife_76 rfl ?_
  refine H_getR 158 d_Md_takesStrife_77 f_Md_65.g rfl rfl (by decide) rfl ?_
  refine g_aload_n d_Md_takesStrife_80 rfl ?_
  refine H_getI d_Md_takesStrife_81 f_Md_150.g rfl rfl (by decide) ?_
  refine T_int (nI (b)) (by rw [sI_r (by omega)]; exact h30) ?_
  refine P_dup2 d_Md_takesStrife_84 ?_
  refine H_ialdN d_Md_takesStrife_85 rfl rfl (by omega) (by decide) ?_
  refine T_int (nI (tsf T b)) (by rw [sI_n (fun z => hne z.2)]; exact (hT.2.2.2.1 b hb).2.2.2.2) ?_
  refine N_iconst d_Md_takesStrife_86 1 rfl ?_
  refine g_iload_n d_Md_takesStrife_87 rfl ?_
  refine N_ishl d_Md_takesStrife_88 (by omega) (p2_lt (by omega)) ?_
  refine N_ior d_Md_takesStrife_89 ?_
  refine H_iastN d_Md_takesStrife_90 rfl rfl (by omega) (by decide) ?_
  refine N_iconst d_Md_takesStrife_91 1 rfl ?_
  refine P_zret d_Md_takesStrife_92 rfl (by decide) ?_
  obtain ⟨h1, h2, h3, h4, h5⟩ := hT
  rw [Nat.one_mul, Nat.one_mul]
  refine k _ ⟨?_, ?_, fun i hi => ⟨?_, ?_, ?_⟩, fun p hp1 => ⟨?_, ?_, ?_, ?_, ?_⟩, fun p q1 q2 => ?_⟩ (F8_sC (F8_sC F8.rf (by omega)) (by omega))
  · rw [sI_r (by omega), sI_r (by omega)]; exact h1
  · rw [sI_r (by omega), sI_r (by omega)]; exact h2
  · rw [sI_r (by omega), sI_r (by omega)]; exact (h3 i hi).1
  · rw [sI_r (by omega), sI_r (by omega)]; exact (h3 i hi).2.1
  · rw [sI_r (by omega), sI_r (by omega)]; exact (h3 i hi).2.2
  · rw [sI_r (by omega), sI_r (by omega)]; exact (h4 p hp1).1
  · rw [sI_r (by omega), sI_r (by omega)]; exact (h4 p hp1).2.1
  · rw [sI_r (by omega), sI_r (by omega)]; exact (h4 p hp1).2.2.1
  · rw [sI_r (by omega), sI_r (by omega)]; exact (h4 p hp1).2.2.2.1
  · show _ = nI (va_up (va_up (tsf T) a (tsf T a ||| 2 ^ b)) b (va_up (tsf T) a (tsf T a ||| 2 ^ b) b ||| 2 ^ a) p)
    rw [va_up_n (tsf T) _ hne]
    by_cases z : p = b
    · rw [z, va_up_s]; exact sI_s _ _ _ _
    · rw [va_up_n _ _ z, sI_n (fun y => z y.2)]
      by_cases y : p = a
      · rw [y, va_up_s]; exact sI_s _ _ _ _
      · rw [va_up_n _ _ y, sI_n (fun x => y x.2)]; exact (h4 p hp1).2.2.2.2
  · have q3 : tP T ≤ p := q1
    rw [sI_n (by omega), sI_n (by omega)]; exact h5 p q3 q2
theorem e_Md_takesNeeds {X : CX} {dl : List (Nat × Nat)} {mI : Nat → Nat → Int32} {dr : Nat → Nat → Nat} {Q : Option Value → AH → Prop} {t : Nat → Int32} {L x P i : Nat} {v1 v4 : Int32} {mI2 : Nat → Nat → Int32} (hK : TKM t L x mI) (hno : ndW t L x P = none) (hi : i ≤ 200) (hF : F9 [30] mI mI2) (k : ∀ mI', (∀ nd, ndW t L x P = some nd → TKM t L (tkE t L x) mI' ∧ mI' 139 30 = nI nd) → (ndW t L x P = none → TKM t L x mI') → F9 [15, 16, 17, 18, 30] mI mI' → Q (some (.int (bI ((ndW t L x P).isSome = true)))) (hp X dl mI' dr)) : EW X m_Md_takesNeeds 14 [.ref 139, .int v1, .int (nI 0), .int (nI i), .int v4] [] (hp X dl mI2 dr) Q := by
  have hL := hK.1.1
  have hle := tk_le (t := t) hK.2.1
  have hK2 := hK.f9 hF (by decide)
  refine g_iload_n d_Md_takesNeeds_14 rfl ?_
  refine g_aload_n d_Md_takesNeeds_15 rfl ?_
  refine H_getI d_Md_takesNeeds_16 f_Md_137.g rfl rfl (by decide) ?_
  refine T_int (nI (tkE t L x)) hK2.2.2.2.2 ?_
  refine N_icmp_ge d_Md_takesNeeds_19 88 (by decide) ⟨by omega, by omega⟩ (fun c1 => ?_) (fun c1 => ?_)
  · refine g_iload_n d_Md_takesNeeds_88 rfl ?_
    refine N_if_eq d_Md_takesNeeds_89 96 (by decide) (by omega) (fun c2 => ?_) (fun c2 => ?_)
    · refine g_iload_n d_Md_takesNeeds_96 rfl ?_
      refine P_zret d_Md_takesNeeds_97 rfl (by decide) ?_
      exact R_i (k mI2 (fun nd hnd => by rw [hno] at hnd; cases hnd) (fun _ => hK2) (hF.mo (by decide))) (bI_f' (by rw [hno]; decide))
    · exact absurd rfl c2
  · refine g_iload_n d_Md_takesNeeds_22 rfl ?_
    refine N_if_eq d_Md_takesNeeds_23 88 (by decide) (by omega) (fun c3 => ?_) (fun c3 => ?_)
    · refine g_iload_n d_Md_takesNeeds_88 rfl ?_
      refine N_if_eq d_Md_takesNeeds_89 96 (by decide) (by omega) (fun c4 => ?_) (fun c4 => ?_)
      · refine g_iload_n d_Md_takesNeeds_96 rfl ?_
        refine P_zret d_Md_takesNeeds_97 rfl (by decide) ?_
        exact R_i (k mI2 (fun nd hnd => by rw [hno] at hnd; cases hnd) (fun _ => hK2) (hF.mo (by decide))) (bI_f' (by rw [hno]; decide))
      · exact absurd rfl c4
    · exact absurd rfl c3
theorem lp_Md_takesNeeds {X : CX} {dl : List (Nat × Nat)} {mI : Nat → Nat → Int32} {dr : Nat → Nat → Nat} {Q : Option Value → AH → Prop} {t : Nat → Int32} {L x P : Nat} (hK : TKM t L x mI) (hs : tkS t L x = 1) (hP : P ≤ 10) (h23 : mI 139 23 = nI P) (k : ∀ mI', (∀ nd, ndW t L x P = some nd → TKM t L (tkE t L x) mI' ∧ mI' 139 30 = nI nd) → (ndW t L x P = none → TKM t L x mI') → F9 [15, 16, 17, 18, 30] mI mI' → Q (some (.int (bI ((ndW t L x P).isSome = true)))) (hp X dl mI' dr)) : ∀ (d : Nat) (i : Nat) (s : Nat) (l : Nat) (v4 : Value) (mI2 : Nat → Nat → Int32), (tkB t L x ≤ i ∧ i ≤ tkE t L x) → (s < 2 ^ 10) → (l ≤ 10) → (ndW t L x P = ndD t P (tkE t L x - i) i s l) → (mI2 139 30 = nI s) → (F9 [30] mI mI2) → tkE t L x - i = d → EW X m_Md_takesNeeds 14 [.ref 139, .int (hrI l), .int (nI 1), .int (nI i), v4] [] (hp X dl mI2 dr) Q := by
  intro d
  induction d using Nat.strongRecOn with
  | _ d ih =>
    intro i s l v4 mI2 hi hss hll hn h30 hF hd
    have hL := hK.1.1
    have hle := tk_le (t := t) hK.2.1
    have hK2 := hK.f9 hF (by decide)
    refine g_iload_n d_Md_takesNeeds_14 rfl ?_
    refine g_aload_n d_Md_takesNeeds_15 rfl ?_
    refine H_getI d_Md_takesNeeds_16 f_Md_137.g rfl rfl (by decide) ?_
    refine T_int (nI (tkE t L x)) hK2.2.2.2.2 ?_
    refine N_icmp_ge d_Md_takesNeeds_19 88 (by decide) ⟨by omega, by omega⟩ (fun c1 => ?_) (fun c1 => ?_)
    · have e0 : tkE t L x - i = 0 := by omega
      rw [e0, ndD] at hn
      refine g_iload_n d_Md_takesNeeds_88 rfl ?_
      refine N_if_eq d_Md_takesNeeds_89 96 (by decide) (by omega) (fun z => by omega) (fun _ => ?_)
      refine g_aload_n d_Md_takesNeeds_92 rfl ?_
      refine C_V0 d_Md_takesNeeds_93 k_Md_153 rfl (Nat.le_of_ble_eq_true rfl) (by decide) (Nat.le_of_ble_eq_true rfl) ?_
      refine c_Md_passesToken hK2 (fun mI4 hK4 hF4 => ?_)
      refine g_iload_n d_Md_takesNeeds_96 rfl ?_
      refine P_zret d_Md_takesNeeds_97 rfl (by decide) ?_
      refine R_i (k mI4 (fun nd hnd => ⟨hK4, ?_⟩) (fun z => by rw [hn] at z; cases z) ((hF.mo (by decide)).tr (hF4.mo (by decide)))) (bI_t' (by rw [hn]; rfl))
      rw [hn] at hnd
      injection hnd with hnd
      rw [hF4.2 30 (by decide), h30, hnd]
    · refine g_iload_n d_Md_takesNeeds_22 rfl ?_
      refine N_if_eq d_Md_takesNeeds_23 88 (by decide) (by omega) (fun c2 => ?_) (fun c2 => ?_)
      · omega
      · have hsm := lv_eq ((tk1 hs).2 i hi.1 c1)
        rw [show tkE t L x - i = (tkE t L x - (i + 1)) + 1 by omega, ndD] at hn
        refine g_aload_n d_Md_takesNeeds_26 rfl ?_
        refine H_getR 150 d_Md_takesNeeds_27 f_Md_41.g rfl rfl (by decide) rfl ?_
        refine g_iload_n d_Md_takesNeeds_30 rfl ?_
        refine H_ialdN d_Md_takesNeeds_31 rfl rfl (show i < 200 by omega) (by decide) ?_
        refine T_int (nI (97 + lv (t i))) ((hK2.1.2.2 i (by omega)).trans hsm.1) ?_
        refine N_bipush d_Md_takesNeeds_32 97 rfl ?_
        refine N_isub d_Md_takesNeeds_34 (by omega) ?_
        refine T_int (nI (lv (t i))) (congrArg nI (by omega)) ?_
        refine S_istore_5_4 d_Md_takesNeeds_35 rfl rfl ?_
        refine g_iload d_Md_takesNeeds_37 rfl ?_
        refine g_iload_n d_Md_takesNeeds_39 rfl ?_
        refine P_icmp_le d_Md_takesNeeds_40 56 (by decide) (fun c3 => ?_) (fun c3 => ?_)
        · refine N_iconst d_Md_takesNeeds_56 0 rfl ?_
          refine S_istore_n_5_2 d_Md_takesNeeds_57 rfl rfl ?_
          refine g_aload_n d_Md_takesNeeds_58 rfl ?_
          refine P_dupA d_Md_takesNeeds_59 ?_
          refine H_getI d_Md_takesNeeds_60 f_Md_150.g rfl rfl (by decide) ?_
          refine T_int (nI (s)) h30 ?_
          refine g_iload_n d_Md_takesNeeds_63 rfl ?_
          refine N_if_eq d_Md_takesNeeds_64 74 (by decide) (by omega) (fun c4 => ?_) (fun c4 => ?_)
          · refine N_iconst d_Md_takesNeeds_74 0 rfl ?_
            refine N_ior d_Md_takesNeeds_75 ?_
            refine H_putI d_Md_takesNeeds_76 f_Md_150 rfl rfl (by decide) ?_
            refine g_iload d_Md_takesNeeds_79 rfl ?_
            refine S_istore_n_5_1 d_Md_takesNeeds_81 rfl rfl ?_
            first
              | omega
              | (have g1 : ¬ nI (lv (t i)) ≤ hrI l := by assumption
                 have g2 : lv (t i) < P := by assumption
                 rw [hr_le (by omega) (by omega)] at g1
                 rw [if_neg (by omega)] at hn
                 refine N_iinc_5_3_1 d_Md_takesNeeds_82 rfl rfl ?_
                 refine P_goto d_Md_takesNeeds_85 14 (by decide) ?_
                 exact ih (tkE t L x - (i + 1)) (by omega) (i + 1) (s ||| 1 * 2 ^ lv (t i)) (lv (t i) + 1) _ _ (by omega) (or_lt10 hss (by omega)) (by omega) (by rw [Nat.one_mul]; exact hn) (sI_s _ _ _ _) (F9_sI hF (by decide)) rfl)
              | (have hno : ndW t L x P = none := by
                   first
                     | (have g1 : nI (lv (t i)) ≤ hrI l := by assumption
                        rw [hr_le (by omega) (by omega)] at g1
                        rw [hn, if_pos (Or.inl g1)])
                     | (have g2 : P ≤ lv (t i) := by assumption
                        rw [hn, if_pos (Or.inr g2)])
                 refine N_iinc_5_3_1 d_Md_takesNeeds_82 rfl rfl ?_
                 refine P_goto d_Md_takesNeeds_85 14 (by decide) ?_
                 exact e_Md_takesNeeds hK hno (by omega) (F9_sI hF (by decide)) k)
          · refine N_iconst d_Md_takesNeeds_67 1 rfl ?_
            refine g_iload d_Md_takesNeeds_68 rfl ?_
            refine N_ishl d_Md_takesNeeds_70 (by omega) (p2_lt (by omega)) ?_
            refine P_goto d_Md_takesNeeds_71 75 (by decide) ?_
            refine N_ior d_Md_takesNeeds_75 ?_
            refine H_putI d_Md_takesNeeds_76 f_Md_150 rfl rfl (by decide) ?_
            refine g_iload d_Md_takesNeeds_79 rfl ?_
            refine S_istore_n_5_1 d_Md_takesNeeds_81 rfl rfl ?_
            first
              | omega
              | (have g1 : ¬ nI (lv (t i)) ≤ hrI l := by assumption
                 have g2 : lv (t i) < P := by assumption
                 rw [hr_le (by omega) (by omega)] at g1
                 rw [if_neg (by omega)] at hn
                 refine N_iinc_5_3_1 d_Md_takesNeeds_82 rfl rfl ?_
                 refine P_goto d_Md_takesNeeds_85 14 (by decide) ?_
                 exact ih (tkE t L x - (i + 1)) (by omega) (i + 1) (s ||| 1 * 2 ^ lv (t i)) (lv (t i) + 1) _ _ (by omega) (or_lt10 hss (by omega)) (by omega) (by rw [Nat.one_mul]; exact hn) (sI_s _ _ _ _) (F9_sI hF (by decide)) rfl)
              | (have hno : ndW t L x P = none := by
                   first
                     | (have g1 : nI (lv (t i)) ≤ hrI l := by assumption
                        rw [hr_le (by omega) (by omega)] at g1
                        rw [hn, if_pos (Or.inl g1)])
                     | (have g2 : P ≤ lv (t i) := by assumption
                        rw [hn, if_pos (Or.inr g2)])
                 refine N_iinc_5_3_1 d_Md_takesNeeds_82 rfl rfl ?_
                 refine P_goto d_Md_takesNeeds_85 14 (by decide) ?_
                 exact e_Md_takesNeeds hK hno (by omega) (F9_sI hF (by decide)) k)
        · refine g_iload d_Md_takesNeeds_43 rfl ?_
          refine g_aload_n d_Md_takesNeeds_45 rfl ?_
          refine H_getI d_Md_takesNeeds_46 f_Md_183.g rfl rfl (by decide) ?_
          refine T_int (nI (P)) ((hF.2 23 (by decide)).trans h23) ?_
          refine N_icmp_ge d_Md_takesNeeds_49 56 (by decide) ⟨by omega, by omega⟩ (fun c5 => ?_) (fun c5 => ?_)
          · refine N_iconst d_Md_takesNeeds_56 0 rfl ?_
            refine S_istore_n_5_2 d_Md_takesNeeds_57 rfl rfl ?_
            refine g_aload_n d_Md_takesNeeds_58 rfl ?_
            refine P_dupA d_Md_takesNeeds_59 ?_
            refine H_getI d_Md_takesNeeds_60 f_Md_150.g rfl rfl (by decide) ?_
            refine T_int (nI (s)) h30 ?_
            refine g_iload_n d_Md_takesNeeds_63 rfl ?_
            refine N_if_eq d_Md_takesNeeds_64 74 (by decide) (by omega) (fun c6 => ?_) (fun c6 => ?_)
            · refine N_iconst d_Md_takesNeeds_74 0 rfl ?_
              refine N_ior d_Md_takesNeeds_75 ?_
              refine H_putI d_Md_takesNeeds_76 f_Md_150 rfl rfl (by decide) ?_
              refine g_iload d_Md_takesNeeds_79 rfl ?_
              refine S_istore_n_5_1 d_Md_takesNeeds_81 rfl rfl ?_
              first
                | omega
                | (have g1 : ¬ nI (lv (t i)) ≤ hrI l := by assumption
                   have g2 : lv (t i) < P := by assumption
                   rw [hr_le (by omega) (by omega)] at g1
                   rw [if_neg (by omega)] at hn
                   refine N_iinc_5_3_1 d_Md_takesNeeds_82 rfl rfl ?_
                   refine P_goto d_Md_takesNeeds_85 14 (by decide) ?_
                   exact ih (tkE t L x - (i + 1)) (by omega) (i + 1) (s ||| 1 * 2 ^ lv (t i)) (lv (t i) + 1) _ _ (by omega) (or_lt10 hss (by omega)) (by omega) (by rw [Nat.one_mul]; exact hn) (sI_s _ _ _ _) (F9_sI hF (by decide)) rfl)
                | (have hno : ndW t L x P = none := by
                     first
                       | (have g1 : nI (lv (t i)) ≤ hrI l := by assumption
                          rw [hr_le (by omega) (by omega)] at g1
                          rw [hn, if_pos (Or.inl g1)])
                       | (have g2 : P ≤ lv (t i) := by assumption
                          rw [hn, if_pos (Or.inr g2)])
                   refine N_iinc_5_3_1 d_Md_takesNeeds_82 rfl rfl ?_
                   refine P_goto d_Md_takesNeeds_85 14 (by decide) ?_
                   exact e_Md_takesNeeds hK hno (by omega) (F9_sI hF (by decide)) k)
            · refine N_iconst d_Md_takesNeeds_67 1 rfl ?_
              refine g_iload d_Md_takesNeeds_68 rfl ?_
              refine N_ishl d_Md_takesNeeds_70 (by omega) (p2_lt (by omega)) ?_
              refine P_goto d_Md_takesNeeds_71 75 (by decide) ?_
              refine N_ior d_Md_takesNeeds_75 ?_
              refine H_putI d_Md_takesNeeds_76 f_Md_150 rfl rfl (by decide) ?_
              refine g_iload d_Md_takesNeeds_79 rfl ?_
              refine S_istore_n_5_1 d_Md_takesNeeds_81 rfl rfl ?_
              first
                | omega
                | (have g1 : ¬ nI (lv (t i)) ≤ hrI l := by assumption
                   have g2 : lv (t i) < P := by assumption
                   rw [hr_le (by omega) (by omega)] at g1
                   rw [if_neg (by omega)] at hn
                   refine N_iinc_5_3_1 d_Md_takesNeeds_82 rfl rfl ?_
                   refine P_goto d_Md_takesNeeds_85 14 (by decide) ?_
                   exact ih (tkE t L x - (i + 1)) (by omega) (i + 1) (s ||| 1 * 2 ^ lv (t i)) (lv (t i) + 1) _ _ (by omega) (or_lt10 hss (by omega)) (by omega) (by rw [Nat.one_mul]; exact hn) (sI_s _ _ _ _) (F9_sI hF (by decide)) rfl)
                | (have hno : ndW t L x P = none := by
                     first
                       | (have g1 : nI (lv (t i)) ≤ hrI l := by assumption
                          rw [hr_le (by omega) (by omega)] at g1
                          rw [hn, if_pos (Or.inl g1)])
                       | (have g2 : P ≤ lv (t i) := by assumption
                          rw [hn, if_pos (Or.inr g2)])
                   refine N_iinc_5_3_1 d_Md_takesNeeds_82 rfl rfl ?_
                   refine P_goto d_Md_takesNeeds_85 14 (by decide) ?_
                   exact e_Md_takesNeeds hK hno (by omega) (F9_sI hF (by decide)) k)
          · refine N_iconst d_Md_takesNeeds_52 1 rfl ?_
            refine P_goto d_Md_takesNeeds_53 57 (by decide) ?_
            refine S_istore_n_5_2 d_Md_takesNeeds_57 rfl rfl ?_
            refine g_aload_n d_Md_takesNeeds_58 rfl ?_
            refine P_dupA d_Md_takesNeeds_59 ?_
            refine H_getI d_Md_takesNeeds_60 f_Md_150.g rfl rfl (by decide) ?_
            refine T_int (nI (s)) h30 ?_
            refine g_iload_n d_Md_takesNeeds_63 rfl ?_
            refine N_if_eq d_Md_takesNeeds_64 74 (by decide) (by omega) (fun c7 => ?_) (fun c7 => ?_)
            · refine N_iconst d_Md_takesNeeds_74 0 rfl ?_
              refine N_ior d_Md_takesNeeds_75 ?_
              refine H_putI d_Md_takesNeeds_76 f_Md_150 rfl rfl (by decide) ?_
              refine g_iload d_Md_takesNeeds_79 rfl ?_
              refine S_istore_n_5_1 d_Md_takesNeeds_81 rfl rfl ?_
              first
                | omega
                | (have g1 : ¬ nI (lv (t i)) ≤ hrI l := by assumption
                   have g2 : lv (t i) < P := by assumption
                   rw [hr_le (by omega) (by omega)] at g1
                   rw [if_neg (by omega)] at hn
                   refine N_iinc_5_3_1 d_Md_takesNeeds_82 rfl rfl ?_
                   refine P_goto d_Md_takesNeeds_85 14 (by decide) ?_
                   exact ih (tkE t L x - (i + 1)) (by omega) (i + 1) (s ||| 1 * 2 ^ lv (t i)) (lv (t i) + 1) _ _ (by omega) (or_lt10 hss (by omega)) (by omega) (by rw [Nat.one_mul]; exact hn) (sI_s _ _ _ _) (F9_sI hF (by decide)) rfl)
                | (have hno : ndW t L x P = none := by
                     first
                       | (have g1 : nI (lv (t i)) ≤ hrI l := by assumption
                          rw [hr_le (by omega) (by omega)] at g1
                          rw [hn, if_pos (Or.inl g1)])
                       | (have g2 : P ≤ lv (t i) := by assumption
                          rw [hn, if_pos (Or.inr g2)])
                   refine N_iinc_5_3_1 d_Md_takesNeeds_82 rfl rfl ?_
                   refine P_goto d_Md_takesNeeds_85 14 (by decide) ?_
                   exact e_Md_takesNeeds hK hno (by omega) (F9_sI hF (by decide)) k)
            · refine N_iconst d_Md_takesNeeds_67 1 rfl ?_
              refine g_iload d_Md_takesNeeds_68 rfl ?_
              refine N_ishl d_Md_takesNeeds_70 (by omega) (p2_lt (by omega)) ?_
              refine P_goto d_Md_takesNeeds_71 75 (by decide) ?_
              refine N_ior d_Md_takesNeeds_75 ?_
              refine H_putI d_Md_takesNeeds_76 f_Md_150 rfl rfl (by decide) ?_
              refine g_iload d_Md_takesNeeds_79 rfl ?_
              refine S_istore_n_5_1 d_Md_takesNeeds_81 rfl rfl ?_
              first
                | omega
                | (have g1 : ¬ nI (lv (t i)) ≤ hrI l := by assumption
                   have g2 : lv (t i) < P := by assumption
                   rw [hr_le (by omega) (by omega)] at g1
                   rw [if_neg (by omega)] at hn
                   refine N_iinc_5_3_1 d_Md_takesNeeds_82 rfl rfl ?_
                   refine P_goto d_Md_takesNeeds_85 14 (by decide) ?_
                   exact ih (tkE t L x - (i + 1)) (by omega) (i + 1) (s ||| 1 * 2 ^ lv (t i)) (lv (t i) + 1) _ _ (by omega) (or_lt10 hss (by omega)) (by omega) (by rw [Nat.one_mul]; exact hn) (sI_s _ _ _ _) (F9_sI hF (by decide)) rfl)
                | (have hno : ndW t L x P = none := by
                     first
                       | (have g1 : nI (lv (t i)) ≤ hrI l := by assumption
                          rw [hr_le (by omega) (by omega)] at g1
                          rw [hn, if_pos (Or.inl g1)])
                       | (have g2 : P ≤ lv (t i) := by assumption
                          rw [hn, if_pos (Or.inr g2)])
                   refine N_iinc_5_3_1 d_Md_takesNeeds_82 rfl rfl ?_
                   refine P_goto d_Md_takesNeeds_85 14 (by decide) ?_
                   exact e_Md_takesNeeds hK hno (by omega) (F9_sI hF (by decide)) k)

theorem c_Md_takesNeeds {X : CX} {dl : List (Nat × Nat)} {mI : Nat → Nat → Int32} {dr : Nat → Nat → Nat} {Q : Option Value → AH → Prop} {t : Nat → Int32} {L x P : Nat} (hK : TKM t L x mI) (hs : tkS t L x = 1) (hP : P ≤ 10) (h23 : mI 139 23 = nI P) (k : ∀ mI', (∀ nd, ndW t L x P = some nd → TKM t L (tkE t L x) mI' ∧ mI' 139 30 = nI nd) → (ndW t L x P = none → TKM t L x mI') → F9 [15, 16, 17, 18, 30] mI mI' → Q (some (.int (bI ((ndW t L x P).isSome = true)))) (hp X dl mI' dr)) : EW X m_Md_takesNeeds 0 (enL m_Md_takesNeeds.2.2.1 [.ref 139]) [] (hp X dl mI dr) Q := by
  show EW X m_Md_takesNeeds 0 [.ref 139, jk, jk, jk, jk] [] (hp X dl mI dr) Q
  have hle := tk_le (t := t) hK.2.1
  have hL := hK.1.1
  refine P_iconst d_Md_takesNeeds_0 (-1) rfl ?_
  refine S_istore_n_5_1 d_Md_takesNeeds_1 rfl rfl ?_
  refine N_iconst d_Md_takesNeeds_2 1 rfl ?_
  refine S_istore_n_5_2 d_Md_takesNeeds_3 rfl rfl ?_
  refine g_aload_n d_Md_takesNeeds_4 rfl ?_
  refine N_iconst d_Md_takesNeeds_5 0 rfl ?_
  refine H_putI d_Md_takesNeeds_6 f_Md_150 rfl rfl (by decide) ?_
  refine g_aload_n d_Md_takesNeeds_9 rfl ?_
  refine H_getI d_Md_takesNeeds_10 f_Md_134.g rfl rfl (by decide) ?_
  refine T_int (nI (tkB t L x)) (by rw [sI_n (by omega)]; exact hK.2.2.2.1) ?_
  refine S_istore_n_5_3 d_Md_takesNeeds_13 rfl rfl ?_
  exact lp_Md_takesNeeds hK hs hP h23 k _ (tkB t L x) 0 0 _ _ ⟨Nat.le_refl _, hle.2.1⟩ (by decide) (by decide) rfl (sI_s _ _ _ _) (F9_sI F9.rf (by decide)) rfl

