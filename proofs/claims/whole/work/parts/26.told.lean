/-- nothing but the cells lo .. hi has changed -/
def Fx (lo hi : Nat) (mI mI' : Nat → Nat → Int32) : Prop := ∀ r, ¬ (lo ≤ r ∧ r ≤ hi) → mI' r = mI r
theorem Fx.rf {lo hi : Nat} {mI : Nat → Nat → Int32} : Fx lo hi mI mI := fun _ _ => rfl
theorem Fx.tr {lo hi : Nat} {m1 m2 m3 : Nat → Nat → Int32} (h : Fx lo hi m1 m2) (g : Fx lo hi m2 m3) : Fx lo hi m1 m3 := fun r hr => (g r hr).trans (h r hr)
theorem Fx.mo {lo hi lo' hi' : Nat} {m1 m2 : Nat → Nat → Int32} (h : Fx lo hi m1 m2) (h1 : lo' ≤ lo) (h2 : hi ≤ hi') : Fx lo' hi' m1 m2 := fun r hr => h r (fun z => hr ⟨by omega, by omega⟩)
theorem Fa.x {a : Nat} {m1 m2 : Nat → Nat → Int32} (h : Fa a m1 m2) : Fx a (a + 5) m1 m2 := h
theorem Fx_sI {lo hi r f : Nat} {m1 m2 : Nat → Nat → Int32} {x : Int32} (h : Fx lo hi m1 m2) (hr : lo ≤ r ∧ r ≤ hi) : Fx lo hi m1 (sI m2 r f x) := fun q hq => (sI_r (fun z => hq (by rw [z]; exact hr))).trans (h q hq)
theorem Fx_up {lo hi r : Nat} {m1 m2 : Nat → Nat → Int32} {x : Nat → Int32} (h : Fx lo hi m1 m2) (hr : lo ≤ r ∧ r ≤ hi) : Fx lo hi m1 (va_up m2 r x) := fun q hq => (va_up_n _ _ (fun z => hq (by rw [z]; exact hr))).trans (h q hq)
theorem TR.cp {a b : Nat} {T : TD} {mI mI' : Nat → Nat → Int32} (hw : TW T) (h : TR b T mI) (h0 : mI' a 0 = mI b 0 ∧ mI' a 1 = mI b 1) (h1 : ∀ i, i < 5 → mI' (a + 1) i = mI (b + 1) i ∧ mI' (a + 2) i = mI (b + 2) i ∧ mI' (a + 3) i = mI (b + 3) i)
    (h2 : ∀ p, p < 10 → mI' (a + 4) p = mI (b + 4) p ∧ mI' (a + 5) p = mI (b + 5) p ∧ mI' (a + 6) p = mI (b + 6) p ∧ mI' (a + 7) p = mI (b + 7) p ∧ mI' (a + 8) p = mI (b + 8) p) : TR a T mI' := by
  obtain ⟨g1, g2, g3, g4⟩ := h
  have hw1 := hw.1
  have hw2 := hw.2.1
  refine ⟨h0.1.trans g1, h0.2.trans g2, fun i hi => ?_, fun p hp => ?_⟩
  · obtain ⟨e1, e2, e3⟩ := h1 i (by omega)
    exact ⟨e1.trans (g3 i hi).1, e2.trans (g3 i hi).2.1, e3.trans (g3 i hi).2.2⟩
  · obtain ⟨e1, e2, e3, e4, e5⟩ := h2 p (by omega)
    exact ⟨e1.trans (g4 p hp).1, e2.trans (g4 p hp).2.1, e3.trans (g4 p hp).2.2.1, e4.trans (g4 p hp).2.2.2.1, e5.trans (g4 p hp).2.2.2.2⟩
theorem c_Tl_copyFrom33 {X : CX} {dl : List (Nat × Nat)} {mI : Nat → Nat → Int32} {dr : Nat → Nat → Nat} {Q : Option Value → AH → Prop} {T : TD} (hw : TW T) (hT : TR 42 T mI) (k : ∀ mI', TR 33 T mI' → Fx 33 41 mI mI' → Q none (hp X dl mI' dr)) : EW X m_Tl_copyFrom 0 (enL m_Tl_copyFrom.2.2.1 [.ref 33, .ref 42]) [] (hp X dl mI dr) Q := by
  show EW X m_Tl_copyFrom 0 [.ref 33, .ref 42] [] (hp X dl mI dr) Q
  refine g_aload_n d_Tl_copyFrom_0 rfl ?_
  refine g_aload_n d_Tl_copyFrom_1 rfl ?_
  refine H_getI d_Tl_copyFrom_2 f_Tl_36.g rfl rfl (by decide) ?_
  refine H_putI d_Tl_copyFrom_5 f_Tl_36 rfl rfl (by decide) ?_
  refine g_aload_n d_Tl_copyFrom_8 rfl ?_
  refine g_aload_n d_Tl_copyFrom_9 rfl ?_
  refine H_getI d_Tl_copyFrom_10 f_Tl_40.g rfl rfl (by decide) ?_
  refine H_putI d_Tl_copyFrom_13 f_Tl_40 rfl rfl (by decide) ?_
  refine g_aload_n d_Tl_copyFrom_16 rfl ?_
  refine H_getR 43 d_Tl_copyFrom_17 f_Tl_9.g rfl rfl (by decide) rfl ?_
  refine N_iconst d_Tl_copyFrom_20 0 rfl ?_
  refine g_aload_n d_Tl_copyFrom_21 rfl ?_
  refine H_getR 34 d_Tl_copyFrom_22 f_Tl_9.g rfl rfl (by decide) rfl ?_
  refine N_iconst d_Tl_copyFrom_25 0 rfl ?_
  refine N_iconst d_Tl_copyFrom_26 5 rfl ?_
  refine H_copy d_Tl_copyFrom_27 a_Tl_43 (by decide) (Nat.le_of_ble_eq_true rfl) rfl rfl rfl rfl rfl (by decide) (by decide) (by decide) ?_
  refine g_aload_n d_Tl_copyFrom_30 rfl ?_
  refine H_getR 44 d_Tl_copyFrom_31 f_Tl_15.g rfl rfl (by decide) rfl ?_
  refine N_iconst d_Tl_copyFrom_34 0 rfl ?_
  refine g_aload_n d_Tl_copyFrom_35 rfl ?_
  refine H_getR 35 d_Tl_copyFrom_36 f_Tl_15.g rfl rfl (by decide) rfl ?_
  refine N_iconst d_Tl_copyFrom_39 0 rfl ?_
  refine N_iconst d_Tl_copyFrom_40 5 rfl ?_
  refine H_copy d_Tl_copyFrom_41 a_Tl_43 (by decide) (Nat.le_of_ble_eq_true rfl) rfl rfl rfl rfl rfl (by decide) (by decide) (by decide) ?_
  refine g_aload_n d_Tl_copyFrom_44 rfl ?_
  refine H_getR 45 d_Tl_copyFrom_45 f_Tl_18.g rfl rfl (by decide) rfl ?_
  refine N_iconst d_Tl_copyFrom_48 0 rfl ?_
  refine g_aload_n d_Tl_copyFrom_49 rfl ?_
  refine H_getR 36 d_Tl_copyFrom_50 f_Tl_18.g rfl rfl (by decide) rfl ?_
  refine N_iconst d_Tl_copyFrom_53 0 rfl ?_
  refine N_iconst d_Tl_copyFrom_54 5 rfl ?_
  refine H_copy d_Tl_copyFrom_55 a_Tl_43 (by decide) (Nat.le_of_ble_eq_true rfl) rfl rfl rfl rfl rfl (by decide) (by decide) (by decide) ?_
  refine g_aload_n d_Tl_copyFrom_58 rfl ?_
  refine H_getR 46 d_Tl_copyFrom_59 f_Tl_21.g rfl rfl (by decide) rfl ?_
  refine N_iconst d_Tl_copyFrom_62 0 rfl ?_
  refine g_aload_n d_Tl_copyFrom_63 rfl ?_
  refine H_getR 37 d_Tl_copyFrom_64 f_Tl_21.g rfl rfl (by decide) rfl ?_
  refine N_iconst d_Tl_copyFrom_67 0 rfl ?_
  refine N_bipush d_Tl_copyFrom_68 10 rfl ?_
  refine H_copy d_Tl_copyFrom_70 a_Tl_43 (by decide) (Nat.le_of_ble_eq_true rfl) rfl rfl rfl rfl rfl (by decide) (by decide) (by decide) ?_
  refine g_aload_n d_Tl_copyFrom_73 rfl ?_
  refine H_getR 47 d_Tl_copyFrom_74 f_Tl_24.g rfl rfl (by decide) rfl ?_
  refine N_iconst d_Tl_copyFrom_77 0 rfl ?_
  refine g_aload_n d_Tl_copyFrom_78 rfl ?_
  refine H_getR 38 d_Tl_copyFrom_79 f_Tl_24.g rfl rfl (by decide) rfl ?_
  refine N_iconst d_Tl_copyFrom_82 0 rfl ?_
  refine N_bipush d_Tl_copyFrom_83 10 rfl ?_
  refine H_copy d_Tl_copyFrom_85 a_Tl_43 (by decide) (Nat.le_of_ble_eq_true rfl) rfl rfl rfl rfl rfl (by decide) (by decide) (by decide) ?_
  refine g_aload_n d_Tl_copyFrom_88 rfl ?_
  refine H_getR 48 d_Tl_copyFrom_89 f_Tl_27.g rfl rfl (by decide) rfl ?_
  refine N_iconst d_Tl_copyFrom_92 0 rfl ?_
  refine g_aload_n d_Tl_copyFrom_93 rfl ?_
  refine H_getR 39 d_Tl_copyFrom_94 f_Tl_27.g rfl rfl (by decide) rfl ?_
  refine N_iconst d_Tl_copyFrom_97 0 rfl ?_
  refine N_bipush d_Tl_copyFrom_98 10 rfl ?_
  refine H_copy d_Tl_copyFrom_100 a_Tl_43 (by decide) (Nat.le_of_ble_eq_true rfl) rfl rfl rfl rfl rfl (by decide) (by decide) (by decide) ?_
  refine g_aload_n d_Tl_copyFrom_103 rfl ?_
  refine H_getR 49 d_Tl_copyFrom_104 f_Tl_30.g rfl rfl (by decide) rfl ?_
  refine N_iconst d_Tl_copyFrom_107 0 rfl ?_
  refine g_aload_n d_Tl_copyFrom_108 rfl ?_
  refine H_getR 40 d_Tl_copyFrom_109 f_Tl_30.g rfl rfl (by decide) rfl ?_
  refine N_iconst d_Tl_copyFrom_112 0 rfl ?_
  refine N_bipush d_Tl_copyFrom_113 10 rfl ?_
  refine H_copy d_Tl_copyFrom_115 a_Tl_43 (by decide) (Nat.le_of_ble_eq_true rfl) rfl rfl rfl rfl rfl (by decide) (by decide) (by decide) ?_
  refine g_aload_n d_Tl_copyFrom_118 rfl ?_
  refine H_getR 50 d_Tl_copyFrom_119 f_Tl_33.g rfl rfl (by decide) rfl ?_
  refine N_iconst d_Tl_copyFrom_122 0 rfl ?_
  refine g_aload_n d_Tl_copyFrom_123 rfl ?_
  refine H_getR 41 d_Tl_copyFrom_124 f_Tl_33.g rfl rfl (by decide) rfl ?_
  refine N_iconst d_Tl_copyFrom_127 0 rfl ?_
  refine N_bipush d_Tl_copyFrom_128 10 rfl ?_
  refine H_copy d_Tl_copyFrom_130 a_Tl_43 (by decide) (Nat.le_of_ble_eq_true rfl) rfl rfl rfl rfl rfl (by decide) (by decide) (by decide) ?_
  refine P_vret d_Tl_copyFrom_133 rfl ?_
  refine k _ (hT.cp hw ⟨?_, ?_⟩ (fun i hi => ⟨?_, ?_, ?_⟩) (fun p hp => ⟨?_, ?_, ?_, ?_, ?_⟩)) ?_
  · simp (disch := omega) only [sI_r, va_up_n, va_up_s, sI_s, sI_n, cpy0]
  · simp (disch := omega) only [sI_r, va_up_n, va_up_s, sI_s, sI_n, cpy0]
  · simp (disch := omega) only [sI_r, va_up_n, va_up_s, sI_s, sI_n, cpy0]
  · simp (disch := omega) only [sI_r, va_up_n, va_up_s, sI_s, sI_n, cpy0]
  · simp (disch := omega) only [sI_r, va_up_n, va_up_s, sI_s, sI_n, cpy0]
  · simp (disch := omega) only [sI_r, va_up_n, va_up_s, sI_s, sI_n, cpy0]
  · simp (disch := omega) only [sI_r, va_up_n, va_up_s, sI_s, sI_n, cpy0]
  · simp (disch := omega) only [sI_r, va_up_n, va_up_s, sI_s, sI_n, cpy0]
  · simp (disch := omega) only [sI_r, va_up_n, va_up_s, sI_s, sI_n, cpy0]
  · simp (disch := omega) only [sI_r, va_up_n, va_up_s, sI_s, sI_n, cpy0]
  · exact (Fx_up (Fx_up (Fx_up (Fx_up (Fx_up (Fx_up (Fx_up (Fx_up (Fx_sI (Fx_sI Fx.rf (by omega)) (by omega)) (by omega)) (by omega)) (by omega)) (by omega)) (by omega)) (by omega)) (by omega)) (by omega))

theorem c_Tl_copyFrom42 {X : CX} {dl : List (Nat × Nat)} {mI : Nat → Nat → Int32} {dr : Nat → Nat → Nat} {Q : Option Value → AH → Prop} {T : TD} (hw : TW T) (hT : TR 33 T mI) (k : ∀ mI', TR 42 T mI' → Fx 42 50 mI mI' → Q none (hp X dl mI' dr)) : EW X m_Tl_copyFrom 0 (enL m_Tl_copyFrom.2.2.1 [.ref 42, .ref 33]) [] (hp X dl mI dr) Q := by
  show EW X m_Tl_copyFrom 0 [.ref 42, .ref 33] [] (hp X dl mI dr) Q
  refine g_aload_n d_Tl_copyFrom_0 rfl ?_
  refine g_aload_n d_Tl_copyFrom_1 rfl ?_
  refine H_getI d_Tl_copyFrom_2 f_Tl_36.g rfl rfl (by decide) ?_
  refine H_putI d_Tl_copyFrom_5 f_Tl_36 rfl rfl (by decide) ?_
  refine g_aload_n d_Tl_copyFrom_8 rfl ?_
  refine g_aload_n d_Tl_copyFrom_9 rfl ?_
  refine H_getI d_Tl_copyFrom_10 f_Tl_40.g rfl rfl (by decide) ?_
  refine H_putI d_Tl_copyFrom_13 f_Tl_40 rfl rfl (by decide) ?_
  refine g_aload_n d_Tl_copyFrom_16 rfl ?_
  refine H_getR 34 d_Tl_copyFrom_17 f_Tl_9.g rfl rfl (by decide) rfl ?_
  refine N_iconst d_Tl_copyFrom_20 0 rfl ?_
  refine g_aload_n d_Tl_copyFrom_21 rfl ?_
  refine H_getR 43 d_Tl_copyFrom_22 f_Tl_9.g rfl rfl (by decide) rfl ?_
  refine N_iconst d_Tl_copyFrom_25 0 rfl ?_
  refine N_iconst d_Tl_copyFrom_26 5 rfl ?_
  refine H_copy d_Tl_copyFrom_27 a_Tl_43 (by decide) (Nat.le_of_ble_eq_true rfl) rfl rfl rfl rfl rfl (by decide) (by decide) (by decide) ?_
  refine g_aload_n d_Tl_copyFrom_30 rfl ?_
  refine H_getR 35 d_Tl_copyFrom_31 f_Tl_15.g rfl rfl (by decide) rfl ?_
  refine N_iconst d_Tl_copyFrom_34 0 rfl ?_
  refine g_aload_n d_Tl_copyFrom_35 rfl ?_
  refine H_getR 44 d_Tl_copyFrom_36 f_Tl_15.g rfl rfl (by decide) rfl ?_
  refine N_iconst d_Tl_copyFrom_39 0 rfl ?_
  refine N_iconst d_Tl_copyFrom_40 5 rfl ?_
  refine H_copy d_Tl_copyFrom_41 a_Tl_43 (by decide) (Nat.le_of_ble_eq_true rfl) rfl rfl rfl rfl rfl (by decide) (by decide) (by decide) ?_
  refine g_aload_n d_Tl_copyFrom_44 rfl ?_
  refine H_getR 36 d_Tl_copyFrom_45 f_Tl_18.g rfl rfl (by decide) rfl ?_
  refine N_iconst d_Tl_copyFrom_48 0 rfl ?_
  refine g_aload_n d_Tl_copyFrom_49 rfl ?_
  refine H_getR 45 d_Tl_copyFrom_50 f_Tl_18.g rfl rfl (by decide) rfl ?_
  refine N_iconst d_Tl_copyFrom_53 0 rfl ?_
  refine N_iconst d_Tl_copyFrom_54 5 rfl ?_
  refine H_copy d_Tl_copyFrom_55 a_Tl_43 (by decide) (Nat.le_of_ble_eq_true rfl) rfl rfl rfl rfl rfl (by decide) (by decide) (by decide) ?_
  refine g_aload_n d_Tl_copyFrom_58 rfl ?_
  refine H_getR 37 d_Tl_copyFrom_59 f_Tl_21.g rfl rfl (by decide) rfl ?_
  refine N_iconst d_Tl_copyFrom_62 0 rfl ?_
  refine g_aload_n d_Tl_copyFrom_63 rfl ?_
  refine H_getR 46 d_Tl_copyFrom_64 f_Tl_21.g rfl rfl (by decide) rfl ?_
  refine N_iconst d_Tl_copyFrom_67 0 rfl ?_
  refine N_bipush d_Tl_copyFrom_68 10 rfl ?_
  refine H_copy d_Tl_copyFrom_70 a_Tl_43 (by decide) (Nat.le_of_ble_eq_true rfl) rfl rfl rfl rfl rfl (by decide) (by decide) (by decide) ?_
  refine g_aload_n d_Tl_copyFrom_73 rfl ?_
  refine H_getR 38 d_Tl_copyFrom_74 f_Tl_24.g rfl rfl (by decide) rfl ?_
  refine N_iconst d_Tl_copyFrom_77 0 rfl ?_
  refine g_aload_n d_Tl_copyFrom_78 rfl ?_
  refine H_getR 47 d_Tl_copyFrom_79 f_Tl_24.g rfl rfl (by decide) rfl ?_
  refine N_iconst d_Tl_copyFrom_82 0 rfl ?_
  refine N_bipush d_Tl_copyFrom_83 10 rfl ?_
  refine H_copy d_Tl_copyFrom_85 a_Tl_43 (by decide) (Nat.le_of_ble_eq_true rfl) rfl rfl rfl rfl rfl (by decide) (by decide) (by decide) ?_
  refine g_aload_n d_Tl_copyFrom_88 rfl ?_
  refine H_getR 39 d_Tl_copyFrom_89 f_Tl_27.g rfl rfl (by decide) rfl ?_
  refine N_iconst d_Tl_copyFrom_92 0 rfl ?_
  refine g_aload_n d_Tl_copyFrom_93 rfl ?_
  refine H_getR 48 d_Tl_copyFrom_94 f_Tl_27.g rfl rfl (by decide) rfl ?_
  refine N_iconst d_Tl_copyFrom_97 0 rfl ?_
  refine N_bipush d_Tl_copyFrom_98 10 rfl ?_
  refine H_copy d_Tl_copyFrom_100 a_Tl_43 (by decide) (Nat.le_of_ble_eq_true rfl) rfl rfl rfl rfl rfl (by decide) (by decide) (by decide) ?_
  refine g_aload_n d_Tl_copyFrom_103 rfl ?_
  refine H_getR 40 d_Tl_copyFrom_104 f_Tl_30.g rfl rfl (by decide) rfl ?_
  refine N_iconst d_Tl_copyFrom_107 0 rfl ?_
  refine g_aload_n d_Tl_copyFrom_108 rfl ?_
  refine H_getR 49 d_Tl_copyFrom_109 f_Tl_30.g rfl rfl (by decide) rfl ?_
  refine N_iconst d_Tl_copyFrom_112 0 rfl ?_
  refine N_bipush d_Tl_copyFrom_113 10 rfl ?_
  refine H_copy d_Tl_copyFrom_115 a_Tl_43 (by decide) (Nat.le_of_ble_eq_true rfl) rfl rfl rfl rfl rfl (by decide) (by decide) (by decide) ?_
  refine g_aload_n d_Tl_copyFrom_118 rfl ?_
  refine H_getR 41 d_Tl_copyFrom_119 f_Tl_33.g rfl rfl (by decide) rfl ?_
  refine N_iconst d_Tl_copyFrom_122 0 rfl ?_
  refine g_aload_n d_Tl_copyFrom_123 rfl ?_
  refine H_getR 50 d_Tl_copyFrom_124 f_Tl_33.g rfl rfl (by decide) rfl ?_
  refine N_iconst d_Tl_copyFrom_127 0 rfl ?_
  refine N_bipush d_Tl_copyFrom_128 10 rfl ?_
  refine H_copy d_Tl_copyFrom_130 a_Tl_43 (by decide) (Nat.le_of_ble_eq_true rfl) rfl rfl rfl rfl rfl (by decide) (by decide) (by decide) ?_
  refine P_vret d_Tl_copyFrom_133 rfl ?_
  refine k _ (hT.cp hw ⟨?_, ?_⟩ (fun i hi => ⟨?_, ?_, ?_⟩) (fun p hp => ⟨?_, ?_, ?_, ?_, ?_⟩)) ?_
  · simp (disch := omega) only [sI_r, va_up_n, va_up_s, sI_s, sI_n, cpy0]
  · simp (disch := omega) only [sI_r, va_up_n, va_up_s, sI_s, sI_n, cpy0]
  · simp (disch := omega) only [sI_r, va_up_n, va_up_s, sI_s, sI_n, cpy0]
  · simp (disch := omega) only [sI_r, va_up_n, va_up_s, sI_s, sI_n, cpy0]
  · simp (disch := omega) only [sI_r, va_up_n, va_up_s, sI_s, sI_n, cpy0]
  · simp (disch := omega) only [sI_r, va_up_n, va_up_s, sI_s, sI_n, cpy0]
  · simp (disch := omega) only [sI_r, va_up_n, va_up_s, sI_s, sI_n, cpy0]
  · simp (disch := omega) only [sI_r, va_up_n, va_up_s, sI_s, sI_n, cpy0]
  · simp (disch := omega) only [sI_r, va_up_n, va_up_s, sI_s, sI_n, cpy0]
  · simp (disch := omega) only [sI_r, va_up_n, va_up_s, sI_s, sI_n, cpy0]
  · exact (Fx_up (Fx_up (Fx_up (Fx_up (Fx_up (Fx_up (Fx_up (Fx_up (Fx_sI (Fx_sI Fx.rf (by omega)) (by omega)) (by omega)) (by omega)) (by omega)) (by omega)) (by omega)) (by omega)) (by omega)) (by omega))

/-- clauses that are done -/
def tClr (T : TD) : TD := (0, 0, tst T, tsp T, thr T, tkd T, twk T, tnd T, thd T, tsf T)
def tPer (T : TD) (s y c : Nat) : TD := (tn T + 1, tP T, va_up (tst T) (tn T) s, va_up (tsp T) (tn T) y, va_up (thr T) (tn T) c, tkd T, twk T, tnd T, thd T, tsf T)
def tPro (T : TD) (kd wk nd hd : Nat) : TD := (tn T, tP T + 1, tst T, tsp T, thr T, va_up (tkd T) (tP T) kd, va_up (twk T) (tP T) wk, va_up (tnd T) (tP T) nd, va_up (thd T) (tP T) hd, va_up (tsf T) (tP T) 0)
def tStr (T : TD) (x y : Nat) : TD := (tn T, tP T, tst T, tsp T, thr T, tkd T, twk T, tnd T, thd T, va_up (va_up (tsf T) x (tsf T x ||| 2 ^ y)) y (va_up (tsf T) x (tsf T x ||| 2 ^ y) y ||| 2 ^ x))
theorem c_Tl_clear {X : CX} {dl : List (Nat × Nat)} {mI : Nat → Nat → Int32} {dr : Nat → Nat → Nat} {Q : Option Value → AH → Prop} {T : TD} (hT : TR 42 T mI) (k : ∀ mI', TR 42 (tClr T) mI' → Fx 42 50 mI mI' → Q none (hp X dl mI' dr)) : EW X m_Tl_clear 0 (enL m_Tl_clear.2.2.1 [.ref 42]) [] (hp X dl mI dr) Q := by
  show EW X m_Tl_clear 0 [.ref 42] [] (hp X dl mI dr) Q
  refine g_aload_n d_Tl_clear_0 rfl ?_
  refine N_iconst d_Tl_clear_1 0 rfl ?_
  refine H_putI d_Tl_clear_2 f_Tl_36 rfl rfl (by decide) ?_
  refine g_aload_n d_Tl_clear_5 rfl ?_
  refine N_iconst d_Tl_clear_6 0 rfl ?_
  refine H_putI d_Tl_clear_7 f_Tl_40 rfl rfl (by decide) ?_
  refine P_vret d_Tl_clear_10 rfl ?_
  refine k _ ⟨?_, sI_s _ _ _ _, fun i hi => absurd hi (Nat.not_lt_zero _), fun p hp => absurd hp (Nat.not_lt_zero _)⟩ (Fx_sI (Fx_sI Fx.rf (by omega)) (by omega))
  rw [sI_n (by omega), sI_s]
  rfl

theorem c_Tl_hasRoomForPerson {X : CX} {dl : List (Nat × Nat)} {mI : Nat → Nat → Int32} {dr : Nat → Nat → Nat} {Q : Option Value → AH → Prop} {T : TD} (hw : TW T) (hT : TR 42 T mI) (k : Q (some (.int (bI (tn T < 5)))) (hp X dl mI dr)) : EW X m_Tl_hasRoomForPerson 0 (enL m_Tl_hasRoomForPerson.2.2.1 [.ref 42]) [] (hp X dl mI dr) Q := by
  show EW X m_Tl_hasRoomForPerson 0 [.ref 42] [] (hp X dl mI dr) Q
  have hw1 := hw.1
  have hw2 := hw.2.1
  refine g_aload_n d_Tl_hasRoomForPerson_0 rfl ?_
  refine H_getI d_Tl_hasRoomForPerson_1 f_Tl_36.g rfl rfl (by decide) ?_
  refine T_int (nI (tn T)) hT.1 ?_
  refine N_iconst d_Tl_hasRoomForPerson_4 5 rfl ?_
  refine N_icmp_ge d_Tl_hasRoomForPerson_5 12 (by decide) ⟨by omega, by omega⟩ (fun c1 => ?_) (fun c1 => ?_)
  · refine N_iconst d_Tl_hasRoomForPerson_12 0 rfl ?_
    refine P_zret d_Tl_hasRoomForPerson_13 rfl (by decide) ?_
    first | exact R_i k (bI_t' (by omega)) | exact R_i k (bI_f' (by omega))
  · refine N_iconst d_Tl_hasRoomForPerson_8 1 rfl ?_
    refine P_goto d_Tl_hasRoomForPerson_9 13 (by decide) ?_
    refine P_zret d_Tl_hasRoomForPerson_13 rfl (by decide) ?_
    first | exact R_i k (bI_t' (by omega)) | exact R_i k (bI_f' (by omega))

theorem c_Tl_hasRoomForPromise {X : CX} {dl : List (Nat × Nat)} {mI : Nat → Nat → Int32} {dr : Nat → Nat → Nat} {Q : Option Value → AH → Prop} {T : TD} (hw : TW T) (hT : TR 42 T mI) (k : Q (some (.int (bI (tP T < 10)))) (hp X dl mI dr)) : EW X m_Tl_hasRoomForPromise 0 (enL m_Tl_hasRoomForPromise.2.2.1 [.ref 42]) [] (hp X dl mI dr) Q := by
  show EW X m_Tl_hasRoomForPromise 0 [.ref 42] [] (hp X dl mI dr) Q
  have hw1 := hw.1
  have hw2 := hw.2.1
  refine g_aload_n d_Tl_hasRoomForPromise_0 rfl ?_
  refine H_getI d_Tl_hasRoomForPromise_1 f_Tl_40.g rfl rfl (by decide) ?_
  refine T_int (nI (tP T)) hT.2.1 ?_
  refine N_bipush d_Tl_hasRoomForPromise_4 10 rfl ?_
  refine N_icmp_ge d_Tl_hasRoomForPromise_6 13 (by decide) ⟨by omega, by omega⟩ (fun c1 => ?_) (fun c1 => ?_)
  · refine N_iconst d_Tl_hasRoomForPromise_13 0 rfl ?_
    refine P_zret d_Tl_hasRoomForPromise_14 rfl (by decide) ?_
    first | exact R_i k (bI_t' (by omega)) | exact R_i k (bI_f' (by omega))
  · refine N_iconst d_Tl_hasRoomForPromise_9 1 rfl ?_
    refine P_goto d_Tl_hasRoomForPromise_10 14 (by decide) ?_
    refine P_zret d_Tl_hasRoomForPromise_14 rfl (by decide) ?_
    first | exact R_i k (bI_t' (by omega)) | exact R_i k (bI_f' (by omega))

theorem c_Tl_addPerson {X : CX} {dl : List (Nat × Nat)} {mI : Nat → Nat → Int32} {dr : Nat → Nat → Nat} {Q : Option Value → AH → Prop} {T : TD} {s y c : Nat} (hw : TW T) (hT : TR 42 T mI) (hn : tn T < 5) (k : ∀ mI', TR 42 (tPer T s y c) mI' → Fx 42 50 mI mI' → Q none (hp X dl mI' dr)) : EW X m_Tl_addPerson 0 (enL m_Tl_addPerson.2.2.1 [.ref 42, .int (nI s), .int (nI y), .int (hrI c)]) [] (hp X dl mI dr) Q := by
  show EW X m_Tl_addPerson 0 [.ref 42, .int (nI s), .int (nI y), .int (hrI c)] [] (hp X dl mI dr) Q
  refine g_aload_n d_Tl_addPerson_0 rfl ?_
  refine C_V0 d_Tl_addPerson_1 k_Tl_49 rfl (Nat.le_of_ble_eq_true rfl) (by decide) (Nat.le_of_ble_eq_true rfl) ?_
  refine (c_Tl_hasRoomForPerson hw hT) ?_
  refine B_eq d_Tl_addPerson_4 47 (by decide) (fun c1 => ?_) (fun c1 => ?_)
  · exact absurd hn c1
  · refine g_aload_n d_Tl_addPerson_7 rfl ?_
    refine H_getR 43 d_Tl_addPerson_8 f_Tl_9.g rfl rfl (by decide) rfl ?_
    refine g_aload_n d_Tl_addPerson_11 rfl ?_
    refine H_getI d_Tl_addPerson_12 f_Tl_36.g rfl rfl (by decide) ?_
    refine T_int (nI (tn T)) hT.1 ?_
    refine g_iload_n d_Tl_addPerson_15 rfl ?_
    refine H_iastN d_Tl_addPerson_16 rfl rfl (by omega) (by decide) ?_
    refine g_aload_n d_Tl_addPerson_17 rfl ?_
    refine H_getR 44 d_Tl_addPerson_18 f_Tl_15.g rfl rfl (by decide) rfl ?_
    refine g_aload_n d_Tl_addPerson_21 rfl ?_
    refine H_getI d_Tl_addPerson_22 f_Tl_36.g rfl rfl (by decide) ?_
    refine T_int (nI (tn T)) (by rw [sI_r (by omega)]; exact hT.1) ?_
    refine g_iload_n d_Tl_addPerson_25 rfl ?_
    refine H_iastN d_Tl_addPerson_26 rfl rfl (by omega) (by decide) ?_
    refine g_aload_n d_Tl_addPerson_27 rfl ?_
    refine H_getR 45 d_Tl_addPerson_28 f_Tl_18.g rfl rfl (by decide) rfl ?_
    refine g_aload_n d_Tl_addPerson_31 rfl ?_
    refine H_getI d_Tl_addPerson_32 f_Tl_36.g rfl rfl (by decide) ?_
    refine T_int (nI (tn T)) (by rw [sI_r (by omega)]; rw [sI_r (by omega)]; exact hT.1) ?_
    refine g_iload_n d_Tl_addPerson_35 rfl ?_
    refine H_iastN d_Tl_addPerson_36 rfl rfl (by omega) (by decide) ?_
    refine g_aload_n d_Tl_addPerson_37 rfl ?_
    refine P_dupA d_Tl_addPerson_38 ?_
    refine H_getI d_Tl_addPerson_39 f_Tl_36.g rfl rfl (by decide) ?_
    refine T_int (nI (tn T)) (by rw [sI_r (by omega)]; rw [sI_r (by omega)]; rw [sI_r (by omega)]; exact hT.1) ?_
    refine N_iconst d_Tl_addPerson_42 1 rfl ?_
    refine N_iadd d_Tl_addPerson_43 ?_
    refine H_putI d_Tl_addPerson_44 f_Tl_36 rfl rfl (by decide) ?_
    refine P_vret d_Tl_addPerson_47 rfl ?_
    refine k _ ⟨sI_s _ _ _ _, ?_, fun i hi => ?_, fun p hp => ?_⟩ (Fx_sI (Fx_sI (Fx_sI (Fx_sI Fx.rf (by omega)) (by omega)) (by omega)) (by omega))
    · rw [sI_n (by omega), sI_r (by omega), sI_r (by omega), sI_r (by omega)]
      exact hT.2.1
    · have hi2 : i < tn T + 1 := hi
      show _ = nI (va_up (tst T) (tn T) s i) ∧ _ = nI (va_up (tsp T) (tn T) y i) ∧ _ = hrI (va_up (thr T) (tn T) c i)
      by_cases hin : i = tn T
      · subst hin
        simp (disch := omega) only [sI_r, sI_s, va_up_s]
        exact ⟨trivial, trivial, trivial⟩
      · have h3 := hT.2.2.1 i (by omega)
        simp (disch := omega) only [sI_r, sI_n, va_up_n]
        exact h3
    · simp (disch := omega) only [sI_r]
      exact hT.2.2.2 p hp

theorem c_Tl_addPromise {X : CX} {dl : List (Nat × Nat)} {mI : Nat → Nat → Int32} {dr : Nat → Nat → Nat} {Q : Option Value → AH → Prop} {T : TD} {kd hd wk nd : Nat} (hw : TW T) (hT : TR 42 T mI) (hn : tP T < 10) (k : ∀ mI', TR 42 (tPro T kd wk nd hd) mI' → Fx 42 50 mI mI' → Q none (hp X dl mI' dr)) : EW X m_Tl_addPromise 0 (enL m_Tl_addPromise.2.2.1 [.ref 42, .int (nI kd), .int (nI hd), .int (nI wk), .int (nI nd)]) [] (hp X dl mI dr) Q := by
  show EW X m_Tl_addPromise 0 [.ref 42, .int (nI kd), .int (nI hd), .int (nI wk), .int (nI nd)] [] (hp X dl mI dr) Q
  refine g_aload_n d_Tl_addPromise_0 rfl ?_
  refine C_V0 d_Tl_addPromise_1 k_Tl_53 rfl (Nat.le_of_ble_eq_true rfl) (by decide) (Nat.le_of_ble_eq_true rfl) ?_
  refine (c_Tl_hasRoomForPromise hw hT) ?_
  refine B_eq d_Tl_addPromise_4 68 (by decide) (fun c1 => ?_) (fun c1 => ?_)
  · exact absurd hn c1
  · refine g_aload_n d_Tl_addPromise_7 rfl ?_
    refine H_getR 46 d_Tl_addPromise_8 f_Tl_21.g rfl rfl (by decide) rfl ?_
    refine g_aload_n d_Tl_addPromise_11 rfl ?_
    refine H_getI d_Tl_addPromise_12 f_Tl_40.g rfl rfl (by decide) ?_
    refine T_int (nI (tP T)) hT.2.1 ?_
    refine g_iload_n d_Tl_addPromise_15 rfl ?_
    refine H_iastN d_Tl_addPromise_16 rfl rfl (by omega) (by decide) ?_
    refine g_aload_n d_Tl_addPromise_17 rfl ?_
    refine H_getR 49 d_Tl_addPromise_18 f_Tl_30.g rfl rfl (by decide) rfl ?_
    refine g_aload_n d_Tl_addPromise_21 rfl ?_
    refine H_getI d_Tl_addPromise_22 f_Tl_40.g rfl rfl (by decide) ?_
    refine T_int (nI (tP T)) (by rw [sI_r (by omega)]; exact hT.2.1) ?_
    refine g_iload_n d_Tl_addPromise_25 rfl ?_
    refine H_iastN d_Tl_addPromise_26 rfl rfl (by omega) (by decide) ?_
    refine g_aload_n d_Tl_addPromise_27 rfl ?_
    refine H_getR 47 d_Tl_addPromise_28 f_Tl_24.g rfl rfl (by decide) rfl ?_
    refine g_aload_n d_Tl_addPromise_31 rfl ?_
    refine H_getI d_Tl_addPromise_32 f_Tl_40.g rfl rfl (by decide) ?_
    refine T_int (nI (tP T)) (by rw [sI_r (by omega)]; rw [sI_r (by omega)]; exact hT.2.1) ?_
    refine g_iload_n d_Tl_addPromise_35 rfl ?_
    refine H_iastN d_Tl_addPromise_36 rfl rfl (by omega) (by decide) ?_
    refine g_aload_n d_Tl_addPromise_37 rfl ?_
    refine H_getR 48 d_Tl_addPromise_38 f_Tl_27.g rfl rfl (by decide) rfl ?_
    refine g_aload_n d_Tl_addPromise_41 rfl ?_
    refine H_getI d_Tl_addPromise_42 f_Tl_40.g rfl rfl (by decide) ?_
    refine T_int (nI (tP T)) (by rw [sI_r (by omega)]; rw [sI_r (by omega)]; rw [sI_r (by omega)]; exact hT.2.1) ?_
    refine g_iload d_Tl_addPromise_45 rfl ?_
    refine H_iastN d_Tl_addPromise_47 rfl rfl (by omega) (by decide) ?_
    refine g_aload_n d_Tl_addPromise_48 rfl ?_
    refine H_getR 50 d_Tl_addPromise_49 f_Tl_33.g rfl rfl (by decide) rfl ?_
    refine g_aload_n d_Tl_addPromise_52 rfl ?_
    refine H_getI d_Tl_addPromise_53 f_Tl_40.g rfl rfl (by decide) ?_
    refine T_int (nI (tP T)) (by rw [sI_r (by omega)]; rw [sI_r (by omega)]; rw [sI_r (by omega)]; rw [sI_r (by omega)]; exact hT.2.1) ?_
    refine N_iconst d_Tl_addPromise_56 0 rfl ?_
    refine H_iastN d_Tl_addPromise_57 rfl rfl (by omega) (by decide) ?_
    refine g_aload_n d_Tl_addPromise_58 rfl ?_
    refine P_dupA d_Tl_addPromise_59 ?_
    refine H_getI d_Tl_addPromise_60 f_Tl_40.g rfl rfl (by decide) ?_
    refine T_int (nI (tP T)) (by rw [sI_r (by omega)]; rw [sI_r (by omega)]; rw [sI_r (by omega)]; rw [sI_r (by omega)]; rw [sI_r (by omega)]; exact hT.2.1) ?_
    refine N_iconst d_Tl_addPromise_63 1 rfl ?_
    refine N_iadd d_Tl_addPromise_64 ?_
    refine H_putI d_Tl_addPromise_65 f_Tl_40 rfl rfl (by decide) ?_
    refine P_vret d_Tl_addPromise_68 rfl ?_
    refine k _ ⟨?_, sI_s _ _ _ _, fun i hi => ?_, fun p hp => ?_⟩ (Fx_sI (Fx_sI (Fx_sI (Fx_sI (Fx_sI (Fx_sI Fx.rf (by omega)) (by omega)) (by omega)) (by omega)) (by omega)) (by omega))
    · rw [sI_n (by omega)]
      simp (disch := omega) only [sI_r]
      exact hT.1
    · simp (disch := omega) only [sI_r]
      exact hT.2.2.1 i hi
    · have hi2 : p < tP T + 1 := hp
      show _ = nI (va_up (tkd T) (tP T) kd p) ∧ _ = nI (va_up (twk T) (tP T) wk p) ∧ _ = nI (va_up (tnd T) (tP T) nd p) ∧ _ = nI (va_up (thd T) (tP T) hd p) ∧ _ = nI (va_up (tsf T) (tP T) 0 p)
      by_cases hin : p = tP T
      · subst hin
        simp (disch := omega) only [sI_r, sI_s, va_up_s]
        exact ⟨trivial, trivial, trivial, trivial, trivial⟩
      · have h3 := hT.2.2.2 p (by omega)
        simp (disch := omega) only [sI_r, sI_n, va_up_n]
        exact h3

theorem c_Tl_addStrife {X : CX} {dl : List (Nat × Nat)} {mI : Nat → Nat → Int32} {dr : Nat → Nat → Nat} {Q : Option Value → AH → Prop} {T : TD} {x y : Nat} (hw : TW T) (hT : TR 42 T mI) (hx : x < tP T) (hy : y < tP T) (k : ∀ mI', TR 42 (tStr T x y) mI' → Fx 42 50 mI mI' → Q none (hp X dl mI' dr)) : EW X m_Tl_addStrife 0 (enL m_Tl_addStrife.2.2.1 [.ref 42, .int (nI x), .int (nI y)]) [] (hp X dl mI dr) Q := by
  show EW X m_Tl_addStrife 0 [.ref 42, .int (nI x), .int (nI y)] [] (hp X dl mI dr) Q
  have hw2 := hw.2.1
  refine g_aload_n d_Tl_addStrife_0 rfl ?_
  refine H_getR 50 d_Tl_addStrife_1 f_Tl_33.g rfl rfl (by decide) rfl ?_
  refine g_iload_n d_Tl_addStrife_4 rfl ?_
  refine P_dup2 d_Tl_addStrife_5 ?_
  refine H_ialdN d_Tl_addStrife_6 rfl rfl (by omega) (by decide) ?_
  refine T_int (nI (tsf T x)) (hT.2.2.2 x hx).2.2.2.2 ?_
  refine N_iconst d_Tl_addStrife_7 1 rfl ?_
  refine g_iload_n d_Tl_addStrife_8 rfl ?_
  refine N_ishl d_Tl_addStrife_9 (by omega) (p2_lt (by omega)) ?_
  refine N_ior d_Tl_addStrife_10 ?_
  refine H_iastN d_Tl_addStrife_11 rfl rfl (by omega) (by decide) ?_
  refine g_aload_n d_Tl_addStrife_12 rfl ?_
  refine H_getR 50 d_Tl_addStrife_13 f_Tl_33.g rfl rfl (by decide) rfl ?_
  refine g_iload_n d_Tl_addStrife_16 rfl ?_
  refine P_dup2 d_Tl_addStrife_17 ?_
  refine H_ialdN d_Tl_addStrife_18 rfl rfl (by omega) (by decide) ?_
  refine T_int (nI (va_up (tsf T) x (tsf T x ||| 2 ^ y) y)) (by
  rw [Nat.one_mul, sI_w]
  by_cases hyx : y = x
  · subst hyx; simp [upd, va_up]
  · simp only [upd, va_up, hyx, if_false]; exact (hT.2.2.2 y hy).2.2.2.2) ?_
  refine N_iconst d_Tl_addStrife_19 1 rfl ?_
  refine g_iload_n d_Tl_addStrife_20 rfl ?_
  refine N_ishl d_Tl_addStrife_21 (by omega) (p2_lt (by omega)) ?_
  refine N_ior d_Tl_addStrife_22 ?_
  refine H_iastN d_Tl_addStrife_23 rfl rfl (by omega) (by decide) ?_
  refine P_vret d_Tl_addStrife_24 rfl ?_
  refine k _ ⟨?_, ?_, fun i hi => ?_, fun p hp => ⟨?_, ?_, ?_, ?_, ?_⟩⟩ (Fx_sI (Fx_sI Fx.rf (by omega)) (by omega))
  · simp (disch := omega) only [sI_r]; exact hT.1
  · simp (disch := omega) only [sI_r]; exact hT.2.1
  · simp (disch := omega) only [sI_r]; exact hT.2.2.1 i hi
  · simp (disch := omega) only [sI_r]; exact (hT.2.2.2 p hp).1
  · simp (disch := omega) only [sI_r]; exact (hT.2.2.2 p hp).2.1
  · simp (disch := omega) only [sI_r]; exact (hT.2.2.2 p hp).2.2.1
  · simp (disch := omega) only [sI_r]; exact (hT.2.2.2 p hp).2.2.2.1
  · show _ = nI (va_up (va_up (tsf T) x (tsf T x ||| 2 ^ y)) y (va_up (tsf T) x (tsf T x ||| 2 ^ y) y ||| 2 ^ x) p)
    rw [Nat.one_mul, Nat.one_mul, sI_w]
    by_cases hpy : p = y
    · subst hpy; simp only [upd, if_true, va_up_s]
    · rw [va_up_n _ _ hpy]
      simp only [upd, hpy, if_false]
      rw [sI_w]
      by_cases hpx : p = x
      · subst hpx; simp only [upd, if_true, va_up_s]
      · rw [va_up_n _ _ hpx]
        simp only [upd, hpx, if_false]
        exact (hT.2.2.2 p hp).2.2.2.2

def bcF (x : Int32) : Int32 :=
  let a := x - ((x.toUInt32 >>> ((nI 1).toUInt32 &&& Int32.toUInt32 31)).toInt32 &&& 1431655765)
  let b := (a &&& 858993459) + ((a.toUInt32 >>> ((nI 2).toUInt32 &&& Int32.toUInt32 31)).toInt32 &&& 858993459)
  let c := (b + (b.toUInt32 >>> ((nI 4).toUInt32 &&& Int32.toUInt32 31)).toInt32) &&& 252645135
  let d := c + (c.toUInt32 >>> ((nI 8).toUInt32 &&& Int32.toUInt32 31)).toInt32
  let e := d + (d.toUInt32 >>> ((nI 16).toUInt32 &&& Int32.toUInt32 31)).toInt32
  e &&& nI 63
theorem bcF_ok : ∀ s, s < 1024 → bcF (nI s) = nI (onesN s 10) := by decide +kernel
theorem c_In_bitCount {X : CX} {h : AH} {Q : Option Value → AH → Prop} {s : Nat} (hs : s < 1024) (k : Q (some (.int (nI (onesN s 10)))) h) : EW X m_In_bitCount 0 (enL m_In_bitCount.2.2.1 [.int (nI s)]) [] h Q := by
  show EW X m_In_bitCount 0 [.int (nI s)] [] h Q
  refine g_iload_n d_In_bitCount_0 rfl ?_
  refine g_iload_n d_In_bitCount_1 rfl ?_
  refine N_iconst d_In_bitCount_2 1 rfl ?_
  refine P_iushr d_In_bitCount_3 ?_
  refine P_ldcw d_In_bitCount_4 _ q_In_265 ?_
  refine P_iand d_In_bitCount_7 ?_
  refine P_isub d_In_bitCount_8 ?_
  refine S_istore_n_1_0 d_In_bitCount_9 rfl ?_
  refine g_iload_n d_In_bitCount_10 rfl ?_
  refine P_ldcw d_In_bitCount_11 _ q_In_266 ?_
  refine P_iand d_In_bitCount_14 ?_
  refine g_iload_n d_In_bitCount_15 rfl ?_
  refine N_iconst d_In_bitCount_16 2 rfl ?_
  refine P_iushr d_In_bitCount_17 ?_
  refine P_ldcw d_In_bitCount_18 _ q_In_266 ?_
  refine P_iand d_In_bitCount_21 ?_
  refine P_iadd d_In_bitCount_22 ?_
  refine S_istore_n_1_0 d_In_bitCount_23 rfl ?_
  refine g_iload_n d_In_bitCount_24 rfl ?_
  refine g_iload_n d_In_bitCount_25 rfl ?_
  refine N_iconst d_In_bitCount_26 4 rfl ?_
  refine P_iushr d_In_bitCount_27 ?_
  refine P_iadd d_In_bitCount_28 ?_
  refine P_ldcw d_In_bitCount_29 _ q_In_267 ?_
  refine P_iand d_In_bitCount_32 ?_
  refine S_istore_n_1_0 d_In_bitCount_33 rfl ?_
  refine g_iload_n d_In_bitCount_34 rfl ?_
  refine g_iload_n d_In_bitCount_35 rfl ?_
  refine N_bipush d_In_bitCount_36 8 rfl ?_
  refine P_iushr d_In_bitCount_38 ?_
  refine P_iadd d_In_bitCount_39 ?_
  refine S_istore_n_1_0 d_In_bitCount_40 rfl ?_
  refine g_iload_n d_In_bitCount_41 rfl ?_
  refine g_iload_n d_In_bitCount_42 rfl ?_
  refine N_bipush d_In_bitCount_43 16 rfl ?_
  refine P_iushr d_In_bitCount_45 ?_
  refine P_iadd d_In_bitCount_46 ?_
  refine S_istore_n_1_0 d_In_bitCount_47 rfl ?_
  refine g_iload_n d_In_bitCount_48 rfl ?_
  refine N_bipush d_In_bitCount_49 63 rfl ?_
  refine P_iand d_In_bitCount_51 ?_
  refine P_iret d_In_bitCount_52 rfl ?_
  exact R_i k (bcF_ok s hs).symm

/-- no two of the set are foes, among the first i -/
def pcB (T : TD) (s : Nat) : Nat → Bool
  | 0 => true
  | i + 1 => pcB T s i && (!(s.testBit i) || decide (s &&& tsf T i = 0))
theorem pcB_f {T : TD} {s i : Nat} (h : pcB T s i = false) : ∀ j, i ≤ j → pcB T s j = false
  | 0, hj => by have : i = 0 := by omega
                subst this; exact h
  | j + 1, hj => by
    rcases (show i = j + 1 ∨ i ≤ j by omega) with rfl | h2
    · exact h
    · rw [pcB, pcB_f h j h2]; rfl
theorem lp_Tl_isPeaceful {X : CX} {dl : List (Nat × Nat)} {mI : Nat → Nat → Int32} {dr : Nat → Nat → Nat} {Q : Option Value → AH → Prop} {T : TD} {s : Nat} (hw : TW T) (hT : TR 33 T mI) (hs : s < 1024) (k : Q (some (.int (bI (pcB T s (tP T) = true)))) (hp X dl mI dr)) : ∀ (d : Nat) (i : Nat), (i ≤ tP T) → (pcB T s i = true) → tP T - i = d → EW X m_Tl_isPeaceful 2 [.ref 33, .int (nI s), .int (nI i)] [] (hp X dl mI dr) Q := by
  intro d
  induction d using Nat.strongRecOn with
  | _ d ih =>
    intro i hi hb hd
    have hw2 := hw.2.1
    refine g_iload_n d_Tl_isPeaceful_2 rfl ?_
    refine g_aload_n d_Tl_isPeaceful_3 rfl ?_
    refine H_getI d_Tl_isPeaceful_4 f_Tl_40.g rfl rfl (by decide) ?_
    refine T_int (nI (tP T)) hT.2.1 ?_
    refine N_icmp_ge d_Tl_isPeaceful_7 37 (by decide) ⟨by omega, by omega⟩ (fun c1 => ?_) (fun c1 => ?_)
    · refine N_iconst d_Tl_isPeaceful_37 1 rfl ?_
      refine P_zret d_Tl_isPeaceful_38 rfl (by decide) ?_
      have e : i = tP T := by omega
      subst e
      exact R_i k (bI_t' hb)
    · have hand0 : s &&& tsf T i < 2 ^ 31 := Nat.lt_of_le_of_lt Nat.and_le_left (by omega)
      refine g_iload_n d_Tl_isPeaceful_10 rfl ?_
      refine g_iload_n d_Tl_isPeaceful_11 rfl ?_
      refine N_ishr d_Tl_isPeaceful_12 (by omega) (by omega) ?_
      refine N_iconst d_Tl_isPeaceful_13 1 rfl ?_
      refine N_iand d_Tl_isPeaceful_14 ?_
      refine T_int (nI (s / 2 ^ i % 2)) (by rw [and1]) ?_
      refine N_if_eq d_Tl_isPeaceful_15 31 (by decide) (by omega) (fun c2 => ?_) (fun c2 => ?_)
      · refine N_iinc_3_2_1 d_Tl_isPeaceful_31 rfl rfl ?_
        refine P_goto d_Tl_isPeaceful_34 2 (by decide) ?_
        refine ih _ (by omega) (i + 1) (by omega) ?_ rfl
        have e : s.testBit i = false := by rw [← Bool.not_eq_true, tb_iff]; omega
        rw [pcB, hb, e]; rfl
      · refine g_iload_n d_Tl_isPeaceful_18 rfl ?_
        refine g_aload_n d_Tl_isPeaceful_19 rfl ?_
        refine H_getR 41 d_Tl_isPeaceful_20 f_Tl_33.g rfl rfl (by decide) rfl ?_
        refine g_iload_n d_Tl_isPeaceful_23 rfl ?_
        refine H_ialdN d_Tl_isPeaceful_24 rfl rfl (by omega) (by decide) ?_
        refine T_int (nI (tsf T i)) (hT.2.2.2 i c1).2.2.2.2 ?_
        refine N_iand d_Tl_isPeaceful_25 ?_
        refine N_if_eq d_Tl_isPeaceful_26 31 (by decide) hand0 (fun c3 => ?_) (fun c3 => ?_)
        · refine N_iinc_3_2_1 d_Tl_isPeaceful_31 rfl rfl ?_
          refine P_goto d_Tl_isPeaceful_34 2 (by decide) ?_
          refine ih _ (by omega) (i + 1) (by omega) ?_ rfl
          rw [pcB, hb, Bool.true_and, Bool.or_eq_true]
          exact Or.inr (decide_eq_true c3)
        · refine N_iconst d_Tl_isPeaceful_29 0 rfl ?_
          refine P_zret d_Tl_isPeaceful_30 rfl (by decide) ?_
          have e : s.testBit i = true := by rw [tb_iff]; omega
          have e2 : pcB T s (i + 1) = false := by rw [pcB, hb, e, decide_eq_false c3]; rfl
          exact R_i k (bI_f' (by rw [pcB_f e2 _ (by omega)]; decide))

theorem c_Tl_isPeaceful {X : CX} {dl : List (Nat × Nat)} {mI : Nat → Nat → Int32} {dr : Nat → Nat → Nat} {Q : Option Value → AH → Prop} {T : TD} {s : Nat} (hw : TW T) (hT : TR 33 T mI) (hs : s < 1024) (k : Q (some (.int (bI (pcB T s (tP T) = true)))) (hp X dl mI dr)) : EW X m_Tl_isPeaceful 0 (enL m_Tl_isPeaceful.2.2.1 [.ref 33, .int (nI s)]) [] (hp X dl mI dr) Q := by
  show EW X m_Tl_isPeaceful 0 [.ref 33, .int (nI s), jk] [] (hp X dl mI dr) Q
  refine N_iconst d_Tl_isPeaceful_0 0 rfl ?_
  refine S_istore_n_3_2 d_Tl_isPeaceful_1 rfl rfl ?_
  exact lp_Tl_isPeaceful hw hT hs k _ 0 (Nat.zero_le _) rfl rfl

def lgS (T : TD) (q : Nat × Nat) (s : Nat) : Nat × Nat := if q.2 < onesN s 10 ∧ pcB T s (tP T) = true then (s, onesN s 10) else q
/-- the sets 1 .. m - 1 are tried -/
def lgN (T : TD) : Nat → Nat × Nat
  | 0 => (0, 0)
  | 1 => (0, 0)
  | m + 2 => lgS T (lgN T (m + 1)) (m + 1)
theorem lgN_le (T : TD) : ∀ m, (lgN T m).2 ≤ 10
  | 0 => Nat.zero_le _
  | 1 => Nat.zero_le _
  | m + 2 => by
    rw [lgN, lgS]
    split
    · exact onesN_le _ _
    · exact lgN_le T (m + 1)
theorem lp_Tl_largest {X : CX} {dl : List (Nat × Nat)} {mI : Nat → Nat → Int32} {dr : Nat → Nat → Nat} {Q : Option Value → AH → Prop} {T : TD} (hw : TW T) (hT : TR 33 T mI) (k : Q (some (.int (nI (lgN T (2 ^ tP T)).1))) (hp X dl mI dr)) : ∀ (d : Nat) (i : Nat) (q : Nat × Nat) (v4 : Value), (1 ≤ i ∧ i ≤ 2 ^ tP T) → (q = lgN T i) → 2 ^ tP T - i = d → EW X m_Tl_largestPeacefulSet 6 [.ref 33, .int (nI q.1), .int (nI q.2), .int (nI i), v4] [] (hp X dl mI dr) Q := by
  intro d
  induction d using Nat.strongRecOn with
  | _ d ih =>
    intro i q v4 hi hq hd
    have hw2 := hw.2.1
    have hp1024 : 2 ^ tP T ≤ 1024 := Nat.pow_le_pow_right (n := 2) (j := 10) (by decide) hw2
    have hq10 : q.2 ≤ 10 := by rw [hq]; exact lgN_le T i
    refine g_iload_n d_Tl_largestPeacefulSet_6 rfl ?_
    refine N_iconst d_Tl_largestPeacefulSet_7 1 rfl ?_
    refine g_aload_n d_Tl_largestPeacefulSet_8 rfl ?_
    refine H_getI d_Tl_largestPeacefulSet_9 f_Tl_40.g rfl rfl (by decide) ?_
    refine T_int (nI (tP T)) hT.2.1 ?_
    refine N_ishl d_Tl_largestPeacefulSet_12 (by omega) (p2_lt (by omega)) ?_
    rw [Nat.one_mul]
    refine N_icmp_ge d_Tl_largestPeacefulSet_13 47 (by decide) ⟨by omega, by omega⟩ (fun c1 => ?_) (fun c1 => ?_)
    · refine g_iload_n d_Tl_largestPeacefulSet_47 rfl ?_
      refine P_iret d_Tl_largestPeacefulSet_48 rfl ?_
      have e : i = 2 ^ tP T := by omega
      rw [e] at hq
      rw [hq]
      exact k
    · have hon := onesN_le i 10
      obtain ⟨i1, rfl⟩ : ∃ i1, i = i1 + 1 := ⟨i - 1, by omega⟩
      refine g_iload_n d_Tl_largestPeacefulSet_16 rfl ?_
      refine C_S1 d_Tl_largestPeacefulSet_17 k_Tl_56 (Nat.le_of_ble_eq_true rfl) (by decide) (Nat.le_of_ble_eq_true rfl) ?_
      refine (c_In_bitCount (by omega)) ?_
      refine S_istore_5_4 d_Tl_largestPeacefulSet_20 rfl rfl ?_
      refine g_iload d_Tl_largestPeacefulSet_22 rfl ?_
      refine g_iload_n d_Tl_largestPeacefulSet_24 rfl ?_
      refine N_icmp_le d_Tl_largestPeacefulSet_25 41 (by decide) ⟨by omega, by omega⟩ (fun c2 => ?_) (fun c2 => ?_)
      · refine N_iinc_5_3_1 d_Tl_largestPeacefulSet_41 rfl rfl ?_
        refine P_goto d_Tl_largestPeacefulSet_44 6 (by decide) ?_
        exact ih _ (by omega) (i1 + 1 + 1) q _ (by omega) (by rw [lgN, ← hq, lgS, if_neg (fun z => by omega)]) rfl
      · refine g_aload_n d_Tl_largestPeacefulSet_28 rfl ?_
        refine g_iload_n d_Tl_largestPeacefulSet_29 rfl ?_
        refine C_V1 d_Tl_largestPeacefulSet_30 k_Tl_62 rfl (Nat.le_of_ble_eq_true rfl) (by decide) (Nat.le_of_ble_eq_true rfl) ?_
        refine (c_Tl_isPeaceful hw hT (by omega)) ?_
        refine B_eq d_Tl_largestPeacefulSet_33 41 (by decide) (fun c3 => ?_) (fun c3 => ?_)
        · refine N_iinc_5_3_1 d_Tl_largestPeacefulSet_41 rfl rfl ?_
          refine P_goto d_Tl_largestPeacefulSet_44 6 (by decide) ?_
          exact ih _ (by omega) (i1 + 1 + 1) q _ (by omega) (by rw [lgN, ← hq, lgS, if_neg (fun z => c3 z.2)]) rfl
        · refine g_iload_n d_Tl_largestPeacefulSet_36 rfl ?_
          refine S_istore_n_5_1 d_Tl_largestPeacefulSet_37 rfl rfl ?_
          refine g_iload d_Tl_largestPeacefulSet_38 rfl ?_
          refine S_istore_n_5_2 d_Tl_largestPeacefulSet_40 rfl rfl ?_
          refine N_iinc_5_3_1 d_Tl_largestPeacefulSet_41 rfl rfl ?_
          refine P_goto d_Tl_largestPeacefulSet_44 6 (by decide) ?_
          exact ih _ (by omega) (i1 + 1 + 1) (i1 + 1, onesN (i1 + 1) 10) _ (by omega) (by rw [lgN, ← hq, lgS, if_pos ⟨c2, c3⟩]) rfl

theorem c_Tl_largestPeacefulSet {X : CX} {dl : List (Nat × Nat)} {mI : Nat → Nat → Int32} {dr : Nat → Nat → Nat} {Q : Option Value → AH → Prop} {T : TD} (hw : TW T) (hT : TR 33 T mI) (k : Q (some (.int (nI (lgN T (2 ^ tP T)).1))) (hp X dl mI dr)) : EW X m_Tl_largestPeacefulSet 0 (enL m_Tl_largestPeacefulSet.2.2.1 [.ref 33]) [] (hp X dl mI dr) Q := by
  show EW X m_Tl_largestPeacefulSet 0 [.ref 33, jk, jk, jk, jk] [] (hp X dl mI dr) Q
  refine N_iconst d_Tl_largestPeacefulSet_0 0 rfl ?_
  refine S_istore_n_5_1 d_Tl_largestPeacefulSet_1 rfl rfl ?_
  refine N_iconst d_Tl_largestPeacefulSet_2 0 rfl ?_
  refine S_istore_n_5_2 d_Tl_largestPeacefulSet_3 rfl rfl ?_
  refine N_iconst d_Tl_largestPeacefulSet_4 1 rfl ?_
  refine S_istore_n_5_3 d_Tl_largestPeacefulSet_5 rfl rfl ?_
  exact lp_Tl_largest hw hT k _ 1 (0, 0) _ ⟨Nat.le_refl _, Nat.two_pow_pos _⟩ rfl rfl

