/-! WHAT IS TOLD, AND A STATE, AS MATHEMATICS -/
/-- people, promises, strength, span, heir (0 none, j + 1), kind, work, needs, holder, foes -/
abbrev TD : Type := Nat × Nat × (Nat → Nat) × (Nat → Nat) × (Nat → Nat) × (Nat → Nat) × (Nat → Nat) × (Nat → Nat) × (Nat → Nat) × (Nat → Nat)
abbrev tn (T : TD) : Nat := T.1
abbrev tP (T : TD) : Nat := T.2.1
abbrev tst (T : TD) : Nat → Nat := T.2.2.1
abbrev tsp (T : TD) : Nat → Nat := T.2.2.2.1
abbrev thr (T : TD) : Nat → Nat := T.2.2.2.2.1
abbrev tkd (T : TD) : Nat → Nat := T.2.2.2.2.2.1
abbrev twk (T : TD) : Nat → Nat := T.2.2.2.2.2.2.1
abbrev tnd (T : TD) : Nat → Nat := T.2.2.2.2.2.2.2.1
abbrev thd (T : TD) : Nat → Nat := T.2.2.2.2.2.2.2.2.1
abbrev tsf (T : TD) : Nat → Nat := T.2.2.2.2.2.2.2.2.2
def hrI (c : Nat) : Int32 := match c with
  | 0 => -1
  | j + 1 => nI j
def TW (T : TD) : Prop := tn T ≤ 5 ∧ tP T ≤ 10 ∧ (∀ i, i < tn T → 1 ≤ tst T i ∧ tst T i ≤ 9 ∧ 1 ≤ tsp T i ∧ tsp T i ≤ 60 ∧ thr T i ≤ i) ∧
  ∀ p, p < tP T → tkd T p < 5 ∧ 1 ≤ twk T p ∧ twk T p ≤ 40 ∧ tnd T p < 2 ^ p ∧ thd T p < tn T ∧ tsf T p < 2 ^ tP T
/-- the class holds T at the cells t .. t + 8 -/
def TR (t : Nat) (T : TD) (mI : Nat → Nat → Int32) : Prop := mI t 0 = nI (tn T) ∧ mI t 1 = nI (tP T) ∧
  (∀ i, i < tn T → mI (t + 1) i = nI (tst T i) ∧ mI (t + 2) i = nI (tsp T i) ∧ mI (t + 3) i = hrI (thr T i)) ∧
  ∀ p, p < tP T → mI (t + 4) p = nI (tkd T p) ∧ mI (t + 5) p = nI (twk T p) ∧ mI (t + 6) p = nI (tnd T p) ∧ mI (t + 7) p = nI (thd T p) ∧ mI (t + 8) p = nI (tsf T p)
/-- the model holds T: its own (fields 3, 7, cells 142 ..), or its draft (fields 19, 23, cells 151 ..) -/
def TM (fn fp b : Nat) (T : TD) (mI : Nat → Nat → Int32) : Prop := mI 139 fn = nI (tn T) ∧ mI 139 fp = nI (tP T) ∧
  (∀ i, i < tn T → mI b i = nI (tst T i) ∧ mI (b + 1) i = nI (tsp T i) ∧ mI (b + 2) i = hrI (thr T i)) ∧
  (∀ p, p < tP T → mI (b + 3) p = nI (tkd T p) ∧ mI (b + 4) p = nI (twk T p) ∧ mI (b + 5) p = nI (tnd T p) ∧ mI (b + 6) p = nI (thd T p) ∧ mI (b + 7) p = nI (tsf T p)) ∧ ∀ p, tP T ≤ p → p < 10 → mI (b + 7) p = nI 0
/-- year, spans, works, done, holders (5 the cat, 6 kept), the row -/
abbrev AS : Type := Nat × (Nat → Nat) × (Nat → Nat) × (Nat → Nat) × (Nat → Nat) × List Nat
abbrev aY (σ : AS) : Nat := σ.1
abbrev aS (σ : AS) : Nat → Nat := σ.2.1
abbrev aW (σ : AS) : Nat → Nat := σ.2.2.1
abbrev aD (σ : AS) : Nat → Nat := σ.2.2.2.1
abbrev aH (σ : AS) : Nat → Nat := σ.2.2.2.2.1
abbrev aR (σ : AS) : List Nat := σ.2.2.2.2.2
def hoI (c : Nat) : Int32 := if c = 6 then -1 else nI c
def kB (H : Nat → Nat) : Nat → Nat
  | 0 => 0
  | p + 1 => kB H p ||| (if H p = 6 then 2 ^ p else 0)
/-- what one holds -/
def Lm (σ : AS) (m : Nat) : List Nat := (aR σ).filter (fun p => decide (aH σ p = m))
def SW (T : TD) (σ : AS) : Prop := ((aR σ).length = tP T ∧ (aR σ).Nodup ∧ ∀ p ∈ aR σ, p < tP T) ∧
  (∀ p, p < tP T → aH σ p ≤ 6 ∧ (aH σ p < 5 → aH σ p < tn T ∧ 0 < aS σ (aH σ p)) ∧ aD σ p ≤ aW σ p ∧ aW σ p ≤ 40) ∧ ∀ i, i < tn T → aS σ i ≤ 60
/-- the class holds σ at the cells a .. a + 5, with K for the kept ones -/
def SR (a : Nat) (T : TD) (σ : AS) (K : Nat) (mI : Nat → Nat → Int32) : Prop := mI a 6 = nI (aY σ) ∧ mI a 7 = nI K ∧ (∀ i, i < tn T → mI (a + 1) i = nI (aS σ i)) ∧
  (∀ p, p < tP T → mI (a + 2) p = nI (aW σ p) ∧ mI (a + 3) p = nI (aD σ p) ∧ mI (a + 4) p = hoI (aH σ p)) ∧ ∀ i, i < tP T → mI (a + 5) i = nI ((aR σ).getD i 0)
abbrev SC (a : Nat) (T : TD) (σ : AS) (mI : Nat → Nat → Int32) : Prop := SR a T σ (kB (aH σ) (tP T)) mI
/-- the model holds σ in its long row from r on -/
def SM (r : Nat) (T : TD) (σ : AS) (K : Nat) (mI : Nat → Nat → Int32) : Prop := mI 140 r = nI (aY σ) ∧ mI 140 (r + 26) = nI K ∧ (∀ i, i < tn T → mI 140 (r + 1 + i) = nI (aS σ i)) ∧
  (∀ p, p < tP T → mI 140 (r + 6 + p) = nI (aW σ p) ∧ mI 140 (r + 16 + p) = nI (aD σ p)) ∧
  ∀ m, m < 6 → mI 140 (r + 27 + m) = nI (Lm σ m).length ∧ ∀ k, k < (Lm σ m).length → mI 140 (r + 33 + 10 * m + k) = nI ((Lm σ m).getD k 0)
/-- nothing but the cells a .. a + 5 has changed -/
def Fa (a : Nat) (mI mI' : Nat → Nat → Int32) : Prop := ∀ r, ¬ (a ≤ r ∧ r ≤ a + 5) → mI' r = mI r
theorem Fa.rf {a : Nat} {mI : Nat → Nat → Int32} : Fa a mI mI := fun _ _ => rfl
theorem Fa.tr {a : Nat} {m1 m2 m3 : Nat → Nat → Int32} (h : Fa a m1 m2) (g : Fa a m2 m3) : Fa a m1 m3 := fun r hr => (g r hr).trans (h r hr)
theorem Fa_sI {a r f : Nat} {m1 m2 : Nat → Nat → Int32} {x : Int32} (h : Fa a m1 m2) (hr : a ≤ r ∧ r ≤ a + 5) : Fa a m1 (sI m2 r f x) := fun q hq => (sI_r (fun z => hq (by rw [z]; exact hr))).trans (h q hq)
/-- the told cells are apart from every state -/
theorem st_far {a : Nat} (h : StA a) : 51 ≤ a ∧ a + 5 < 139 := by
  simp only [StA, stL, List.mem_cons, List.not_mem_nil, or_false] at h
  omega
theorem TR.to {T : TD} {mI mI' : Nat → Nat → Int32} {t : Nat} (h : TR t T mI) (hf : ∀ r, t ≤ r → r ≤ t + 8 → mI' r = mI r) : TR t T mI' := by
  obtain ⟨h1, h2, h3, h4⟩ := h
  refine ⟨by rw [hf _ (by omega) (by omega)]; exact h1, by rw [hf _ (by omega) (by omega)]; exact h2, fun i hi => ?_, fun p hp => ?_⟩
  · rw [hf (t + 1) (by omega) (by omega), hf (t + 2) (by omega) (by omega), hf (t + 3) (by omega) (by omega)]; exact h3 i hi
  · rw [hf (t + 4) (by omega) (by omega), hf (t + 5) (by omega) (by omega), hf (t + 6) (by omega) (by omega), hf (t + 7) (by omega) (by omega), hf (t + 8) (by omega) (by omega)]; exact h4 p hp
theorem TR.fa {T : TD} {mI mI' : Nat → Nat → Int32} {a : Nat} (h : TR 33 T mI) (ha : StA a) (hf : Fa a mI mI') : TR 33 T mI' := h.to (fun r h1 h2 => hf r (by have := st_far ha; omega))
theorem kB_ext {H H' : Nat → Nat} : ∀ P, (∀ p, p < P → H p = H' p) → kB H P = kB H' P
  | 0, _ => rfl
  | P + 1, h => by
    unfold kB
    rw [kB_ext P (fun p hp => h p (by omega)), h P (by omega)]
theorem kB_lt (H : Nat → Nat) : ∀ P, kB H P < 2 ^ P
  | 0 => by simp [kB]
  | P + 1 => by
    have := kB_lt H P
    unfold kB
    refine Nat.or_lt_two_pow (by rw [Nat.pow_succ]; omega) ?_
    split
    · rw [Nat.pow_succ]; have := Nat.two_pow_pos P; omega
    · exact Nat.two_pow_pos _
theorem kB_bit (H : Nat → Nat) : ∀ P p, (kB H P).testBit p = decide (p < P ∧ H p = 6)
  | 0, p => by simp [kB]
  | P + 1, p => by
    have ih := kB_bit H P p
    unfold kB
    rw [Nat.testBit_or, ih]
    by_cases h6 : H P = 6
    · rw [if_pos h6, Nat.testBit_two_pow]
      by_cases hp : P = p
      · subst hp; simp [h6]
      · have : p < P + 1 ↔ p < P := by omega
        simp [hp, this]
    · rw [if_neg h6, Nat.zero_testBit, Bool.or_false]
      by_cases hp : p = P
      · subst hp; simp [h6]
      · have : p < P + 1 ↔ p < P := by omega
        simp [this]
/-- a bit more -/
theorem kB_set (H : Nat → Nat) (P q : Nat) (hq : q < P) : kB (fun p => if p = q then 6 else H p) P = kB H P ||| 2 ^ q := by
  refine Nat.eq_of_testBit_eq (fun p => ?_)
  rw [Nat.testBit_or, kB_bit, kB_bit, Nat.testBit_two_pow]
  by_cases hp : q = p
  · subst hp; simp [hq]
  · have : ¬ p = q := fun z => hp z.symm
    simp [hp, this]
theorem kB_same (H H' : Nat → Nat) (P : Nat) (h : ∀ p, p < P → (H p = 6 ↔ H' p = 6)) : kB H P = kB H' P := by
  refine Nat.eq_of_testBit_eq (fun p => ?_)
  rw [kB_bit, kB_bit]
  by_cases hp : p < P
  · simp [hp, h p hp]
  · simp [hp]
/-! changes of a state, one place at a time -/
def uD (σ : AS) (p v : Nat) : AS := (aY σ, aS σ, aW σ, va_up (aD σ) p v, aH σ, aR σ)
def uH (σ : AS) (p v : Nat) : AS := (aY σ, aS σ, aW σ, aD σ, va_up (aH σ) p v, aR σ)
def uW (σ : AS) (p v : Nat) : AS := (aY σ, aS σ, va_up (aW σ) p v, aD σ, aH σ, aR σ)
def uS (σ : AS) (i v : Nat) : AS := (aY σ, va_up (aS σ) i v, aW σ, aD σ, aH σ, aR σ)
def uR (σ : AS) (l : List Nat) : AS := (aY σ, aS σ, aW σ, aD σ, aH σ, l)
def uY (σ : AS) (y : Nat) : AS := (y, aS σ, aW σ, aD σ, aH σ, aR σ)
section SRset
variable {a : Nat} {T : TD} {σ : AS} {K : Nat} {mI : Nat → Nat → Int32}
theorem SR.D (h : SR a T σ K mI) (p v : Nat) : SR a T (uD σ p v) K (sI mI (a + 3) p (nI v)) := by
  obtain ⟨h1, h2, h3, h4, h5⟩ := h
  refine ⟨by rw [sI_r (by omega)]; exact h1, by rw [sI_r (by omega)]; exact h2, fun i hi => by rw [sI_r (by omega)]; exact h3 i hi, fun q hq => ⟨by rw [sI_r (by omega)]; exact (h4 q hq).1, ?_, by rw [sI_r (by omega)]; exact (h4 q hq).2.2⟩, fun i hi => by rw [sI_r (by omega)]; exact h5 i hi⟩
  show sI mI (a + 3) p (nI v) (a + 3) q = nI (va_up (aD σ) p v q)
  rw [sI_w]
  by_cases hqp : q = p
  · subst hqp; simp [upd, va_up]
  · simp only [upd, va_up, hqp, if_false]; exact (h4 q hq).2.1
theorem SR.H (h : SR a T σ K mI) (p v : Nat) : SR a T (uH σ p v) K (sI mI (a + 4) p (hoI v)) := by
  obtain ⟨h1, h2, h3, h4, h5⟩ := h
  refine ⟨by rw [sI_r (by omega)]; exact h1, by rw [sI_r (by omega)]; exact h2, fun i hi => by rw [sI_r (by omega)]; exact h3 i hi, fun q hq => ⟨by rw [sI_r (by omega)]; exact (h4 q hq).1, by rw [sI_r (by omega)]; exact (h4 q hq).2.1, ?_⟩, fun i hi => by rw [sI_r (by omega)]; exact h5 i hi⟩
  show sI mI (a + 4) p (hoI v) (a + 4) q = hoI (va_up (aH σ) p v q)
  rw [sI_w]
  by_cases hqp : q = p
  · subst hqp; simp [upd, va_up]
  · simp only [upd, va_up, hqp, if_false]; exact (h4 q hq).2.2
theorem SR.W (h : SR a T σ K mI) (p v : Nat) : SR a T (uW σ p v) K (sI mI (a + 2) p (nI v)) := by
  obtain ⟨h1, h2, h3, h4, h5⟩ := h
  refine ⟨by rw [sI_r (by omega)]; exact h1, by rw [sI_r (by omega)]; exact h2, fun i hi => by rw [sI_r (by omega)]; exact h3 i hi, fun q hq => ⟨?_, by rw [sI_r (by omega)]; exact (h4 q hq).2.1, by rw [sI_r (by omega)]; exact (h4 q hq).2.2⟩, fun i hi => by rw [sI_r (by omega)]; exact h5 i hi⟩
  show sI mI (a + 2) p (nI v) (a + 2) q = nI (va_up (aW σ) p v q)
  rw [sI_w]
  by_cases hqp : q = p
  · subst hqp; simp [upd, va_up]
  · simp only [upd, va_up, hqp, if_false]; exact (h4 q hq).1
theorem SR.S (h : SR a T σ K mI) (p v : Nat) : SR a T (uS σ p v) K (sI mI (a + 1) p (nI v)) := by
  obtain ⟨h1, h2, h3, h4, h5⟩ := h
  refine ⟨by rw [sI_r (by omega)]; exact h1, by rw [sI_r (by omega)]; exact h2, fun i hi => ?_, fun q hq => ⟨by rw [sI_r (by omega)]; exact (h4 q hq).1, by rw [sI_r (by omega)]; exact (h4 q hq).2.1, by rw [sI_r (by omega)]; exact (h4 q hq).2.2⟩, fun i hi => by rw [sI_r (by omega)]; exact h5 i hi⟩
  show sI mI (a + 1) p (nI v) (a + 1) i = nI (va_up (aS σ) p v i)
  rw [sI_w]
  by_cases hqp : i = p
  · subst hqp; simp [upd, va_up]
  · simp only [upd, va_up, hqp, if_false]; exact h3 i hi
theorem SR.Y (h : SR a T σ K mI) (y : Nat) : SR a T (uY σ y) K (sI mI a 6 (nI y)) := by
  obtain ⟨h1, h2, h3, h4, h5⟩ := h
  refine ⟨sI_s _ _ _ _, by rw [sI_n (by omega)]; exact h2, fun i hi => by rw [sI_r (by omega)]; exact h3 i hi, fun q hq => ⟨by rw [sI_r (by omega)]; exact (h4 q hq).1, by rw [sI_r (by omega)]; exact (h4 q hq).2.1, by rw [sI_r (by omega)]; exact (h4 q hq).2.2⟩, fun i hi => by rw [sI_r (by omega)]; exact h5 i hi⟩
theorem SR.kk (h : SR a T σ K mI) (K' : Nat) : SR a T σ K' (sI mI a 7 (nI K')) := by
  obtain ⟨h1, h2, h3, h4, h5⟩ := h
  refine ⟨by rw [sI_n (by omega)]; exact h1, sI_s _ _ _ _, fun i hi => by rw [sI_r (by omega)]; exact h3 i hi, fun q hq => ⟨by rw [sI_r (by omega)]; exact (h4 q hq).1, by rw [sI_r (by omega)]; exact (h4 q hq).2.1, by rw [sI_r (by omega)]; exact (h4 q hq).2.2⟩, fun i hi => by rw [sI_r (by omega)]; exact h5 i hi⟩
theorem SR.R (h : SR a T σ K mI) (j v : Nat) (hj : j < (aR σ).length) : SR a T (uR σ ((aR σ).set j v)) K (sI mI (a + 5) j (nI v)) := by
  obtain ⟨h1, h2, h3, h4, h5⟩ := h
  refine ⟨by rw [sI_r (by omega)]; exact h1, by rw [sI_r (by omega)]; exact h2, fun i hi => by rw [sI_r (by omega)]; exact h3 i hi, fun q hq => ⟨by rw [sI_r (by omega)]; exact (h4 q hq).1, by rw [sI_r (by omega)]; exact (h4 q hq).2.1, by rw [sI_r (by omega)]; exact (h4 q hq).2.2⟩, fun i hi => ?_⟩
  show sI mI (a + 5) j (nI v) (a + 5) i = nI (((aR σ).set j v).getD i 0)
  rw [sI_w]
  by_cases hij : i = j
  · subst hij; simp [upd, List.getD_eq_getElem?_getD, hj]
  · have : ¬ j = i := fun z => hij z.symm
    simp only [upd, hij, if_false, List.getD_eq_getElem?_getD, List.getElem?_set_ne this]
    rw [← List.getD_eq_getElem?_getD]; exact h5 i hi
theorem SR.to {mI' : Nat → Nat → Int32} (h : SR a T σ K mI) (hf : ∀ r, a ≤ r → r ≤ a + 5 → mI' r = mI r) : SR a T σ K mI' := by
  obtain ⟨h1, h2, h3, h4, h5⟩ := h
  refine ⟨by rw [hf _ (by omega) (by omega)]; exact h1, by rw [hf _ (by omega) (by omega)]; exact h2, fun i hi => by rw [hf _ (by omega) (by omega)]; exact h3 i hi, fun q hq => ?_, fun i hi => by rw [hf _ (by omega) (by omega)]; exact h5 i hi⟩
  rw [hf (a + 2) (by omega) (by omega), hf (a + 3) (by omega) (by omega), hf (a + 4) (by omega) (by omega)]
  exact h4 q hq
end SRset
/-- which promise is open -/
abbrev opn (T : TD) (K p : Nat) : Prop := K.testBit p = false ∧ tkd T p ≤ 2 ∧ tnd T p &&& K = tnd T p
theorem not_bits (a b : Nat) (ha : a < 2 ^ 31) (hb : b < 2 ^ 31) : nI a &&& (nI b ^^^ (-1)) = 0 ↔ a &&& b = a := by
  have key : ∀ i, i < 32 → ((nI a &&& (nI b ^^^ (-1))).toBitVec.getLsbD i = (a.testBit i && !(b.testBit i))) := by
    intro i hi
    show ((BitVec.ofNat 32 a) &&& ((BitVec.ofNat 32 b) ^^^ (-1 : Int32).toBitVec)).getLsbD i = _
    have h1 : (-1 : Int32).toBitVec = BitVec.allOnes 32 := rfl
    rw [h1, BitVec.getLsbD_and, BitVec.getLsbD_xor, BitVec.getLsbD_ofNat, BitVec.getLsbD_ofNat, BitVec.getLsbD_allOnes]
    simp [hi]
  constructor
  · intro h
    refine Nat.eq_of_testBit_eq (fun i => ?_)
    rw [Nat.testBit_and]
    by_cases hi : i < 32
    · have := key i hi
      rw [h] at this
      simp at this
      cases hA : a.testBit i
      · simp
      · simp [this hA]
    · have : a.testBit i = false := Nat.testBit_lt_two_pow (Nat.lt_of_lt_of_le ha (Nat.pow_le_pow_right (by decide) (by omega)))
      simp [this]
  · intro h
    refine Int32.toBitVec_inj.mp (BitVec.eq_of_getLsbD_eq (fun i hi => ?_))
    rw [key i hi]
    have : (a &&& b).testBit i = a.testBit i := by rw [h]
    rw [Nat.testBit_and] at this
    show _ = BitVec.getLsbD (0 : BitVec 32) i
    cases hA : a.testBit i <;> cases hB : b.testBit i <;> simp_all
