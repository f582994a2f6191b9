/-! A YEAR, as a whole: who works at what -/
def dd1 (T : TD) (σ : AS) (p : Nat) : Nat := aD σ p + doesN (tkd T p) (tst T (aH σ p))
/-- those of C are worked at -/
def finW (T : TD) (σ : AS) (C : Nat → Bool) : AS := (aY σ, aS σ, aW σ, fun p => if C p = true then (if aW σ p ≤ dd1 T σ p then aW σ p else dd1 T σ p) else aD σ p, fun p => if C p = true ∧ aW σ p ≤ dd1 T σ p then 6 else aH σ p, aR σ)
theorem finW_0 {T : TD} {σ : AS} {C : Nat → Bool} (h : ∀ p, C p = false) : finW T σ C = σ := by
  obtain ⟨a, b, c, d, e, f⟩ := σ
  unfold finW
  simp [h]
theorem finW_H {T : TD} {σ : AS} {C : Nat → Bool} {p : Nat} (h : C p = false) : aH (finW T σ C) p = aH σ p := by
  show (if C p = true ∧ aW σ p ≤ dd1 T σ p then 6 else aH σ p) = _
  rw [if_neg (by rw [h]; exact fun z => nomatch z.1)]
theorem finW_add {T : TD} {σ : AS} {C C' : Nat → Bool} {p : Nat} (h : C p = false) (hp1 : C' p = true) (hq : ∀ q, q ≠ p → C' q = C q) : wkAt T (finW T σ C) p (tst T (aH σ p)) = finW T σ C' := by
  have eD : aD (finW T σ C) p = aD σ p := by show (if C p = true then _ else _) = _; rw [if_neg (by rw [h]; decide)]
  have eW : aW (finW T σ C) p = aW σ p := rfl
  unfold wkAt
  rw [eD, eW]
  by_cases hc : aW σ p ≤ aD σ p + doesN (tkd T p) (tst T (aH σ p))
  · rw [if_pos hc]
    have e1 : va_up (aD (finW T σ C)) p (aW σ p) = aD (finW T σ C') := by
      funext q
      show _ = if C' q = true then (if aW σ q ≤ dd1 T σ q then aW σ q else dd1 T σ q) else aD σ q
      by_cases z : q = p
      · subst z; rw [va_up_s, if_pos hp1, if_pos (show aW σ q ≤ dd1 T σ q from hc)]
      · rw [va_up_n _ _ z, hq q z]; rfl
    have e2 : va_up (aH (finW T σ C)) p 6 = aH (finW T σ C') := by
      funext q
      show _ = if C' q = true ∧ aW σ q ≤ dd1 T σ q then 6 else aH σ q
      by_cases z : q = p
      · subst z; rw [va_up_s, if_pos ⟨hp1, hc⟩]
      · rw [va_up_n _ _ z, hq q z]; rfl
    show (aY σ, aS σ, aW σ, va_up (aD (finW T σ C)) p (aW σ p), va_up (aH (finW T σ C)) p 6, aR σ) = _
    rw [e1, e2]; rfl
  · rw [if_neg hc]
    have e1 : va_up (aD (finW T σ C)) p (aD σ p + doesN (tkd T p) (tst T (aH σ p))) = aD (finW T σ C') := by
      funext q
      show _ = if C' q = true then (if aW σ q ≤ dd1 T σ q then aW σ q else dd1 T σ q) else aD σ q
      by_cases z : q = p
      · subst z; rw [va_up_s, if_pos hp1, if_neg (show ¬ aW σ q ≤ dd1 T σ q from hc)]; rfl
      · rw [va_up_n _ _ z, hq q z]; rfl
    have e2 : aH (finW T σ C) = aH (finW T σ C') := by
      funext q
      show (if C q = true ∧ aW σ q ≤ dd1 T σ q then 6 else aH σ q) = if C' q = true ∧ aW σ q ≤ dd1 T σ q then 6 else aH σ q
      by_cases z : q = p
      · subst z; rw [if_neg (fun y => hc y.2), if_neg (fun y => hc y.2)]
      · rw [hq q z]
    show (aY σ, aS σ, aW σ, va_up (aD (finW T σ C)) p _, aH (finW T σ C), aR σ) = _
    rw [e1, e2]; rfl
/-- the first one that can be worked at -/
def fO (T : TD) (K : Nat) (l : List Nat) : Option Nat := l.find? (fun p => decide (opn T K p))
def flH (σ : AS) (m : Nat) (l : List Nat) : List Nat := l.filter (fun p => decide (aH σ p = m))
/-- who is worked at, as far as the row l goes -/
def chB (T : TD) (σ : AS) (K : Nat) (l : List Nat) (p : Nat) : Bool := decide (aH σ p < 5) && (fO T K (flH σ (aH σ p) l) == some p)
theorem flH_app (σ : AS) (m : Nat) (l : List Nat) (x : Nat) : flH σ m (l ++ [x]) = flH σ m l ++ (if aH σ x = m then [x] else []) := by
  unfold flH
  rw [List.filter_append]
  by_cases h : aH σ x = m <;> simp [h]
theorem fO_app (T : TD) (K : Nat) (l : List Nat) (x : Nat) : fO T K (l ++ [x]) = (fO T K l).or (if opn T K x then some x else none) := by
  unfold fO
  rw [List.find?_append]
  congr 1
  by_cases h : opn T K x <;> simp [h]
theorem fO_mem {T : TD} {K : Nat} {l : List Nat} {p : Nat} (h : fO T K l = some p) : p ∈ l := List.mem_of_find?_eq_some h
theorem chB_x {T : TD} {σ : AS} {K : Nat} {l : List Nat} {x : Nat} (hx : ¬ x ∈ l) : chB T σ K l x = false := by
  unfold chB
  cases h : (decide (aH σ x < 5) && (fO T K (flH σ (aH σ x) l) == some x))
  · rfl
  · rw [Bool.and_eq_true, beq_iff_eq] at h
    have := fO_mem h.2
    unfold flH at this
    exact absurd (List.mem_filter.mp this).1 hx
theorem wk_fold {T : TD} {σ : AS} (K : Nat) : ∀ (rest l : List Nat) (b : Nat), (l ++ rest).Nodup → (∀ m, m < 5 → b.testBit m = (fO T K (flH σ m l)).isSome) → (rest.foldl (wkStep T K) (finW T σ (chB T σ K l), b)).1 = finW T σ (chB T σ K (l ++ rest))
  | [], l, b, _, _ => by rw [List.append_nil]; rfl
  | x :: rest, l, b, hn, hb => by
    have hxl : ¬ x ∈ l := fun z => by
      have := List.nodup_append.mp hn
      exact this.2.2 x z x (List.mem_cons_self ..) rfl
    have hxC := chB_x (T := T) (σ := σ) (K := K) hxl
    have hn2 : (l ++ [x] ++ rest).Nodup := by rw [List.append_assoc]; exact hn
    rw [List.foldl_cons, show l ++ x :: rest = l ++ [x] ++ rest by rw [List.append_assoc]; rfl]
    have hH : aH (finW T σ (chB T σ K l)) x = aH σ x := finW_H hxC
    have hf : ∀ m, fO T K (flH σ m (l ++ [x])) = if aH σ x = m then (fO T K (flH σ m l)).or (if opn T K x then some x else none) else fO T K (flH σ m l) := fun m => by
      rw [flH_app]
      by_cases h : aH σ x = m
      · rw [if_pos h, if_pos h, fO_app]
      · rw [if_neg h, if_neg h, List.append_nil]
    by_cases hc : aH σ x < 5 ∧ b.testBit (aH σ x) = false ∧ opn T K x
    · have e1 : wkStep T K (finW T σ (chB T σ K l), b) x = (wkAt T (finW T σ (chB T σ K l)) x (tst T (aH σ x)), b ||| 2 ^ aH σ x) := by
        unfold wkStep
        rw [hH, if_pos hc]
      have hnone : fO T K (flH σ (aH σ x) l) = none := by
        have := hb _ hc.1
        rw [hc.2.1] at this
        cases h : fO T K (flH σ (aH σ x) l) with
        | none => rfl
        | some y => rw [h] at this; cases this
      rw [e1, finW_add (C' := chB T σ K (l ++ [x])) hxC ?_ ?_]
      · refine wk_fold K rest (l ++ [x]) _ hn2 (fun m hm => ?_)
        rw [hf m, Nat.testBit_or, Nat.testBit_two_pow, hb m hm]
        by_cases h : aH σ x = m
        · rw [if_pos h, if_pos hc.2.2]; subst h; rw [hnone]; simp
        · rw [if_neg h]; simp [h]
      · unfold chB
        rw [hf, if_pos rfl, hnone, if_pos hc.2.2]
        simp [hc.1]
      · intro q hq
        unfold chB
        rw [hf]
        by_cases h : aH σ x = aH σ q
        · rw [if_pos h, if_pos hc.2.2, ← h, hnone]
          simp
          intro _ z; exact hq z.symm
        · rw [if_neg h]
    · have e1 : wkStep T K (finW T σ (chB T σ K l), b) x = (finW T σ (chB T σ K l), b) := by
        unfold wkStep
        rw [hH, if_neg hc]
      have hs : ∀ m, m < 5 → fO T K (flH σ m (l ++ [x])) = fO T K (flH σ m l) := fun m hm => by
        rw [hf m]
        by_cases h : aH σ x = m
        · rw [if_pos h]
          cases hy : fO T K (flH σ m l) with
          | some y => rfl
          | none =>
            rw [if_neg (fun z => hc ⟨by omega, by rw [h, hb m hm, hy]; rfl, z⟩)]; rfl
        · rw [if_neg h]
      have hC : chB T σ K (l ++ [x]) = chB T σ K l := by
        funext p
        unfold chB
        by_cases h : aH σ p < 5
        · rw [hs _ h]
        · simp [h]
      rw [e1, ← hC]
      refine wk_fold K rest (l ++ [x]) b hn2 (fun m hm => ?_)
      rw [hs m hm]; exact hb m hm
theorem wkAll_fin {T : TD} {σ : AS} (h : SV T σ) : wkAll T σ = finW T σ (chB T σ (kB (aH σ) (tP T)) (aR σ)) := by
  have := wk_fold (T := T) (σ := σ) (kB (aH σ) (tP T)) (aR σ) [] 0 (by rw [List.nil_append]; exact h.1.2.1) (fun m hm => by simp [flH, fO])
  rw [List.nil_append, finW_0 (fun p => by simp [chB, flH, fO])] at this
  exact this
/-! as the model does it -/
def wA (T : TD) (σ : AS) (m : Nat) : Option Nat := if 0 < aS σ m then fO T (kB (aH σ) (tP T)) (Lm σ m) else none
def w2 (T : TD) (σ : AS) : Nat → AS
  | 0 => σ
  | m + 1 => match wA T σ m with
    | none => w2 T σ m
    | some p => wkAt T (w2 T σ m) p (tst T m)
def chM (T : TD) (σ : AS) (m : Nat) (p : Nat) : Bool := decide (aH σ p < m) && chB T σ (kB (aH σ) (tP T)) (aR σ) p
theorem w2_fin {T : TD} {σ : AS} (h : SW T σ) : ∀ m, m ≤ tn T → tn T ≤ 5 → w2 T σ m = finW T σ (chM T σ m)
  | 0, _, _ => (finW_0 (fun p => by simp [chM])).symm
  | m + 1, hm, h5 => by
    have ih := w2_fin h m (by omega) h5
    have key : ∀ p, chM T σ (m + 1) p = (chM T σ m p || (decide (aH σ p = m) && (fO T (kB (aH σ) (tP T)) (Lm σ m) == some p))) := fun p => by
      unfold chM chB
      by_cases z : aH σ p = m
      · have z1 : aH σ p < m + 1 := by omega
        have z2 : ¬ aH σ p < m := by omega
        have z3 : aH σ p < 5 := by omega
        simp only [z1, z2, z3, z, decide_true, Bool.true_and, decide_false, Bool.false_and, Bool.false_or]
        rw [show flH σ m (aR σ) = Lm σ m from rfl]
        have : ¬ m < m := by omega
        simp [this, show m < 5 by omega]
      · have z1 : aH σ p < m + 1 ↔ aH σ p < m := by omega
        simp [z, z1]
    rw [w2, ih]
    cases hA : wA T σ m with
    | none =>
      have : chM T σ (m + 1) = chM T σ m := by
        funext p
        rw [key p]
        cases hq : (decide (aH σ p = m) && (fO T (kB (aH σ) (tP T)) (Lm σ m) == some p))
        · simp
        · rw [Bool.and_eq_true, decide_eq_true_iff, beq_iff_eq] at hq
          have hm1 := fO_mem hq.2
          have hl := (Lm_mem h.v).mp hm1
          have hal := ((h.2.1 p hl.1).2.1 (by omega)).2
          rw [hl.2] at hal
          unfold wA at hA
          rw [if_pos hal, hq.2] at hA
          cases hA
      rw [this]
    | some p =>
      have hA2 : fO T (kB (aH σ) (tP T)) (Lm σ m) = some p := by
        unfold wA at hA
        split at hA
        · exact hA
        · cases hA
      have hl := (Lm_mem h.v).mp (fO_mem hA2)
      show wkAt T (finW T σ (chM T σ m)) p (tst T m) = _
      have e : tst T m = tst T (aH σ p) := by rw [hl.2]
      rw [e]
      refine finW_add ?_ ?_ ?_
      · unfold chM; rw [hl.2]; simp
      · rw [key p, hl.2, hA2]; simp
      · intro q hq
        rw [key q, hA2]
        have : ¬ p = q := fun z => hq z.symm
        simp [this]
theorem w2_wkAll {T : TD} {σ : AS} (hw : TW T) (h : SW T σ) : w2 T σ (tn T) = wkAll T σ := by
  rw [w2_fin h _ (Nat.le_refl _) hw.1, wkAll_fin h.v]
  congr 1
  funext p
  unfold chM
  cases hc : chB T σ (kB (aH σ) (tP T)) (aR σ) p with
  | false => simp
  | true =>
    unfold chB at hc
    rw [Bool.and_eq_true, decide_eq_true_iff, beq_iff_eq] at hc
    have hl := (Lm_mem h.v).mp (fO_mem (show fO T _ (Lm σ (aH σ p)) = some p from hc.2))
    have := ((h.2.1 p hl.1).2.1 hc.1).1
    simp [this]
/-! leaving -/
theorem swp_at (a b : List Nat) (x y : Nat) : swp (a ++ x :: y :: b) a.length = a ++ y :: x :: b := by
  unfold swp
  have e1 : (a ++ x :: y :: b).getD (a.length + 1) 0 = y := by rw [List.getD_eq_getElem?_getD, List.getElem?_append_right (by omega)]; simp
  have e2 : (a ++ x :: y :: b).getD a.length 0 = x := by rw [List.getD_eq_getElem?_getD, List.getElem?_append_right (by omega)]; simp
  rw [e1, e2, List.set_append_right _ _ (by omega), Nat.sub_self, List.set_cons_zero, List.set_append_right _ _ (by omega), show a.length + 1 - a.length = 1 by omega]
  rfl
theorem mvE_form (a b : List Nat) (x : Nat) : ∀ n, n ≤ b.length → mvE (a ++ x :: b) a.length n = (a ++ b.take n) ++ x :: b.drop n
  | 0, _ => by simp [mvE]
  | n + 1, h => by
    rw [mvE, mvE_form a b x n (by omega)]
    have hl : (a ++ b.take n).length = a.length + n := by rw [List.length_append, List.length_take]; omega
    rw [← hl, drop_c (show n < b.length by omega), swp_at, take_s (show n < b.length by omega)]
    simp
theorem mvEnd_form (a b : List Nat) (x : Nat) : mvEnd (a ++ x :: b) a.length = a ++ b ++ [x] := by
  unfold mvEnd
  rw [show (a ++ x :: b).length - 1 - a.length = b.length by rw [List.length_append, List.length_cons]; omega, mvE_form a b x _ (Nat.le_refl _), List.take_length, List.drop_length]
def mvB (T : TD) (σ : AS) (m : Nat) (p : Nat) : Bool := decide (aH σ p = m ∧ tkd T p ≠ 3)
def lvH (T : TD) (σ : AS) (m to : Nat) (u : List Nat) (p : Nat) : Nat := if p ∈ u ∧ aH σ p = m then (if tkd T p = 3 then 6 else to) else aH σ p
def lvP (T : TD) (σ : AS) (m to : Nat) (u v : List Nat) : AS := (aY σ, aS σ, aW σ, aD σ, lvH T σ m to u, u.filter (fun p => !mvB T σ m p) ++ v ++ u.filter (mvB T σ m))
theorem lvN_form {T : TD} {σ : AS} {m to : Nat} (hn : (aR σ).Nodup) : ∀ i, i ≤ (aR σ).length → lvN T m to i (σ, 0) = (lvP T σ m to ((aR σ).take i) ((aR σ).drop i), (((aR σ).take i).filter (fun p => !mvB T σ m p)).length)
  | 0, _ => by
    obtain ⟨a, b, c, d, e, f⟩ := σ
    simp [lvN, lvP, lvH]
    rfl
  | i + 1, h => by
    have hi : i < (aR σ).length := by omega
    rw [lvN, lvN_form hn i (by omega)]
    generalize hu : (aR σ).take i = u
    have hv := drop_c hi
    generalize hx : (aR σ).getD i 0 = x at hv
    generalize hv2 : (aR σ).drop (i + 1) = v at hv
    have ht : (aR σ).take (i + 1) = u ++ [x] := by rw [take_s hi, hu, hx]
    have hxu : ¬ x ∈ u := fun z => by
      have hR : aR σ = u ++ x :: v := by rw [← hu, ← hv, List.take_append_drop]
      rw [hR] at hn
      exact (List.nodup_append.mp hn).2.2 x z x (List.mem_cons_self ..) rfl
    rw [hv, ht]
    have hg : (aR (lvP T σ m to u (x :: v))).getD (u.filter (fun p => !mvB T σ m p)).length 0 = x := by
      show (u.filter (fun p => !mvB T σ m p) ++ (x :: v) ++ u.filter (mvB T σ m)).getD _ 0 = x
      rw [List.append_assoc, List.getD_eq_getElem?_getD, List.getElem?_append_right (Nat.le_refl _), Nat.sub_self]
      rfl
    have hHx : aH (lvP T σ m to u (x :: v)) x = aH σ x := by
      show lvH T σ m to u x = _
      unfold lvH; rw [if_neg (fun z => hxu z.1)]
    have hHu : ∀ q, q ≠ x → lvH T σ m to (u ++ [x]) q = lvH T σ m to u q := fun q hq => by
      unfold lvH
      have : q ∈ u ++ [x] ↔ q ∈ u := by simp [hq]
      simp only [this]
    unfold lvIt
    rw [hg, hHx]
    by_cases h1 : aH σ x = m
    · rw [if_neg (fun z => z h1)]
      by_cases h3 : tkd T x = 3
      · rw [if_pos h3]
        have hmv : mvB T σ m x = false := by simp [mvB, h3]
        have eH : va_up (lvH T σ m to u) x 6 = lvH T σ m to (u ++ [x]) := by
          funext q
          by_cases z : q = x
          · subst z; rw [va_up_s]; unfold lvH; rw [if_pos ⟨by simp, h1⟩, if_pos h3]
          · rw [va_up_n _ _ z, hHu q z]
        show ((aY σ, aS σ, aW σ, aD σ, va_up (lvH T σ m to u) x 6, u.filter (fun p => !mvB T σ m p) ++ (x :: v) ++ u.filter (mvB T σ m)), _) = _
        rw [eH]
        unfold lvP
        rw [List.filter_append, List.filter_append]
        simp [hmv]
      · rw [if_neg h3]
        have hmv : mvB T σ m x = true := by simp [mvB, h1, h3]
        have eH : va_up (lvH T σ m to u) x to = lvH T σ m to (u ++ [x]) := by
          funext q
          by_cases z : q = x
          · subst z; rw [va_up_s]; unfold lvH; rw [if_pos ⟨by simp, h1⟩, if_neg h3]
          · rw [va_up_n _ _ z, hHu q z]
        show ((aY σ, aS σ, aW σ, aD σ, va_up (lvH T σ m to u) x to, mvEnd (u.filter (fun p => !mvB T σ m p) ++ (x :: v) ++ u.filter (mvB T σ m)) (u.filter (fun p => !mvB T σ m p)).length), _) = _
        rw [eH, List.append_assoc, List.cons_append, mvEnd_form]
        unfold lvP
        rw [List.filter_append, List.filter_append]
        simp [hmv]
    · rw [if_pos h1]
      have hmv : mvB T σ m x = false := by simp [mvB, h1]
      have eH : lvH T σ m to u = lvH T σ m to (u ++ [x]) := by
        funext q
        by_cases z : q = x
        · subst z; unfold lvH; rw [if_neg (fun y => h1 y.2), if_neg (fun y => h1 y.2)]
        · rw [hHu q z]
      unfold lvP
      rw [eH, List.filter_append, List.filter_append]
      simp [hmv]
theorem lvAll_form {T : TD} {σ : AS} {m : Nat} (h : SV T σ) : lvAll T σ m = lvP T σ m (toN T σ m) (aR σ) [] := by
  unfold lvAll
  rw [← h.1.1, lvN_form h.1.2.1 _ (Nat.le_refl _), List.take_length, List.drop_length]
