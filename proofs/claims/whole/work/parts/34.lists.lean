/-! ROWS AS LISTS -/
theorem row_len : ∀ (P : Nat) (l : List Nat), l.Nodup → (∀ x ∈ l, x < P) → l.length ≤ P
  | 0, [], _, _ => Nat.le_refl _
  | 0, x :: l, _, h => absurd (h x (List.mem_cons_self ..)) (Nat.not_lt_zero _)
  | P + 1, l, hn, h => by
    by_cases hm : P ∈ l
    · have h1 := row_len P (l.erase P) (hn.erase P) (fun x hx => by
        have h2 := h x (List.mem_of_mem_erase hx)
        have h3 : x ≠ P := fun z => by subst z; exact (List.Nodup.not_mem_erase hn) hx
        omega)
      rw [List.length_erase_of_mem hm] at h1
      omega
    · have h1 := row_len P l hn (fun x hx => by
        have h2 := h x hx
        have h3 : x ≠ P := fun z => hm (z ▸ hx)
        omega)
      omega
theorem row_prm : ∀ (P : Nat) (l : List Nat), l.Nodup → (∀ x ∈ l, x < P) → l.length = P → l.Perm (List.range P)
  | 0, l, _, _, hl => by rw [List.length_eq_zero_iff.mp hl]; exact List.Perm.refl _
  | P + 1, l, hn, h, hl => by
    by_cases hm : P ∈ l
    · have h1 := row_prm P (l.erase P) (hn.erase P) (fun x hx => by
        have h2 := h x (List.mem_of_mem_erase hx)
        have h3 : x ≠ P := fun z => by subst z; exact (List.Nodup.not_mem_erase hn) hx
        omega) (by rw [List.length_erase_of_mem hm]; omega)
      have h4 := List.perm_cons_erase hm
      refine h4.trans ((h1.cons P).trans ?_)
      rw [List.range_succ]
      exact (List.perm_append_singleton P (List.range P)).symm
    · have h1 := row_len P l hn (fun x hx => by
        have h2 := h x hx
        have h3 : x ≠ P := fun z => hm (z ▸ hx)
        omega)
      omega
theorem SV.perm {T : TD} {σ : AS} (h : SV T σ) : (aR σ).Perm (List.range (tP T)) := row_prm _ _ h.1.2.1 h.1.2.2 h.1.1
theorem SV.mem {T : TD} {σ : AS} (h : SV T σ) {p : Nat} (hpP : p < tP T) : p ∈ aR σ := (h.perm.mem_iff).mpr (List.mem_range.mpr hpP)
/-- what m holds, by numbers -/
def hpl (H : Nat → Nat) (m P : Nat) : List Nat := (List.range P).filter (fun p => decide (H p = m))
theorem hpl_s (H : Nat → Nat) (m P : Nat) : hpl H m (P + 1) = hpl H m P ++ (if H P = m then [P] else []) := by
  unfold hpl
  rw [List.range_succ, List.filter_append]
  by_cases h : H P = m <;> simp [h]
theorem hpl_len (H : Nat → Nat) (m : Nat) : ∀ P, (hpl H m P).length = cntH H m P
  | 0 => rfl
  | P + 1 => by
    rw [hpl_s, List.length_append, hpl_len H m P, cntH]
    by_cases h : H P = m <;> simp [h]
theorem hpl_mem {H : Nat → Nat} {m P p : Nat} : p ∈ hpl H m P ↔ p < P ∧ H p = m := by simp [hpl]
theorem Lm_perm {T : TD} {σ : AS} (h : SV T σ) (m : Nat) : (Lm σ m).Perm (hpl (aH σ) m (tP T)) := h.perm.filter _
theorem Lm_len {T : TD} {σ : AS} (h : SV T σ) (m : Nat) : (Lm σ m).length = cntH (aH σ) m (tP T) := by rw [(Lm_perm h m).length_eq, hpl_len]
theorem Lm_nodup {T : TD} {σ : AS} (h : SV T σ) (m : Nat) : (Lm σ m).Nodup := h.1.2.1.filter _
theorem Lm_mem {T : TD} {σ : AS} (h : SV T σ) {m p : Nat} : p ∈ Lm σ m ↔ p < tP T ∧ aH σ p = m := by
  rw [(Lm_perm h m).mem_iff, hpl_mem]
/-- where in the row m's stand -/
def posA (H : Nat → Nat) (m : Nat) : Nat → List Nat → List Nat
  | _, [] => []
  | k, x :: xs => if H x = m then k :: posA H m (k + 1) xs else posA H m (k + 1) xs
theorem posA_app (H : Nat → Nat) (m : Nat) : ∀ (l1 l2 : List Nat) (k : Nat), posA H m k (l1 ++ l2) = posA H m k l1 ++ posA H m (k + l1.length) l2
  | [], l2, k => rfl
  | x :: xs, l2, k => by
    simp only [List.cons_append, posA, List.length_cons]
    rw [posA_app H m xs l2 (k + 1), show k + 1 + xs.length = k + (xs.length + 1) by omega]
    split <;> rfl
theorem posA_len (H : Nat → Nat) (m : Nat) : ∀ (l : List Nat) (k : Nat), (posA H m k l).length = (l.filter (fun p => decide (H p = m))).length
  | [], k => rfl
  | x :: xs, k => by
    have := posA_len H m xs (k + 1)
    by_cases h : H x = m <;> simp [posA, h, this]
theorem posA_lt (H : Nat → Nat) (m : Nat) : ∀ (l : List Nat) (k x : Nat), x ∈ posA H m k l → k ≤ x ∧ x < k + l.length
  | [], k, x, h => by simp [posA] at h
  | y :: ys, k, x, h => by
    have ih := posA_lt H m ys (k + 1) x
    simp only [posA] at h
    rw [List.length_cons]
    split at h
    · rcases List.mem_cons.mp h with z | z
      · omega
      · have := ih z; omega
    · have := ih h; omega
/-- m's in the row become those of l -/
def mg (H : Nat → Nat) (m : Nat) : List Nat → List Nat → List Nat
  | [], _ => []
  | x :: xs, l => if H x = m then (match l with | [] => x :: mg H m xs [] | y :: ys => y :: mg H m xs ys) else x :: mg H m xs l
def putL : List Nat → List Nat → List Nat → List Nat
  | row, p :: ps, y :: ys => putL (row.set p y) ps ys
  | row, _, _ => row
theorem mg_nil (H : Nat → Nat) (m : Nat) : ∀ xs, mg H m xs [] = xs
  | [] => rfl
  | x :: xs => by simp only [mg]; rw [mg_nil H m xs]; split <;> rfl
theorem putL_mg (H : Nat → Nat) (m : Nat) : ∀ (xs pre l : List Nat), putL (pre ++ xs) (posA H m pre.length xs) l = pre ++ mg H m xs l
  | [], pre, l => by simp [posA, putL, mg]
  | x :: xs, pre, l => by
    by_cases h : H x = m
    · cases l with
      | nil => rw [mg_nil]; simp only [posA, if_pos h, putL]
      | cons y ys =>
        simp only [posA, if_pos h, mg, putL]
        have ih := putL_mg H m xs (pre ++ [y]) ys
        rw [List.length_append, List.length_singleton, List.append_assoc, List.append_assoc] at ih
        have e : (pre ++ x :: xs).set pre.length y = pre ++ ([y] ++ xs) := by simp
        rw [e]; exact ih
    · simp only [posA, if_neg h, mg]
      have ih := putL_mg H m xs (pre ++ [x]) l
      rw [List.length_append, List.length_singleton, List.append_assoc, List.append_assoc] at ih
      exact ih
theorem mg_perm (H : Nat → Nat) (m : Nat) : ∀ (xs l : List Nat), l.length = (xs.filter (fun p => decide (H p = m))).length → (mg H m xs l).Perm (l ++ xs.filter (fun p => decide (¬ H p = m)))
  | [], l, h => by
    have : l = [] := List.length_eq_zero_iff.mp h
    subst this; exact List.Perm.refl _
  | x :: xs, l, hl => by
    by_cases h : H x = m
    · cases l with
      | nil => simp [h] at hl
      | cons y ys =>
        have ih := mg_perm H m xs ys (by simp [h] at hl; exact hl)
        simp only [mg, if_pos h]
        rw [List.filter_cons_of_neg (by simp [h])]
        exact ih.cons y
    · have ih := mg_perm H m xs l (by simp [h] at hl; exact hl)
      simp only [mg, if_neg h]
      rw [List.filter_cons_of_pos (by simp [h])]
      exact (ih.cons x).trans List.perm_middle.symm
theorem mg_own (H : Nat → Nat) (m : Nat) : ∀ (xs l : List Nat), l.length = (xs.filter (fun p => decide (H p = m))).length → (∀ y ∈ l, H y = m) → (mg H m xs l).filter (fun p => decide (H p = m)) = l
  | [], l, h, _ => by
    have : l = [] := List.length_eq_zero_iff.mp h
    subst this; rfl
  | x :: xs, l, hl, hy => by
    by_cases h : H x = m
    · cases l with
      | nil => simp [h] at hl
      | cons y ys =>
        have ih := mg_own H m xs ys (by simp [h] at hl; exact hl) (fun z hz => hy z (List.mem_cons_of_mem _ hz))
        simp only [mg, if_pos h]
        rw [List.filter_cons_of_pos (by simp [hy y (List.mem_cons_self ..)]), ih]
    · have ih := mg_own H m xs l (by simp [h] at hl; exact hl) hy
      simp only [mg, if_neg h]
      rw [List.filter_cons_of_neg (by simp [h]), ih]
theorem mg_other (H : Nat → Nat) (m m' : Nat) (hm : m' ≠ m) : ∀ (xs l : List Nat), (∀ y ∈ l, H y = m) → (mg H m xs l).filter (fun p => decide (H p = m')) = xs.filter (fun p => decide (H p = m'))
  | [], l, _ => rfl
  | x :: xs, l, hy => by
    by_cases h : H x = m
    · cases l with
      | nil => rw [mg_nil]
      | cons y ys =>
        have ih := mg_other H m m' hm xs ys (fun z hz => hy z (List.mem_cons_of_mem _ hz))
        simp only [mg, if_pos h]
        have e1 : H y = m := hy y (List.mem_cons_self ..)
        rw [List.filter_cons_of_neg (by simp [e1]; exact fun z => hm z.symm), List.filter_cons_of_neg (by simp [h]; exact fun z => hm z.symm), ih]
    · have ih := mg_other H m m' hm xs l hy
      simp only [mg, if_neg h]
      by_cases h2 : H x = m'
      · rw [List.filter_cons_of_pos (by simp [h2]), List.filter_cons_of_pos (by simp [h2]), ih]
      · rw [List.filter_cons_of_neg (by simp [h2]), List.filter_cons_of_neg (by simp [h2]), ih]
theorem filt_perm (f : Nat → Bool) : ∀ l : List Nat, l.Perm (l.filter f ++ l.filter (fun x => !f x))
  | [] => List.Perm.refl _
  | x :: xs => by
    have ih := filt_perm f xs
    by_cases h : f x = true
    · rw [List.filter_cons_of_pos h, List.filter_cons_of_neg (by simp [h])]
      exact ih.cons x
    · rw [List.filter_cons_of_neg h, List.filter_cons_of_pos (by simp [h])]
      exact (ih.cons x).trans List.perm_middle.symm
/-- another order of what m holds -/
def oT (σ : AS) (m : Nat) (l : List Nat) : AS := uR σ (mg (aH σ) m (aR σ) l)
theorem oT_perm {σ : AS} {m : Nat} {l : List Nat} (hl : l.Perm (Lm σ m)) : (aR (oT σ m l)).Perm (aR σ) := by
  have h1 := mg_perm (aH σ) m (aR σ) l hl.length_eq
  have h2 := filt_perm (fun p => decide (aH σ p = m)) (aR σ)
  refine h1.trans (List.Perm.trans ?_ h2.symm)
  have e : (fun p => decide (¬ aH σ p = m)) = (fun p => !decide (aH σ p = m)) := by funext p; by_cases z : aH σ p = m <;> simp [z]
  rw [e]
  exact hl.append_right _
theorem SV_oT {T : TD} {σ : AS} {m : Nat} {l : List Nat} (h : SV T σ) (hl : l.Perm (Lm σ m)) : SV T (oT σ m l) := by
  have hp1 := oT_perm hl
  refine ⟨⟨hp1.length_eq.trans h.1.1, hp1.nodup_iff.mpr h.1.2.1, fun p hpm => h.1.2.2 p (hp1.mem_iff.mp hpm)⟩, h.2⟩
theorem Lm_own {σ : AS} {m : Nat} {l : List Nat} (hl : l.Perm (Lm σ m)) : Lm (oT σ m l) m = l := mg_own _ _ _ _ hl.length_eq (fun y hy => by
  have := hl.mem_iff.mp hy
  simp [Lm] at this
  exact this.2)
theorem Lm_oth {σ : AS} {m m' : Nat} {l : List Nat} (hl : l.Perm (Lm σ m)) (hm : m' ≠ m) : Lm (oT σ m l) m' = Lm σ m' := mg_other _ _ _ hm _ _ (fun y hy => by
  have := hl.mem_iff.mp hy
  simp [Lm] at this
  exact this.2)
/-! the next order by numbers -/
def sw2 (l : List Nat) (i j : Nat) : List Nat := (l.set i (l.getD j 0)).set j (l.getD i 0)
def npR (l : List Nat) : Nat → Nat
  | 0 => 0
  | i + 1 => if l.getD (i + 1) 0 < l.getD i 0 then npR l i else i + 1
def npL (l : List Nat) (r : Nat) : Nat → Nat
  | 0 => 0
  | j + 1 => if r + 1 < j + 1 ∧ l.getD (j + 1) 0 < l.getD r 0 then npL l r j else j + 1
def rv2 : Nat → List Nat → Nat → Nat → List Nat
  | 0, l, _, _ => l
  | d + 1, l, lo, hi => if lo < hi then rv2 d (sw2 l lo hi) (lo + 1) (hi - 1) else l
def nxO (l : List Nat) : Option (List Nat) := match npR l (l.length - 1) with
  | 0 => none
  | r + 1 => some (rv2 l.length (sw2 l r (npL l r (l.length - 1))) (r + 1) (l.length - 1))
theorem sw2_len (l : List Nat) (i j : Nat) : (sw2 l i j).length = l.length := by simp [sw2]
theorem sw2_perm (l : List Nat) (i j : Nat) (hi : i < l.length) (hj : j < l.length) : (sw2 l i j).Perm l := by
  unfold sw2
  rw [List.getD_eq_getElem?_getD, List.getD_eq_getElem?_getD, List.getElem?_eq_getElem hi, List.getElem?_eq_getElem hj]
  exact List.set_set_perm hi hj
theorem rv2_perm : ∀ (d : Nat) (l : List Nat) (lo hi : Nat), hi < l.length → (rv2 d l lo hi).Perm l
  | 0, l, lo, hi, _ => List.Perm.refl _
  | d + 1, l, lo, hi, h => by
    rw [rv2]
    split
    · exact (rv2_perm d _ _ _ (by rw [sw2_len]; omega)).trans (sw2_perm l lo hi (by omega) h)
    · exact List.Perm.refl _
theorem npR_le (l : List Nat) : ∀ i, npR l i ≤ i
  | 0 => Nat.le_refl _
  | i + 1 => by rw [npR]; have := npR_le l i; split <;> omega
theorem npL_le (l : List Nat) (r : Nat) : ∀ i, npL l r i ≤ i
  | 0 => Nat.le_refl _
  | i + 1 => by rw [npL]; have := npL_le l r i; split <;> omega
theorem npL_ge (l : List Nat) (r : Nat) : ∀ i, r + 1 ≤ i → r + 1 ≤ npL l r i
  | 0, h => by omega
  | i + 1, h => by
    rw [npL]
    split
    · rename_i h2; exact npL_ge l r i (by omega)
    · exact h
theorem nxO_perm {l l' : List Nat} (h : nxO l = some l') : l'.Perm l := by
  unfold nxO at h
  have h1 := npR_le l (l.length - 1)
  split at h
  · cases h
  · rename_i r hr
    injection h with h
    subst h
    have h2 := npL_le l r (l.length - 1)
    rw [hr] at h1
    exact (rv2_perm _ _ _ _ (by rw [sw2_len]; omega)).trans (sw2_perm _ _ _ (by omega) (by omega))
