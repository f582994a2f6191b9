/-! what each holds after it -/
theorem er_f {l : List Nat} (hn : l.Nodup) (f : Nat → Bool) (p : Nat) : (l.filter f).erase p = l.filter (fun q => f q && (q != p)) := by
  rw [List.Nodup.erase_eq_filter (hn.filter f), List.filter_filter]
  congr 1
  funext q
  rw [Bool.and_comm]
theorem Lm_kept {T : TD} {σ : AS} (h : SV T σ) {p m : Nat} (hm : m < 6) (hpm : aH σ p = m) : (∀ u, u < 6 → Lm (uH σ p 6) u = va_up (Lm σ) m ((Lm σ m).erase p) u) := fun u hu => by
  show (aR σ).filter (fun q => decide (va_up (aH σ) p 6 q = u)) = _
  by_cases z : u = m
  · subst z
    rw [va_up_s]
    unfold Lm
    rw [er_f h.1.2.1]
    congr 1
    funext q
    by_cases y : q = p
    · subst y; rw [va_up_s]; simp; omega
    · rw [va_up_n _ _ y]; simp [y]
  · rw [va_up_n _ _ z]
    unfold Lm
    congr 1
    funext q
    by_cases y : q = p
    · subst y; rw [va_up_s, hpm]
      have : ¬ (6 : Nat) = u := by omega
      have : ¬ m = u := fun w => z w.symm
      simp [*]
    · rw [va_up_n _ _ y]
theorem row_split {l : List Nat} {p : Nat} (h : p ∈ l) (hn : l.Nodup) : ∃ a b, l = a ++ p :: b ∧ l.idxOf p = a.length ∧ ¬ p ∈ a ∧ ¬ p ∈ b := by
  obtain ⟨a, b, rfl⟩ := List.append_of_mem h
  have h1 := List.nodup_append.mp hn
  have ha : ¬ p ∈ a := fun z => h1.2.2 p z p (List.mem_cons_self ..) rfl
  refine ⟨a, b, rfl, ?_, ha, (List.nodup_cons.mp h1.2.1).1⟩
  rw [List.idxOf_append, if_neg ha, List.idxOf_cons_self, Nat.zero_add]
theorem filt_ne {l : List Nat} {f : Nat → Bool} {p : Nat} (h : ¬ p ∈ l) : l.filter (fun q => f q && (q != p)) = l.filter f := by
  refine List.filter_congr (fun q hq => ?_)
  have : q ≠ p := fun z => h (z ▸ hq)
  simp [this]
theorem Lm_hand {T : TD} {σ : AS} (h : SV T σ) {p m to : Nat} (hp1 : p < tP T) (hpm : aH σ p = m) (hto : to ≠ m) : (∀ u, Lm (hand σ p to) u = va_up (va_up (Lm σ) m ((Lm σ m).erase p)) to (Lm σ to ++ [p]) u) := fun u => by
  obtain ⟨a, b, hR, hi, ha, hb⟩ := row_split (h.mem hp1) h.1.2.1
  have hn := h.1.2.1
  show (mvEnd (aR σ) ((aR σ).idxOf p)).filter (fun q => decide (va_up (aH σ) p to q = u)) = _
  rw [hi]
  have hr : mvEnd (aR σ) a.length = a ++ b ++ [p] := by rw [hR]; exact mvEnd_form a b p
  rw [hr, List.filter_append, List.filter_append]
  have hc : ∀ l : List Nat, ¬ p ∈ l → l.filter (fun q => decide (va_up (aH σ) p to q = u)) = l.filter (fun q => decide (aH σ q = u)) := fun l hl => List.filter_congr (fun q hq => by rw [va_up_n _ _ (fun z => hl (by rw [← z]; exact hq))])
  rw [hc a ha, hc b hb]
  by_cases z : u = to
  · subst z
    have e : [p].filter (fun q => decide (va_up (aH σ) p u q = u)) = [p] := by simp [va_up_s]
    have e2 : (a ++ p :: b).filter (fun q => decide (aH σ q = u)) = a.filter (fun q => decide (aH σ q = u)) ++ b.filter (fun q => decide (aH σ q = u)) := by
      rw [List.filter_append, List.filter_cons_of_neg (by rw [hpm]; simp; exact fun w => hto w.symm)]
    rw [va_up_s, e]
    unfold Lm
    rw [hR, e2]
  · rw [va_up_n _ _ z]
    have e : [p].filter (fun q => decide (va_up (aH σ) p to q = u)) = [] := by simp [va_up_s]; exact fun w => z w.symm
    rw [e, List.append_nil]
    by_cases y : u = m
    · subst y
      rw [va_up_s]
      unfold Lm
      rw [er_f hn, hR, List.filter_append, List.filter_cons_of_neg (by simp), filt_ne ha, filt_ne hb]
    · rw [va_up_n _ _ y]
      unfold Lm
      rw [hR, List.filter_append, List.filter_cons_of_neg (by rw [hpm]; simp; exact fun w => y w.symm)]
theorem Lm_leave {T : TD} {σ : AS} (h : SV T σ) {m to : Nat} (hm : m < 6) (hto : to < 6) (hne : to ≠ m) (hR : ∀ p, p < tP T → p ∈ aR σ) : ∀ u, u < 6 → Lm (lvP T σ m to (aR σ) []) u = va_up (va_up (Lm σ) to (Lm σ to ++ (Lm σ m).filter (fun p => decide (tkd T p ≠ 3)))) m [] u := fun u hu => by
  have hH : ∀ q ∈ aR σ, lvH T σ m to (aR σ) q = if aH σ q = m then (if tkd T q = 3 then 6 else to) else aH σ q := fun q hq => by
    unfold lvH
    by_cases z : aH σ q = m
    · rw [if_pos ⟨hq, z⟩, if_pos z]
    · rw [if_neg (fun y => z y.2), if_neg z]
  show ((aR σ).filter (fun p => !mvB T σ m p) ++ [] ++ (aR σ).filter (mvB T σ m)).filter (fun q => decide (lvH T σ m to (aR σ) q = u)) = _
  rw [List.append_nil, List.filter_append, List.filter_filter, List.filter_filter]
  by_cases z : u = m
  · subst z
    rw [va_up_s]
    have e1 : (aR σ).filter (fun q => decide (lvH T σ u to (aR σ) q = u) && !mvB T σ u q) = [] := List.filter_eq_nil_iff.mpr (fun q hq => by
      rw [hH q hq]
      by_cases y : aH σ q = u
      · rw [if_pos y]
        by_cases w : tkd T q = 3
        · rw [if_pos w]; simp; intro z; omega
        · rw [if_neg w]; simp [hne]
      · rw [if_neg y]; simp [y])
    have e2 : (aR σ).filter (fun q => decide (lvH T σ u to (aR σ) q = u) && mvB T σ u q) = [] := List.filter_eq_nil_iff.mpr (fun q hq => by
      rw [hH q hq]
      by_cases y : aH σ q = u
      · rw [if_pos y]
        by_cases w : tkd T q = 3
        · rw [if_pos w]; simp; intro z; omega
        · rw [if_neg w]; simp [hne]
      · rw [if_neg y]; simp [y])
    rw [e1, e2]; rfl
  · rw [va_up_n _ _ z]
    by_cases y : u = to
    · subst y
      rw [va_up_s]
      unfold Lm
      rw [List.filter_filter]
      congr 1
      · refine List.filter_congr (fun q hq => ?_)
        rw [hH q hq]
        by_cases w : aH σ q = m
        · rw [if_pos w]
          have : ¬ m = u := fun x => z x.symm
          by_cases v : tkd T q = 3
          · rw [if_pos v]; simp [w, this]; intro x; omega
          · rw [if_neg v]; simp [mvB, w, v, this]
        · rw [if_neg w]; simp [mvB, w]
      · refine List.filter_congr (fun q hq => ?_)
        rw [hH q hq]
        by_cases w : aH σ q = m
        · rw [if_pos w]
          by_cases v : tkd T q = 3
          · simp [mvB, v]
          · rw [if_neg v]; simp [mvB, w, v]
        · simp [mvB, w]
    · rw [va_up_n _ _ y]
      have e2 : (aR σ).filter (fun q => decide (lvH T σ m to (aR σ) q = u) && mvB T σ m q) = [] := List.filter_eq_nil_iff.mpr (fun q hq => by
        rw [hH q hq]
        by_cases w : aH σ q = m
        · rw [if_pos w]
          by_cases v : tkd T q = 3
          · simp [mvB, v]
          · rw [if_neg v]; simp; intro x; exact absurd x.symm y
        · simp [mvB, w])
      rw [e2, List.append_nil]
      unfold Lm
      refine List.filter_congr (fun q hq => ?_)
      rw [hH q hq]
      by_cases w : aH σ q = m
      · rw [if_pos w, w]
        have : ¬ m = u := fun x => z x.symm
        have : ¬ to = u := fun x => y x.symm
        by_cases v : tkd T q = 3
        · rw [if_pos v]; simp [*]; intro x; omega
        · rw [if_neg v]; simp [*]
      · rw [if_neg w]; simp [mvB, w]
/-- the kept ones of a dying one -/
def kbF (T : TD) (K : Nat) (l : List Nat) : Nat := l.foldl (fun K p => if tkd T p = 3 then K ||| 2 ^ p else K) K
theorem kbF_bit (T : TD) : ∀ (l : List Nat) (K q : Nat), (kbF T K l).testBit q = (K.testBit q || decide (q ∈ l ∧ tkd T q = 3))
  | [], K, q => by simp [kbF]
  | p :: l, K, q => by
    have ih := kbF_bit T l (if tkd T p = 3 then K ||| 2 ^ p else K) q
    have e : kbF T K (p :: l) = kbF T (if tkd T p = 3 then K ||| 2 ^ p else K) l := rfl
    rw [e, ih]
    by_cases h : tkd T p = 3
    · rw [if_pos h, Nat.testBit_or, Nat.testBit_two_pow]
      by_cases z : p = q
      · subst z; simp [h]
      · have : ¬ q = p := fun y => z y.symm
        simp [z, this]
    · rw [if_neg h]
      by_cases z : q = p
      · subst z; simp [h]
      · simp [z]
theorem kB_leave {T : TD} {σ : AS} (h : SV T σ) {m to : Nat} (hm : m < 6) (hto : to < 6) : kB (aH (lvP T σ m to (aR σ) [])) (tP T) = kbF T (kB (aH σ) (tP T)) (Lm σ m) := by
  refine Nat.eq_of_testBit_eq (fun q => ?_)
  rw [kB_bit, kbF_bit, kB_bit]
  by_cases hq : q < tP T
  · have hR := h.mem hq
    have hL : q ∈ Lm σ m ↔ aH σ q = m := by rw [Lm_mem h]; exact ⟨fun z => z.2, fun z => ⟨hq, z⟩⟩
    have e : aH (lvP T σ m to (aR σ) []) q = if aH σ q = m then (if tkd T q = 3 then 6 else to) else aH σ q := by
      show lvH T σ m to (aR σ) q = _
      unfold lvH
      by_cases z : aH σ q = m
      · rw [if_pos ⟨hR, z⟩, if_pos z]
      · rw [if_neg (fun y => z y.2), if_neg z]
    rw [e]
    simp only [hL]
    by_cases z : aH σ q = m
    · rw [if_pos z]
      by_cases w : tkd T q = 3
      · rw [if_pos w]; simp [hq, z, w]
      · rw [if_neg w]
        have h1 : ¬ to = 6 := by omega
        have h2 : ¬ m = 6 := by omega
        simp [z, w, h1, h2]
    · rw [if_neg z]; simp [z]
  · have hL : ¬ q ∈ Lm σ m := fun z => hq ((Lm_mem h).mp z).1
    simp [hq, hL]
/-! a year leaves the state well made -/
theorem SV_lv {T : TD} {σ : AS} (hw : TW T) (h : SV T σ) {m : Nat} (hm : m < tn T) : SV T (lvAll T σ m) := by
  have ht := toN_le (σ := σ) hw hm
  unfold lvAll
  have : ∀ i, i ≤ tP T → SV T (lvN T m (toN T σ m) i (σ, 0)).1 ∧ (lvN T m (toN T σ m) i (σ, 0)).2 ≤ i := by
    intro i
    induction i with
    | zero => intro _; exact ⟨h, Nat.le_refl _⟩
    | succ i ih =>
      intro hi
      have h1 := ih (by omega)
      rw [lvN]
      refine ⟨SV_lvIt h1.1 ⟨ht.1, fun z => (ht.2.2 z).1⟩ (by omega), ?_⟩
      have := lvIt_pl T m (toN T σ m) (lvN T m (toN T σ m) i (σ, 0))
      omega
  exact (this _ (Nat.le_refl _)).1
theorem ag1_form {T : TD} {σ : AS} : ∀ k, ((List.range k).foldl agStep (σ, 0)).1 = (aY σ, fun i => if i < k then aS σ i - 1 else aS σ i, aW σ, aD σ, aH σ, aR σ) ∧ ∀ i, ((List.range k).foldl agStep (σ, 0)).2.testBit i = decide (i < k ∧ aS σ i = 1)
  | 0 => by
    obtain ⟨a, b, c, d, e, f⟩ := σ
    exact ⟨by simp, fun i => by simp⟩
  | k + 1 => by
    obtain ⟨h1, h2⟩ := ag1_form (T := T) (σ := σ) k
    rw [List.range_succ, List.foldl_append]
    generalize hq : (List.range k).foldl agStep (σ, 0) = q at h1 h2
    obtain ⟨τ, b⟩ := q
    have h1 : τ = _ := h1
    show (agStep (τ, b) k).1 = _ ∧ _
    have hs : aS τ k = aS σ k := by rw [h1]; show (if k < k then _ else _) = _; rw [if_neg (by omega)]
    have h2 : ∀ i, b.testBit i = decide (i < k ∧ aS σ i = 1) := h2
    unfold agStep
    show (if 0 < aS τ k then (uS τ k (aS τ k - 1), if aS τ k - 1 = 0 then b ||| 2 ^ k else b) else (τ, b)).1 = _ ∧ ∀ i, (List.foldl agStep (τ, b) [k]).2.testBit i = _
    have e : List.foldl agStep (τ, b) [k] = if 0 < aS τ k then (uS τ k (aS τ k - 1), if aS τ k - 1 = 0 then b ||| 2 ^ k else b) else (τ, b) := rfl
    rw [e, hs]
    have eS : ∀ v, v = aS σ k - 1 → va_up (aS τ) k v = fun i => if i < k + 1 then aS σ i - 1 else aS σ i := fun v hv => by
      funext i
      by_cases z : i = k
      · subst z; rw [va_up_s, if_pos (by omega), hv]
      · rw [va_up_n _ _ z, h1]
        show (if i < k then _ else _) = _
        by_cases y : i < k
        · rw [if_pos y, if_pos (by omega)]
        · rw [if_neg y, if_neg (by omega)]
    by_cases h0 : 0 < aS σ k
    · rw [if_pos h0]
      refine ⟨?_, fun i => ?_⟩
      · show (aY τ, va_up (aS τ) k (aS σ k - 1), aW τ, aD τ, aH τ, aR τ) = _
        rw [eS _ rfl, h1]
      · show (if aS σ k - 1 = 0 then b ||| 2 ^ k else b).testBit i = _
        by_cases y : aS σ k - 1 = 0
        · rw [if_pos y, Nat.testBit_or, Nat.testBit_two_pow, h2]
          by_cases z : i = k
          · subst z
            have : aS σ i = 1 := by omega
            simp [this]
          · have z1 : ¬ k = i := fun w => z w.symm
            have z2 : i < k + 1 ↔ i < k := by omega
            simp [z1, z2]
        · rw [if_neg y, h2]
          by_cases z : i = k
          · subst z
            have : ¬ aS σ i = 1 := by omega
            simp [this]
          · have z2 : i < k + 1 ↔ i < k := by omega
            simp [z2]
    · rw [if_neg h0]
      refine ⟨?_, fun i => ?_⟩
      · show τ = _
        rw [← eS (aS τ k) (by rw [hs]; omega)]
        have : va_up (aS τ) k (aS τ k) = aS τ := by
          funext i
          by_cases z : i = k
          · subst z; rw [va_up_s]
          · rw [va_up_n _ _ z]
        rw [this, h1]
      · show b.testBit i = _
        rw [h2]
        by_cases z : i = k
        · subst z
          have : ¬ aS σ i = 1 := by omega
          simp [this]
        · have z2 : i < k + 1 ↔ i < k := by omega
          simp [z2]
theorem lvAll_S {T : TD} {σ : AS} {m : Nat} (h : SV T σ) : aS (lvAll T σ m) = aS σ ∧ aY (lvAll T σ m) = aY σ := by rw [lvAll_form h]; exact ⟨rfl, rfl⟩
theorem lvAll_H {T : TD} {σ : AS} {m : Nat} (h : SV T σ) {p : Nat} (hp1 : p < tP T) : aH (lvAll T σ m) p = if aH σ p = m then (if tkd T p = 3 then 6 else toN T σ m) else aH σ p := by
  rw [lvAll_form h]
  show lvH T σ m (toN T σ m) (aR σ) p = _
  unfold lvH
  by_cases z : aH σ p = m
  · rw [if_pos ⟨h.mem hp1, z⟩, if_pos z]
  · rw [if_neg (fun y => z y.2), if_neg z]
theorem ag2_ok {T : TD} {τ : AS} (hw : TW T) (h : SV T τ) (dy : Nat) (hal : ∀ p, p < tP T → aH τ p < 5 → 0 < aS τ (aH τ p) ∨ dy.testBit (aH τ p) = true) : ∀ k, k ≤ tn T → SV T ((List.range k).foldl (ag2 T dy) τ) ∧ aS ((List.range k).foldl (ag2 T dy) τ) = aS τ ∧ aY ((List.range k).foldl (ag2 T dy) τ) = aY τ ∧ ∀ p, p < tP T → aH ((List.range k).foldl (ag2 T dy) τ) p < 5 → 0 < aS τ (aH ((List.range k).foldl (ag2 T dy) τ) p) ∨ (k ≤ aH ((List.range k).foldl (ag2 T dy) τ) p ∧ dy.testBit (aH ((List.range k).foldl (ag2 T dy) τ) p) = true)
  | 0, _ => ⟨h, rfl, rfl, fun p hp1 y => (hal p hp1 y).elim Or.inl (fun z => Or.inr ⟨Nat.zero_le _, z⟩)⟩
  | k + 1, hk => by
    obtain ⟨h1, h2, h2y, h3⟩ := ag2_ok hw h dy hal k (by omega)
    rw [List.range_succ, List.foldl_append]
    generalize hq : (List.range k).foldl (ag2 T dy) τ = q at h1 h2 h2y h3
    show SV T (ag2 T dy q k) ∧ aS (ag2 T dy q k) = aS τ ∧ aY (ag2 T dy q k) = aY τ ∧ ∀ p, p < tP T → aH (ag2 T dy q k) p < 5 → 0 < aS τ (aH (ag2 T dy q k) p) ∨ (k + 1 ≤ aH (ag2 T dy q k) p ∧ dy.testBit (aH (ag2 T dy q k) p) = true)
    unfold ag2
    by_cases hb : dy.testBit k = true
    · rw [if_pos hb]
      refine ⟨SV_lv hw h1 (by omega), (lvAll_S h1).1.trans h2, (lvAll_S h1).2.trans h2y, fun p hp1 => ?_⟩
      rw [lvAll_H h1 hp1]
      have ht := toN_le (σ := q) hw (show k < tn T by omega)
      by_cases z : aH q p = k
      · rw [if_pos z]
        by_cases w : tkd T p = 3
        · rw [if_pos w]; intro y; omega
        · rw [if_neg w]
          intro y
          left
          rw [← h2]; exact (ht.2.2 y).2
      · rw [if_neg z]
        intro y
        rcases h3 p hp1 y with w | w
        · exact Or.inl w
        · exact Or.inr ⟨by omega, w.2⟩
    · rw [if_neg hb]
      refine ⟨h1, h2, h2y, fun p hp1 y => ?_⟩
      rcases h3 p hp1 y with w | w
      · exact Or.inl w
      · by_cases z : aH q p = k
        · exact absurd (z ▸ w.2) hb
        · exact Or.inr ⟨by omega, w.2⟩
theorem SW_fin {T : TD} {σ : AS} (h : SW T σ) (C : Nat → Bool) : SW T (finW T σ C) := by
  refine ⟨h.1, fun p hp1 => ?_, h.2.2⟩
  obtain ⟨g1, g2, g3, g4⟩ := h.2.1 p hp1
  show (if C p = true ∧ aW σ p ≤ dd1 T σ p then 6 else aH σ p) ≤ 6 ∧ ((if C p = true ∧ aW σ p ≤ dd1 T σ p then 6 else aH σ p) < 5 → (if C p = true ∧ aW σ p ≤ dd1 T σ p then 6 else aH σ p) < tn T ∧ 0 < aS σ (if C p = true ∧ aW σ p ≤ dd1 T σ p then 6 else aH σ p)) ∧ (if C p = true then (if aW σ p ≤ dd1 T σ p then aW σ p else dd1 T σ p) else aD σ p) ≤ aW σ p ∧ aW σ p ≤ 40
  refine ⟨?_, ?_, ?_, g4⟩
  · split <;> omega
  · split
    · intro z; omega
    · exact g2
  · split
    · split <;> omega
    · exact g3
theorem SW_yr {T : TD} {σ : AS} (hw : TW T) (h : SW T σ) : SW T (yrF T σ) ∧ aY (yrF T σ) = aY σ + 1 ∧ ∀ i, aS (yrF T σ) i = if i < tn T then aS σ i - 1 else aS σ i := by
  have h1 : SW T (wkAll T σ) := by rw [wkAll_fin h.v]; exact SW_fin h _
  have hy1 : aY (wkAll T σ) = aY σ ∧ aS (wkAll T σ) = aS σ := by rw [wkAll_fin h.v]; exact ⟨rfl, rfl⟩
  obtain ⟨e1, e2⟩ := ag1_form (T := T) (σ := wkAll T σ) (tn T)
  have e1 : (ag1 T (wkAll T σ)).1 = _ := e1
  have e2 : ∀ i, (ag1 T (wkAll T σ)).2.testBit i = _ := e2
  have hSV : SV T (ag1 T (wkAll T σ)).1 := by
    rw [e1]
    refine ⟨h1.1, fun p hp1 => ?_, fun i hi => ?_⟩
    · have := h1.2.1 p hp1
      exact ⟨this.1, fun z => (this.2.1 z).1, this.2.2⟩
    · show (if i < tn T then _ else _) ≤ 60
      rw [if_pos hi]
      have := h1.2.2 i hi; omega
  have hal : ∀ p, p < tP T → aH (ag1 T (wkAll T σ)).1 p < 5 → 0 < aS (ag1 T (wkAll T σ)).1 (aH (ag1 T (wkAll T σ)).1 p) ∨ (ag1 T (wkAll T σ)).2.testBit (aH (ag1 T (wkAll T σ)).1 p) = true := by
    rw [e1]
    intro p hp1 (z : aH (wkAll T σ) p < 5)
    have := (h1.2.1 p hp1).2.1 z
    rw [e2]
    show 0 < (if aH (wkAll T σ) p < tn T then aS (wkAll T σ) (aH (wkAll T σ) p) - 1 else aS (wkAll T σ) (aH (wkAll T σ) p)) ∨ decide (aH (wkAll T σ) p < tn T ∧ aS (wkAll T σ) (aH (wkAll T σ) p) = 1) = true
    rw [if_pos this.1]
    by_cases y : aS (wkAll T σ) (aH (wkAll T σ) p) = 1
    · right; simp [this.1, y]
    · left; omega
  obtain ⟨g1, g2, g3, g4⟩ := ag2_ok hw hSV _ hal (tn T) (Nat.le_refl _)
  refine ⟨⟨g1.1, fun p hp1 => ?_, g1.2.2⟩, ?_, fun i => ?_⟩
  · have := g1.2.1 p hp1
    refine ⟨this.1, fun z => ⟨this.2.1 z, ?_⟩, this.2.2⟩
    rcases g4 p hp1 z with w | w
    · show 0 < aS (agAll T (wkAll T σ)) _
      have e : aS (agAll T (wkAll T σ)) = aS (ag1 T (wkAll T σ)).1 := g2
      rw [e]; exact w
    · have := this.2.1 z; omega
  · show aY (agAll T (wkAll T σ)) + 1 = _
    have e : aY (agAll T (wkAll T σ)) = aY (ag1 T (wkAll T σ)).1 := g3
    rw [e, e1]; show aY (wkAll T σ) + 1 = _; rw [hy1.1]
  · show aS (agAll T (wkAll T σ)) i = _
    have e : aS (agAll T (wkAll T σ)) = aS (ag1 T (wkAll T σ)).1 := g2
    rw [e, e1]
    show (if i < tn T then aS (wkAll T σ) i - 1 else aS (wkAll T σ) i) = _
    rw [hy1.2]
theorem SW_yrN {T : TD} (hw : TW T) : ∀ (n : Nat) (σ : AS), SW T σ → SW T (yrN T n σ) ∧ aY (yrN T n σ) = aY σ + n
  | 0, σ, h => ⟨h, rfl⟩
  | n + 1, σ, h => by
    have h1 := SW_yrN hw n σ h
    rw [yrN]
    have h2 := SW_yr hw h1.1
    exact ⟨h2.1, by rw [h2.2.1, h1.2]; omega⟩
