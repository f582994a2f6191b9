theorem R_i {Q : Option Value → AH → Prop} {a b : Int32} {h : AH} (k : Q (some (.int a)) h) (e : a = b) : Q (some (.int b)) h := by rw [← e]; exact k
theorem R_l {Q : Option Value → AH → Prop} {a b : Int64} {h : AH} (k : Q (some (.long a)) h) (e : a = b) : Q (some (.long b)) h := by rw [← e]; exact k
theorem R_ih {Q : Option Value → AH → Prop} {a b : Int32} {h h2 : AH} (k : Q (some (.int a)) h) (e : a = b) (e2 : h = h2) : Q (some (.int b)) h2 := by rw [← e, ← e2]; exact k
theorem R_h {Q : Option Value → AH → Prop} {r : Option Value} {h h2 : AH} (k : Q r h) (e2 : h = h2) : Q r h2 := by rw [← e2]; exact k
theorem bI_t' {p : Prop} [Decidable p] (h : p) : bI p = nI 1 := bI_t h
theorem bI_f' {p : Prop} [Decidable p] (h : ¬ p) : bI p = nI 0 := bI_f h
theorem bI_iff {p q : Prop} [Decidable p] [Decidable q] (h : p ↔ q) : bI p = bI q := by
  by_cases hp : p
  · rw [bI_t hp, bI_t (h.mp hp)]
  · rw [bI_f hp, bI_f (fun z => hp (h.mpr z))]
theorem lg_le0 (x y : Int64) : (lg_cmp x y < 0 ↔ x < y) ∧ (0 < lg_cmp x y ↔ y < x) ∧ (lg_cmp x y = 0 ↔ x = y) := by
  unfold lg_cmp
  by_cases h1 : y < x
  · have h2 : ¬ x = y := fun z => by subst z; exact absurd h1 Int64.lt_irrefl
    have h3 : ¬ x < y := fun z => absurd (Int64.lt_trans h1 z) Int64.lt_irrefl
    simp [h1, h2, h3]
  · by_cases h2 : x = y
    · subst h2; simp
    · have h3 : x < y := by
        rcases Int64.lt_or_eq_of_le (Int64.not_lt.mp h1) with z | z
        · exact z
        · exact absurd z h2
      simp [h1, h2, h3]
