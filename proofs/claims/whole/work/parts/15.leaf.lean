theorem R_i {Q : Option Value → AH → Prop} {a b : Int32} {h : AH} (k : Q (some (.int a)) h) (e : a = b) : Q (some (.int b)) h := by rw [← e]; exact k
theorem R_l {Q : Option Value → AH → Prop} {a b : Int64} {h : AH} (k : Q (some (.long a)) h) (e : a = b) : Q (some (.long b)) h := by rw [← e]; exact k
theorem R_ih {Q : Option Value → AH → Prop} {a b : Int32} {h h2 : AH} (k : Q (some (.int a)) h) (e : a = b) (e2 : h = h2) : Q (some (.int b)) h2 := by rw [← e, ← e2]; exact k
theorem R_h {Q : Option Value → AH → Prop} {r : Option Value} {h h2 : AH} (k : Q r h) (e2 : h = h2) : Q r h2 := by rw [← e2]; exact k
theorem bI_t' {p : Prop} [Decidable p] (h : p) : bI p = nI 1 := bI_t h
theorem bI_f' {p : Prop} [Decidable p] (h : ¬ p) : bI p = nI 0 := bI_f h
theorem bI_iff {p q : Prop} [Decidable p] [Decidable q] (h : p ↔ q) : bI p = bI q := by
  by_cases hp : p
  · rw [bI_t hp, bI_t (h.mp hp)]
  · rw [bI_f hp, bI_f (fun z => hp (h.mpr z))]
theorem lg_le0 (x y : Int64) : (lg_cmp x y < 0 ↔ x < y) ∧ (0 < lg_cmp x y ↔ y < x) ∧ (lg_cmp x y = 0 ↔ x = y) := by
  unfold lg_cmp
  by_cases h1 : y < x
  · have h2 : ¬ x = y := fun z => by subst z; exact absurd h1 Int64.lt_irrefl
    have h3 : ¬ x < y := fun z => absurd (Int64.lt_trans h1 z) Int64.lt_irrefl
    simp [h1, h2, h3]
  · by_cases h2 : x = y
    · subst h2; simp
    · have h3 : x < y := by
        rcases Int64.lt_or_eq_of_le (Int64.not_lt.mp h1) with z | z
        · exact z
        · exact absurd z h2
      simp [h1, h2, h3]
theorem sw_out {x : Int32} (m : Nat) (h : ∀ j : Nat, j ≤ m → ¬ x = nI j) (hm : m < 2 ^ 31 := by decide) : x.toInt < 0 ∨ (m : Int) < x.toInt := by
  rcases Int.lt_or_le x.toInt 0 with q | q
  · exact Or.inl q
  · right
    rcases Int.lt_or_le (m : Int) x.toInt with z | z
    · exact z
    · obtain ⟨j, hj⟩ := Int.eq_ofNat_of_zero_le q
      refine absurd (Int32.toInt_inj.mp ?_) (h j (by omega))
      rw [nI_toInt (by omega), hj]
/-- a number among the first n -/
abbrev inN (x : Int32) (n : Nat) : Prop := 0 ≤ x.toInt ∧ x.toInt < (n : Int)
theorem inN_of {x : Int32} {n : Nat} (h : inN x n) (hn : n < 2 ^ 31) : ∃ j, j < n ∧ x = nI j := by
  obtain ⟨j, hj⟩ := Int.eq_ofNat_of_zero_le h.1
  have h2 := h.2
  refine ⟨j, by omega, Int32.toInt_inj.mp ?_⟩
  rw [nI_toInt (by omega), hj]
theorem inN_nI {j n : Nat} (h : j < n) (hn : n < 2 ^ 31) : inN (nI j) n := by
  unfold inN
  rw [nI_toInt (by omega)]
  omega
theorem i64_toInt (x : Int32) : x.toInt64.toInt = x.toInt := Int32.toInt_toInt64 x
theorem nI_m1 {n : Nat} (hn : n < 2 ^ 30) : (nI n - nI 1).toInt = (n : Int) - 1 := by
  have := pk_sub_toInt (a := n) (b := 1) hn (by decide)
  exact this
