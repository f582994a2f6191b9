/-! ODDS: long numbers of the form lQ n -/
def lQ (n : Nat) : Int64 := Int64.ofNat n
theorem lQ_toInt {n : Nat} (h : n < 2 ^ 63) : (lQ n).toInt = (n : Int) := Int64.toInt_ofNat_of_lt h
theorem lQ_add (a b : Nat) : lQ a + lQ b = lQ (a + b) := (Int64.ofNat_add a b).symm
theorem lQ_mul (a b : Nat) : lQ a * lQ b = lQ (a * b) := (Int64.ofNat_mul a b).symm
theorem lQ_inj {a b : Nat} (ha : a < 2 ^ 63) (hb : b < 2 ^ 63) : lQ a = lQ b ↔ a = b := by
  rw [← Int64.toInt_inj, lQ_toInt ha, lQ_toInt hb]; omega
theorem lQ_div {a b : Nat} (ha : a < 2 ^ 63) (hb : b < 2 ^ 63) : lQ a / lQ b = lQ (a / b) := by
  have hd : a / b < 2 ^ 63 := Nat.lt_of_le_of_lt (Nat.div_le_self _ _) ha
  refine Int64.toInt_inj.mp ?_
  rw [Int64.toInt_div, lQ_toInt ha, lQ_toInt hb, lQ_toInt hd, ← Int.ofNat_tdiv]
  have h2 : ((a / b : Nat) : Int) < 2 ^ 63 := by exact_mod_cast hd
  have h3 : (0 : Int) ≤ ((a / b : Nat) : Int) := Int.natCast_nonneg _
  generalize ((a / b : Nat) : Int) = z at *
  exact Int.bmod_eq_of_le (by omega) (by omega)
theorem lQ_rem {a b : Nat} (ha : a < 2 ^ 63) (hb : b < 2 ^ 63) : lQ a - lQ a / lQ b * lQ b = lQ (a % b) := by
  rw [lQ_div ha hb, lQ_mul]
  have h1 : lQ a = lQ (a % b) + lQ (a / b * b) := by rw [lQ_add, Nat.mul_comm, Nat.mod_add_div]
  rw [h1, Int64.add_sub_cancel]
theorem nI_i2l {n : Nat} (h : n < 2 ^ 31) : (nI n).toInt64 = lQ n := by
  refine Int64.toInt_inj.mp ?_
  rw [Int32.toInt_toInt64, nI_toInt h, lQ_toInt (by omega)]
theorem lQ_l2i (n : Nat) : (lQ n).toInt32 = nI n := Int64.toInt32_ofNat
theorem lg0 {a : Nat} (h : a < 2 ^ 63) : lg_cmp (lQ a) (lQ 0) = 0 ↔ a = 0 := by
  rw [(lg_le0 _ _).2.2]; exact lQ_inj h (by decide)
section LRules
variable {X : CX} {M : MD} {pc : Nat} {ls rest : List Value} {h : AH} {Q : Option Value → AH → Prop} {a b : Nat}
theorem L_ladd (hd : decode M.2.1 pc = .ok (.ladd, 1)) (k : EW X M (pc + 1) ls (.long (lQ (a + b)) :: rest) h Q) : EW X M pc ls (.long (lQ b) :: .long (lQ a) :: rest) h Q := P_ladd hd (by rw [lQ_add]; exact k)
theorem L_lmul (hd : decode M.2.1 pc = .ok (.lmul, 1)) (k : EW X M (pc + 1) ls (.long (lQ (a * b)) :: rest) h Q) : EW X M pc ls (.long (lQ b) :: .long (lQ a) :: rest) h Q := P_lmul hd (by rw [lQ_mul]; exact k)
theorem L_ldiv (hd : decode M.2.1 pc = .ok (.ldiv, 1)) (ha : a < 2 ^ 63) (hb : b < 2 ^ 63) (h0 : 0 < b) (k : EW X M (pc + 1) ls (.long (lQ (a / b)) :: rest) h Q) : EW X M pc ls (.long (lQ b) :: .long (lQ a) :: rest) h Q := P_ldiv hd (fun z => by have := (lQ_inj hb (by decide)).mp (show lQ b = lQ 0 from z); omega) (by rw [lQ_div ha hb]; exact k)
theorem L_lrem (hd : decode M.2.1 pc = .ok (.lrem, 1)) (ha : a < 2 ^ 63) (hb : b < 2 ^ 63) (h0 : 0 < b) (k : EW X M (pc + 1) ls (.long (lQ (a % b)) :: rest) h Q) : EW X M pc ls (.long (lQ b) :: .long (lQ a) :: rest) h Q := P_lrem hd (fun z => by have := (lQ_inj hb (by decide)).mp (show lQ b = lQ 0 from z); omega) (by rw [lQ_rem ha hb]; exact k)
theorem L_i2l (hd : decode M.2.1 pc = .ok (.i2l, 1)) (ha : a < 2 ^ 31) (k : EW X M (pc + 1) ls (.long (lQ a) :: rest) h Q) : EW X M pc ls (.int (nI a) :: rest) h Q := P_i2l hd (by rw [nI_i2l ha]; exact k)
theorem L_l2i (hd : decode M.2.1 pc = .ok (.l2i, 1)) (k : EW X M (pc + 1) ls (.int (nI a) :: rest) h Q) : EW X M pc ls (.long (lQ a) :: rest) h Q := P_l2i hd (by rw [lQ_l2i]; exact k)
end LRules
def chN (n k : Nat) : Nat → Nat
  | 0 => 1
  | i + 1 => chN n k i * (n - k + (i + 1)) / (i + 1)
theorem chN_le {n k : Nat} (hn : n ≤ 9) (hk : k ≤ n) : ∀ i, i ≤ k → chN n k i ≤ 10 ^ i
  | 0, _ => Nat.le_refl _
  | i + 1, h => by
    have ih := chN_le hn hk i (by omega)
    rw [chN]
    refine Nat.le_trans (Nat.div_le_self _ _) ?_
    rw [Nat.pow_succ]
    exact Nat.mul_le_mul ih (by omega)
def gcdE : Nat → Nat → Nat → Nat
  | 0, a, _ => a
  | d + 1, a, b => if b = 0 then a else gcdE d b (a % b)
theorem gcdE_gcd : ∀ d a b, b < 2 ^ d → gcdE (2 * d + 1) a b = Nat.gcd a b
  | 0, a, b, h => by
    have : b = 0 := by simp at h; omega
    subst this; simp [gcdE]
  | d + 1, a, b, h => by
    rw [show 2 * (d + 1) + 1 = (2 * d + 1) + 1 + 1 by omega, gcdE]
    split
    · rename_i h0; rw [h0, Nat.gcd_zero_right]
    · rename_i h0
      have hr : a % b < b := Nat.mod_lt _ (by omega)
      rw [gcdE]
      split
      · rename_i h1; rw [Nat.gcd_comm, Nat.gcd_rec, h1, Nat.gcd_zero_left]
      · rename_i h1
        have h2 : b % (a % b) < a % b := Nat.mod_lt _ (by omega)
        have h3 : a % b * (b / (a % b)) + b % (a % b) = b := Nat.div_add_mod b (a % b)
        have h4 : 1 ≤ b / (a % b) := (Nat.one_le_div_iff (by omega)).mpr (by omega)
        have h5 : a % b ≤ a % b * (b / (a % b)) := Nat.le_mul_of_pos_right _ h4
        rw [gcdE_gcd d _ _ (by rw [Nat.pow_succ] at h; omega)]
        rw [Nat.gcd_comm a b, Nat.gcd_rec b a, Nat.gcd_rec (a % b) b, Nat.gcd_comm]
theorem gcdE_100 {a b : Nat} (h : b < 2 ^ 49) : gcdE 100 a b = Nat.gcd a b := by
  rw [show 100 = 99 + 1 by omega, gcdE]
  split
  · rename_i h0; rw [h0, Nat.gcd_zero_right]
  · rename_i h0
    have := gcdE_gcd 49 b (a % b) (Nat.lt_trans (Nat.mod_lt _ (by omega)) h)
    rw [show 99 = 2 * 49 + 1 by omega, this, Nat.gcd_comm a b, Nat.gcd_rec b a, Nat.gcd_comm]
def abT (n q w : Nat) : Nat := chN n w w * (10 - q) ^ w * q ^ (n - w)
def abN (n q m : Nat) : Nat → Nat
  | 0 => 0
  | i + 1 => abN n q m i + abT n q (m + i)
/-- ways that at least m of n years are worked -/
def idU (q : Nat) : Nat → Nat → Nat
  | 0, m => if m = 0 then 1 else 0
  | n + 1, m => q * idU q n m + (10 - q) * idU q n (m - 1)
theorem idU_le {q : Nat} (hq : q ≤ 10) : ∀ n m, idU q n m ≤ 10 ^ n
  | 0, m => by rw [idU]; split <;> decide
  | n + 1, m => by
    have h1 := Nat.mul_le_mul_left q (idU_le hq n m)
    have h2 := Nat.mul_le_mul_left (10 - q) (idU_le hq n (m - 1))
    rw [idU, Nat.pow_succ]
    have h3 : q * 10 ^ n + (10 - q) * 10 ^ n = 10 ^ n * 10 := by rw [← Nat.add_mul, show q + (10 - q) = 10 by omega, Nat.mul_comm]
    omega
theorem ab_idU : ∀ n, n < 10 → ∀ q, q < 11 → ∀ m, m < 10 → abN n q m (n + 1 - m) = idU q n m := by decide +kernel
def idN (n q m part : Nat) : Nat := (if part = 0 then idU q n m else 10 ^ n) / Nat.gcd (idU q n m) (10 ^ n)
theorem lp_Od_power {X : CX} {h : AH} {Q : Option Value → AH → Prop} {b e : Nat} (hb : b ≤ 10) (he : e ≤ 9) (k : Q (some (.long (lQ (b ^ e)))) h) : ∀ (d : Nat) (i : Nat), (i ≤ e) → e - i = d → EW X m_Od_power 5 [.int (nI b), .int (nI e), .long (lQ (b ^ i)), jk, .int (nI i)] [] h Q := by
  intro d
  induction d using Nat.strongRecOn with
  | _ d ih =>
    intro i hi hd
    refine g_iload d_Od_power_5 rfl ?_
    refine g_iload_n d_Od_power_7 rfl ?_
    refine N_icmp_ge d_Od_power_8 22 (by decide) ⟨by omega, by omega⟩ (fun c1 => ?_) (fun c1 => ?_)
    · refine g_lload_n d_Od_power_22 rfl ?_
      refine P_lret d_Od_power_23 rfl ?_
      rw [show e = i by omega] at k
      exact k
    · refine g_lload_n d_Od_power_11 rfl ?_
      refine g_iload_n d_Od_power_12 rfl ?_
      refine L_i2l d_Od_power_13 (by omega) ?_
      refine L_lmul d_Od_power_14 ?_
      refine S_lstore_n_5_2 d_Od_power_15 rfl rfl ?_
      refine N_iinc_5_4_1 d_Od_power_16 rfl rfl ?_
      refine P_goto d_Od_power_19 5 (by decide) ?_
      rw [← Nat.pow_succ]
      exact ih _ (by omega) (i + 1) (by omega) rfl

theorem c_Od_power {X : CX} {h : AH} {Q : Option Value → AH → Prop} {b e : Nat} (hb : b ≤ 10) (he : e ≤ 9) (k : Q (some (.long (lQ (b ^ e)))) h) : EW X m_Od_power 0 (enL m_Od_power.2.2.1 [.int (nI b), .int (nI e)]) [] h Q := by
  show EW X m_Od_power 0 [.int (nI b), .int (nI e), jk, jk, jk] [] h Q
  refine P_lconst d_Od_power_0 (lQ 1) rfl ?_
  refine S_lstore_n_5_2 d_Od_power_1 rfl rfl ?_
  refine N_iconst d_Od_power_2 0 rfl ?_
  refine S_istore_5_4 d_Od_power_3 rfl rfl ?_
  exact lp_Od_power hb he k _ 0 (Nat.zero_le _) rfl

theorem lp_Od_choices {X : CX} {h : AH} {Q : Option Value → AH → Prop} {n w : Nat} (hn : n ≤ 9) (hwn : w ≤ n) (k : Q (some (.long (lQ (chN n w w)))) h) : ∀ (d : Nat) (i : Nat), (i ≤ w) → w - i = d → EW X m_Od_choices 5 [.int (nI n), .int (nI w), .long (lQ (chN n w i)), jk, .int (nI (i + 1))] [] h Q := by
  intro d
  induction d using Nat.strongRecOn with
  | _ d ih =>
    intro i hi hd
    have hcl := chN_le hn hwn i hi
    have hp9 : 10 ^ i ≤ 10 ^ 9 := Nat.pow_le_pow_right (by decide) (by omega)
    refine g_iload d_Od_choices_5 rfl ?_
    refine g_iload_n d_Od_choices_7 rfl ?_
    refine N_icmp_gt d_Od_choices_8 31 (by decide) ⟨by omega, by omega⟩ (fun c1 => ?_) (fun c1 => ?_)
    · refine g_lload_n d_Od_choices_31 rfl ?_
      refine P_lret d_Od_choices_32 rfl ?_
      rw [show w = i by omega] at k
      have e : i = w := by omega
      subst e
      exact k
    · refine g_lload_n d_Od_choices_11 rfl ?_
      refine g_iload_n d_Od_choices_12 rfl ?_
      refine g_iload_n d_Od_choices_13 rfl ?_
      refine N_isub d_Od_choices_14 (by omega) ?_
      refine g_iload d_Od_choices_15 rfl ?_
      refine N_iadd d_Od_choices_17 ?_
      refine L_i2l d_Od_choices_18 (by omega) ?_
      refine L_lmul d_Od_choices_19 ?_
      refine g_iload d_Od_choices_20 rfl ?_
      refine L_i2l d_Od_choices_22 (by omega) ?_
      refine L_ldiv d_Od_choices_23 (Nat.lt_of_le_of_lt (show chN n w i * (n - w + (i + 1)) ≤ 10 ^ 9 * 10 from Nat.mul_le_mul (by omega) (by omega)) (by decide)) (by omega) (by omega) ?_
      refine S_lstore_n_5_2 d_Od_choices_24 rfl rfl ?_
      refine N_iinc_5_4_1 d_Od_choices_25 rfl rfl ?_
      refine P_goto d_Od_choices_28 5 (by decide) ?_
      exact ih _ (by omega) (i + 1) (by omega) rfl

theorem c_Od_choices {X : CX} {h : AH} {Q : Option Value → AH → Prop} {n w : Nat} (hn : n ≤ 9) (hwn : w ≤ n) (k : Q (some (.long (lQ (chN n w w)))) h) : EW X m_Od_choices 0 (enL m_Od_choices.2.2.1 [.int (nI n), .int (nI w)]) [] h Q := by
  show EW X m_Od_choices 0 [.int (nI n), .int (nI w), jk, jk, jk] [] h Q
  refine P_lconst d_Od_choices_0 (lQ 1) rfl ?_
  refine S_lstore_n_5_2 d_Od_choices_1 rfl rfl ?_
  refine N_iconst d_Od_choices_2 1 rfl ?_
  refine S_istore_5_4 d_Od_choices_3 rfl rfl ?_
  exact lp_Od_choices hn hwn k _ 0 (Nat.zero_le _) rfl

theorem lp_Od_gcd {X : CX} {h : AH} {Q : Option Value → AH → Prop} {r : Nat} {v0 v2 : Value} (k : Q (some (.long (lQ r))) h) : ∀ (d : Nat) (i : Nat) (a : Nat) (b : Nat) (v9 : Value), (i ≤ 100) → (a < 2 ^ 62) → (b < 2 ^ 62) → (r = gcdE (100 - i) a b) → 100 - i = d → EW X m_Od_commonDivisor 9 [v0, jk, v2, jk, .long (lQ a), jk, .long (lQ b), jk, .int (nI i), v9, jk] [] h Q := by
  intro d
  induction d using Nat.strongRecOn with
  | _ d ih =>
    intro i a b v9 hi ha hb he hd
    refine g_iload d_Od_commonDivisor_9 rfl ?_
    refine N_bipush d_Od_commonDivisor_11 100 rfl ?_
    refine N_icmp_ge d_Od_commonDivisor_13 44 (by decide) ⟨by omega, by omega⟩ (fun c1 => ?_) (fun c1 => ?_)
    · refine g_lload d_Od_commonDivisor_44 rfl ?_
      refine P_lret d_Od_commonDivisor_46 rfl ?_
      rw [show 100 - i = 0 by omega, gcdE] at he
      rw [he] at k
      exact k
    · obtain ⟨d2, hd2⟩ : ∃ d2, 100 - i = d2 + 1 := ⟨99 - i, by omega⟩
      rw [hd2, gcdE] at he
      refine g_lload d_Od_commonDivisor_16 rfl ?_
      refine P_lconst d_Od_commonDivisor_18 (lQ 0) rfl ?_
      refine P_lcmp d_Od_commonDivisor_19 ?_
      refine P_if_eq d_Od_commonDivisor_20 44 (by decide) (fun c2 => ?_) (fun c2 => ?_)
      · refine g_lload d_Od_commonDivisor_44 rfl ?_
        refine P_lret d_Od_commonDivisor_46 rfl ?_
        rw [if_pos ((lg0 (by omega)).mp c2)] at he
        rw [he] at k
        exact k
      · have hb0 : b ≠ 0 := fun z => c2 ((lg0 (by omega)).mpr z)
        rw [if_neg hb0] at he
        refine g_lload d_Od_commonDivisor_23 rfl ?_
        refine g_lload d_Od_commonDivisor_25 rfl ?_
        refine L_lrem d_Od_commonDivisor_27 (by omega) (by omega) (by omega) ?_
        refine S_lstore_11_9 d_Od_commonDivisor_28 rfl rfl ?_
        refine g_lload d_Od_commonDivisor_30 rfl ?_
        refine S_lstore_11_4 d_Od_commonDivisor_32 rfl rfl ?_
        refine g_lload d_Od_commonDivisor_34 rfl ?_
        refine S_lstore_11_6 d_Od_commonDivisor_36 rfl rfl ?_
        refine N_iinc_11_8_1 d_Od_commonDivisor_38 rfl rfl ?_
        refine P_goto d_Od_commonDivisor_41 9 (by decide) ?_
        exact ih _ (by omega) (i + 1) b (a % b) _ (by omega) hb (Nat.lt_of_le_of_lt (Nat.mod_le _ _) ha) (by rw [show 100 - (i + 1) = d2 by omega]; exact he) rfl

theorem c_Od_commonDivisor {X : CX} {h : AH} {Q : Option Value → AH → Prop} {a b : Nat} (ha : a < 2 ^ 62) (hb : b < 2 ^ 49) (k : Q (some (.long (lQ (Nat.gcd a b)))) h) : EW X m_Od_commonDivisor 0 (enL m_Od_commonDivisor.2.2.1 [.long (lQ a), .long (lQ b)]) [] h Q := by
  show EW X m_Od_commonDivisor 0 [.long (lQ a), jk, .long (lQ b), jk, jk, jk, jk, jk, jk, jk, jk] [] h Q
  refine g_lload_n d_Od_commonDivisor_0 rfl ?_
  refine S_lstore_11_4 d_Od_commonDivisor_1 rfl rfl ?_
  refine g_lload_n d_Od_commonDivisor_3 rfl ?_
  refine S_lstore_11_6 d_Od_commonDivisor_4 rfl rfl ?_
  refine N_iconst d_Od_commonDivisor_6 0 rfl ?_
  refine S_istore_11_8 d_Od_commonDivisor_7 rfl rfl ?_
  exact lp_Od_gcd (r := Nat.gcd a b) k _ 0 a b _ (by omega) ha (by omega) (gcdE_100 hb).symm rfl

theorem lp_Od_ab {X : CX} {h : AH} {Q : Option Value → AH → Prop} {n q m part : Nat} (hn : n ≤ 9) (hq : q ≤ 10) (hm : m ≤ 9) (k : ∀ v6, EW X m_Od_partOf 48 [.int (nI n), .int (nI q), .int (nI m), .int (nI part), .long (lQ (idU q n m)), jk, .int v6, jk, jk, jk] [] h Q) : ∀ (d : Nat) (i : Nat), (i ≤ n + 1 - m) → n + 1 - m - i = d → EW X m_Od_partOf 6 [.int (nI n), .int (nI q), .int (nI m), .int (nI part), .long (lQ (abN n q m i)), jk, .int (nI (m + i)), jk, jk, jk] [] h Q := by
  intro d
  induction d using Nat.strongRecOn with
  | _ d ih =>
    intro i hi hd
    refine g_iload d_Od_partOf_6 rfl ?_
    refine g_iload_n d_Od_partOf_8 rfl ?_
    refine N_icmp_gt d_Od_partOf_9 48 (by decide) ⟨by omega, by omega⟩ (fun c1 => ?_) (fun c1 => ?_)
    · have e := ab_idU n (by omega) q (by omega) m (by omega)
      rw [← e, show n + 1 - m = i by omega] at k
      exact k _
    · refine g_lload d_Od_partOf_12 rfl ?_
      refine g_iload_n d_Od_partOf_14 rfl ?_
      refine g_iload d_Od_partOf_15 rfl ?_
      refine C_S2 d_Od_partOf_17 k_Od_7 (Nat.le_of_ble_eq_true rfl) (by decide) (Nat.le_of_ble_eq_true rfl) ?_
      refine (c_Od_choices hn (by omega)) ?_
      refine N_bipush d_Od_partOf_20 10 rfl ?_
      refine g_iload_n d_Od_partOf_22 rfl ?_
      refine N_isub d_Od_partOf_23 (by omega) ?_
      refine g_iload d_Od_partOf_24 rfl ?_
      refine C_S2 d_Od_partOf_26 k_Od_13 (Nat.le_of_ble_eq_true rfl) (by decide) (Nat.le_of_ble_eq_true rfl) ?_
      refine (c_Od_power (by omega) (by omega)) ?_
      refine L_lmul d_Od_partOf_29 ?_
      refine g_iload_n d_Od_partOf_30 rfl ?_
      refine g_iload_n d_Od_partOf_31 rfl ?_
      refine g_iload d_Od_partOf_32 rfl ?_
      refine N_isub d_Od_partOf_34 (by omega) ?_
      refine C_S2 d_Od_partOf_35 k_Od_13 (Nat.le_of_ble_eq_true rfl) (by decide) (Nat.le_of_ble_eq_true rfl) ?_
      refine (c_Od_power (by omega) (by omega)) ?_
      refine L_lmul d_Od_partOf_38 ?_
      refine L_ladd d_Od_partOf_39 ?_
      refine S_lstore_10_4 d_Od_partOf_40 rfl rfl ?_
      refine N_iinc_10_6_1 d_Od_partOf_42 rfl rfl ?_
      refine P_goto d_Od_partOf_45 6 (by decide) ?_
      exact ih _ (by omega) (i + 1) (by omega) rfl

theorem c_Od_partOf {X : CX} {h : AH} {Q : Option Value → AH → Prop} {n q m part : Nat} (hn : n ≤ 9) (hq : q ≤ 10) (hm : m ≤ 9) (hpt : part ≤ 1) (k : Q (some (.int (nI (idN n q m part)))) h) : EW X m_Od_partOf 0 (enL m_Od_partOf.2.2.1 [.int (nI n), .int (nI q), .int (nI m), .int (nI part)]) [] h Q := by
  show EW X m_Od_partOf 0 [.int (nI n), .int (nI q), .int (nI m), .int (nI part), jk, jk, jk, jk, jk, jk] [] h Q
  have hul := idU_le hq n m
  have hp9 : 10 ^ n ≤ 10 ^ 9 := Nat.pow_le_pow_right (by decide) hn
  have hp1 : 0 < 10 ^ n := Nat.pow_pos (by decide)
  have hg0 : 0 < Nat.gcd (idU q n m) (10 ^ n) := Nat.gcd_pos_of_pos_right _ hp1
  have hgl : Nat.gcd (idU q n m) (10 ^ n) ≤ 10 ^ n := Nat.gcd_le_right _ hp1
  refine P_lconst d_Od_partOf_0 (lQ 0) rfl ?_
  refine S_lstore_10_4 d_Od_partOf_1 rfl rfl ?_
  refine g_iload_n d_Od_partOf_3 rfl ?_
  refine S_istore_10_6 d_Od_partOf_4 rfl rfl ?_
  refine lp_Od_ab hn hq hm (fun v6 => ?_) _ 0 (Nat.zero_le _) rfl
  refine N_bipush d_Od_partOf_48 10 rfl ?_
  refine g_iload_n d_Od_partOf_50 rfl ?_
  refine C_S2 d_Od_partOf_51 k_Od_13 (Nat.le_of_ble_eq_true rfl) (by decide) (Nat.le_of_ble_eq_true rfl) ?_
  refine (c_Od_power (by omega) (by omega)) ?_
  refine S_lstore_10_6 d_Od_partOf_54 rfl rfl ?_
  refine g_lload d_Od_partOf_56 rfl ?_
  refine g_lload d_Od_partOf_58 rfl ?_
  refine C_S2 d_Od_partOf_60 k_Od_16 (Nat.le_of_ble_eq_true rfl) (by decide) (Nat.le_of_ble_eq_true rfl) ?_
  refine (c_Od_commonDivisor (by omega) (by omega)) ?_
  refine S_lstore_10_8 d_Od_partOf_63 rfl rfl ?_
  refine g_lload d_Od_partOf_65 rfl ?_
  refine P_lconst d_Od_partOf_67 (lQ 0) rfl ?_
  refine P_lcmp d_Od_partOf_68 ?_
  refine P_if_ne d_Od_partOf_69 74 (by decide) (fun c1 => ?_) (fun c1 => ?_)
  · refine g_iload_n d_Od_partOf_74 rfl ?_
    refine N_if_ne d_Od_partOf_75 83 (by decide) (by omega) (fun c2 => ?_) (fun c2 => ?_)
    · refine g_lload d_Od_partOf_83 rfl ?_
      refine g_lload d_Od_partOf_85 rfl ?_
      refine L_ldiv d_Od_partOf_87 (by omega) (by omega) hg0 ?_
      refine L_l2i d_Od_partOf_88 ?_
      refine P_iret d_Od_partOf_89 rfl ?_
      first | exact R_i k (by unfold idN; rw [if_pos c2]) | exact R_i k (by unfold idN; rw [if_neg c2])
    · refine g_lload d_Od_partOf_78 rfl ?_
      refine P_goto d_Od_partOf_80 85 (by decide) ?_
      refine g_lload d_Od_partOf_85 rfl ?_
      refine L_ldiv d_Od_partOf_87 (by omega) (by omega) hg0 ?_
      refine L_l2i d_Od_partOf_88 ?_
      refine P_iret d_Od_partOf_89 rfl ?_
      first | exact R_i k (by unfold idN; rw [if_pos c2]) | exact R_i k (by unfold idN; rw [if_neg c2])
  · exact absurd ((lg0 (by omega)).mp c1) (by omega)

