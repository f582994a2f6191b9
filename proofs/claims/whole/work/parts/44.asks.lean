/-! WHAT IS ANSWERED, as the class and the model must -/
abbrev NP : Type := AS × List AS
def KO (T : TD) (σ : AS) : Nat := kB (aH σ) (tP T)
def aPer (T : TD) (σ : AS) (m w : Int32) : Int32 := if ¬ inN m (tn T) then -2 else if w = nI 0 then nI (tst T (tN m)) else if w = nI 1 then nI (aS σ (tN m)) else if w = nI 2 then hrI (thr T (tN m)) else if w = nI 3 then nI (cntH (aH σ) (tN m) (tP T)) else -3
def whoN (m : Int32) : Nat := if m = -1 then 5 else tN m
def aHol (T : TD) (σ : AS) (m k : Int32) : Int32 := if ¬ m = -1 ∧ ¬ inN m (tn T) then -2 else if k.toInt < 0 then -3 else hAt (aH σ) (whoN m) (aR σ) (tN k)
def aPro (T : TD) (σ : AS) (p w : Int32) : Int32 := if ¬ inN p (tP T) then -2 else if w = nI 0 then nI (tkd T (tN p)) else if w = nI 1 then nI (aW σ (tN p)) else if w = nI 2 then nI (aD σ (tN p)) else if w = nI 3 then nI (tnd T (tN p)) else if w = nI 4 then hoI (aH σ (tN p)) else if w = nI 5 then bI (opn T (KO T σ) (tN p)) else -3
def aAs (T : TD) (p f : Int32) : Int32 := if ¬ inN p (tP T) then -2 else if ¬ inN f 6 then -3 else if ¬ underN (tkd T (tN p)) (tN f) then -4 else nI (doesN (tkd T (tN p)) 5)
def sYr (T : TD) (N : NP) (n : Int32) : NP × Int32 := if ¬ (1 ≤ n.toInt ∧ n.toInt ≤ 12) then (N, -3) else if 999 < aY N.1 + tN n then (N, -5) else ((yrN T (tN n) N.1, psh N.2 N.1), nI (aY (yrN T (tN n) N.1)))
def sGi (T : TD) (N : NP) (p m : Int32) : NP × Int32 := if ¬ inN p (tP T) ∨ (¬ m = -1 ∧ ¬ inN m (tn T)) then (N, -2) else if aH N.1 (tN p) = 6 ∨ aH N.1 (tN p) = whoN m ∨ (whoN m ≠ 5 ∧ aS N.1 (whoN m) = 0) then (N, -4) else ((hand N.1 (tN p) (whoN m), psh N.2 N.1), nI (aH N.1 (tN p)))
def sSh (T : TD) (N : NP) (p : Int32) : NP × Int32 := if ¬ inN p (tP T) then (N, -2) else if aH N.1 (tN p) = 6 ∨ (aW N.1 (tN p) - aD N.1 (tN p)) / 2 = 0 then (N, -4) else ((uW N.1 (tN p) (aW N.1 (tN p) - (aW N.1 (tN p) - aD N.1 (tN p)) / 2), psh N.2 N.1), nI (aW N.1 (tN p) - (aW N.1 (tN p) - aD N.1 (tN p)) / 2))
def sAh (T : TD) (N : NP) (p : Int32) : NP × Int32 := if ¬ inN p (tP T) then (N, -2) else if aH N.1 (tN p) = 6 ∨ rkH (aH N.1) (tN p) (aR N.1) = 0 then (N, -4) else ((front N.1 (tN p), psh N.2 N.1), nI (rkH (aH N.1) (tN p) (aR N.1)))
def sUn (N : NP) : NP × Int32 := match N.2 with
  | [] => (N, -4)
  | τ :: l => ((τ, l), nI l.length)
abbrev KP : Type := Nat → Option AS
def KR (T : TD) (kp : KP) (mI : Nat → Nat → Int32) : Prop := ∀ k, k < 2 → mI 110 k = bI ((kp k).isSome = true) ∧ ∀ σ, kp k = some σ → SC (127 + 6 * k) T σ mI
def sKe (kp : KP) (σ : AS) (k : Int32) : KP × Int32 := if ¬ inN k 2 then (kp, -2) else (va_up kp (tN k) (some σ), nI (aY σ))
def sBa (kp : KP) (N : NP) (k : Int32) : NP × Int32 := if ¬ inN k 2 then (N, -2) else match kp (tN k) with
  | none => (N, -4)
  | some τ => ((τ, []), nI (aY τ))
def aBe (T : TD) (σ : AS) (p n w : Int32) : Int32 := if ¬ inN p (tP T) then -2 else if ¬ inN n 61 ∨ ¬ inN w 2 then -3 else if w = nI 0 then nI (aD (yrN T (tN n) σ) (tN p)) else hoI (aH (yrN T (tN n) σ) (tN p))
def aKp (T : TD) (σ : AS) (p : Int32) : Int32 := if inN p (tP T) then hrI (uK T (tN p) 61 0 σ) else -2
def aJu (T : TD) (σ : AS) (m : Int32) : Int32 := if inN m (tn T) then hrI (uF T (tN m) 61 0 σ) else -2
def aOr (T : TD) (σ : AS) (m n k : Int32) : Int32 := if ¬ inN m (tn T) then -2 else if ¬ (1 ≤ n.toInt ∧ n.toInt ≤ 30) ∨ k.toInt < -1 then -3 else if 5 < cntH (aH σ) (tN m) (tP T) then -1 else ansI (Lm σ (tN m)).length (fo T (tN n) σ (tN m) 120 (hpl (aH σ) (tN m) (tP T)) (0, fun _ => 0)) k
def gfS (T : TD) (σ : AS) : Nat := min (Lm σ 5).length 3
def aGo (T : TD) (σ : AS) (n k : Int32) : Int32 := if ¬ inN n 31 ∨ ¬ (-1 ≤ k.toInt ∧ k.toInt ≤ 2) then -3 else ansI (gfS T σ) (gf T (tN n) σ (gfS T σ) ((tn T + 1) ^ gfS T σ)) k
def aId (n q m w : Int32) : Int32 := if ¬ inN n 10 ∨ ¬ inN q 11 ∨ ¬ inN m 10 ∨ ¬ inN w 2 then -3 else nI (idN (tN n) (tN q) (tN m) (tN w))
def sSe (G : GD) (s n d : Int32) : GD × Int32 := if ¬ (1 ≤ s.toInt ∧ s.toInt ≤ 9) ∨ ¬ (1 ≤ n.toInt ∧ n.toInt ≤ 9) ∨ ¬ inN d 201 then (G, -3) else if G.1 = 6 then (G, -5) else (gAdd G (tN s) (tN n) (tN d), nI (G.1 + 1))
def aAt (G : GD) : Int32 := hrI (bsN (pkN G 5) 10).1
def aCo (T : TD) (L : Nat) (N : NP) (G : GD) (rn : Nat) (w : Int32) : Int32 := if w = nI 0 then nI (tn T) else if w = nI 1 then nI (tP T) else if w = nI 2 then nI (aY N.1) else if w = nI 3 then nI (deadN T N.1) else if w = nI 4 then nI (KO T N.1) else if w = nI 5 then nI (cntH (aH N.1) 5 (tP T)) else if w = nI 6 then nI (sumD N.1 (tP T)) else if w = nI 7 then nI G.1 else if w = nI 8 then nI rn else if w = nI 9 then nI N.2.length else if w = nI 10 then nI L else -3
theorem in_lo {x : Int32} {a b : Nat} (ha : a < 2 ^ 31) (hb : b < 2 ^ 31) : (nI a ≤ x ∧ x ≤ nI b) ↔ ((a : Int) ≤ x.toInt ∧ x.toInt ≤ (b : Int)) := by
  rw [Int32.le_iff_toInt_le, Int32.le_iff_toInt_le, nI_toInt ha, nI_toInt hb]
theorem in_N {x : Int32} {b : Nat} (hb : b < 2 ^ 30) : (nI 0 ≤ x ∧ x ≤ nI b) ↔ inN x (b + 1) := by
  rw [in_lo (by decide) (by omega)]
  constructor <;> intro z <;> constructor <;> omega
theorem in_ex {x : Int32} {a b : Nat} (hb : b < 2 ^ 31) (h : (a : Int) ≤ x.toInt ∧ x.toInt ≤ (b : Int)) : ∃ j, a ≤ j ∧ j ≤ b ∧ x = nI j := by
  obtain ⟨j, hj⟩ := Int.eq_ofNat_of_zero_le (show 0 ≤ x.toInt by omega)
  refine ⟨j, by omega, by omega, Int32.toInt_inj.mp ?_⟩
  rw [nI_toInt (by omega), hj]
theorem nn_ex {x : Int32} (h : 0 ≤ x.toInt) : ∃ j, j < 2 ^ 31 ∧ x = nI j := by
  obtain ⟨j, hj⟩ := Int.eq_ofNat_of_zero_le h
  have := Int32.toInt_lt x
  refine ⟨j, by omega, Int32.toInt_inj.mp ?_⟩
  rw [nI_toInt (by omega), hj]
theorem c_Pn_person {X : CX} {dl : List (Nat × Nat)} {mI : Nat → Nat → Int32} {dr : Nat → Nat → Nat} {Q : Option Value → AH → Prop} {T : TD} (hw : TW T) (hT : TR 33 T mI) {σ : AS} (hS : SC 53 T σ mI) (hW : SV T σ) {m w : Int32} (k : Q (some (.int (aPer T σ m w))) (hp X dl mI dr)) : EW X m_Pn_person 0 (enL m_Pn_person.2.2.1 [.ref 32, .int m, .int w]) [] (hp X dl mI dr) Q := by
  show EW X m_Pn_person 0 [.ref 32, .int m, .int w] [] (hp X dl mI dr) Q
  have hw1 := hw.1
  have hw2 := hw.2.1
  refine g_aload_n d_Pn_person_0 rfl ?_
  refine g_iload_n d_Pn_person_1 rfl ?_
  refine C_V1 d_Pn_person_2 k_Pn_106 rfl (Nat.le_of_ble_eq_true rfl) (by decide) (Nat.le_of_ble_eq_true rfl) ?_
  refine (c_Pn_isPerson hT.1 (by omega)) ?_
  refine B_ne d_Pn_person_5 11 (by decide) (fun c1 => ?_) (fun c1 => ?_)
  · have hc := c1
    obtain ⟨j, hj, rfl⟩ := inN_of c1 (by omega)
    have ej : tN (nI j) = j := tN_nI (by omega)
    have e : aPer T σ (nI j) w = if w = nI 0 then nI (tst T j) else if w = nI 1 then nI (aS σ j) else if w = nI 2 then hrI (thr T j) else if w = nI 3 then nI (cntH (aH σ) j (tP T)) else -3 := by unfold aPer; rw [if_neg (fun z => z c1), ej]
    rw [e] at k
    clear e
    refine g_iload_n d_Pn_person_11 rfl ?_
    by_cases q0 : w = nI 0
    · rw [q0]
      refine P_tableIn d_Pn_person_12 (32) 44 (by decide) (by decide) rfl (by decide) ?_
      refine g_aload_n d_Pn_person_44 rfl ?_
      refine H_getR 33 d_Pn_person_45 f_Pn_10.g rfl rfl (by decide) rfl ?_
      refine H_getR 34 d_Pn_person_48 f_Pn_109 rfl rfl (by decide) rfl ?_
      refine g_iload_n d_Pn_person_51 rfl ?_
      refine H_ialdN d_Pn_person_52 rfl rfl (by omega) (by decide) ?_
      refine T_int (nI (tst T j)) (hT.2.2.1 j hj).1 ?_
      refine P_iret d_Pn_person_53 rfl ?_
      exact R_i k (by rw [if_pos q0])
    by_cases q1 : w = nI 1
    · rw [q1]
      refine P_tableIn d_Pn_person_12 (42) 54 (by decide) (by decide) rfl (by decide) ?_
      refine g_aload_n d_Pn_person_54 rfl ?_
      refine H_getR 53 d_Pn_person_55 f_Pn_31.g rfl rfl (by decide) rfl ?_
      refine H_getR 54 d_Pn_person_58 f_Pn_113 rfl rfl (by decide) rfl ?_
      refine g_iload_n d_Pn_person_61 rfl ?_
      refine H_ialdN d_Pn_person_62 rfl rfl (by omega) (by decide) ?_
      refine T_int (nI (aS σ j)) (hS.2.2.1 j hj) ?_
      refine P_iret d_Pn_person_63 rfl ?_
      exact R_i k (by rw [if_neg q0, if_pos q1])
    by_cases q2 : w = nI 2
    · rw [q2]
      refine P_tableIn d_Pn_person_12 (52) 64 (by decide) (by decide) rfl (by decide) ?_
      refine g_aload_n d_Pn_person_64 rfl ?_
      refine H_getR 33 d_Pn_person_65 f_Pn_10.g rfl rfl (by decide) rfl ?_
      refine H_getR 36 d_Pn_person_68 f_Pn_116 rfl rfl (by decide) rfl ?_
      refine g_iload_n d_Pn_person_71 rfl ?_
      refine H_ialdN d_Pn_person_72 rfl rfl (by omega) (by decide) ?_
      refine T_int (hrI (thr T j)) (hT.2.2.1 j hj).2.2 ?_
      refine P_iret d_Pn_person_73 rfl ?_
      exact R_i k (by rw [if_neg q0, if_neg q1, if_pos q2])
    by_cases q3 : w = nI 3
    · rw [q3]
      refine P_tableIn d_Pn_person_12 (62) 74 (by decide) (by decide) rfl (by decide) ?_
      refine g_aload_n d_Pn_person_74 rfl ?_
      refine H_getR 53 d_Pn_person_75 f_Pn_31.g rfl rfl (by decide) rfl ?_
      refine g_iload_n d_Pn_person_78 rfl ?_
      refine C_V1 d_Pn_person_79 k_Pn_119 rfl (Nat.le_of_ble_eq_true rfl) (by decide) (Nat.le_of_ble_eq_true rfl) ?_
      refine (c_St_howManyHeldBy st53 hw hT hS hW (by omega)) ?_
      refine P_iret d_Pn_person_82 rfl ?_
      exact R_i k (by rw [if_neg q0, if_neg q1, if_neg q2, if_pos q3])
    refine P_tableOut d_Pn_person_12 83 (by decide) (sw_out 3 (fun j hj => by rcases (show j = 0 ∨ j = 1 ∨ j = 2 ∨ j = 3 by omega) with rfl | rfl | rfl | rfl <;> assumption)) ?_
    refine P_bipush d_Pn_person_83 (-3) rfl ?_
    refine P_iret d_Pn_person_85 rfl ?_
    exact R_i k (by rw [if_neg q0, if_neg q1, if_neg q2, if_neg q3])
  · refine P_bipush d_Pn_person_8 (-2) rfl ?_
    refine P_iret d_Pn_person_10 rfl ?_
    exact R_i k (by unfold aPer; rw [if_pos c1])

theorem c_Pn_holds {X : CX} {dl : List (Nat × Nat)} {mI : Nat → Nat → Int32} {dr : Nat → Nat → Nat} {Q : Option Value → AH → Prop} {T : TD} (hw : TW T) (hT : TR 33 T mI) {σ : AS} (hS : SC 53 T σ mI) (hW : SV T σ) {m j : Int32} (k : Q (some (.int (aHol T σ m j))) (hp X dl mI dr)) : EW X m_Pn_holds 0 (enL m_Pn_holds.2.2.1 [.ref 32, .int m, .int j]) [] (hp X dl mI dr) Q := by
  show EW X m_Pn_holds 0 [.ref 32, .int m, .int j] [] (hp X dl mI dr) Q
  have hw1 := hw.1
  have hw2 := hw.2.1
  refine g_iload_n d_Pn_holds_0 rfl ?_
  refine P_iconst d_Pn_holds_1 (-1) rfl ?_
  refine P_icmp_eq d_Pn_holds_2 16 (by decide) (fun c1 => ?_) (fun c1 => ?_)
  · have hA : ¬ (¬ m = -1 ∧ ¬ inN m (tn T)) := fun z => by first | exact z.1 (by assumption) | exact z.2 (by assumption)
    refine g_iload_n d_Pn_holds_16 rfl ?_
    refine P_if_ge d_Pn_holds_17 23 (by decide) (fun dd1 => ?_) (fun dd1 => ?_)
    · have hA2 := toInt_nn dd1
      obtain ⟨i, hi, rfl⟩ := nn_ex hA2
      have e : aHol T σ m (nI i) = hAt (aH σ) (whoN m) (aR σ) i := by unfold aHol; rw [if_neg hA, if_neg (by omega), tN_nI hi]
      rw [e] at k
      refine g_aload_n d_Pn_holds_23 rfl ?_
      refine H_getR 53 d_Pn_holds_24 f_Pn_31.g rfl rfl (by decide) rfl ?_
      refine g_iload_n d_Pn_holds_27 rfl ?_
      refine P_iconst d_Pn_holds_28 (-1) rfl ?_
      refine P_icmp_ne d_Pn_holds_29 36 (by decide) (fun dd2 => ?_) (fun dd2 => ?_)
      · have hin : inN m (tn T) := by
          by_cases y : inN m (tn T)
          · exact y
          · exact absurd ⟨dd2, y⟩ hA
        obtain ⟨u, hu, rfl⟩ := inN_of hin (by omega)
        have ew : whoN (nI u) = u := by unfold whoN; rw [if_neg dd2, tN_nI (by omega)]
        rw [ew] at k
        refine g_iload_n d_Pn_holds_36 rfl ?_
        refine g_iload_n d_Pn_holds_37 rfl ?_
        refine C_V2 d_Pn_holds_38 k_Pn_123 rfl (Nat.le_of_ble_eq_true rfl) (by decide) (Nat.le_of_ble_eq_true rfl) ?_
        refine (c_St_heldAt st53 hw hT hS hW (by omega) hi) ?_
        refine P_iret d_Pn_holds_41 rfl ?_
        exact k
      · have ew : whoN m = 5 := by unfold whoN; rw [if_pos dd2]
        rw [ew] at k
        refine N_iconst d_Pn_holds_32 5 rfl ?_
        refine P_goto d_Pn_holds_33 37 (by decide) ?_
        refine g_iload_n d_Pn_holds_37 rfl ?_
        refine C_V2 d_Pn_holds_38 k_Pn_123 rfl (Nat.le_of_ble_eq_true rfl) (by decide) (Nat.le_of_ble_eq_true rfl) ?_
        refine (c_St_heldAt st53 hw hT hS hW (by omega) hi) ?_
        refine P_iret d_Pn_holds_41 rfl ?_
        exact k
    · refine P_bipush d_Pn_holds_20 (-3) rfl ?_
      refine P_iret d_Pn_holds_22 rfl ?_
      exact R_i k (by unfold aHol; rw [if_neg hA, if_pos (toInt_neg dd1)])
  · refine g_aload_n d_Pn_holds_5 rfl ?_
    refine g_iload_n d_Pn_holds_6 rfl ?_
    refine C_V1 d_Pn_holds_7 k_Pn_106 rfl (Nat.le_of_ble_eq_true rfl) (by decide) (Nat.le_of_ble_eq_true rfl) ?_
    refine (c_Pn_isPerson hT.1 (by omega)) ?_
    refine B_ne d_Pn_holds_10 16 (by decide) (fun c2 => ?_) (fun c2 => ?_)
    · have hA : ¬ (¬ m = -1 ∧ ¬ inN m (tn T)) := fun z => by first | exact z.1 (by assumption) | exact z.2 (by assumption)
      refine g_iload_n d_Pn_holds_16 rfl ?_
      refine P_if_ge d_Pn_holds_17 23 (by decide) (fun dd1 => ?_) (fun dd1 => ?_)
      · have hA2 := toInt_nn dd1
        obtain ⟨i, hi, rfl⟩ := nn_ex hA2
        have e : aHol T σ m (nI i) = hAt (aH σ) (whoN m) (aR σ) i := by unfold aHol; rw [if_neg hA, if_neg (by omega), tN_nI hi]
        rw [e] at k
        refine g_aload_n d_Pn_holds_23 rfl ?_
        refine H_getR 53 d_Pn_holds_24 f_Pn_31.g rfl rfl (by decide) rfl ?_
        refine g_iload_n d_Pn_holds_27 rfl ?_
        refine P_iconst d_Pn_holds_28 (-1) rfl ?_
        refine P_icmp_ne d_Pn_holds_29 36 (by decide) (fun dd2 => ?_) (fun dd2 => ?_)
        · have hin : inN m (tn T) := by
            by_cases y : inN m (tn T)
            · exact y
            · exact absurd ⟨dd2, y⟩ hA
          obtain ⟨u, hu, rfl⟩ := inN_of hin (by omega)
          have ew : whoN (nI u) = u := by unfold whoN; rw [if_neg dd2, tN_nI (by omega)]
          rw [ew] at k
          refine g_iload_n d_Pn_holds_36 rfl ?_
          refine g_iload_n d_Pn_holds_37 rfl ?_
          refine C_V2 d_Pn_holds_38 k_Pn_123 rfl (Nat.le_of_ble_eq_true rfl) (by decide) (Nat.le_of_ble_eq_true rfl) ?_
          refine (c_St_heldAt st53 hw hT hS hW (by omega) hi) ?_
          refine P_iret d_Pn_holds_41 rfl ?_
          exact k
        · have ew : whoN m = 5 := by unfold whoN; rw [if_pos dd2]
          rw [ew] at k
          refine N_iconst d_Pn_holds_32 5 rfl ?_
          refine P_goto d_Pn_holds_33 37 (by decide) ?_
          refine g_iload_n d_Pn_holds_37 rfl ?_
          refine C_V2 d_Pn_holds_38 k_Pn_123 rfl (Nat.le_of_ble_eq_true rfl) (by decide) (Nat.le_of_ble_eq_true rfl) ?_
          refine (c_St_heldAt st53 hw hT hS hW (by omega) hi) ?_
          refine P_iret d_Pn_holds_41 rfl ?_
          exact k
      · refine P_bipush d_Pn_holds_20 (-3) rfl ?_
        refine P_iret d_Pn_holds_22 rfl ?_
        exact R_i k (by unfold aHol; rw [if_neg hA, if_pos (toInt_neg dd1)])
    · refine P_bipush d_Pn_holds_13 (-2) rfl ?_
      refine P_iret d_Pn_holds_15 rfl ?_
      exact R_i k (by unfold aHol; rw [if_pos ⟨c1, by assumption⟩])

theorem c_Pn_promise {X : CX} {dl : List (Nat × Nat)} {mI : Nat → Nat → Int32} {dr : Nat → Nat → Nat} {Q : Option Value → AH → Prop} {T : TD} (hw : TW T) (hT : TR 33 T mI) {σ : AS} (hS : SC 53 T σ mI) (hW : SV T σ) {p w : Int32} (k : Q (some (.int (aPro T σ p w))) (hp X dl mI dr)) : EW X m_Pn_promise 0 (enL m_Pn_promise.2.2.1 [.ref 32, .int p, .int w]) [] (hp X dl mI dr) Q := by
  show EW X m_Pn_promise 0 [.ref 32, .int p, .int w] [] (hp X dl mI dr) Q
  have hw1 := hw.1
  have hw2 := hw.2.1
  refine g_aload_n d_Pn_promise_0 rfl ?_
  refine g_iload_n d_Pn_promise_1 rfl ?_
  refine C_V1 d_Pn_promise_2 k_Pn_127 rfl (Nat.le_of_ble_eq_true rfl) (by decide) (Nat.le_of_ble_eq_true rfl) ?_
  refine (c_Pn_isPromise hT.2.1 (by omega)) ?_
  refine B_ne d_Pn_promise_5 11 (by decide) (fun c1 => ?_) (fun c1 => ?_)
  · have hc := c1
    obtain ⟨j, hj, rfl⟩ := inN_of c1 (by omega)
    have ej : tN (nI j) = j := tN_nI (by omega)
    have e : aPro T σ (nI j) w = if w = nI 0 then nI (tkd T j) else if w = nI 1 then nI (aW σ j) else if w = nI 2 then nI (aD σ j) else if w = nI 3 then nI (tnd T j) else if w = nI 4 then hoI (aH σ j) else if w = nI 5 then bI (opn T (KO T σ) j) else -3 := by unfold aPro; rw [if_neg (fun z => z c1), ej]
    rw [e] at k
    clear e
    refine g_iload_n d_Pn_promise_11 rfl ?_
    by_cases q0 : w = nI 0
    · rw [q0]
      refine P_tableIn d_Pn_promise_12 (40) 52 (by decide) (by decide) rfl (by decide) ?_
      refine g_aload_n d_Pn_promise_52 rfl ?_
      refine H_getR 33 d_Pn_promise_53 f_Pn_10.g rfl rfl (by decide) rfl ?_
      refine H_getR 37 d_Pn_promise_56 f_Pn_130 rfl rfl (by decide) rfl ?_
      refine g_iload_n d_Pn_promise_59 rfl ?_
      refine H_ialdN d_Pn_promise_60 rfl rfl (by omega) (by decide) ?_
      refine T_int (nI (tkd T j)) (hT.2.2.2 j hj).1 ?_
      refine P_iret d_Pn_promise_61 rfl ?_
      exact R_i k (by rw [if_pos q0])
    by_cases q1 : w = nI 1
    · rw [q1]
      refine P_tableIn d_Pn_promise_12 (50) 62 (by decide) (by decide) rfl (by decide) ?_
      refine g_aload_n d_Pn_promise_62 rfl ?_
      refine H_getR 53 d_Pn_promise_63 f_Pn_31.g rfl rfl (by decide) rfl ?_
      refine H_getR 55 d_Pn_promise_66 f_Pn_133 rfl rfl (by decide) rfl ?_
      refine g_iload_n d_Pn_promise_69 rfl ?_
      refine H_ialdN d_Pn_promise_70 rfl rfl (by omega) (by decide) ?_
      refine T_int (nI (aW σ j)) (hS.2.2.2.1 j hj).1 ?_
      refine P_iret d_Pn_promise_71 rfl ?_
      exact R_i k (by rw [if_neg q0, if_pos q1])
    by_cases q2 : w = nI 2
    · rw [q2]
      refine P_tableIn d_Pn_promise_12 (60) 72 (by decide) (by decide) rfl (by decide) ?_
      refine g_aload_n d_Pn_promise_72 rfl ?_
      refine H_getR 53 d_Pn_promise_73 f_Pn_31.g rfl rfl (by decide) rfl ?_
      refine H_getR 56 d_Pn_promise_76 f_Pn_136 rfl rfl (by decide) rfl ?_
      refine g_iload_n d_Pn_promise_79 rfl ?_
      refine H_ialdN d_Pn_promise_80 rfl rfl (by omega) (by decide) ?_
      refine T_int (nI (aD σ j)) (hS.2.2.2.1 j hj).2.1 ?_
      refine P_iret d_Pn_promise_81 rfl ?_
      exact R_i k (by rw [if_neg q0, if_neg q1, if_pos q2])
    by_cases q3 : w = nI 3
    · rw [q3]
      refine P_tableIn d_Pn_promise_12 (70) 82 (by decide) (by decide) rfl (by decide) ?_
      refine g_aload_n d_Pn_promise_82 rfl ?_
      refine H_getR 33 d_Pn_promise_83 f_Pn_10.g rfl rfl (by decide) rfl ?_
      refine H_getR 39 d_Pn_promise_86 f_Pn_139 rfl rfl (by decide) rfl ?_
      refine g_iload_n d_Pn_promise_89 rfl ?_
      refine H_ialdN d_Pn_promise_90 rfl rfl (by omega) (by decide) ?_
      refine T_int (nI (tnd T j)) (hT.2.2.2 j hj).2.2.1 ?_
      refine P_iret d_Pn_promise_91 rfl ?_
      exact R_i k (by rw [if_neg q0, if_neg q1, if_neg q2, if_pos q3])
    by_cases q4 : w = nI 4
    · rw [q4]
      refine P_tableIn d_Pn_promise_12 (80) 92 (by decide) (by decide) rfl (by decide) ?_
      refine g_aload_n d_Pn_promise_92 rfl ?_
      refine H_getR 53 d_Pn_promise_93 f_Pn_31.g rfl rfl (by decide) rfl ?_
      refine H_getR 57 d_Pn_promise_96 f_Pn_142 rfl rfl (by decide) rfl ?_
      refine g_iload_n d_Pn_promise_99 rfl ?_
      refine H_ialdN d_Pn_promise_100 rfl rfl (by omega) (by decide) ?_
      refine T_int (hoI (aH σ j)) (hS.2.2.2.1 j hj).2.2 ?_
      refine P_iret d_Pn_promise_101 rfl ?_
      exact R_i k (by rw [if_neg q0, if_neg q1, if_neg q2, if_neg q3, if_pos q4])
    by_cases q5 : w = nI 5
    · rw [q5]
      refine P_tableIn d_Pn_promise_12 (90) 102 (by decide) (by decide) rfl (by decide) ?_
      refine g_aload_n d_Pn_promise_102 rfl ?_
      refine H_getR 53 d_Pn_promise_103 f_Pn_31.g rfl rfl (by decide) rfl ?_
      refine g_iload_n d_Pn_promise_106 rfl ?_
      refine g_aload_n d_Pn_promise_107 rfl ?_
      refine H_getR 53 d_Pn_promise_108 f_Pn_31.g rfl rfl (by decide) rfl ?_
      refine H_getI d_Pn_promise_111 f_Pn_145.g rfl rfl (by decide) ?_
      refine T_int (nI (KO T σ)) hS.2.1 ?_
      refine C_V2 d_Pn_promise_114 k_Pn_148 rfl (Nat.le_of_ble_eq_true rfl) (by decide) (Nat.le_of_ble_eq_true rfl) ?_
      refine (c_St_isOpen st53 hw hT hj (p2_31 (kB_lt _ _) hw2)) ?_
      refine B_eq d_Pn_promise_117 124 (by decide) (fun c2 => ?_) (fun c2 => ?_)
      · refine N_iconst d_Pn_promise_124 0 rfl ?_
        refine P_iret d_Pn_promise_125 rfl ?_
        first | exact R_i k (by rw [if_neg q0, if_neg q1, if_neg q2, if_neg q3, if_neg q4, if_pos q5]; exact bI_t' (by assumption)) | exact R_i k (by rw [if_neg q0, if_neg q1, if_neg q2, if_neg q3, if_neg q4, if_pos q5]; exact bI_f' (by assumption))
      · refine N_iconst d_Pn_promise_120 1 rfl ?_
        refine P_goto d_Pn_promise_121 125 (by decide) ?_
        refine P_iret d_Pn_promise_125 rfl ?_
        first | exact R_i k (by rw [if_neg q0, if_neg q1, if_neg q2, if_neg q3, if_neg q4, if_pos q5]; exact bI_t' (by assumption)) | exact R_i k (by rw [if_neg q0, if_neg q1, if_neg q2, if_neg q3, if_neg q4, if_pos q5]; exact bI_f' (by assumption))
    refine P_tableOut d_Pn_promise_12 126 (by decide) (sw_out 5 (fun j hj => by rcases (show j = 0 ∨ j = 1 ∨ j = 2 ∨ j = 3 ∨ j = 4 ∨ j = 5 by omega) with rfl | rfl | rfl | rfl | rfl | rfl <;> assumption)) ?_
    refine P_bipush d_Pn_promise_126 (-3) rfl ?_
    refine P_iret d_Pn_promise_128 rfl ?_
    exact R_i k (by rw [if_neg q0, if_neg q1, if_neg q2, if_neg q3, if_neg q4, if_neg q5])
  · refine P_bipush d_Pn_promise_8 (-2) rfl ?_
    refine P_iret d_Pn_promise_10 rfl ?_
    exact R_i k (by unfold aPro; rw [if_pos c1])

theorem c_Pn_as {X : CX} {dl : List (Nat × Nat)} {mI : Nat → Nat → Int32} {dr : Nat → Nat → Nat} {Q : Option Value → AH → Prop} {T : TD} (hw : TW T) (hT : TR 33 T mI) {p f : Int32} (k : Q (some (.int (aAs T p f))) (hp X dl mI dr)) : EW X m_Pn_as 0 (enL m_Pn_as.2.2.1 [.ref 32, .int p, .int f]) [] (hp X dl mI dr) Q := by
  show EW X m_Pn_as 0 [.ref 32, .int p, .int f] [] (hp X dl mI dr) Q
  have hw1 := hw.1
  have hw2 := hw.2.1
  refine g_aload_n d_Pn_as_0 rfl ?_
  refine g_iload_n d_Pn_as_1 rfl ?_
  refine C_V1 d_Pn_as_2 k_Pn_127 rfl (Nat.le_of_ble_eq_true rfl) (by decide) (Nat.le_of_ble_eq_true rfl) ?_
  refine (c_Pn_isPromise hT.2.1 (by omega)) ?_
  refine B_ne d_Pn_as_5 11 (by decide) (fun c1 => ?_) (fun c1 => ?_)
  · refine g_iload_n d_Pn_as_11 rfl ?_
    refine N_iconst d_Pn_as_12 0 rfl ?_
    refine N_iconst d_Pn_as_13 5 rfl ?_
    refine C_S3 d_Pn_as_14 k_Pn_71 (Nat.le_of_ble_eq_true rfl) (by decide) (Nat.le_of_ble_eq_true rfl) ?_
    refine c_Pn_isWithin ?_
    refine B_ne d_Pn_as_17 23 (by decide) (fun c2 => ?_) (fun c2 => ?_)
    · have hf := (in_N (b := 5) (by decide)).mp c2
      have hcc := c2
      have hc := c1
      obtain ⟨j, hj, rfl⟩ := inN_of c1 (by omega)
      have ej : tN (nI j) = j := tN_nI (by omega)
      obtain ⟨i, hi, rfl⟩ := inN_of hf (by decide)
      have ei : tN (nI i) = i := tN_nI (by omega)
      refine g_aload_n d_Pn_as_23 rfl ?_
      refine H_getR 33 d_Pn_as_24 f_Pn_10.g rfl rfl (by decide) rfl ?_
      refine H_getR 37 d_Pn_as_27 f_Pn_130 rfl rfl (by decide) rfl ?_
      refine g_iload_n d_Pn_as_30 rfl ?_
      refine H_ialdN d_Pn_as_31 rfl rfl (by omega) (by decide) ?_
      refine T_int (nI (tkd T j)) (hT.2.2.2 j hj).1 ?_
      refine g_iload_n d_Pn_as_32 rfl ?_
      refine C_S2 d_Pn_as_33 k_Pn_152 (Nat.le_of_ble_eq_true rfl) (by decide) (Nat.le_of_ble_eq_true rfl) ?_
      refine (c_Kd_isUnder (hw.2.2.2 j hj).1 hi) ?_
      refine B_ne d_Pn_as_36 42 (by decide) (fun c3 => ?_) (fun c3 => ?_)
      · refine g_aload_n d_Pn_as_42 rfl ?_
        refine H_getR 33 d_Pn_as_43 f_Pn_10.g rfl rfl (by decide) rfl ?_
        refine H_getR 37 d_Pn_as_46 f_Pn_130 rfl rfl (by decide) rfl ?_
        refine g_iload_n d_Pn_as_49 rfl ?_
        refine H_ialdN d_Pn_as_50 rfl rfl (by omega) (by decide) ?_
        refine T_int (nI (tkd T j)) (hT.2.2.2 j hj).1 ?_
        refine N_iconst d_Pn_as_51 5 rfl ?_
        refine C_S2 d_Pn_as_52 k_Pn_157 (Nat.le_of_ble_eq_true rfl) (by decide) (Nat.le_of_ble_eq_true rfl) ?_
        refine (c_Kd_does (hw.2.2.2 j hj).1 (by decide)) ?_
        refine P_iret d_Pn_as_55 rfl ?_
        exact R_i k (by unfold aAs; rw [if_neg (fun z => z c1), if_neg (fun z => z hf), ej, ei, if_neg (fun z => z c3)])
      · refine P_bipush d_Pn_as_39 (-4) rfl ?_
        refine P_iret d_Pn_as_41 rfl ?_
        exact R_i k (by unfold aAs; rw [if_neg (fun z => z c1), if_neg (fun z => z hf), ej, ei, if_pos c3])
    · refine P_bipush d_Pn_as_20 (-3) rfl ?_
      refine P_iret d_Pn_as_22 rfl ?_
      exact R_i k (by unfold aAs; rw [if_neg (fun z => z c1), if_pos (fun z => c2 ((in_N (by decide)).mpr z))])
  · refine P_bipush d_Pn_as_8 (-2) rfl ?_
    refine P_iret d_Pn_as_10 rfl ?_
    exact R_i k (by unfold aAs; rw [if_pos c1])

theorem c_Pn_behind {X : CX} {dl : List (Nat × Nat)} {mI : Nat → Nat → Int32} {dr : Nat → Nat → Nat} {Q : Option Value → AH → Prop} {T : TD} (hw : TW T) (hT : TR 33 T mI) {σ : AS} (hS : SC 53 T σ mI) (hW : SV T σ) {p n w : Int32} (k : ∀ mI', Fx 111 120 mI mI' → Q (some (.int (aBe T σ p n w))) (hp X dl mI' dr)) : EW X m_Pn_behind 0 (enL m_Pn_behind.2.2.1 [.ref 32, .int p, .int n, .int w]) [] (hp X dl mI dr) Q := by
  show EW X m_Pn_behind 0 [.ref 32, .int p, .int n, .int w, jk] [] (hp X dl mI dr) Q
  have hw1 := hw.1
  have hw2 := hw.2.1
  refine g_aload_n d_Pn_behind_0 rfl ?_
  refine g_iload_n d_Pn_behind_1 rfl ?_
  refine C_V1 d_Pn_behind_2 k_Pn_127 rfl (Nat.le_of_ble_eq_true rfl) (by decide) (Nat.le_of_ble_eq_true rfl) ?_
  refine (c_Pn_isPromise hT.2.1 (by omega)) ?_
  refine B_ne d_Pn_behind_5 11 (by decide) (fun c1 => ?_) (fun c1 => ?_)
  · refine g_iload_n d_Pn_behind_11 rfl ?_
    refine N_iconst d_Pn_behind_12 0 rfl ?_
    refine N_bipush d_Pn_behind_13 60 rfl ?_
    refine C_S3 d_Pn_behind_15 k_Pn_71 (Nat.le_of_ble_eq_true rfl) (by decide) (Nat.le_of_ble_eq_true rfl) ?_
    refine c_Pn_isWithin ?_
    refine B_eq d_Pn_behind_18 30 (by decide) (fun c2 => ?_) (fun c2 => ?_)
    · refine P_bipush d_Pn_behind_30 (-3) rfl ?_
      refine P_iret d_Pn_behind_32 rfl ?_
      exact R_i (k _ Fx.rf) (by unfold aBe; rw [if_neg (fun z => z c1), if_pos (by first | exact Or.inl (fun z => absurd ((in_N (by decide)).mpr z) (by assumption)) | exact Or.inr (fun z => absurd ((in_N (by decide)).mpr z) (by assumption)))])
    · refine g_iload_n d_Pn_behind_21 rfl ?_
      refine N_iconst d_Pn_behind_22 0 rfl ?_
      refine N_iconst d_Pn_behind_23 1 rfl ?_
      refine C_S3 d_Pn_behind_24 k_Pn_71 (Nat.le_of_ble_eq_true rfl) (by decide) (Nat.le_of_ble_eq_true rfl) ?_
      refine c_Pn_isWithin ?_
      refine B_ne d_Pn_behind_27 33 (by decide) (fun c3 => ?_) (fun c3 => ?_)
      · have hn := (in_N (b := 60) (by decide)).mp c2
        have hw3 := (in_N (b := 1) (by decide)).mp c3
        have hcc2 := c2
        have hcc3 := c3
        have hc := c1
        obtain ⟨j, hj, rfl⟩ := inN_of c1 (by omega)
        have ej : tN (nI j) = j := tN_nI (by omega)
        obtain ⟨i, hi, rfl⟩ := inN_of hn (by decide)
        obtain ⟨y, hy, rfl⟩ := inN_of hw3 (by decide)
        have e : aBe T σ (nI j) (nI i) (nI y) = if nI y = nI 0 then nI (aD (yrN T i σ) j) else hoI (aH (yrN T i σ) j) := by unfold aBe; rw [if_neg (fun z => z c1), if_neg (fun z => z.elim (fun q => q hn) (fun q => q hw3)), ej, tN_nI (by omega)]
        rw [e] at k
        refine g_aload_n d_Pn_behind_33 rfl ?_
        refine H_getR 111 d_Pn_behind_34 f_Pn_53.g rfl rfl (by decide) rfl ?_
        refine g_aload_n d_Pn_behind_37 rfl ?_
        refine H_getR 53 d_Pn_behind_38 f_Pn_31.g rfl rfl (by decide) rfl ?_
        refine g_iload_n d_Pn_behind_41 rfl ?_
        refine C_V2 d_Pn_behind_42 k_Pn_186 rfl (Nat.le_of_ble_eq_true rfl) (by decide) (Nat.le_of_ble_eq_true rfl) ?_
        refine c_Fo_stateBehind hw hT hS hW (by omega) (fun mI1 hS1 hW1 hF1 => ?_)
        refine S_astore_5_4 d_Pn_behind_45 rfl rfl ?_
        refine g_iload_n d_Pn_behind_47 rfl ?_
        refine N_if_ne d_Pn_behind_48 61 (by decide) (by omega) (fun c4 => ?_) (fun c4 => ?_)
        · refine g_aload d_Pn_behind_61 rfl ?_
          refine H_getR 119 d_Pn_behind_63 f_Pn_142 rfl rfl (by decide) rfl ?_
          refine g_iload_n d_Pn_behind_66 rfl ?_
          refine H_ialdN d_Pn_behind_67 rfl rfl (by omega) (by decide) ?_
          refine T_int (hoI (aH (yrN T i σ) j)) (hS1.2.2.2.1 j hj).2.2 ?_
          refine P_iret d_Pn_behind_68 rfl ?_
          first | (have hy0 : y = 0 := by assumption
                   exact R_i (k _ hF1) (by rw [if_pos (by rw [hy0])])) | exact R_i (k _ hF1) (by rw [if_neg (fun z => by rw [nI_eq (by omega) (by omega)] at z; omega)])
        · refine g_aload d_Pn_behind_51 rfl ?_
          refine H_getR 118 d_Pn_behind_53 f_Pn_136 rfl rfl (by decide) rfl ?_
          refine g_iload_n d_Pn_behind_56 rfl ?_
          refine H_ialdN d_Pn_behind_57 rfl rfl (by omega) (by decide) ?_
          refine T_int (nI (aD (yrN T i σ) j)) (hS1.2.2.2.1 j hj).2.1 ?_
          refine P_goto d_Pn_behind_58 68 (by decide) ?_
          refine P_iret d_Pn_behind_68 rfl ?_
          first | (have hy0 : y = 0 := by assumption
                   exact R_i (k _ hF1) (by rw [if_pos (by rw [hy0])])) | exact R_i (k _ hF1) (by rw [if_neg (fun z => by rw [nI_eq (by omega) (by omega)] at z; omega)])
      · refine P_bipush d_Pn_behind_30 (-3) rfl ?_
        refine P_iret d_Pn_behind_32 rfl ?_
        exact R_i (k _ Fx.rf) (by unfold aBe; rw [if_neg (fun z => z c1), if_pos (by first | exact Or.inl (fun z => absurd ((in_N (by decide)).mpr z) (by assumption)) | exact Or.inr (fun z => absurd ((in_N (by decide)).mpr z) (by assumption)))])
  · refine P_bipush d_Pn_behind_8 (-2) rfl ?_
    refine P_iret d_Pn_behind_10 rfl ?_
    exact R_i (k _ Fx.rf) (by unfold aBe; rw [if_pos c1])

theorem c_Pn_keeps {X : CX} {dl : List (Nat × Nat)} {mI : Nat → Nat → Int32} {dr : Nat → Nat → Nat} {Q : Option Value → AH → Prop} {T : TD} (hw : TW T) (hT : TR 33 T mI) {σ : AS} (hS : SC 53 T σ mI) (hW : SV T σ) {p : Int32} (k : ∀ mI', Fx 111 120 mI mI' → Q (some (.int (aKp T σ p))) (hp X dl mI' dr)) : EW X m_Pn_keeps 0 (enL m_Pn_keeps.2.2.1 [.ref 32, .int p]) [] (hp X dl mI dr) Q := by
  show EW X m_Pn_keeps 0 [.ref 32, .int p] [] (hp X dl mI dr) Q
  have hw1 := hw.1
  have hw2 := hw.2.1
  refine g_aload_n d_Pn_keeps_0 rfl ?_
  refine g_iload_n d_Pn_keeps_1 rfl ?_
  refine C_V1 d_Pn_keeps_2 k_Pn_127 rfl (Nat.le_of_ble_eq_true rfl) (by decide) (Nat.le_of_ble_eq_true rfl) ?_
  refine (c_Pn_isPromise hT.2.1 (by omega)) ?_
  refine B_eq d_Pn_keeps_5 23 (by decide) (fun c1 => ?_) (fun c1 => ?_)
  · refine P_bipush d_Pn_keeps_23 (-2) rfl ?_
    refine P_iret d_Pn_keeps_25 rfl ?_
    exact R_i (k _ Fx.rf) (by unfold aKp; rw [if_neg c1])
  · have hc := c1
    obtain ⟨j, hj, rfl⟩ := inN_of c1 (by omega)
    have ej : tN (nI j) = j := tN_nI (by omega)
    refine g_aload_n d_Pn_keeps_8 rfl ?_
    refine H_getR 111 d_Pn_keeps_9 f_Pn_53.g rfl rfl (by decide) rfl ?_
    refine g_aload_n d_Pn_keeps_12 rfl ?_
    refine H_getR 53 d_Pn_keeps_13 f_Pn_31.g rfl rfl (by decide) rfl ?_
    refine g_iload_n d_Pn_keeps_16 rfl ?_
    refine C_V2 d_Pn_keeps_17 k_Pn_190 rfl (Nat.le_of_ble_eq_true rfl) (by decide) (Nat.le_of_ble_eq_true rfl) ?_
    refine c_Fo_yearsUntilKept hw hT hS hW hj (fun mI1 hF1 => ?_)
    refine P_goto d_Pn_keeps_20 25 (by decide) ?_
    refine P_iret d_Pn_keeps_25 rfl ?_
    exact R_i (k _ hF1) (by unfold aKp; rw [if_pos c1, ej])

theorem c_Pn_just {X : CX} {dl : List (Nat × Nat)} {mI : Nat → Nat → Int32} {dr : Nat → Nat → Nat} {Q : Option Value → AH → Prop} {T : TD} (hw : TW T) (hT : TR 33 T mI) {σ : AS} (hS : SC 53 T σ mI) (hW : SV T σ) {m : Int32} (k : ∀ mI', Fx 111 120 mI mI' → Q (some (.int (aJu T σ m))) (hp X dl mI' dr)) : EW X m_Pn_just 0 (enL m_Pn_just.2.2.1 [.ref 32, .int m]) [] (hp X dl mI dr) Q := by
  show EW X m_Pn_just 0 [.ref 32, .int m] [] (hp X dl mI dr) Q
  have hw1 := hw.1
  have hw2 := hw.2.1
  refine g_aload_n d_Pn_just_0 rfl ?_
  refine g_iload_n d_Pn_just_1 rfl ?_
  refine C_V1 d_Pn_just_2 k_Pn_106 rfl (Nat.le_of_ble_eq_true rfl) (by decide) (Nat.le_of_ble_eq_true rfl) ?_
  refine (c_Pn_isPerson hT.1 (by omega)) ?_
  refine B_eq d_Pn_just_5 23 (by decide) (fun c1 => ?_) (fun c1 => ?_)
  · refine P_bipush d_Pn_just_23 (-2) rfl ?_
    refine P_iret d_Pn_just_25 rfl ?_
    exact R_i (k _ Fx.rf) (by unfold aJu; rw [if_neg c1])
  · have hc := c1
    obtain ⟨j, hj, rfl⟩ := inN_of c1 (by omega)
    have ej : tN (nI j) = j := tN_nI (by omega)
    refine g_aload_n d_Pn_just_8 rfl ?_
    refine H_getR 111 d_Pn_just_9 f_Pn_53.g rfl rfl (by decide) rfl ?_
    refine g_aload_n d_Pn_just_12 rfl ?_
    refine H_getR 53 d_Pn_just_13 f_Pn_31.g rfl rfl (by decide) rfl ?_
    refine g_iload_n d_Pn_just_16 rfl ?_
    refine C_V2 d_Pn_just_17 k_Pn_194 rfl (Nat.le_of_ble_eq_true rfl) (by decide) (Nat.le_of_ble_eq_true rfl) ?_
    refine c_Fo_yearsUntilFree hw hT hS hW hj (fun mI1 hF1 => ?_)
    refine P_goto d_Pn_just_20 25 (by decide) ?_
    refine P_iret d_Pn_just_25 rfl ?_
    exact R_i (k _ hF1) (by unfold aJu; rw [if_pos c1, ej])

theorem c_Pn_stuck {X : CX} {dl : List (Nat × Nat)} {mI : Nat → Nat → Int32} {dr : Nat → Nat → Nat} {Q : Option Value → AH → Prop} {T : TD} (hw : TW T) (hT : TR 33 T mI) {σ : AS} (hS : SC 53 T σ mI) (hW : SV T σ) (k : Q (some (.int (nI (nvN T (KO T σ))))) (hp X dl mI dr)) : EW X m_Pn_stuck 0 (enL m_Pn_stuck.2.2.1 [.ref 32]) [] (hp X dl mI dr) Q := by
  show EW X m_Pn_stuck 0 [.ref 32] [] (hp X dl mI dr) Q
  have hw1 := hw.1
  have hw2 := hw.2.1
  refine g_aload_n d_Pn_stuck_0 rfl ?_
  refine H_getR 53 d_Pn_stuck_1 f_Pn_31.g rfl rfl (by decide) rfl ?_
  refine C_V0 d_Pn_stuck_4 k_Pn_197 rfl (Nat.le_of_ble_eq_true rfl) (by decide) (Nat.le_of_ble_eq_true rfl) ?_
  refine (c_St_neverKept st53 hw hT hS hW (Nat.lt_of_lt_of_le (kB_lt _ _) (Nat.pow_le_pow_right (by decide) hw2))) ?_
  refine P_iret d_Pn_stuck_7 rfl ?_
  exact k

theorem wg_nz {T : TD} {n : Nat} {τ : AS} {u : Nat → Int32} {q : BQ} : (wg T n τ u q).1 ≠ 0 := by
  unfold wg
  split
  · exact Nat.succ_ne_zero _
  · rename_i h; omega
theorem fo_nz {T : TD} {n : Nat} {σ : AS} {m : Nat} : ∀ (d : Nat) (l : List Nat) (q : BQ), q.1 ≠ 0 ∨ 0 < d → (fo T n σ m d l q).1 ≠ 0
  | 0, l, q, h => by rw [fo]; rcases h with h | h; exact h; omega
  | d + 1, l, q, h => by
    rw [fo]
    split
    · exact wg_nz
    · exact fo_nz d _ _ (Or.inl wg_nz)
theorem dgt_0 {b s j : Nat} : dgt b s 0 j = 0 := by unfold dgt; rw [Nat.zero_div, Nat.zero_mod]
theorem alB_0 {σ : AS} {b s : Nat} : ∀ j, alB σ (dgt b s 0) j = true
  | 0 => rfl
  | j + 1 => by rw [alB, alB_0 j, dgt_0]; rfl
theorem gf_nz {T : TD} {n : Nat} {σ : AS} {s : Nat} (w : Nat) (hw : 0 < w) : (gf T n σ s w).1 ≠ 0 := by
  obtain ⟨w, rfl⟩ : ∃ v, w = v + 1 := ⟨w - 1, by omega⟩
  clear hw
  induction w with
  | zero => rw [gf, if_pos (alB_0 s)]; exact wg_nz
  | succ w ih =>
    rw [gf]
    split
    · exact wg_nz
    · exact ih
theorem c_Pn_order {X : CX} {dl : List (Nat × Nat)} {mI : Nat → Nat → Int32} {dr : Nat → Nat → Nat} {Q : Option Value → AH → Prop} {T : TD} (hw : TW T) (hT : TR 33 T mI) {σ : AS} (hS : SC 53 T σ mI) (hW : SV T σ) {m n i : Int32} (k : ∀ mI', Fx 111 120 mI mI' → Q (some (.int (aOr T σ m n i))) (hp X dl mI' dr)) : EW X m_Pn_order 0 (enL m_Pn_order.2.2.1 [.ref 32, .int m, .int n, .int i]) [] (hp X dl mI dr) Q := by
  show EW X m_Pn_order 0 [.ref 32, .int m, .int n, .int i] [] (hp X dl mI dr) Q
  have hw1 := hw.1
  have hw2 := hw.2.1
  refine g_aload_n d_Pn_order_0 rfl ?_
  refine g_iload_n d_Pn_order_1 rfl ?_
  refine C_V1 d_Pn_order_2 k_Pn_106 rfl (Nat.le_of_ble_eq_true rfl) (by decide) (Nat.le_of_ble_eq_true rfl) ?_
  refine (c_Pn_isPerson hT.1 (by omega)) ?_
  refine B_ne d_Pn_order_5 11 (by decide) (fun c1 => ?_) (fun c1 => ?_)
  · refine g_iload_n d_Pn_order_11 rfl ?_
    refine N_iconst d_Pn_order_12 1 rfl ?_
    refine N_bipush d_Pn_order_13 30 rfl ?_
    refine C_S3 d_Pn_order_15 k_Pn_71 (Nat.le_of_ble_eq_true rfl) (by decide) (Nat.le_of_ble_eq_true rfl) ?_
    refine c_Pn_isWithin ?_
    refine B_eq d_Pn_order_18 26 (by decide) (fun c2 => ?_) (fun c2 => ?_)
    · refine P_bipush d_Pn_order_26 (-3) rfl ?_
      refine P_iret d_Pn_order_28 rfl ?_
      have hA : ¬ (1 ≤ n.toInt ∧ n.toInt ≤ 30) ∨ i.toInt < -1 := by
        first
          | exact Or.inl (fun z => absurd ((in_lo (a := 1) (b := 30) (by decide) (by decide)).mpr z) (by assumption))
          | (right
             have y : ¬ (-1 : Int32) ≤ i := by assumption
             have y2 := mt Int32.le_iff_toInt_le.mpr y
             have e0 : (-1 : Int32).toInt = -1 := rfl
             omega)
      exact R_i (k _ Fx.rf) (by unfold aOr; rw [if_neg (fun z => z c1), if_pos hA])
    · refine g_iload_n d_Pn_order_21 rfl ?_
      refine P_iconst d_Pn_order_22 (-1) rfl ?_
      refine P_icmp_ge d_Pn_order_23 29 (by decide) (fun c3 => ?_) (fun c3 => ?_)
      · have hn := (in_lo (a := 1) (b := 30) (by decide) (by decide)).mp c2
        have hi1 : (-1 : Int) ≤ i.toInt := Int32.le_iff_toInt_le.mp (show (-1 : Int32) ≤ i by assumption)
        have hA : ¬ (¬ (1 ≤ n.toInt ∧ n.toInt ≤ 30) ∨ i.toInt < -1) := fun z => z.elim (fun y => y hn) (fun y => by omega)
        have hcc2 := c2
        have hc := c1
        obtain ⟨j, hj, rfl⟩ := inN_of c1 (by omega)
        have ej : tN (nI j) = j := tN_nI (by omega)
        obtain ⟨u, hu1, hu2, rfl⟩ := in_ex (by decide) hn
        have hcl := cntH_le (aH σ) j (tP T)
        have e : aOr T σ (nI j) (nI u) i = if 5 < cntH (aH σ) j (tP T) then -1 else ansI (Lm σ j).length (fo T u σ j 120 (hpl (aH σ) j (tP T)) (0, fun _ => 0)) i := by unfold aOr; rw [if_neg (fun z => z c1), if_neg hA, ej, tN_nI (by omega)]
        rw [e] at k
        refine g_aload_n d_Pn_order_29 rfl ?_
        refine H_getR 53 d_Pn_order_30 f_Pn_31.g rfl rfl (by decide) rfl ?_
        refine g_iload_n d_Pn_order_33 rfl ?_
        refine C_V1 d_Pn_order_34 k_Pn_119 rfl (Nat.le_of_ble_eq_true rfl) (by decide) (Nat.le_of_ble_eq_true rfl) ?_
        refine (c_St_howManyHeldBy st53 hw hT hS hW (by omega)) ?_
        refine N_iconst d_Pn_order_37 5 rfl ?_
        refine N_icmp_le d_Pn_order_38 43 (by decide) ⟨by omega, by omega⟩ (fun c4 => ?_) (fun c4 => ?_)
        · refine g_aload_n d_Pn_order_43 rfl ?_
          refine H_getR 111 d_Pn_order_44 f_Pn_53.g rfl rfl (by decide) rfl ?_
          refine g_aload_n d_Pn_order_47 rfl ?_
          refine H_getR 53 d_Pn_order_48 f_Pn_31.g rfl rfl (by decide) rfl ?_
          refine g_iload_n d_Pn_order_51 rfl ?_
          refine g_iload_n d_Pn_order_52 rfl ?_
          refine C_V3 d_Pn_order_53 k_Pn_201 rfl (Nat.le_of_ble_eq_true rfl) (by decide) (Nat.le_of_ble_eq_true rfl) ?_
          refine c_Fo_findBestOrder hw hT hS hW (by omega) (by omega) (by omega) (fun mI1 hB1 hF1 => ?_)
          refine g_aload_n d_Pn_order_56 rfl ?_
          refine H_getR 111 d_Pn_order_57 f_Pn_53.g rfl rfl (by decide) rfl ?_
          refine g_iload_n d_Pn_order_60 rfl ?_
          refine C_V1 d_Pn_order_61 k_Pn_205 rfl (Nat.le_of_ble_eq_true rfl) (by decide) (Nat.le_of_ble_eq_true rfl) ?_
          refine c_Fo_answerAt (by rw [Lm_len hW]; omega) hB1 (fo_nz _ _ _ (Or.inr (by decide))) ?_
          refine P_iret d_Pn_order_64 rfl ?_
          exact R_i (k _ hF1) (by rw [if_neg (by omega)])
        · refine P_iconst d_Pn_order_41 (-1) rfl ?_
          refine P_iret d_Pn_order_42 rfl ?_
          exact R_i (k _ Fx.rf) (by rw [if_pos (by omega)])
      · refine P_bipush d_Pn_order_26 (-3) rfl ?_
        refine P_iret d_Pn_order_28 rfl ?_
        have hA : ¬ (1 ≤ n.toInt ∧ n.toInt ≤ 30) ∨ i.toInt < -1 := by
          first
            | exact Or.inl (fun z => absurd ((in_lo (a := 1) (b := 30) (by decide) (by decide)).mpr z) (by assumption))
            | (right
               have y : ¬ (-1 : Int32) ≤ i := by assumption
               have y2 := mt Int32.le_iff_toInt_le.mpr y
               have e0 : (-1 : Int32).toInt = -1 := rfl
               omega)
        exact R_i (k _ Fx.rf) (by unfold aOr; rw [if_neg (fun z => z c1), if_pos hA])
  · refine P_bipush d_Pn_order_8 (-2) rfl ?_
    refine P_iret d_Pn_order_10 rfl ?_
    exact R_i (k _ Fx.rf) (by unfold aOr; rw [if_pos c1])

theorem c_Pn_godfathers {X : CX} {dl : List (Nat × Nat)} {mI : Nat → Nat → Int32} {dr : Nat → Nat → Nat} {Q : Option Value → AH → Prop} {T : TD} (hw : TW T) (hT : TR 33 T mI) {σ : AS} (hS : SC 53 T σ mI) (hW : SV T σ) {n i : Int32} (k : ∀ mI', Fx 111 120 mI mI' → Q (some (.int (aGo T σ n i))) (hp X dl mI' dr)) : EW X m_Pn_godfathers 0 (enL m_Pn_godfathers.2.2.1 [.ref 32, .int n, .int i]) [] (hp X dl mI dr) Q := by
  show EW X m_Pn_godfathers 0 [.ref 32, .int n, .int i] [] (hp X dl mI dr) Q
  have hw1 := hw.1
  have hw2 := hw.2.1
  have hii : ((-1 : Int32) ≤ i ∧ i ≤ nI 2) ↔ (-1 ≤ i.toInt ∧ i.toInt ≤ 2) := by
    rw [Int32.le_iff_toInt_le, Int32.le_iff_toInt_le, nI_toInt (by decide)]; exact Iff.rfl
  refine g_iload_n d_Pn_godfathers_0 rfl ?_
  refine N_iconst d_Pn_godfathers_1 0 rfl ?_
  refine N_bipush d_Pn_godfathers_2 30 rfl ?_
  refine C_S3 d_Pn_godfathers_4 k_Pn_71 (Nat.le_of_ble_eq_true rfl) (by decide) (Nat.le_of_ble_eq_true rfl) ?_
  refine c_Pn_isWithin ?_
  refine B_eq d_Pn_godfathers_7 19 (by decide) (fun c1 => ?_) (fun c1 => ?_)
  · refine P_bipush d_Pn_godfathers_19 (-3) rfl ?_
    refine P_iret d_Pn_godfathers_21 rfl ?_
    exact R_i (k _ Fx.rf) (by unfold aGo; rw [if_pos (by first | exact Or.inl (fun z => absurd ((in_N (by decide)).mpr z) (by assumption)) | exact Or.inr (fun z => absurd (hii.mpr z) (by assumption)))])
  · refine g_iload_n d_Pn_godfathers_10 rfl ?_
    refine P_iconst d_Pn_godfathers_11 (-1) rfl ?_
    refine N_iconst d_Pn_godfathers_12 2 rfl ?_
    refine C_S3 d_Pn_godfathers_13 k_Pn_71 (Nat.le_of_ble_eq_true rfl) (by decide) (Nat.le_of_ble_eq_true rfl) ?_
    refine c_Pn_isWithin ?_
    refine B_ne d_Pn_godfathers_16 22 (by decide) (fun c2 => ?_) (fun c2 => ?_)
    · have hn := (in_N (b := 30) (by decide)).mp c1
      have hk := hii.mp c2
      have hcc1 := c1
      obtain ⟨u, hu, rfl⟩ := inN_of hn (by decide)
      have e : aGo T σ (nI u) i = ansI (gfS T σ) (gf T u σ (gfS T σ) ((tn T + 1) ^ gfS T σ)) i := by unfold aGo; rw [if_neg (fun z => z.elim (fun y => y hn) (fun y => y hk)), tN_nI (by omega)]
      rw [e] at k
      refine g_aload_n d_Pn_godfathers_22 rfl ?_
      refine H_getR 111 d_Pn_godfathers_23 f_Pn_53.g rfl rfl (by decide) rfl ?_
      refine g_aload_n d_Pn_godfathers_26 rfl ?_
      refine H_getR 53 d_Pn_godfathers_27 f_Pn_31.g rfl rfl (by decide) rfl ?_
      refine g_iload_n d_Pn_godfathers_30 rfl ?_
      refine C_V2 d_Pn_godfathers_31 k_Pn_208 rfl (Nat.le_of_ble_eq_true rfl) (by decide) (Nat.le_of_ble_eq_true rfl) ?_
      refine c_Fo_findBestGodfathers hw hT hS hW (by omega) (fun mI1 hB1 hF1 => ?_)
      refine g_aload_n d_Pn_godfathers_34 rfl ?_
      refine H_getR 111 d_Pn_godfathers_35 f_Pn_53.g rfl rfl (by decide) rfl ?_
      refine g_iload_n d_Pn_godfathers_38 rfl ?_
      refine C_V1 d_Pn_godfathers_39 k_Pn_205 rfl (Nat.le_of_ble_eq_true rfl) (by decide) (Nat.le_of_ble_eq_true rfl) ?_
      refine c_Fo_answerAt (show gfS T σ ≤ 5 by unfold gfS; omega) hB1 (gf_nz _ (Nat.pow_pos (by omega))) ?_
      refine P_iret d_Pn_godfathers_42 rfl ?_
      exact k _ hF1
    · refine P_bipush d_Pn_godfathers_19 (-3) rfl ?_
      refine P_iret d_Pn_godfathers_21 rfl ?_
      exact R_i (k _ Fx.rf) (by unfold aGo; rw [if_pos (by first | exact Or.inl (fun z => absurd ((in_N (by decide)).mpr z) (by assumption)) | exact Or.inr (fun z => absurd (hii.mpr z) (by assumption)))])

theorem c_Pn_peace {X : CX} {dl : List (Nat × Nat)} {mI : Nat → Nat → Int32} {dr : Nat → Nat → Nat} {Q : Option Value → AH → Prop} {T : TD} (hw : TW T) (hT : TR 33 T mI) (k : Q (some (.int (nI (lgN T (2 ^ tP T)).1))) (hp X dl mI dr)) : EW X m_Pn_peace 0 (enL m_Pn_peace.2.2.1 [.ref 32]) [] (hp X dl mI dr) Q := by
  show EW X m_Pn_peace 0 [.ref 32] [] (hp X dl mI dr) Q
  refine g_aload_n d_Pn_peace_0 rfl ?_
  refine H_getR 33 d_Pn_peace_1 f_Pn_10.g rfl rfl (by decide) rfl ?_
  refine C_V0 d_Pn_peace_4 k_Pn_212 rfl (Nat.le_of_ble_eq_true rfl) (by decide) (Nat.le_of_ble_eq_true rfl) ?_
  refine (c_Tl_largestPeacefulSet hw hT) ?_
  refine P_iret d_Pn_peace_7 rfl ?_
  exact k

theorem c_Pn_idle {X : CX} {dl : List (Nat × Nat)} {mI : Nat → Nat → Int32} {dr : Nat → Nat → Nat} {Q : Option Value → AH → Prop} {n q m w : Int32} (k : Q (some (.int (aId n q m w))) (hp X dl mI dr)) : EW X m_Pn_idle 0 (enL m_Pn_idle.2.2.1 [.ref 32, .int n, .int q, .int m, .int w]) [] (hp X dl mI dr) Q := by
  show EW X m_Pn_idle 0 [.ref 32, .int n, .int q, .int m, .int w] [] (hp X dl mI dr) Q
  refine g_iload_n d_Pn_idle_0 rfl ?_
  refine N_iconst d_Pn_idle_1 0 rfl ?_
  refine N_bipush d_Pn_idle_2 9 rfl ?_
  refine C_S3 d_Pn_idle_4 k_Pn_71 (Nat.le_of_ble_eq_true rfl) (by decide) (Nat.le_of_ble_eq_true rfl) ?_
  refine c_Pn_isWithin ?_
  refine B_eq d_Pn_idle_7 40 (by decide) (fun c1 => ?_) (fun c1 => ?_)
  · refine P_bipush d_Pn_idle_40 (-3) rfl ?_
    refine P_iret d_Pn_idle_42 rfl ?_
    exact R_i k (by unfold aId; rw [if_pos (by first | exact Or.inl (fun z => absurd ((in_N (by decide)).mpr z) (by assumption)) | exact Or.inr (Or.inl (fun z => absurd ((in_N (by decide)).mpr z) (by assumption))) | exact Or.inr (Or.inr (Or.inl (fun z => absurd ((in_N (by decide)).mpr z) (by assumption)))) | exact Or.inr (Or.inr (Or.inr (fun z => absurd ((in_N (by decide)).mpr z) (by assumption)))))])
  · refine g_iload_n d_Pn_idle_10 rfl ?_
    refine N_iconst d_Pn_idle_11 0 rfl ?_
    refine N_bipush d_Pn_idle_12 10 rfl ?_
    refine C_S3 d_Pn_idle_14 k_Pn_71 (Nat.le_of_ble_eq_true rfl) (by decide) (Nat.le_of_ble_eq_true rfl) ?_
    refine c_Pn_isWithin ?_
    refine B_eq d_Pn_idle_17 40 (by decide) (fun c2 => ?_) (fun c2 => ?_)
    · refine P_bipush d_Pn_idle_40 (-3) rfl ?_
      refine P_iret d_Pn_idle_42 rfl ?_
      exact R_i k (by unfold aId; rw [if_pos (by first | exact Or.inl (fun z => absurd ((in_N (by decide)).mpr z) (by assumption)) | exact Or.inr (Or.inl (fun z => absurd ((in_N (by decide)).mpr z) (by assumption))) | exact Or.inr (Or.inr (Or.inl (fun z => absurd ((in_N (by decide)).mpr z) (by assumption)))) | exact Or.inr (Or.inr (Or.inr (fun z => absurd ((in_N (by decide)).mpr z) (by assumption)))))])
    · refine g_iload_n d_Pn_idle_20 rfl ?_
      refine N_iconst d_Pn_idle_21 0 rfl ?_
      refine N_bipush d_Pn_idle_22 9 rfl ?_
      refine C_S3 d_Pn_idle_24 k_Pn_71 (Nat.le_of_ble_eq_true rfl) (by decide) (Nat.le_of_ble_eq_true rfl) ?_
      refine c_Pn_isWithin ?_
      refine B_eq d_Pn_idle_27 40 (by decide) (fun c3 => ?_) (fun c3 => ?_)
      · refine P_bipush d_Pn_idle_40 (-3) rfl ?_
        refine P_iret d_Pn_idle_42 rfl ?_
        exact R_i k (by unfold aId; rw [if_pos (by first | exact Or.inl (fun z => absurd ((in_N (by decide)).mpr z) (by assumption)) | exact Or.inr (Or.inl (fun z => absurd ((in_N (by decide)).mpr z) (by assumption))) | exact Or.inr (Or.inr (Or.inl (fun z => absurd ((in_N (by decide)).mpr z) (by assumption)))) | exact Or.inr (Or.inr (Or.inr (fun z => absurd ((in_N (by decide)).mpr z) (by assumption)))))])
      · refine g_iload d_Pn_idle_30 rfl ?_
        refine N_iconst d_Pn_idle_32 0 rfl ?_
        refine N_iconst d_Pn_idle_33 1 rfl ?_
        refine C_S3 d_Pn_idle_34 k_Pn_71 (Nat.le_of_ble_eq_true rfl) (by decide) (Nat.le_of_ble_eq_true rfl) ?_
        refine c_Pn_isWithin ?_
        refine B_ne d_Pn_idle_37 43 (by decide) (fun c4 => ?_) (fun c4 => ?_)
        · have h1 := (in_N (b := 9) (by decide)).mp c1
          have h2 := (in_N (b := 10) (by decide)).mp c2
          have h3 := (in_N (b := 9) (by decide)).mp c3
          have h4 := (in_N (b := 1) (by decide)).mp c4
          have e : aId n q m w = nI (idN (tN n) (tN q) (tN m) (tN w)) := by unfold aId; rw [if_neg (fun z => z.elim (fun y => y h1) (fun z => z.elim (fun y => y h2) (fun z => z.elim (fun y => y h3) (fun y => y h4))))]
          clear c1 c2 c3 c4
          obtain ⟨a, ha, rfl⟩ := inN_of h1 (by decide)
          obtain ⟨b, hb, rfl⟩ := inN_of h2 (by decide)
          obtain ⟨c, hc, rfl⟩ := inN_of h3 (by decide)
          obtain ⟨d, hd, rfl⟩ := inN_of h4 (by decide)
          rw [e, tN_nI (by omega), tN_nI (by omega), tN_nI (by omega), tN_nI (by omega)] at k
          refine g_iload_n d_Pn_idle_43 rfl ?_
          refine g_iload_n d_Pn_idle_44 rfl ?_
          refine g_iload_n d_Pn_idle_45 rfl ?_
          refine g_iload d_Pn_idle_46 rfl ?_
          refine C_S4 d_Pn_idle_48 k_Pn_215 (Nat.le_of_ble_eq_true rfl) (by decide) (Nat.le_of_ble_eq_true rfl) ?_
          refine (c_Od_partOf (by omega) (by omega) (by omega) (by omega)) ?_
          refine P_iret d_Pn_idle_51 rfl ?_
          exact k
        · refine P_bipush d_Pn_idle_40 (-3) rfl ?_
          refine P_iret d_Pn_idle_42 rfl ?_
          exact R_i k (by unfold aId; rw [if_pos (by first | exact Or.inl (fun z => absurd ((in_N (by decide)).mpr z) (by assumption)) | exact Or.inr (Or.inl (fun z => absurd ((in_N (by decide)).mpr z) (by assumption))) | exact Or.inr (Or.inr (Or.inl (fun z => absurd ((in_N (by decide)).mpr z) (by assumption)))) | exact Or.inr (Or.inr (Or.inr (fun z => absurd ((in_N (by decide)).mpr z) (by assumption)))))])

