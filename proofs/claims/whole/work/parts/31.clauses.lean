theorem TR.x51 {T : TD} {mI mI' : Nat → Nat → Int32} (h : TR 42 T mI) (hF : Fx 51 51 mI mI') : TR 42 T mI' := h.to (fun r h1 h2 => hF r (by omega))
theorem TK.x42 {t : Nat → Int32} {L x c : Nat} {mI mI' : Nat → Nat → Int32} (h : TK t L x c mI) (hF : Fx 42 50 mI mI') : TK t L x c mI' := by
  have e1 := hF 51 (by omega)
  have e2 := hF 52 (by omega)
  obtain ⟨h1, h2, h3, h4, h5, h6, h7⟩ := h
  exact ⟨h1.fx (by rw [e1]) e2, h2, by rw [e1]; exact h3, by rw [e1]; exact h4, by rw [e1]; exact h5, by rw [e1]; exact h6, h7⟩
section Clauses
variable (t : Nat → Int32) (L : Nat)
/-- clauses by the token at x: whether they stand, what is told then, where it goes on (or where the fault is) -/
def rdMan (T : TD) (x : Nat) : Bool × TD × Nat :=
  if 5 ≤ tn T then (false, T, x)
  else if ¬ numIn t L (tkE t L x) 1 10 then (false, T, tkE t L x)
  else if ¬ numIn t L (tkE t L (tkE t L x)) 1 61 then (false, T, tkE t L (tkE t L x))
  else if tkS t L (tkE t L (tkE t L (tkE t L x))) = 2 then
    if ¬ numIn t L (tkE t L (tkE t L (tkE t L x))) 0 (tn T) then (false, T, tkE t L (tkE t L (tkE t L x)))
    else (true, tPer T (nm t L (tkE t L x)) (nm t L (tkE t L (tkE t L x))) (nm t L (tkE t L (tkE t L (tkE t L x))) + 1), tkE t L (tkE t L (tkE t L (tkE t L x))))
  else (true, tPer T (nm t L (tkE t L x)) (nm t L (tkE t L (tkE t L x))) 0, tkE t L (tkE t L (tkE t L x)))
def rdPro (kd : Nat) (T : TD) (x : Nat) : Bool × TD × Nat :=
  if 10 ≤ tP T then (false, T, x)
  else if ¬ numIn t L (tkE t L x) 0 (tn T) then (false, T, tkE t L x)
  else if ¬ numIn t L (tkE t L (tkE t L x)) 1 41 then (false, T, tkE t L (tkE t L x))
  else if tkS t L (tkE t L (tkE t L (tkE t L x))) = 1 then
    match ndW t L (tkE t L (tkE t L (tkE t L x))) (tP T) with
    | none => (false, T, tkE t L (tkE t L (tkE t L x)))
    | some nd => (true, tPro T kd (nm t L (tkE t L (tkE t L x))) nd (nm t L (tkE t L x)), tkE t L (tkE t L (tkE t L (tkE t L x))))
  else (true, tPro T kd (nm t L (tkE t L (tkE t L x))) 0 (nm t L (tkE t L x)), tkE t L (tkE t L (tkE t L x)))
def rdStr (T : TD) (x : Nat) : Bool × TD × Nat :=
  if ¬ numIn t L (tkE t L x) 0 (tP T) then (false, T, tkE t L x)
  else if ¬ numIn t L (tkE t L (tkE t L x)) 0 (tP T) then (false, T, tkE t L (tkE t L x))
  else if nm t L (tkE t L (tkE t L x)) = nm t L (tkE t L x) then (false, T, tkE t L (tkE t L x))
  else (true, tStr T (nm t L (tkE t L x)) (nm t L (tkE t L (tkE t L x))), tkE t L (tkE t L (tkE t L x)))
def rdCl (T : TD) (x : Nat) : Bool × TD × Nat :=
  if isW t L x 0 then (true, tClr T, tkE t L x)
  else if isW t L x 1 then rdMan t L T x
  else if isW t L x 2 then rdStr t L T x
  else match kwC t L x with
    | 0 => (false, T, x)
    | kd + 1 => rdPro t L kd T x
/-- the whole text: the fault, what is told, how many clauses -/
def rdN : Nat → Nat → TD → Nat → Option Nat × TD × Nat
  | 0, c, T, x => (some (tkB t L x), T, c)
  | d + 1, c, T, x =>
    if (rdCl t L T x).1 = false then (some (tkB t L (rdCl t L T x).2.2), (rdCl t L T x).2.1, c)
    else if tkS t L (rdCl t L T x).2.2 = 0 then (none, (rdCl t L T x).2.1, c + 1)
    else if ¬ (tkS t L (rdCl t L T x).2.2 = 3 ∧ t (tkB t L (rdCl t L T x).2.2) = nI 59) ∨ c + 1 = 24 then (some (tkB t L (rdCl t L T x).2.2), (rdCl t L T x).2.1, c + 1)
    else rdN d (c + 1) (rdCl t L T x).2.1 (tkE t L (rdCl t L T x).2.2)
end Clauses
/-! what is told stays in its bounds -/
theorem TW_clr {T : TD} : TW (tClr T) := ⟨Nat.zero_le _, Nat.zero_le _, fun i hi => absurd hi (Nat.not_lt_zero _), fun p hp => absurd hp (Nat.not_lt_zero _)⟩
theorem TW_per {T : TD} (h : TW T) {s y c : Nat} (hn : tn T < 5) (hs : 1 ≤ s ∧ s ≤ 9) (hy : 1 ≤ y ∧ y ≤ 60) (hc : c ≤ tn T) : TW (tPer T s y c) := by
  refine ⟨hn, h.2.1, fun i hi => ?_, fun p hp => ?_⟩
  · have hi2 : i < tn T + 1 := hi
    show 1 ≤ va_up (tst T) (tn T) s i ∧ va_up (tst T) (tn T) s i ≤ 9 ∧ 1 ≤ va_up (tsp T) (tn T) y i ∧ va_up (tsp T) (tn T) y i ≤ 60 ∧ va_up (thr T) (tn T) c i ≤ i
    by_cases h1 : i = tn T
    · rw [h1, va_up_s, va_up_s, va_up_s]; exact ⟨hs.1, hs.2, hy.1, hy.2, hc⟩
    · rw [va_up_n _ _ h1, va_up_n _ _ h1, va_up_n _ _ h1]; exact h.2.2.1 i (by omega)
  · obtain ⟨h1, h2, h3, h4, h5, h6⟩ := h.2.2.2 p hp
    exact ⟨h1, h2, h3, h4, Nat.lt_succ_of_lt h5, h6⟩
theorem TW_pro {T : TD} (h : TW T) {kd wk nd hd : Nat} (hn : tP T < 10) (hk : kd < 5) (hw : 1 ≤ wk ∧ wk ≤ 40) (hnd : nd < 2 ^ tP T) (hh : hd < tn T) : TW (tPro T kd wk nd hd) := by
  refine ⟨h.1, hn, h.2.2.1, fun p hp => ?_⟩
  have hp2 : p < tP T + 1 := hp
  show va_up (tkd T) (tP T) kd p < 5 ∧ 1 ≤ va_up (twk T) (tP T) wk p ∧ va_up (twk T) (tP T) wk p ≤ 40 ∧ va_up (tnd T) (tP T) nd p < 2 ^ p ∧ va_up (thd T) (tP T) hd p < tn T ∧ va_up (tsf T) (tP T) 0 p < 2 ^ (tP T + 1)
  by_cases h1 : p = tP T
  · rw [h1]; simp only [va_up_s]; exact ⟨hk, hw.1, hw.2, hnd, hh, Nat.two_pow_pos _⟩
  · simp only [va_up_n _ _ h1]
    obtain ⟨g1, g2, g3, g4, g5, g6⟩ := h.2.2.2 p (by omega)
    exact ⟨g1, g2, g3, g4, g5, Nat.lt_of_lt_of_le g6 (Nat.pow_le_pow_right (by decide) (by omega))⟩
theorem TW_str {T : TD} (h : TW T) {x y : Nat} (hx : x < tP T) (hy : y < tP T) : TW (tStr T x y) := by
  refine ⟨h.1, h.2.1, h.2.2.1, fun p hp => ?_⟩
  obtain ⟨g1, g2, g3, g4, g5, g6⟩ := h.2.2.2 p hp
  refine ⟨g1, g2, g3, g4, g5, ?_⟩
  show va_up (va_up (tsf T) x (tsf T x ||| 2 ^ y)) y (va_up (tsf T) x (tsf T x ||| 2 ^ y) y ||| 2 ^ x) p < 2 ^ tP T
  have hb : ∀ q, q < tP T → va_up (tsf T) x (tsf T x ||| 2 ^ y) q < 2 ^ tP T := fun q hq => by
    by_cases h1 : q = x
    · rw [h1, va_up_s]; exact Nat.or_lt_two_pow (h.2.2.2 x hx).2.2.2.2.2 (Nat.pow_lt_pow_right (by decide) hy)
    · rw [va_up_n _ _ h1]; exact (h.2.2.2 q hq).2.2.2.2.2
  by_cases h1 : p = y
  · rw [h1, va_up_s]; exact Nat.or_lt_two_pow (hb y hy) (Nat.pow_lt_pow_right (by decide) hx)
  · rw [va_up_n _ _ h1]; exact hb p hp
theorem ndD_lt {t : Nat → Int32} {P : Nat} : ∀ d i s l r, s < 2 ^ P → ndD t P d i s l = some r → r < 2 ^ P
  | 0, i, s, l, r, hs, h => by simp [ndD] at h; omega
  | d + 1, i, s, l, r, hs, h => by
    rw [ndD] at h
    split at h
    · cases h
    · rename_i hc
      exact ndD_lt d (i + 1) _ _ r (Nat.or_lt_two_pow hs (Nat.pow_lt_pow_right (by decide) (by omega))) h
theorem TW_cl {t : Nat → Int32} {L : Nat} {T : TD} {x : Nat} (h : TW T) (hok : (rdCl t L T x).1 = true) : TW (rdCl t L T x).2.1 := by
  unfold rdCl at hok ⊢
  split
  · exact TW_clr
  · rename_i w0
    rw [if_neg w0] at hok
    split
    · rename_i w1
      rw [if_pos w1] at hok
      unfold rdMan at hok ⊢
      repeat' split at hok
      all_goals first | cases hok | skip
      · rename_i a1 a2 a3 a4 a5
        simp only [Decidable.not_not] at a2 a3 a5
        rw [if_neg a1, if_neg (fun z => z a2), if_neg (fun z => z a3), if_pos a4, if_neg (fun z => z a5)]
        exact TW_per h (by omega) (by omega) (by omega) (by omega)
      · rename_i a1 a2 a3 a4
        simp only [Decidable.not_not] at a2 a3
        rw [if_neg a1, if_neg (fun z => z a2), if_neg (fun z => z a3), if_neg a4]
        exact TW_per h (by omega) (by omega) (by omega) (by omega)
    · rename_i w1
      rw [if_neg w1] at hok
      split
      · rename_i w2
        rw [if_pos w2] at hok
        unfold rdStr at hok ⊢
        repeat' split at hok
        all_goals first | cases hok | skip
        rename_i a1 a2 a3
        simp only [Decidable.not_not] at a1 a2
        rw [if_neg (fun z => z a1), if_neg (fun z => z a2), if_neg a3]
        exact TW_str h (by omega) (by omega)
      · rename_i w2
        rw [if_neg w2] at hok
        have hk : kwC t L x ≤ 5 := by unfold kwC; repeat' split
                                      all_goals omega
        cases hkw : kwC t L x with
        | zero => rw [hkw] at hok; cases hok
        | succ kd =>
          rw [hkw] at hok hk
          show TW (rdPro t L kd T x).2.1
          have hok : (rdPro t L kd T x).1 = true := hok
          unfold rdPro at hok ⊢
          repeat' split at hok
          all_goals first | cases hok | skip
          · rename_i a1 a2 a3 a4 o nd a5
            simp only [Decidable.not_not] at a2 a3
            rw [if_neg a1, if_neg (fun z => z a2), if_neg (fun z => z a3), if_pos a4]
            exact TW_pro h (by omega) (by omega) (by omega) (ndD_lt _ _ _ _ _ (Nat.two_pow_pos _) a5) (by omega)
          · rename_i a1 a2 a3 a4
            simp only [Decidable.not_not] at a2 a3
            rw [if_neg a1, if_neg (fun z => z a2), if_neg (fun z => z a3), if_neg a4]
            exact TW_pro h (by omega) (by omega) (by omega) (Nat.two_pow_pos _) (by omega)
theorem c_Rd_readPerson {X : CX} {dl : List (Nat × Nat)} {mI : Nat → Nat → Int32} {dr : Nat → Nat → Nat} {Q : Option Value → AH → Prop} {t : Nat → Int32} {L x c : Nat} {T : TD} (hw : TW T) (hK : TK t L x c mI) (hT : TR 42 T mI) (k : ∀ mI', TK t L (rdMan t L T x).2.2 c mI' → ((rdMan t L T x).1 = true → TR 42 (rdMan t L T x).2.1 mI') → Fx 42 51 mI mI' → Q (some (.int (bI ((rdMan t L T x).1 = true)))) (hp X dl mI' dr)) : EW X m_Rd_readPerson 0 (enL m_Rd_readPerson.2.2.1 [.ref 51, .ref 42]) [] (hp X dl mI dr) Q := by
  show EW X m_Rd_readPerson 0 [.ref 51, .ref 42, jk, jk, jk] [] (hp X dl mI dr) Q
  have hw1 := hw.1
  have hle := tk_le (t := t) hK.2.1
  refine g_aload_n d_Rd_readPerson_0 rfl ?_
  refine C_V0 d_Rd_readPerson_1 k_Rd_83 rfl (Nat.le_of_ble_eq_true rfl) (by decide) (Nat.le_of_ble_eq_true rfl) ?_
  refine (c_Tl_hasRoomForPerson hw hT) ?_
  refine B_ne d_Rd_readPerson_4 9 (by decide) (fun c1 => ?_) (fun c1 => ?_)
  · refine g_aload_n d_Rd_readPerson_9 rfl ?_
    refine C_V0 d_Rd_readPerson_10 k_Rd_25 rfl (Nat.le_of_ble_eq_true rfl) (by decide) (Nat.le_of_ble_eq_true rfl) ?_
    refine c_Rd_toNextToken hK.1 hle.2.2 hK.2.2.1 hK.2.2.2.2.2.1 (fun mI1 hK1 hF1 => ?_)
    have hT1 := hT.x51 hF1
    refine g_aload_n d_Rd_readPerson_13 rfl ?_
    refine N_iconst d_Rd_readPerson_14 1 rfl ?_
    refine N_bipush d_Rd_readPerson_15 9 rfl ?_
    refine C_V2 d_Rd_readPerson_17 k_Rd_87 rfl (Nat.le_of_ble_eq_true rfl) (by decide) (Nat.le_of_ble_eq_true rfl) ?_
    refine (c_Rd_isNumber (n := 10) hK1 (by decide) (show (nI 9).toInt = ((10 : Nat) : Int) - 1 from rfl)) ?_
    refine B_ne d_Rd_readPerson_20 25 (by decide) (fun c2 => ?_) (fun c2 => ?_)
    · refine g_aload_n d_Rd_readPerson_25 rfl ?_
      refine C_V0 d_Rd_readPerson_26 k_Rd_91 rfl (Nat.le_of_ble_eq_true rfl) (by decide) (Nat.le_of_ble_eq_true rfl) ?_
      refine c_Rd_takeNumber hK1 c2.1 (fun mI2 hK2 hF2 => ?_)
      have hT2 := hT1.x51 hF2
      have hF12 := hF1.tr hF2
      refine S_istore_n_5_2 d_Rd_readPerson_29 rfl rfl ?_
      refine g_aload_n d_Rd_readPerson_30 rfl ?_
      refine N_iconst d_Rd_readPerson_31 1 rfl ?_
      refine N_bipush d_Rd_readPerson_32 60 rfl ?_
      refine C_V2 d_Rd_readPerson_34 k_Rd_87 rfl (Nat.le_of_ble_eq_true rfl) (by decide) (Nat.le_of_ble_eq_true rfl) ?_
      refine (c_Rd_isNumber (n := 61) hK2 (by decide) (show (nI 60).toInt = ((61 : Nat) : Int) - 1 from rfl)) ?_
      refine B_ne d_Rd_readPerson_37 42 (by decide) (fun c3 => ?_) (fun c3 => ?_)
      · refine g_aload_n d_Rd_readPerson_42 rfl ?_
        refine C_V0 d_Rd_readPerson_43 k_Rd_91 rfl (Nat.le_of_ble_eq_true rfl) (by decide) (Nat.le_of_ble_eq_true rfl) ?_
        refine c_Rd_takeNumber hK2 c3.1 (fun mI3 hK3 hF3 => ?_)
        have hT3 := hT2.x51 hF3
        have hF13 := hF12.tr hF3
        have hs3 := tkS_le t L (tkE t L (tkE t L (tkE t L x)))
        refine S_istore_n_5_3 d_Rd_readPerson_46 rfl rfl ?_
        refine P_iconst d_Rd_readPerson_47 (-1) rfl ?_
        refine S_istore_5_4 d_Rd_readPerson_48 rfl rfl ?_
        refine g_aload_n d_Rd_readPerson_50 rfl ?_
        refine H_getI d_Rd_readPerson_51 f_Rd_35.g rfl rfl (by decide) ?_
        refine T_int (nI (tkS t L (tkE t L (tkE t L (tkE t L x))))) hK3.2.2.2.1 ?_
        refine N_iconst d_Rd_readPerson_54 2 rfl ?_
        refine N_icmp_ne d_Rd_readPerson_55 80 (by decide) ⟨by omega, by omega⟩ (fun c4 => ?_) (fun c4 => ?_)
        · refine g_aload_n d_Rd_readPerson_80 rfl ?_
          refine g_iload_n d_Rd_readPerson_81 rfl ?_
          refine g_iload_n d_Rd_readPerson_82 rfl ?_
          refine g_iload d_Rd_readPerson_83 rfl ?_
          refine C_V3 d_Rd_readPerson_85 k_Rd_97 rfl (Nat.le_of_ble_eq_true rfl) (by decide) (Nat.le_of_ble_eq_true rfl) ?_
          refine c_Tl_addPerson (c := 0) hw hT3 (by omega) (fun mI5 hT5 hF5 => ?_)
          refine N_iconst d_Rd_readPerson_88 1 rfl ?_
          refine P_zret d_Rd_readPerson_89 rfl (by decide) ?_
          have e : rdMan t L T x = (true, tPer T (nm t L (tkE t L x)) (nm t L (tkE t L (tkE t L x))) 0, tkE t L (tkE t L (tkE t L x))) := by unfold rdMan; rw [if_neg (by omega), if_neg (fun z => z c2), if_neg (fun z => z c3), if_neg c4]
          rw [e] at k
          exact R_i (k mI5 (hK3.x42 hF5) (fun _ => hT5) (Fx.tr (hF13.mo (by omega) (by omega)) (hF5.mo (by omega) (by omega)))) (bI_t' rfl)
        · refine g_aload_n d_Rd_readPerson_58 rfl ?_
          refine N_iconst d_Rd_readPerson_59 0 rfl ?_
          refine g_aload_n d_Rd_readPerson_60 rfl ?_
          refine H_getI d_Rd_readPerson_61 f_Rd_94.g rfl rfl (by decide) ?_
          refine T_int (nI (tn T)) hT3.1 ?_
          refine N_iconst d_Rd_readPerson_64 1 rfl ?_
          refine P_isub d_Rd_readPerson_65 ?_
          refine C_V2 d_Rd_readPerson_66 k_Rd_87 rfl (Nat.le_of_ble_eq_true rfl) (by decide) (Nat.le_of_ble_eq_true rfl) ?_
          refine (c_Rd_isNumber (n := tn T) hK3 (by decide) (nI_m1 (by omega))) ?_
          refine B_ne d_Rd_readPerson_69 74 (by decide) (fun c5 => ?_) (fun c5 => ?_)
          · refine g_aload_n d_Rd_readPerson_74 rfl ?_
            refine C_V0 d_Rd_readPerson_75 k_Rd_91 rfl (Nat.le_of_ble_eq_true rfl) (by decide) (Nat.le_of_ble_eq_true rfl) ?_
            refine c_Rd_takeNumber hK3 c5.1 (fun mI4 hK4 hF4 => ?_)
            have hT4 := hT3.x51 hF4
            have hF14 := hF13.tr hF4
            refine S_istore_5_4 d_Rd_readPerson_78 rfl rfl ?_
            refine g_aload_n d_Rd_readPerson_80 rfl ?_
            refine g_iload_n d_Rd_readPerson_81 rfl ?_
            refine g_iload_n d_Rd_readPerson_82 rfl ?_
            refine g_iload d_Rd_readPerson_83 rfl ?_
            refine C_V3 d_Rd_readPerson_85 k_Rd_97 rfl (Nat.le_of_ble_eq_true rfl) (by decide) (Nat.le_of_ble_eq_true rfl) ?_
            refine c_Tl_addPerson (c := nm t L (tkE t L (tkE t L (tkE t L x))) + 1) hw hT4 (by omega) (fun mI5 hT5 hF5 => ?_)
            refine N_iconst d_Rd_readPerson_88 1 rfl ?_
            refine P_zret d_Rd_readPerson_89 rfl (by decide) ?_
            have e : rdMan t L T x = (true, tPer T (nm t L (tkE t L x)) (nm t L (tkE t L (tkE t L x))) (nm t L (tkE t L (tkE t L (tkE t L x))) + 1), tkE t L (tkE t L (tkE t L (tkE t L x)))) := by unfold rdMan; rw [if_neg (by omega), if_neg (fun z => z c2), if_neg (fun z => z c3), if_pos c4, if_neg (fun z => z c5)]
            rw [e] at k
            exact R_i (k mI5 (hK4.x42 hF5) (fun _ => hT5) (Fx.tr (hF14.mo (by omega) (by omega)) (hF5.mo (by omega) (by omega)))) (bI_t' rfl)
          · refine N_iconst d_Rd_readPerson_72 0 rfl ?_
            refine P_zret d_Rd_readPerson_73 rfl (by decide) ?_
            have e : rdMan t L T x = (false, T, tkE t L (tkE t L (tkE t L x))) := by unfold rdMan; rw [if_neg (by omega), if_neg (fun z => z c2), if_neg (fun z => z c3), if_pos c4, if_pos c5]
            rw [e] at k
            exact R_i (k mI3 hK3 (fun z => absurd z Bool.false_ne_true) (hF13.mo (by omega) (by omega))) (bI_f' Bool.false_ne_true)
      · refine N_iconst d_Rd_readPerson_40 0 rfl ?_
        refine P_zret d_Rd_readPerson_41 rfl (by decide) ?_
        have e : rdMan t L T x = (false, T, tkE t L (tkE t L x)) := by unfold rdMan; rw [if_neg (by omega), if_neg (fun z => z c2), if_pos c3]
        rw [e] at k
        exact R_i (k mI2 hK2 (fun z => absurd z Bool.false_ne_true) (hF12.mo (by omega) (by omega))) (bI_f' Bool.false_ne_true)
    · refine N_iconst d_Rd_readPerson_23 0 rfl ?_
      refine P_zret d_Rd_readPerson_24 rfl (by decide) ?_
      have e : rdMan t L T x = (false, T, tkE t L x) := by unfold rdMan; rw [if_neg (by omega), if_pos c2]
      rw [e] at k
      exact R_i (k mI1 hK1 (fun z => absurd z Bool.false_ne_true) (hF1.mo (by omega) (by omega))) (bI_f' Bool.false_ne_true)
  · refine N_iconst d_Rd_readPerson_7 0 rfl ?_
    refine P_zret d_Rd_readPerson_8 rfl (by decide) ?_
    have e : rdMan t L T x = (false, T, x) := by unfold rdMan; rw [if_pos (by omega)]
    rw [e] at k
    exact R_i (k mI hK (fun z => absurd z Bool.false_ne_true) Fx.rf) (bI_f' Bool.false_ne_true)

theorem c_Rd_readStrife {X : CX} {dl : List (Nat × Nat)} {mI : Nat → Nat → Int32} {dr : Nat → Nat → Nat} {Q : Option Value → AH → Prop} {t : Nat → Int32} {L x c : Nat} {T : TD} (hw : TW T) (hK : TK t L x c mI) (hT : TR 42 T mI) (k : ∀ mI', TK t L (rdStr t L T x).2.2 c mI' → ((rdStr t L T x).1 = true → TR 42 (rdStr t L T x).2.1 mI') → Fx 42 51 mI mI' → Q (some (.int (bI ((rdStr t L T x).1 = true)))) (hp X dl mI' dr)) : EW X m_Rd_readStrife 0 (enL m_Rd_readStrife.2.2.1 [.ref 51, .ref 42]) [] (hp X dl mI dr) Q := by
  show EW X m_Rd_readStrife 0 [.ref 51, .ref 42, jk] [] (hp X dl mI dr) Q
  have hw2 := hw.2.1
  have hle := tk_le (t := t) hK.2.1
  refine g_aload_n d_Rd_readStrife_0 rfl ?_
  refine C_V0 d_Rd_readStrife_1 k_Rd_25 rfl (Nat.le_of_ble_eq_true rfl) (by decide) (Nat.le_of_ble_eq_true rfl) ?_
  refine c_Rd_toNextToken hK.1 hle.2.2 hK.2.2.1 hK.2.2.2.2.2.1 (fun mI1 hK1 hF1 => ?_)
  have hT1 := hT.x51 hF1
  refine g_aload_n d_Rd_readStrife_4 rfl ?_
  refine N_iconst d_Rd_readStrife_5 0 rfl ?_
  refine g_aload_n d_Rd_readStrife_6 rfl ?_
  refine H_getI d_Rd_readStrife_7 f_Rd_104.g rfl rfl (by decide) ?_
  refine T_int (nI (tP T)) hT1.2.1 ?_
  refine N_iconst d_Rd_readStrife_10 1 rfl ?_
  refine P_isub d_Rd_readStrife_11 ?_
  refine C_V2 d_Rd_readStrife_12 k_Rd_87 rfl (Nat.le_of_ble_eq_true rfl) (by decide) (Nat.le_of_ble_eq_true rfl) ?_
  refine (c_Rd_isNumber (n := tP T) hK1 (by decide) (nI_m1 (by omega))) ?_
  refine B_ne d_Rd_readStrife_15 20 (by decide) (fun c1 => ?_) (fun c1 => ?_)
  · refine g_aload_n d_Rd_readStrife_20 rfl ?_
    refine C_V0 d_Rd_readStrife_21 k_Rd_91 rfl (Nat.le_of_ble_eq_true rfl) (by decide) (Nat.le_of_ble_eq_true rfl) ?_
    refine c_Rd_takeNumber hK1 c1.1 (fun mI2 hK2 hF2 => ?_)
    have hT2 := hT1.x51 hF2
    have hF12 := hF1.tr hF2
    refine S_istore_n_3_2 d_Rd_readStrife_24 rfl rfl ?_
    refine g_aload_n d_Rd_readStrife_25 rfl ?_
    refine N_iconst d_Rd_readStrife_26 0 rfl ?_
    refine g_aload_n d_Rd_readStrife_27 rfl ?_
    refine H_getI d_Rd_readStrife_28 f_Rd_104.g rfl rfl (by decide) ?_
    refine T_int (nI (tP T)) hT2.2.1 ?_
    refine N_iconst d_Rd_readStrife_31 1 rfl ?_
    refine P_isub d_Rd_readStrife_32 ?_
    refine C_V2 d_Rd_readStrife_33 k_Rd_87 rfl (Nat.le_of_ble_eq_true rfl) (by decide) (Nat.le_of_ble_eq_true rfl) ?_
    refine (c_Rd_isNumber (n := tP T) hK2 (by decide) (nI_m1 (by omega))) ?_
    refine B_eq d_Rd_readStrife_36 47 (by decide) (fun c2 => ?_) (fun c2 => ?_)
    · refine N_iconst d_Rd_readStrife_47 0 rfl ?_
      refine P_zret d_Rd_readStrife_48 rfl (by decide) ?_
      have e : rdStr t L T x = (false, T, tkE t L (tkE t L x)) := by unfold rdStr; rw [if_neg (fun z => z c1), if_pos c2]
      rw [e] at k
      exact R_i (k mI2 hK2 (fun z => absurd z Bool.false_ne_true) (hF12.mo (by omega) (by omega))) (bI_f' Bool.false_ne_true)
    · refine g_aload_n d_Rd_readStrife_39 rfl ?_
      refine C_V0 d_Rd_readStrife_40 k_Rd_115 rfl (Nat.le_of_ble_eq_true rfl) (by decide) (Nat.le_of_ble_eq_true rfl) ?_
      refine (c_Rd_numberHere hK2 c2.1) ?_
      refine g_iload_n d_Rd_readStrife_43 rfl ?_
      refine N_icmp_ne d_Rd_readStrife_44 49 (by decide) ⟨by omega, by omega⟩ (fun c3 => ?_) (fun c3 => ?_)
      · refine g_aload_n d_Rd_readStrife_49 rfl ?_
        refine g_iload_n d_Rd_readStrife_50 rfl ?_
        refine g_aload_n d_Rd_readStrife_51 rfl ?_
        refine C_V0 d_Rd_readStrife_52 k_Rd_91 rfl (Nat.le_of_ble_eq_true rfl) (by decide) (Nat.le_of_ble_eq_true rfl) ?_
        refine c_Rd_takeNumber hK2 c2.1 (fun mI3 hK3 hF3 => ?_)
        have hT3 := hT2.x51 hF3
        have hF13 := hF12.tr hF3
        refine C_V2 d_Rd_readStrife_55 k_Rd_118 rfl (Nat.le_of_ble_eq_true rfl) (by decide) (Nat.le_of_ble_eq_true rfl) ?_
        refine c_Tl_addStrife hw hT3 c1.2.2.2 c2.2.2.2 (fun mI5 hT5 hF5 => ?_)
        refine N_iconst d_Rd_readStrife_58 1 rfl ?_
        refine P_zret d_Rd_readStrife_59 rfl (by decide) ?_
        have e : rdStr t L T x = (true, tStr T (nm t L (tkE t L x)) (nm t L (tkE t L (tkE t L x))), tkE t L (tkE t L (tkE t L x))) := by unfold rdStr; rw [if_neg (fun z => z c1), if_neg (fun z => z c2), if_neg c3]
        rw [e] at k
        exact R_i (k mI5 (hK3.x42 hF5) (fun _ => hT5) (Fx.tr (hF13.mo (by omega) (by omega)) (hF5.mo (by omega) (by omega)))) (bI_t' rfl)
      · refine N_iconst d_Rd_readStrife_47 0 rfl ?_
        refine P_zret d_Rd_readStrife_48 rfl (by decide) ?_
        have e : rdStr t L T x = (false, T, tkE t L (tkE t L x)) := by unfold rdStr; rw [if_neg (fun z => z c1), if_neg (fun z => z c2), if_pos c3]
        rw [e] at k
        exact R_i (k mI2 hK2 (fun z => absurd z Bool.false_ne_true) (hF12.mo (by omega) (by omega))) (bI_f' Bool.false_ne_true)
  · refine N_iconst d_Rd_readStrife_18 0 rfl ?_
    refine P_zret d_Rd_readStrife_19 rfl (by decide) ?_
    have e : rdStr t L T x = (false, T, tkE t L x) := by unfold rdStr; rw [if_pos c1]
    rw [e] at k
    exact R_i (k mI1 hK1 (fun z => absurd z Bool.false_ne_true) (hF1.mo (by omega) (by omega))) (bI_f' Bool.false_ne_true)

theorem c_Rd_readPromise {X : CX} {dl : List (Nat × Nat)} {mI : Nat → Nat → Int32} {dr : Nat → Nat → Nat} {Q : Option Value → AH → Prop} {t : Nat → Int32} {L x c : Nat} {T : TD} {kd : Nat} (hw : TW T) (hK : TK t L x c mI) (hT : TR 42 T mI) (hkd : kd < 5) (k : ∀ mI', TK t L (rdPro t L kd T x).2.2 c mI' → ((rdPro t L kd T x).1 = true → TR 42 (rdPro t L kd T x).2.1 mI') → Fx 42 51 mI mI' → Q (some (.int (bI ((rdPro t L kd T x).1 = true)))) (hp X dl mI' dr)) : EW X m_Rd_readPromise 0 (enL m_Rd_readPromise.2.2.1 [.ref 51, .ref 42, .int (nI kd)]) [] (hp X dl mI dr) Q := by
  show EW X m_Rd_readPromise 0 [.ref 51, .ref 42, .int (nI kd), jk, jk, jk] [] (hp X dl mI dr) Q
  have hw1 := hw.1
  have hw2 := hw.2.1
  have hle := tk_le (t := t) hK.2.1
  refine g_aload_n d_Rd_readPromise_0 rfl ?_
  refine C_V0 d_Rd_readPromise_1 k_Rd_101 rfl (Nat.le_of_ble_eq_true rfl) (by decide) (Nat.le_of_ble_eq_true rfl) ?_
  refine (c_Tl_hasRoomForPromise hw hT) ?_
  refine B_ne d_Rd_readPromise_4 9 (by decide) (fun c1 => ?_) (fun c1 => ?_)
  · refine g_aload_n d_Rd_readPromise_9 rfl ?_
    refine C_V0 d_Rd_readPromise_10 k_Rd_25 rfl (Nat.le_of_ble_eq_true rfl) (by decide) (Nat.le_of_ble_eq_true rfl) ?_
    refine c_Rd_toNextToken hK.1 hle.2.2 hK.2.2.1 hK.2.2.2.2.2.1 (fun mI1 hK1 hF1 => ?_)
    have hT1 := hT.x51 hF1
    refine g_aload_n d_Rd_readPromise_13 rfl ?_
    refine N_iconst d_Rd_readPromise_14 0 rfl ?_
    refine g_aload_n d_Rd_readPromise_15 rfl ?_
    refine H_getI d_Rd_readPromise_16 f_Rd_94.g rfl rfl (by decide) ?_
    refine T_int (nI (tn T)) hT1.1 ?_
    refine N_iconst d_Rd_readPromise_19 1 rfl ?_
    refine P_isub d_Rd_readPromise_20 ?_
    refine C_V2 d_Rd_readPromise_21 k_Rd_87 rfl (Nat.le_of_ble_eq_true rfl) (by decide) (Nat.le_of_ble_eq_true rfl) ?_
    refine (c_Rd_isNumber (n := tn T) hK1 (by decide) (nI_m1 (by omega))) ?_
    refine B_ne d_Rd_readPromise_24 29 (by decide) (fun c2 => ?_) (fun c2 => ?_)
    · refine g_aload_n d_Rd_readPromise_29 rfl ?_
      refine C_V0 d_Rd_readPromise_30 k_Rd_91 rfl (Nat.le_of_ble_eq_true rfl) (by decide) (Nat.le_of_ble_eq_true rfl) ?_
      refine c_Rd_takeNumber hK1 c2.1 (fun mI2 hK2 hF2 => ?_)
      have hT2 := hT1.x51 hF2
      have hF12 := hF1.tr hF2
      refine S_istore_n_6_3 d_Rd_readPromise_33 rfl rfl ?_
      refine g_aload_n d_Rd_readPromise_34 rfl ?_
      refine N_iconst d_Rd_readPromise_35 1 rfl ?_
      refine N_bipush d_Rd_readPromise_36 40 rfl ?_
      refine C_V2 d_Rd_readPromise_38 k_Rd_87 rfl (Nat.le_of_ble_eq_true rfl) (by decide) (Nat.le_of_ble_eq_true rfl) ?_
      refine (c_Rd_isNumber (n := 41) hK2 (by decide) (show (nI 40).toInt = ((41 : Nat) : Int) - 1 from rfl)) ?_
      refine B_ne d_Rd_readPromise_41 46 (by decide) (fun c3 => ?_) (fun c3 => ?_)
      · refine g_aload_n d_Rd_readPromise_46 rfl ?_
        refine C_V0 d_Rd_readPromise_47 k_Rd_91 rfl (Nat.le_of_ble_eq_true rfl) (by decide) (Nat.le_of_ble_eq_true rfl) ?_
        refine c_Rd_takeNumber hK2 c3.1 (fun mI3 hK3 hF3 => ?_)
        have hT3 := hT2.x51 hF3
        have hF13 := hF12.tr hF3
        have hs3 := tkS_le t L (tkE t L (tkE t L (tkE t L x)))
        refine S_istore_6_4 d_Rd_readPromise_50 rfl rfl ?_
        refine N_iconst d_Rd_readPromise_52 0 rfl ?_
        refine S_istore_6_5 d_Rd_readPromise_53 rfl rfl ?_
        refine g_aload_n d_Rd_readPromise_55 rfl ?_
        refine H_getI d_Rd_readPromise_56 f_Rd_35.g rfl rfl (by decide) ?_
        refine T_int (nI (tkS t L (tkE t L (tkE t L (tkE t L x))))) hK3.2.2.2.1 ?_
        refine N_iconst d_Rd_readPromise_59 1 rfl ?_
        refine N_icmp_ne d_Rd_readPromise_60 85 (by decide) ⟨by omega, by omega⟩ (fun c4 => ?_) (fun c4 => ?_)
        · refine g_aload_n d_Rd_readPromise_85 rfl ?_
          refine g_iload_n d_Rd_readPromise_86 rfl ?_
          refine g_iload_n d_Rd_readPromise_87 rfl ?_
          refine g_iload d_Rd_readPromise_88 rfl ?_
          refine g_iload d_Rd_readPromise_90 rfl ?_
          refine C_V4 d_Rd_readPromise_92 k_Rd_111 rfl (Nat.le_of_ble_eq_true rfl) (by decide) (Nat.le_of_ble_eq_true rfl) ?_
          refine c_Tl_addPromise hw hT3 (by omega) (fun mI5 hT5 hF5 => ?_)
          refine N_iconst d_Rd_readPromise_95 1 rfl ?_
          refine P_zret d_Rd_readPromise_96 rfl (by decide) ?_
          have e : rdPro t L kd T x = (true, tPro T kd (nm t L (tkE t L (tkE t L x))) 0 (nm t L (tkE t L x)), tkE t L (tkE t L (tkE t L x))) := by unfold rdPro; rw [if_neg (by omega), if_neg (fun z => z c2), if_neg (fun z => z c3), if_neg c4]
          rw [e] at k
          exact R_i (k mI5 (hK3.x42 hF5) (fun _ => hT5) (Fx.tr (hF13.mo (by omega) (by omega)) (hF5.mo (by omega) (by omega)))) (bI_t' rfl)
        · refine g_aload_n d_Rd_readPromise_63 rfl ?_
          refine g_aload_n d_Rd_readPromise_64 rfl ?_
          refine H_getI d_Rd_readPromise_65 f_Rd_104.g rfl rfl (by decide) ?_
          refine T_int (nI (tP T)) hT3.2.1 ?_
          refine C_V1 d_Rd_readPromise_68 k_Rd_107 rfl (Nat.le_of_ble_eq_true rfl) (by decide) (Nat.le_of_ble_eq_true rfl) ?_
          refine (c_Rd_needsByWord hK3 c4 (by omega)) ?_
          refine S_istore_6_5 d_Rd_readPromise_71 rfl rfl ?_
          rcases hnd : ndW t L (tkE t L (tkE t L (tkE t L x))) (tP T) with _ | nd
          · refine g_iload d_Rd_readPromise_73 rfl ?_
            refine P_iconst d_Rd_readPromise_75 (-1) rfl ?_
            refine P_icmp_ne d_Rd_readPromise_76 81 (by decide) (fun z => absurd rfl z) (fun _ => ?_)
            refine N_iconst d_Rd_readPromise_79 0 rfl ?_
            refine P_zret d_Rd_readPromise_80 rfl (by decide) ?_
            have e : rdPro t L kd T x = (false, T, tkE t L (tkE t L (tkE t L x))) := by unfold rdPro; rw [if_neg (by omega), if_neg (fun z => z c2), if_neg (fun z => z c3), if_pos c4, hnd]
            rw [e] at k
            exact R_i (k mI3 hK3 (fun z => absurd z Bool.false_ne_true) (hF13.mo (by omega) (by omega))) (bI_f' Bool.false_ne_true)
          · have hndlt := ndD_lt _ _ _ _ _ (Nat.two_pow_pos _) hnd
            have hnd10 : nd < 2 ^ 10 := Nat.lt_of_lt_of_le hndlt (Nat.pow_le_pow_right (by decide) (by omega))
            refine g_iload d_Rd_readPromise_73 rfl ?_
            refine P_iconst d_Rd_readPromise_75 (-1) rfl ?_
            refine P_icmp_ne d_Rd_readPromise_76 81 (by decide) (fun _ => ?_) (fun z => absurd z (nI_nm1 (by omega)))
            refine g_aload_n d_Rd_readPromise_81 rfl ?_
            refine C_V0 d_Rd_readPromise_82 k_Rd_25 rfl (Nat.le_of_ble_eq_true rfl) (by decide) (Nat.le_of_ble_eq_true rfl) ?_
            refine c_Rd_toNextToken hK3.1 (tk_le hK3.2.1).2.2 hK3.2.2.1 hK3.2.2.2.2.2.1 (fun mI4 hK4 hF4 => ?_)
            have hT4 := hT3.x51 hF4
            have hF14 := hF13.tr hF4
            refine g_aload_n d_Rd_readPromise_85 rfl ?_
            refine g_iload_n d_Rd_readPromise_86 rfl ?_
            refine g_iload_n d_Rd_readPromise_87 rfl ?_
            refine g_iload d_Rd_readPromise_88 rfl ?_
            refine g_iload d_Rd_readPromise_90 rfl ?_
            refine C_V4 d_Rd_readPromise_92 k_Rd_111 rfl (Nat.le_of_ble_eq_true rfl) (by decide) (Nat.le_of_ble_eq_true rfl) ?_
            refine c_Tl_addPromise hw hT4 (by omega) (fun mI5 hT5 hF5 => ?_)
            refine N_iconst d_Rd_readPromise_95 1 rfl ?_
            refine P_zret d_Rd_readPromise_96 rfl (by decide) ?_
            have e : rdPro t L kd T x = (true, tPro T kd (nm t L (tkE t L (tkE t L x))) nd (nm t L (tkE t L x)), tkE t L (tkE t L (tkE t L (tkE t L x)))) := by unfold rdPro; rw [if_neg (by omega), if_neg (fun z => z c2), if_neg (fun z => z c3), if_pos c4, hnd]
            rw [e] at k
            exact R_i (k mI5 (hK4.x42 hF5) (fun _ => hT5) (Fx.tr (hF14.mo (by omega) (by omega)) (hF5.mo (by omega) (by omega)))) (bI_t' rfl)
      · refine N_iconst d_Rd_readPromise_44 0 rfl ?_
        refine P_zret d_Rd_readPromise_45 rfl (by decide) ?_
        have e : rdPro t L kd T x = (false, T, tkE t L (tkE t L x)) := by unfold rdPro; rw [if_neg (by omega), if_neg (fun z => z c2), if_pos c3]
        rw [e] at k
        exact R_i (k mI2 hK2 (fun z => absurd z Bool.false_ne_true) (hF12.mo (by omega) (by omega))) (bI_f' Bool.false_ne_true)
    · refine N_iconst d_Rd_readPromise_27 0 rfl ?_
      refine P_zret d_Rd_readPromise_28 rfl (by decide) ?_
      have e : rdPro t L kd T x = (false, T, tkE t L x) := by unfold rdPro; rw [if_neg (by omega), if_pos c2]
      rw [e] at k
      exact R_i (k mI1 hK1 (fun z => absurd z Bool.false_ne_true) (hF1.mo (by omega) (by omega))) (bI_f' Bool.false_ne_true)
  · refine N_iconst d_Rd_readPromise_7 0 rfl ?_
    refine P_zret d_Rd_readPromise_8 rfl (by decide) ?_
    have e : rdPro t L kd T x = (false, T, x) := by unfold rdPro; rw [if_pos (by omega)]
    rw [e] at k
    exact R_i (k mI hK (fun z => absurd z Bool.false_ne_true) Fx.rf) (bI_f' Bool.false_ne_true)

