/-! THE TWO ARE MADE -/
def cH (X : CX) (ly : List (Nat × Nat)) (tb : List (List Nat)) : AH := (lay0 (xL X) ++ ly, mI0 X, fun r f => if r < 32 then mR0 r f else (tb.getD (r - 32) []).getD f 0)
def cP (X : CX) (ly : List (Nat × Nat)) (tb : List (List Nat)) (L : List (Nat × Nat)) (T : List (List Nat)) : AH := cH X (ly ++ L) (tb ++ T)
def wl (l : List Nat) (f v : Nat) : List Nat := (l ++ List.replicate (f + 1 - l.length) 0).set f v
theorem wl_get (l : List Nat) (f v g : Nat) : (wl l f v).getD g 0 = if g = f then v else l.getD g 0 := by
  unfold wl
  rw [getD_set _ _ _ _ (by rw [List.length_append, List.length_replicate]; omega)]
  by_cases h : g = f
  · rw [if_pos h, if_pos h]
  · rw [if_neg h, if_neg h]
    by_cases h2 : g < l.length
    · rw [List.getD_eq_getElem?_getD, List.getD_eq_getElem?_getD, List.getElem?_append_left h2]
    · rw [List.getD_eq_getElem?_getD, List.getD_eq_getElem?_getD, List.getElem?_append_right (by omega), List.getElem?_replicate, List.getElem?_eq_none (show l.length ≤ g by omega)]
      split <;> rfl
theorem lay0_len (L : Nat) : (lay0 L).length = 32 := rfl
theorem gD_l {α : Type} (l : List α) (i : Nat) (d : α) (h : l.length ≤ i) : l.getD i d = d := by rw [List.getD_eq_getElem?_getD, List.getElem?_eq_none h]; rfl
theorem gD_a1 {α : Type} (l m : List α) (i : Nat) (d : α) (h : i < l.length) : (l ++ m).getD i d = l.getD i d := by rw [List.getD_eq_getElem?_getD, List.getD_eq_getElem?_getD, List.getElem?_append_left h]
theorem gD_a2 {α : Type} (l m : List α) (i : Nat) (d : α) (h : l.length ≤ i) : (l ++ m).getD i d = m.getD (i - l.length) d := by rw [List.getD_eq_getElem?_getD, List.getD_eq_getElem?_getD, List.getElem?_append_right h]
theorem nw_cH {X : CX} {ly : List (Nat × Nat)} {tb : List (List Nat)} {t n : Nat} (h : ly.length = tb.length) : nw (cH X ly tb) t n = cH X (ly ++ [(t, n)]) (tb ++ [[]]) := by
  have hlen : (cH X ly tb).1.length = 32 + ly.length := by show (lay0 (xL X) ++ ly).length = _; rw [List.length_append, lay0_len]
  have e1 : (lay0 (xL X) ++ ly) ++ [(t, n)] = lay0 (xL X) ++ (ly ++ [(t, n)]) := List.append_assoc _ _ _
  have e2 : va_up (mI0 X) (32 + ly.length) (fun _ => 0) = mI0 X := by
    funext r
    by_cases z : r = 32 + ly.length
    · rw [z, va_up_s]; unfold mI0; rw [if_neg (by omega), if_neg (by omega)]
    · rw [va_up_n _ _ z]
  have e3 : va_up (fun r f => if r < 32 then mR0 r f else (tb.getD (r - 32) []).getD f 0) (32 + ly.length) (fun _ => 0) = (fun r f => if r < 32 then mR0 r f else ((tb ++ [[]]).getD (r - 32) []).getD f 0) := by
    funext r
    by_cases z : r = 32 + ly.length
    · rw [z, va_up_s]
      funext f
      rw [if_neg (by omega), gD_a2 _ _ _ _ (by omega), show 32 + ly.length - 32 - tb.length = 0 by omega]; rfl
    · rw [va_up_n _ _ z]
      funext f
      by_cases y : r < 32
      · rw [if_pos y, if_pos y]
      · rw [if_neg y, if_neg y]
        by_cases w : r - 32 < tb.length
        · rw [gD_a1 _ _ _ _ w]
        · rw [gD_a2 _ _ _ _ (by omega), gD_l tb _ _ (by omega), gD_l [[]] _ _ (by show 1 ≤ _; omega)]
  unfold nw
  rw [hlen]
  show ((lay0 (xL X) ++ ly) ++ [(t, n)], va_up (mI0 X) _ _, va_up _ _ _) = (_, _, _)
  rw [e1]
  exact congrArg (fun z => (lay0 (xL X) ++ (ly ++ [(t, n)]), z)) (by rw [show va_up (mI0 X) (32 + ly.length) (fun _ => 0) = mI0 X from e2]; exact congrArg (fun z => (mI0 X, z)) e3)
theorem wR_cH {X : CX} {ly : List (Nat × Nat)} {tb : List (List Nat)} {r f v : Nat} (h1 : 32 ≤ r) (h2 : r - 32 < tb.length) : wR (cH X ly tb) r f v = cH X ly (tb.set (r - 32) (wl (tb.getD (r - 32) []) f v)) := by
  have e3 : va_up (fun r f => if r < 32 then mR0 r f else (tb.getD (r - 32) []).getD f 0) r (va_up ((fun r f => if r < 32 then mR0 r f else (tb.getD (r - 32) []).getD f 0) r) f v) = (fun q g => if q < 32 then mR0 q g else ((tb.set (r - 32) (wl (tb.getD (r - 32) []) f v)).getD (q - 32) []).getD g 0) := by
    funext q g
    by_cases z : q = r
    · subst z
      rw [va_up_s, if_neg (by omega), List.getD_eq_getElem?_getD (l := tb.set _ _), List.getElem?_set_self h2]
      show _ = (wl (tb.getD (q - 32) []) f v).getD g 0
      rw [wl_get]
      by_cases y : g = f
      · rw [y, va_up_s, if_pos rfl]
      · rw [va_up_n _ _ y, if_neg y]
        show (if q < 32 then mR0 q g else (tb.getD (q - 32) []).getD g 0) = _
        rw [if_neg (by omega)]
    · rw [va_up_n _ _ z]
      by_cases y : q < 32
      · rw [if_pos y, if_pos y]
      · rw [if_neg y, if_neg y, List.getD_eq_getElem?_getD (l := tb.set _ _), List.getElem?_set_ne (by omega), ← List.getD_eq_getElem?_getD]
  unfold wR
  exact congrArg (fun z => (lay0 (xL X) ++ ly, mI0 X, z)) e3
theorem cP_sp {X : CX} {ly : List (Nat × Nat)} {tb : List (List Nat)} {L1 L2 : List (Nat × Nat)} {T1 T2 : List (List Nat)} : cP X ly tb (L1 ++ L2) (T1 ++ T2) = cP X (ly ++ L1) (tb ++ T1) L2 T2 := by
  unfold cP; rw [List.append_assoc, List.append_assoc]
section TR_
variable {X : CX} {M : MD} {pc : Nat} {ls rest : List Value} {ly : List (Nat × Nat)} {tb : List (List Nat)} {Q : Option Value → AH → Prop} {a : Nat} {L : List (Nat × Nat)} {T : List (List Nat)}
theorem cP_len (hB : ly.length + 32 = a ∧ tb.length + 32 = a) {k : Nat} (hk : L.length = k ∧ T.length = k) : (cP X ly tb L T).1.length = a + k := by
  show (lay0 (xL X) ++ (ly ++ L)).length = _
  rw [List.length_append, lay0_len, List.length_append]; omega
theorem cP_l (hB : ly.length + 32 = a ∧ tb.length + 32 = a) (i : Nat) : (cP X ly tb L T).1[a + i]? = L[i]? := by
  show (lay0 (xL X) ++ (ly ++ L))[a + i]? = _
  rw [List.getElem?_append_right (by rw [lay0_len]; omega), lay0_len, List.getElem?_append_right (by omega), show a + i - 32 - ly.length = i by omega]
theorem cP_r (hB : ly.length + 32 = a ∧ tb.length + 32 = a) (i f : Nat) : (cP X ly tb L T).2.2 (a + i) f = (T.getD i []).getD f 0 := by
  show (if a + i < 32 then _ else ((tb ++ T).getD (a + i - 32) []).getD f 0) = _
  rw [if_neg (by omega), gD_a2 _ _ _ _ (by omega), show a + i - 32 - tb.length = i by omega]
theorem cP_nw (hB : ly.length + 32 = a ∧ tb.length + 32 = a) {k t n : Nat} (hk : L.length = k ∧ T.length = k) : nw (cP X ly tb L T) t n = cP X ly tb (L ++ [(t, n)]) (T ++ [[]]) := by
  unfold cP
  rw [nw_cH (by rw [List.length_append, List.length_append]; omega), List.append_assoc, List.append_assoc]
theorem cP_wR (hB : ly.length + 32 = a ∧ tb.length + 32 = a) {i f v : Nat} (hi : i < T.length) : wR (cP X ly tb L T) (a + i) f v = cP X ly tb L (T.set i (wl (T.getD i []) f v)) := by
  unfold cP
  rw [wR_cH (by omega) (by rw [List.length_append]; omega), gD_a2 _ _ _ _ (by omega), List.set_append_right _ _ (by omega), show a + i - 32 - tb.length = i by omega]
theorem T_new {c n idx k : Nat} {L' : List (Nat × Nat)} {T' : List (List Nat)} (hB : ly.length + 32 = a ∧ tb.length + 32 = a) (hd : decode M.2.1 pc = .ok (.new idx, 3)) (hN : NL M.1.cls idx c n) (hk : L.length = k ∧ T.length = k) (hL : L ++ [(c, n)] = L') (hT : T ++ [[]] = T') (kk : EW X M (pc + 3) ls (.ref (a + k) :: rest) (cP X ly tb L' T') Q) : EW X M pc ls rest (cP X ly tb L T) Q := by
  refine P_new hd hN ?_
  rw [cP_nw hB hk, cP_len hB hk, hL, hT]; exact kk
theorem T_newI {j k : Nat} {L' : List (Nat × Nat)} {T' : List (List Nat)} (hB : ly.length + 32 = a ∧ tb.length + 32 = a) (hd : decode M.2.1 pc = .ok (.newarray .int, 2)) (hs : j < 65536) (hk : L.length = k ∧ T.length = k) (hL : L ++ [(20, j)] = L') (hT : T ++ [[]] = T') (kk : EW X M (pc + 2) ls (.ref (a + k) :: rest) (cP X ly tb L' T') Q) : EW X M pc ls (.int (nI j) :: rest) (cP X ly tb L T) Q := by
  refine P_newa (n := j) hd (Or.inl ⟨rfl, rfl⟩) (nI_pos (by omega)) (nI_clamp (by omega)) hs ?_
  rw [cP_nw hB hk, cP_len hB hk, hL, hT]; exact kk
theorem T_newZ {j k : Nat} {L' : List (Nat × Nat)} {T' : List (List Nat)} (hB : ly.length + 32 = a ∧ tb.length + 32 = a) (hd : decode M.2.1 pc = .ok (.newarray .boolean, 2)) (hs : j < 65536) (hk : L.length = k ∧ T.length = k) (hL : L ++ [(21, j)] = L') (hT : T ++ [[]] = T') (kk : EW X M (pc + 2) ls (.ref (a + k) :: rest) (cP X ly tb L' T') Q) : EW X M pc ls (.int (nI j) :: rest) (cP X ly tb L T) Q := by
  refine P_newa (n := j) hd (Or.inr ⟨rfl, rfl⟩) (nI_pos (by omega)) (nI_clamp (by omega)) hs ?_
  rw [cP_nw hB hk, cP_len hB hk, hL, hT]; exact kk
theorem T_anew {j t idx k : Nat} {C : String} {L' : List (Nat × Nat)} {T' : List (List Nat)} (hB : ly.length + 32 = a ∧ tb.length + 32 = a) (hd : decode M.2.1 pc = .ok (.anewarray idx, 3)) (hC : RT t C) (hlk : Cond.classLink M.1.cls idx C ∈ tbG) (hs : j < 65536) (hk : L.length = k ∧ T.length = k) (hL : L ++ [(t, j)] = L') (hT : T ++ [[]] = T') (kk : EW X M (pc + 3) ls (.ref (a + k) :: rest) (cP X ly tb L' T') Q) : EW X M pc ls (.int (nI j) :: rest) (cP X ly tb L T) Q := by
  refine P_anew (n := j) hd hC hlk (nI_pos (by omega)) (nI_clamp (by omega)) hs ?_
  rw [cP_nw hB hk, cP_len hB hk, hL, hT]; exact kk
theorem T_putR {idx c f n v : Nat} {fin : Bool} (i : Nat) {T' : List (List Nat)} (hB : ly.length + 32 = a ∧ tb.length + 32 = a) (hd : decode M.2.1 pc = .ok (.putfield idx, 3)) (hF : FL M.1.cls idx c f fin) (hfi : fin = true → M.1.name = "<init>") (hb : rf c f = true) (hl : L[i]? = some (c, n)) (hn : f < n) (hi : i < T.length) (hT : T.set i (wl (T.getD i []) f v) = T') (kk : EW X M (pc + 3) ls rest (cP X ly tb L T') Q) : EW X M pc ls (.ref v :: .ref (a + i) :: rest) (cP X ly tb L T) Q := by
  refine P_putR hd hF hfi hb ((cP_l hB i).trans hl) hn ?_
  rw [cP_wR hB hi, hT]; exact kk
theorem T_getR {idx c f n : Nat} (i v : Nat) (hB : ly.length + 32 = a ∧ tb.length + 32 = a) (hd : decode M.2.1 pc = .ok (.getfield idx, 3)) (hF : FG M.1.cls idx c f) (hb : rf c f = true) (hl : L[i]? = some (c, n)) (hn : f < n) (hv : (T.getD i []).getD f 0 = v) (kk : EW X M (pc + 3) ls (.ref v :: rest) (cP X ly tb L T) Q) : EW X M pc ls (.ref (a + i) :: rest) (cP X ly tb L T) Q := by
  refine P_getR hd hF hb ((cP_l hB i).trans hl) hn ?_
  rw [cP_r hB, hv]; exact kk
theorem T_aast {n t c N : Nat} {C : String} {TT : u_T} {N2 : Nat} {ty : Nat → FieldType} (i j w : Nat) {T' : List (List Nat)} (hB : ly.length + 32 = a ∧ tb.length + 32 = a) (hd : decode M.2.1 pc = .ok (.aastore, 1)) (hC : RT t C) (hl : L[i]? = some (t, n)) (hj : j < n) (hn : n < 65536) (hv : L[w]? = some (c, N)) (hc : Cl c C TT N2 ty) (hi : i < T.length) (hT : T.set i (wl (T.getD i []) j (a + w)) = T') (kk : EW X M (pc + 1) ls rest (cP X ly tb L T') Q) : EW X M pc ls (.ref (a + w) :: .int (nI j) :: .ref (a + i) :: rest) (cP X ly tb L T) Q := by
  refine P_aast hd hC ((cP_l hB i).trans hl) (vp_in_nI hj (by omega)) ((cP_l hB w).trans hv) hc ?_
  rw [nI_clamp (by omega), cP_wR hB hi, hT]; exact kk
end TR_
theorem c0_Tl_init {X : CX} {Q : Option Value → AH → Prop} {ly : List (Nat × Nat)} {tb : List (List Nat)} {a : Nat} (hB : ly.length + 32 = a ∧ tb.length + 32 = a) (k : Q none (cP X ly tb [(1, 10), (20, 5), (20, 5), (20, 5), (20, 10), (20, 10), (20, 10), (20, 10), (20, 10)] [[0, 0, (a + 1), (a + 2), (a + 3), (a + 4), (a + 5), (a + 6), (a + 7), (a + 8)], [], [], [], [], [], [], [], []])) : EW X m_Tl_init 0 (enL m_Tl_init.2.2.1 [.ref a]) [] (cP X ly tb [(1, 10)] [[]]) Q := by
  show EW X m_Tl_init 0 [.ref a] [] (cP X ly tb [(1, 10)] [[]]) Q
  refine g_aload_n d_Tl_init_0 rfl ?_
  refine P_objInit d_Tl_init_1 o_Tl_3 (by omega) (by decide) (Nat.le_of_ble_eq_true rfl) ?_
  refine g_aload_n d_Tl_init_4 rfl ?_
  refine N_iconst d_Tl_init_5 5 rfl ?_
  refine T_newI (L' := [(1, 10), (20, 5)]) (T' := [[], []]) hB d_Tl_init_6 (by decide) ⟨rfl, rfl⟩ rfl rfl ?_
  refine T_putR 0 (T' := [[0, 0, (a + 1)], []]) hB d_Tl_init_8 f_Tl_9 (fun _ => rfl) rfl rfl (by decide) (Nat.le_of_ble_eq_true rfl) rfl ?_
  refine g_aload_n d_Tl_init_11 rfl ?_
  refine N_iconst d_Tl_init_12 5 rfl ?_
  refine T_newI (L' := [(1, 10), (20, 5), (20, 5)]) (T' := [[0, 0, (a + 1)], [], []]) hB d_Tl_init_13 (by decide) ⟨rfl, rfl⟩ rfl rfl ?_
  refine T_putR 0 (T' := [[0, 0, (a + 1), (a + 2)], [], []]) hB d_Tl_init_15 f_Tl_15 (fun _ => rfl) rfl rfl (by decide) (Nat.le_of_ble_eq_true rfl) rfl ?_
  refine g_aload_n d_Tl_init_18 rfl ?_
  refine N_iconst d_Tl_init_19 5 rfl ?_
  refine T_newI (L' := [(1, 10), (20, 5), (20, 5), (20, 5)]) (T' := [[0, 0, (a + 1), (a + 2)], [], [], []]) hB d_Tl_init_20 (by decide) ⟨rfl, rfl⟩ rfl rfl ?_
  refine T_putR 0 (T' := [[0, 0, (a + 1), (a + 2), (a + 3)], [], [], []]) hB d_Tl_init_22 f_Tl_18 (fun _ => rfl) rfl rfl (by decide) (Nat.le_of_ble_eq_true rfl) rfl ?_
  refine g_aload_n d_Tl_init_25 rfl ?_
  refine N_bipush d_Tl_init_26 10 rfl ?_
  refine T_newI (L' := [(1, 10), (20, 5), (20, 5), (20, 5), (20, 10)]) (T' := [[0, 0, (a + 1), (a + 2), (a + 3)], [], [], [], []]) hB d_Tl_init_28 (by decide) ⟨rfl, rfl⟩ rfl rfl ?_
  refine T_putR 0 (T' := [[0, 0, (a + 1), (a + 2), (a + 3), (a + 4)], [], [], [], []]) hB d_Tl_init_30 f_Tl_21 (fun _ => rfl) rfl rfl (by decide) (Nat.le_of_ble_eq_true rfl) rfl ?_
  refine g_aload_n d_Tl_init_33 rfl ?_
  refine N_bipush d_Tl_init_34 10 rfl ?_
  refine T_newI (L' := [(1, 10), (20, 5), (20, 5), (20, 5), (20, 10), (20, 10)]) (T' := [[0, 0, (a + 1), (a + 2), (a + 3), (a + 4)], [], [], [], [], []]) hB d_Tl_init_36 (by decide) ⟨rfl, rfl⟩ rfl rfl ?_
  refine T_putR 0 (T' := [[0, 0, (a + 1), (a + 2), (a + 3), (a + 4), (a + 5)], [], [], [], [], []]) hB d_Tl_init_38 f_Tl_24 (fun _ => rfl) rfl rfl (by decide) (Nat.le_of_ble_eq_true rfl) rfl ?_
  refine g_aload_n d_Tl_init_41 rfl ?_
  refine N_bipush d_Tl_init_42 10 rfl ?_
  refine T_newI (L' := [(1, 10), (20, 5), (20, 5), (20, 5), (20, 10), (20, 10), (20, 10)]) (T' := [[0, 0, (a + 1), (a + 2), (a + 3), (a + 4), (a + 5)], [], [], [], [], [], []]) hB d_Tl_init_44 (by decide) ⟨rfl, rfl⟩ rfl rfl ?_
  refine T_putR 0 (T' := [[0, 0, (a + 1), (a + 2), (a + 3), (a + 4), (a + 5), (a + 6)], [], [], [], [], [], []]) hB d_Tl_init_46 f_Tl_27 (fun _ => rfl) rfl rfl (by decide) (Nat.le_of_ble_eq_true rfl) rfl ?_
  refine g_aload_n d_Tl_init_49 rfl ?_
  refine N_bipush d_Tl_init_50 10 rfl ?_
  refine T_newI (L' := [(1, 10), (20, 5), (20, 5), (20, 5), (20, 10), (20, 10), (20, 10), (20, 10)]) (T' := [[0, 0, (a + 1), (a + 2), (a + 3), (a + 4), (a + 5), (a + 6)], [], [], [], [], [], [], []]) hB d_Tl_init_52 (by decide) ⟨rfl, rfl⟩ rfl rfl ?_
  refine T_putR 0 (T' := [[0, 0, (a + 1), (a + 2), (a + 3), (a + 4), (a + 5), (a + 6), (a + 7)], [], [], [], [], [], [], []]) hB d_Tl_init_54 f_Tl_30 (fun _ => rfl) rfl rfl (by decide) (Nat.le_of_ble_eq_true rfl) rfl ?_
  refine g_aload_n d_Tl_init_57 rfl ?_
  refine N_bipush d_Tl_init_58 10 rfl ?_
  refine T_newI (L' := [(1, 10), (20, 5), (20, 5), (20, 5), (20, 10), (20, 10), (20, 10), (20, 10), (20, 10)]) (T' := [[0, 0, (a + 1), (a + 2), (a + 3), (a + 4), (a + 5), (a + 6), (a + 7)], [], [], [], [], [], [], [], []]) hB d_Tl_init_60 (by decide) ⟨rfl, rfl⟩ rfl rfl ?_
  refine T_putR 0 (T' := [[0, 0, (a + 1), (a + 2), (a + 3), (a + 4), (a + 5), (a + 6), (a + 7), (a + 8)], [], [], [], [], [], [], [], []]) hB d_Tl_init_62 f_Tl_33 (fun _ => rfl) rfl rfl (by decide) (Nat.le_of_ble_eq_true rfl) rfl ?_
  refine P_vret d_Tl_init_65 rfl ?_
  exact k
theorem c_Tl_init {X : CX} {Q : Option Value → AH → Prop} {ly : List (Nat × Nat)} {tb : List (List Nat)} {a0 k : Nat} {L : List (Nat × Nat)} {T : List (List Nat)} (hB : ly.length + 32 = a0 ∧ tb.length + 32 = a0) (hk : L.length = k ∧ T.length = k) (kk : Q none (cP X ly tb (L ++ [(1, 10), (20, 5), (20, 5), (20, 5), (20, 10), (20, 10), (20, 10), (20, 10), (20, 10)]) (T ++ [[0, 0, (a0 + k + 1), (a0 + k + 2), (a0 + k + 3), (a0 + k + 4), (a0 + k + 5), (a0 + k + 6), (a0 + k + 7), (a0 + k + 8)], [], [], [], [], [], [], [], []]))) : EW X m_Tl_init 0 (enL m_Tl_init.2.2.1 [.ref (a0 + k)]) [] (cP X ly tb (L ++ [(1, 10)]) (T ++ [[]])) Q := by
  rw [cP_sp]
  refine c0_Tl_init (a := a0 + k) ⟨by rw [List.length_append]; omega, by rw [List.length_append]; omega⟩ ?_
  rw [← cP_sp]; exact kk
theorem c0_Rd_init {X : CX} {Q : Option Value → AH → Prop} {ly : List (Nat × Nat)} {tb : List (List Nat)} {a : Nat} (hB : ly.length + 32 = a ∧ tb.length + 32 = a) (k : Q none (cP X ly tb [(2, 6), (20, 200)] [[(a + 1)], []])) : EW X m_Rd_init 0 (enL m_Rd_init.2.2.1 [.ref a]) [] (cP X ly tb [(2, 6)] [[]]) Q := by
  show EW X m_Rd_init 0 [.ref a] [] (cP X ly tb [(2, 6)] [[]]) Q
  refine g_aload_n d_Rd_init_0 rfl ?_
  refine P_objInit d_Rd_init_1 o_Rd_3 (by omega) (by decide) (Nat.le_of_ble_eq_true rfl) ?_
  refine g_aload_n d_Rd_init_4 rfl ?_
  refine N_sipush d_Rd_init_5 200 rfl ?_
  refine T_newI (L' := [(2, 6), (20, 200)]) (T' := [[], []]) hB d_Rd_init_8 (by decide) ⟨rfl, rfl⟩ rfl rfl ?_
  refine T_putR 0 (T' := [[(a + 1)], []]) hB d_Rd_init_10 f_Rd_11 (fun _ => rfl) rfl rfl (by decide) (Nat.le_of_ble_eq_true rfl) rfl ?_
  refine P_vret d_Rd_init_13 rfl ?_
  exact k
theorem c_Rd_init {X : CX} {Q : Option Value → AH → Prop} {ly : List (Nat × Nat)} {tb : List (List Nat)} {a0 k : Nat} {L : List (Nat × Nat)} {T : List (List Nat)} (hB : ly.length + 32 = a0 ∧ tb.length + 32 = a0) (hk : L.length = k ∧ T.length = k) (kk : Q none (cP X ly tb (L ++ [(2, 6), (20, 200)]) (T ++ [[(a0 + k + 1)], []]))) : EW X m_Rd_init 0 (enL m_Rd_init.2.2.1 [.ref (a0 + k)]) [] (cP X ly tb (L ++ [(2, 6)]) (T ++ [[]])) Q := by
  rw [cP_sp]
  refine c0_Rd_init (a := a0 + k) ⟨by rw [List.length_append]; omega, by rw [List.length_append]; omega⟩ ?_
  rw [← cP_sp]; exact kk
theorem c0_St_init {X : CX} {Q : Option Value → AH → Prop} {ly : List (Nat × Nat)} {tb : List (List Nat)} {a : Nat} {t : Nat} (hB : ly.length + 32 = a ∧ tb.length + 32 = a) (k : Q none (cP X ly tb [(3, 8), (20, 5), (20, 10), (20, 10), (20, 10), (20, 10)] [[t, (a + 1), (a + 2), (a + 3), (a + 4), (a + 5)], [], [], [], [], []])) : EW X m_St_init 0 (enL m_St_init.2.2.1 [.ref a, .ref t]) [] (cP X ly tb [(3, 8)] [[]]) Q := by
  show EW X m_St_init 0 [.ref a, .ref t] [] (cP X ly tb [(3, 8)] [[]]) Q
  refine g_aload_n d_St_init_0 rfl ?_
  refine P_objInit d_St_init_1 o_St_3 (by omega) (by decide) (Nat.le_of_ble_eq_true rfl) ?_
  refine g_aload_n d_St_init_4 rfl ?_
  refine N_iconst d_St_init_5 5 rfl ?_
  refine T_newI (L' := [(3, 8), (20, 5)]) (T' := [[], []]) hB d_St_init_6 (by decide) ⟨rfl, rfl⟩ rfl rfl ?_
  refine T_putR 0 (T' := [[0, (a + 1)], []]) hB d_St_init_8 f_St_9 (fun _ => rfl) rfl rfl (by decide) (Nat.le_of_ble_eq_true rfl) rfl ?_
  refine g_aload_n d_St_init_11 rfl ?_
  refine N_bipush d_St_init_12 10 rfl ?_
  refine T_newI (L' := [(3, 8), (20, 5), (20, 10)]) (T' := [[0, (a + 1)], [], []]) hB d_St_init_14 (by decide) ⟨rfl, rfl⟩ rfl rfl ?_
  refine T_putR 0 (T' := [[0, (a + 1), (a + 2)], [], []]) hB d_St_init_16 f_St_15 (fun _ => rfl) rfl rfl (by decide) (Nat.le_of_ble_eq_true rfl) rfl ?_
  refine g_aload_n d_St_init_19 rfl ?_
  refine N_bipush d_St_init_20 10 rfl ?_
  refine T_newI (L' := [(3, 8), (20, 5), (20, 10), (20, 10)]) (T' := [[0, (a + 1), (a + 2)], [], [], []]) hB d_St_init_22 (by decide) ⟨rfl, rfl⟩ rfl rfl ?_
  refine T_putR 0 (T' := [[0, (a + 1), (a + 2), (a + 3)], [], [], []]) hB d_St_init_24 f_St_18 (fun _ => rfl) rfl rfl (by decide) (Nat.le_of_ble_eq_true rfl) rfl ?_
  refine g_aload_n d_St_init_27 rfl ?_
  refine N_bipush d_St_init_28 10 rfl ?_
  refine T_newI (L' := [(3, 8), (20, 5), (20, 10), (20, 10), (20, 10)]) (T' := [[0, (a + 1), (a + 2), (a + 3)], [], [], [], []]) hB d_St_init_30 (by decide) ⟨rfl, rfl⟩ rfl rfl ?_
  refine T_putR 0 (T' := [[0, (a + 1), (a + 2), (a + 3), (a + 4)], [], [], [], []]) hB d_St_init_32 f_St_21 (fun _ => rfl) rfl rfl (by decide) (Nat.le_of_ble_eq_true rfl) rfl ?_
  refine g_aload_n d_St_init_35 rfl ?_
  refine N_bipush d_St_init_36 10 rfl ?_
  refine T_newI (L' := [(3, 8), (20, 5), (20, 10), (20, 10), (20, 10), (20, 10)]) (T' := [[0, (a + 1), (a + 2), (a + 3), (a + 4)], [], [], [], [], []]) hB d_St_init_38 (by decide) ⟨rfl, rfl⟩ rfl rfl ?_
  refine T_putR 0 (T' := [[0, (a + 1), (a + 2), (a + 3), (a + 4), (a + 5)], [], [], [], [], []]) hB d_St_init_40 f_St_24 (fun _ => rfl) rfl rfl (by decide) (Nat.le_of_ble_eq_true rfl) rfl ?_
  refine g_aload_n d_St_init_43 rfl ?_
  refine g_aload_n d_St_init_44 rfl ?_
  refine T_putR 0 (T' := [[t, (a + 1), (a + 2), (a + 3), (a + 4), (a + 5)], [], [], [], [], []]) hB d_St_init_45 f_St_27 (fun _ => rfl) rfl rfl (by decide) (Nat.le_of_ble_eq_true rfl) rfl ?_
  refine P_vret d_St_init_48 rfl ?_
  exact k
theorem c_St_init {X : CX} {Q : Option Value → AH → Prop} {ly : List (Nat × Nat)} {tb : List (List Nat)} {a0 k : Nat} {L : List (Nat × Nat)} {T : List (List Nat)} {t : Nat} (hB : ly.length + 32 = a0 ∧ tb.length + 32 = a0) (hk : L.length = k ∧ T.length = k) (kk : Q none (cP X ly tb (L ++ [(3, 8), (20, 5), (20, 10), (20, 10), (20, 10), (20, 10)]) (T ++ [[t, (a0 + k + 1), (a0 + k + 2), (a0 + k + 3), (a0 + k + 4), (a0 + k + 5)], [], [], [], [], []]))) : EW X m_St_init 0 (enL m_St_init.2.2.1 [.ref (a0 + k), .ref t]) [] (cP X ly tb (L ++ [(3, 8)]) (T ++ [[]])) Q := by
  rw [cP_sp]
  refine c0_St_init (a := a0 + k) ⟨by rw [List.length_append]; omega, by rw [List.length_append]; omega⟩ ?_
  rw [← cP_sp]; exact kk
theorem c0_Ps_init {X : CX} {Q : Option Value → AH → Prop} {ly : List (Nat × Nat)} {tb : List (List Nat)} {a : Nat} {t : Nat} (hB : ly.length + 32 = a ∧ tb.length + 32 = a) (k : Q none (cP X ly tb [(4, 3), (22, 8), (3, 8), (20, 5), (20, 10), (20, 10), (20, 10), (20, 10), (3, 8), (20, 5), (20, 10), (20, 10), (20, 10), (20, 10), (3, 8), (20, 5), (20, 10), (20, 10), (20, 10), (20, 10), (3, 8), (20, 5), (20, 10), (20, 10), (20, 10), (20, 10), (3, 8), (20, 5), (20, 10), (20, 10), (20, 10), (20, 10), (3, 8), (20, 5), (20, 10), (20, 10), (20, 10), (20, 10), (3, 8), (20, 5), (20, 10), (20, 10), (20, 10), (20, 10), (3, 8), (20, 5), (20, 10), (20, 10), (20, 10), (20, 10)] [[(a + 1)], [(a + 2), (a + 8), (a + 14), (a + 20), (a + 26), (a + 32), (a + 38), (a + 44)], [t, (a + 3), (a + 4), (a + 5), (a + 6), (a + 7)], [], [], [], [], [], [t, (a + 9), (a + 10), (a + 11), (a + 12), (a + 13)], [], [], [], [], [], [t, (a + 15), (a + 16), (a + 17), (a + 18), (a + 19)], [], [], [], [], [], [t, (a + 21), (a + 22), (a + 23), (a + 24), (a + 25)], [], [], [], [], [], [t, (a + 27), (a + 28), (a + 29), (a + 30), (a + 31)], [], [], [], [], [], [t, (a + 33), (a + 34), (a + 35), (a + 36), (a + 37)], [], [], [], [], [], [t, (a + 39), (a + 40), (a + 41), (a + 42), (a + 43)], [], [], [], [], [], [t, (a + 45), (a + 46), (a + 47), (a + 48), (a + 49)], [], [], [], [], []])) : EW X m_Ps_init 0 (enL m_Ps_init.2.2.1 [.ref a, .ref t]) [] (cP X ly tb [(4, 3)] [[]]) Q := by
  show EW X m_Ps_init 0 [.ref a, .ref t, jk] [] (cP X ly tb [(4, 3)] [[]]) Q
  refine g_aload_n d_Ps_init_0 rfl ?_
  refine P_objInit d_Ps_init_1 o_Ps_1 (by omega) (by decide) (Nat.le_of_ble_eq_true rfl) ?_
  refine g_aload_n d_Ps_init_4 rfl ?_
  refine N_bipush d_Ps_init_5 8 rfl ?_
  refine T_anew (L' := [(4, 3), (22, 8)]) (T' := [[], []]) hB d_Ps_init_7 (Or.inl ⟨rfl, rfl⟩) w_Ps_9 (by decide) ⟨rfl, rfl⟩ rfl rfl ?_
  refine T_putR 0 (T' := [[(a + 1)], []]) hB d_Ps_init_10 f_Ps_11 (fun _ => rfl) rfl rfl (by decide) (Nat.le_of_ble_eq_true rfl) rfl ?_
  refine N_iconst d_Ps_init_13 0 rfl ?_
  refine S_istore_n_3_2 d_Ps_init_14 rfl rfl ?_
  refine g_iload_n d_Ps_init_15 rfl ?_
  refine N_bipush d_Ps_init_16 8 rfl ?_
  refine N_icmp_ge d_Ps_init_18 41 (by decide) ⟨by omega, by omega⟩ (fun z => absurd z (by omega)) (fun _ => ?_)
  refine g_aload_n d_Ps_init_21 rfl ?_
  refine T_getR 0 (a + 1) hB d_Ps_init_22 f_Ps_11.g rfl rfl (by decide) rfl ?_
  refine g_iload_n d_Ps_init_25 rfl ?_
  refine T_new (L' := [(4, 3), (22, 8), (3, 8)]) (T' := [[(a + 1)], [], []]) hB d_Ps_init_26 n_Ps_9 ⟨rfl, rfl⟩ rfl rfl ?_
  refine P_dupA d_Ps_init_29 ?_
  refine g_aload_n d_Ps_init_30 rfl ?_
  refine C_I1 d_Ps_init_31 k_Ps_15 (by omega) (Nat.le_of_ble_eq_true rfl) (by decide) (Nat.le_of_ble_eq_true rfl) ?_
  refine c_St_init (L := [(4, 3), (22, 8)]) (T := [[(a + 1)], []]) (k := 2) hB ⟨rfl, rfl⟩ ?_
  show EW X m_Ps_init 34 [.ref a, .ref t, .int (nI 0)] [.ref (a + 2), .int (nI 0), .ref (a + 1)] (cP X ly tb [(4, 3), (22, 8), (3, 8), (20, 5), (20, 10), (20, 10), (20, 10), (20, 10)] [[(a + 1)], [], [t, (a + 3), (a + 4), (a + 5), (a + 6), (a + 7)], [], [], [], [], []]) Q
  refine T_aast 1 0 2 (T' := [[(a + 1)], [(a + 2)], [t, (a + 3), (a + 4), (a + 5), (a + 6), (a + 7)], [], [], [], [], []]) hB d_Ps_init_34 (Or.inl ⟨rfl, rfl⟩) rfl (by decide) (by decide) rfl cl_St (Nat.le_of_ble_eq_true rfl) rfl ?_
  refine N_iinc_3_2_1 d_Ps_init_35 rfl rfl ?_
  refine P_goto d_Ps_init_38 15 (by decide) ?_
  refine g_iload_n d_Ps_init_15 rfl ?_
  refine N_bipush d_Ps_init_16 8 rfl ?_
  refine N_icmp_ge d_Ps_init_18 41 (by decide) ⟨by omega, by omega⟩ (fun z => absurd z (by omega)) (fun _ => ?_)
  refine g_aload_n d_Ps_init_21 rfl ?_
  refine T_getR 0 (a + 1) hB d_Ps_init_22 f_Ps_11.g rfl rfl (by decide) rfl ?_
  refine g_iload_n d_Ps_init_25 rfl ?_
  refine T_new (L' := [(4, 3), (22, 8), (3, 8), (20, 5), (20, 10), (20, 10), (20, 10), (20, 10), (3, 8)]) (T' := [[(a + 1)], [(a + 2)], [t, (a + 3), (a + 4), (a + 5), (a + 6), (a + 7)], [], [], [], [], [], []]) hB d_Ps_init_26 n_Ps_9 ⟨rfl, rfl⟩ rfl rfl ?_
  refine P_dupA d_Ps_init_29 ?_
  refine g_aload_n d_Ps_init_30 rfl ?_
  refine C_I1 d_Ps_init_31 k_Ps_15 (by omega) (Nat.le_of_ble_eq_true rfl) (by decide) (Nat.le_of_ble_eq_true rfl) ?_
  refine c_St_init (L := [(4, 3), (22, 8), (3, 8), (20, 5), (20, 10), (20, 10), (20, 10), (20, 10)]) (T := [[(a + 1)], [(a + 2)], [t, (a + 3), (a + 4), (a + 5), (a + 6), (a + 7)], [], [], [], [], []]) (k := 8) hB ⟨rfl, rfl⟩ ?_
  show EW X m_Ps_init 34 [.ref a, .ref t, .int (nI 1)] [.ref (a + 8), .int (nI 1), .ref (a + 1)] (cP X ly tb [(4, 3), (22, 8), (3, 8), (20, 5), (20, 10), (20, 10), (20, 10), (20, 10), (3, 8), (20, 5), (20, 10), (20, 10), (20, 10), (20, 10)] [[(a + 1)], [(a + 2)], [t, (a + 3), (a + 4), (a + 5), (a + 6), (a + 7)], [], [], [], [], [], [t, (a + 9), (a + 10), (a + 11), (a + 12), (a + 13)], [], [], [], [], []]) Q
  refine T_aast 1 1 8 (T' := [[(a + 1)], [(a + 2), (a + 8)], [t, (a + 3), (a + 4), (a + 5), (a + 6), (a + 7)], [], [], [], [], [], [t, (a + 9), (a + 10), (a + 11), (a + 12), (a + 13)], [], [], [], [], []]) hB d_Ps_init_34 (Or.inl ⟨rfl, rfl⟩) rfl (by decide) (by decide) rfl cl_St (Nat.le_of_ble_eq_true rfl) rfl ?_
  refine N_iinc_3_2_1 d_Ps_init_35 rfl rfl ?_
  refine P_goto d_Ps_init_38 15 (by decide) ?_
  refine g_iload_n d_Ps_init_15 rfl ?_
  refine N_bipush d_Ps_init_16 8 rfl ?_
  refine N_icmp_ge d_Ps_init_18 41 (by decide) ⟨by omega, by omega⟩ (fun z => absurd z (by omega)) (fun _ => ?_)
  refine g_aload_n d_Ps_init_21 rfl ?_
  refine T_getR 0 (a + 1) hB d_Ps_init_22 f_Ps_11.g rfl rfl (by decide) rfl ?_
  refine g_iload_n d_Ps_init_25 rfl ?_
  refine T_new (L' := [(4, 3), (22, 8), (3, 8), (20, 5), (20, 10), (20, 10), (20, 10), (20, 10), (3, 8), (20, 5), (20, 10), (20, 10), (20, 10), (20, 10), (3, 8)]) (T' := [[(a + 1)], [(a + 2), (a + 8)], [t, (a + 3), (a + 4), (a + 5), (a + 6), (a + 7)], [], [], [], [], [], [t, (a + 9), (a + 10), (a + 11), (a + 12), (a + 13)], [], [], [], [], [], []]) hB d_Ps_init_26 n_Ps_9 ⟨rfl, rfl⟩ rfl rfl ?_
  refine P_dupA d_Ps_init_29 ?_
  refine g_aload_n d_Ps_init_30 rfl ?_
  refine C_I1 d_Ps_init_31 k_Ps_15 (by omega) (Nat.le_of_ble_eq_true rfl) (by decide) (Nat.le_of_ble_eq_true rfl) ?_
  refine c_St_init (L := [(4, 3), (22, 8), (3, 8), (20, 5), (20, 10), (20, 10), (20, 10), (20, 10), (3, 8), (20, 5), (20, 10), (20, 10), (20, 10), (20, 10)]) (T := [[(a + 1)], [(a + 2), (a + 8)], [t, (a + 3), (a + 4), (a + 5), (a + 6), (a + 7)], [], [], [], [], [], [t, (a + 9), (a + 10), (a + 11), (a + 12), (a + 13)], [], [], [], [], []]) (k := 14) hB ⟨rfl, rfl⟩ ?_
  show EW X m_Ps_init 34 [.ref a, .ref t, .int (nI 2)] [.ref (a + 14), .int (nI 2), .ref (a + 1)] (cP X ly tb [(4, 3), (22, 8), (3, 8), (20, 5), (20, 10), (20, 10), (20, 10), (20, 10), (3, 8), (20, 5), (20, 10), (20, 10), (20, 10), (20, 10), (3, 8), (20, 5), (20, 10), (20, 10), (20, 10), (20, 10)] [[(a + 1)], [(a + 2), (a + 8)], [t, (a + 3), (a + 4), (a + 5), (a + 6), (a + 7)], [], [], [], [], [], [t, (a + 9), (a + 10), (a + 11), (a + 12), (a + 13)], [], [], [], [], [], [t, (a + 15), (a + 16), (a + 17), (a + 18), (a + 19)], [], [], [], [], []]) Q
  refine T_aast 1 2 14 (T' := [[(a + 1)], [(a + 2), (a + 8), (a + 14)], [t, (a + 3), (a + 4), (a + 5), (a + 6), (a + 7)], [], [], [], [], [], [t, (a + 9), (a + 10), (a + 11), (a + 12), (a + 13)], [], [], [], [], [], [t, (a + 15), (a + 16), (a + 17), (a + 18), (a + 19)], [], [], [], [], []]) hB d_Ps_init_34 (Or.inl ⟨rfl, rfl⟩) rfl (by decide) (by decide) rfl cl_St (Nat.le_of_ble_eq_true rfl) rfl ?_
  refine N_iinc_3_2_1 d_Ps_init_35 rfl rfl ?_
  refine P_goto d_Ps_init_38 15 (by decide) ?_
  refine g_iload_n d_Ps_init_15 rfl ?_
  refine N_bipush d_Ps_init_16 8 rfl ?_
  refine N_icmp_ge d_Ps_init_18 41 (by decide) ⟨by omega, by omega⟩ (fun z => absurd z (by omega)) (fun _ => ?_)
  refine g_aload_n d_Ps_init_21 rfl ?_
  refine T_getR 0 (a + 1) hB d_Ps_init_22 f_Ps_11.g rfl rfl (by decide) rfl ?_
  refine g_iload_n d_Ps_init_25 rfl ?_
  refine T_new (L' := [(4, 3), (22, 8), (3, 8), (20, 5), (20, 10), (20, 10), (20, 10), (20, 10), (3, 8), (20, 5), (20, 10), (20, 10), (20, 10), (20, 10), (3, 8), (20, 5), (20, 10), (20, 10), (20, 10), (20, 10), (3, 8)]) (T' := [[(a + 1)], [(a + 2), (a + 8), (a + 14)], [t, (a + 3), (a + 4), (a + 5), (a + 6), (a + 7)], [], [], [], [], [], [t, (a + 9), (a + 10), (a + 11), (a + 12), (a + 13)], [], [], [], [], [], [t, (a + 15), (a + 16), (a + 17), (a + 18), (a + 19)], [], [], [], [], [], []]) hB d_Ps_init_26 n_Ps_9 ⟨rfl, rfl⟩ rfl rfl ?_
  refine P_dupA d_Ps_init_29 ?_
  refine g_aload_n d_Ps_init_30 rfl ?_
  refine C_I1 d_Ps_init_31 k_Ps_15 (by omega) (Nat.le_of_ble_eq_true rfl) (by decide) (Nat.le_of_ble_eq_true rfl) ?_
  refine c_St_init (L := [(4, 3), (22, 8), (3, 8), (20, 5), (20, 10), (20, 10), (20, 10), (20, 10), (3, 8), (20, 5), (20, 10), (20, 10), (20, 10), (20, 10), (3, 8), (20, 5), (20, 10), (20, 10), (20, 10), (20, 10)]) (T := [[(a + 1)], [(a + 2), (a + 8), (a + 14)], [t, (a + 3), (a + 4), (a + 5), (a + 6), (a + 7)], [], [], [], [], [], [t, (a + 9), (a + 10), (a + 11), (a + 12), (a + 13)], [], [], [], [], [], [t, (a + 15), (a + 16), (a + 17), (a + 18), (a + 19)], [], [], [], [], []]) (k := 20) hB ⟨rfl, rfl⟩ ?_
  show EW X m_Ps_init 34 [.ref a, .ref t, .int (nI 3)] [.ref (a + 20), .int (nI 3), .ref (a + 1)] (cP X ly tb [(4, 3), (22, 8), (3, 8), (20, 5), (20, 10), (20, 10), (20, 10), (20, 10), (3, 8), (20, 5), (20, 10), (20, 10), (20, 10), (20, 10), (3, 8), (20, 5), (20, 10), (20, 10), (20, 10), (20, 10), (3, 8), (20, 5), (20, 10), (20, 10), (20, 10), (20, 10)] [[(a + 1)], [(a + 2), (a + 8), (a + 14)], [t, (a + 3), (a + 4), (a + 5), (a + 6), (a + 7)], [], [], [], [], [], [t, (a + 9), (a + 10), (a + 11), (a + 12), (a + 13)], [], [], [], [], [], [t, (a + 15), (a + 16), (a + 17), (a + 18), (a + 19)], [], [], [], [], [], [t, (a + 21), (a + 22), (a + 23), (a + 24), (a + 25)], [], [], [], [], []]) Q
  refine T_aast 1 3 20 (T' := [[(a + 1)], [(a + 2), (a + 8), (a + 14), (a + 20)], [t, (a + 3), (a + 4), (a + 5), (a + 6), (a + 7)], [], [], [], [], [], [t, (a + 9), (a + 10), (a + 11), (a + 12), (a + 13)], [], [], [], [], [], [t, (a + 15), (a + 16), (a + 17), (a + 18), (a + 19)], [], [], [], [], [], [t, (a + 21), (a + 22), (a + 23), (a + 24), (a + 25)], [], [], [], [], []]) hB d_Ps_init_34 (Or.inl ⟨rfl, rfl⟩) rfl (by decide) (by decide) rfl cl_St (Nat.le_of_ble_eq_true rfl) rfl ?_
  refine N_iinc_3_2_1 d_Ps_init_35 rfl rfl ?_
  refine P_goto d_Ps_init_38 15 (by decide) ?_
  refine g_iload_n d_Ps_init_15 rfl ?_
  refine N_bipush d_Ps_init_16 8 rfl ?_
  refine N_icmp_ge d_Ps_init_18 41 (by decide) ⟨by omega, by omega⟩ (fun z => absurd z (by omega)) (fun _ => ?_)
  refine g_aload_n d_Ps_init_21 rfl ?_
  refine T_getR 0 (a + 1) hB d_Ps_init_22 f_Ps_11.g rfl rfl (by decide) rfl ?_
  refine g_iload_n d_Ps_init_25 rfl ?_
  refine T_new (L' := [(4, 3), (22, 8), (3, 8), (20, 5), (20, 10), (20, 10), (20, 10), (20, 10), (3, 8), (20, 5), (20, 10), (20, 10), (20, 10), (20, 10), (3, 8), (20, 5), (20, 10), (20, 10), (20, 10), (20, 10), (3, 8), (20, 5), (20, 10), (20, 10), (20, 10), (20, 10), (3, 8)]) (T' := [[(a + 1)], [(a + 2), (a + 8), (a + 14), (a + 20)], [t, (a + 3), (a + 4), (a + 5), (a + 6), (a + 7)], [], [], [], [], [], [t, (a + 9), (a + 10), (a + 11), (a + 12), (a + 13)], [], [], [], [], [], [t, (a + 15), (a + 16), (a + 17), (a + 18), (a + 19)], [], [], [], [], [], [t, (a + 21), (a + 22), (a + 23), (a + 24), (a + 25)], [], [], [], [], [], []]) hB d_Ps_init_26 n_Ps_9 ⟨rfl, rfl⟩ rfl rfl ?_
  refine P_dupA d_Ps_init_29 ?_
  refine g_aload_n d_Ps_init_30 rfl ?_
  refine C_I1 d_Ps_init_31 k_Ps_15 (by omega) (Nat.le_of_ble_eq_true rfl) (by decide) (Nat.le_of_ble_eq_true rfl) ?_
  refine c_St_init (L := [(4, 3), (22, 8), (3, 8), (20, 5), (20, 10), (20, 10), (20, 10), (20, 10), (3, 8), (20, 5), (20, 10), (20, 10), (20, 10), (20, 10), (3, 8), (20, 5), (20, 10), (20, 10), (20, 10), (20, 10), (3, 8), (20, 5), (20, 10), (20, 10), (20, 10), (20, 10)]) (T := [[(a + 1)], [(a + 2), (a + 8), (a + 14), (a + 20)], [t, (a + 3), (a + 4), (a + 5), (a + 6), (a + 7)], [], [], [], [], [], [t, (a + 9), (a + 10), (a + 11), (a + 12), (a + 13)], [], [], [], [], [], [t, (a + 15), (a + 16), (a + 17), (a + 18), (a + 19)], [], [], [], [], [], [t, (a + 21), (a + 22), (a + 23), (a + 24), (a + 25)], [], [], [], [], []]) (k := 26) hB ⟨rfl, rfl⟩ ?_
  show EW X m_Ps_init 34 [.ref a, .ref t, .int (nI 4)] [.ref (a + 26), .int (nI 4), .ref (a + 1)] (cP X ly tb [(4, 3), (22, 8), (3, 8), (20, 5), (20, 10), (20, 10), (20, 10), (20, 10), (3, 8), (20, 5), (20, 10), (20, 10), (20, 10), (20, 10), (3, 8), (20, 5), (20, 10), (20, 10), (20, 10), (20, 10), (3, 8), (20, 5), (20, 10), (20, 10), (20, 10), (20, 10), (3, 8), (20, 5), (20, 10), (20, 10), (20, 10), (20, 10)] [[(a + 1)], [(a + 2), (a + 8), (a + 14), (a + 20)], [t, (a + 3), (a + 4), (a + 5), (a + 6), (a + 7)], [], [], [], [], [], [t, (a + 9), (a + 10), (a + 11), (a + 12), (a + 13)], [], [], [], [], [], [t, (a + 15), (a + 16), (a + 17), (a + 18), (a + 19)], [], [], [], [], [], [t, (a + 21), (a + 22), (a + 23), (a + 24), (a + 25)], [], [], [], [], [], [t, (a + 27), (a + 28), (a + 29), (a + 30), (a + 31)], [], [], [], [], []]) Q
  refine T_aast 1 4 26 (T' := [[(a + 1)], [(a + 2), (a + 8), (a + 14), (a + 20), (a + 26)], [t, (a + 3), (a + 4), (a + 5), (a + 6), (a + 7)], [], [], [], [], [], [t, (a + 9), (a + 10), (a + 11), (a + 12), (a + 13)], [], [], [], [], [], [t, (a + 15), (a + 16), (a + 17), (a + 18), (a + 19)], [], [], [], [], [], [t, (a + 21), (a + 22), (a + 23), (a + 24), (a + 25)], [], [], [], [], [], [t, (a + 27), (a + 28), (a + 29), (a + 30), (a + 31)], [], [], [], [], []]) hB d_Ps_init_34 (Or.inl ⟨rfl, rfl⟩) rfl (by decide) (by decide) rfl cl_St (Nat.le_of_ble_eq_true rfl) rfl ?_
  refine N_iinc_3_2_1 d_Ps_init_35 rfl rfl ?_
  refine P_goto d_Ps_init_38 15 (by decide) ?_
  refine g_iload_n d_Ps_init_15 rfl ?_
  refine N_bipush d_Ps_init_16 8 rfl ?_
  refine N_icmp_ge d_Ps_init_18 41 (by decide) ⟨by omega, by omega⟩ (fun z => absurd z (by omega)) (fun _ => ?_)
  refine g_aload_n d_Ps_init_21 rfl ?_
  refine T_getR 0 (a + 1) hB d_Ps_init_22 f_Ps_11.g rfl rfl (by decide) rfl ?_
  refine g_iload_n d_Ps_init_25 rfl ?_
  refine T_new (L' := [(4, 3), (22, 8), (3, 8), (20, 5), (20, 10), (20, 10), (20, 10), (20, 10), (3, 8), (20, 5), (20, 10), (20, 10), (20, 10), (20, 10), (3, 8), (20, 5), (20, 10), (20, 10), (20, 10), (20, 10), (3, 8), (20, 5), (20, 10), (20, 10), (20, 10), (20, 10), (3, 8), (20, 5), (20, 10), (20, 10), (20, 10), (20, 10), (3, 8)]) (T' := [[(a + 1)], [(a + 2), (a + 8), (a + 14), (a + 20), (a + 26)], [t, (a + 3), (a + 4), (a + 5), (a + 6), (a + 7)], [], [], [], [], [], [t, (a + 9), (a + 10), (a + 11), (a + 12), (a + 13)], [], [], [], [], [], [t, (a + 15), (a + 16), (a + 17), (a + 18), (a + 19)], [], [], [], [], [], [t, (a + 21), (a + 22), (a + 23), (a + 24), (a + 25)], [], [], [], [], [], [t, (a + 27), (a + 28), (a + 29), (a + 30), (a + 31)], [], [], [], [], [], []]) hB d_Ps_init_26 n_Ps_9 ⟨rfl, rfl⟩ rfl rfl ?_
  refine P_dupA d_Ps_init_29 ?_
  refine g_aload_n d_Ps_init_30 rfl ?_
  refine C_I1 d_Ps_init_31 k_Ps_15 (by omega) (Nat.le_of_ble_eq_true rfl) (by decide) (Nat.le_of_ble_eq_true rfl) ?_
  refine c_St_init (L := [(4, 3), (22, 8), (3, 8), (20, 5), (20, 10), (20, 10), (20, 10), (20, 10), (3, 8), (20, 5), (20, 10), (20, 10), (20, 10), (20, 10), (3, 8), (20, 5), (20, 10), (20, 10), (20, 10), (20, 10), (3, 8), (20, 5), (20, 10), (20, 10), (20, 10), (20, 10), (3, 8), (20, 5), (20, 10), (20, 10), (20, 10), (20, 10)]) (T := [[(a + 1)], [(a + 2), (a + 8), (a + 14), (a + 20), (a + 26)], [t, (a + 3), (a + 4), (a + 5), (a + 6), (a + 7)], [], [], [], [], [], [t, (a + 9), (a + 10), (a + 11), (a + 12), (a + 13)], [], [], [], [], [], [t, (a + 15), (a + 16), (a + 17), (a + 18), (a + 19)], [], [], [], [], [], [t, (a + 21), (a + 22), (a + 23), (a + 24), (a + 25)], [], [], [], [], [], [t, (a + 27), (a + 28), (a + 29), (a + 30), (a + 31)], [], [], [], [], []]) (k := 32) hB ⟨rfl, rfl⟩ ?_
  show EW X m_Ps_init 34 [.ref a, .ref t, .int (nI 5)] [.ref (a + 32), .int (nI 5), .ref (a + 1)] (cP X ly tb [(4, 3), (22, 8), (3, 8), (20, 5), (20, 10), (20, 10), (20, 10), (20, 10), (3, 8), (20, 5), (20, 10), (20, 10), (20, 10), (20, 10), (3, 8), (20, 5), (20, 10), (20, 10), (20, 10), (20, 10), (3, 8), (20, 5), (20, 10), (20, 10), (20, 10), (20, 10), (3, 8), (20, 5), (20, 10), (20, 10), (20, 10), (20, 10), (3, 8), (20, 5), (20, 10), (20, 10), (20, 10), (20, 10)] [[(a + 1)], [(a + 2), (a + 8), (a + 14), (a + 20), (a + 26)], [t, (a + 3), (a + 4), (a + 5), (a + 6), (a + 7)], [], [], [], [], [], [t, (a + 9), (a + 10), (a + 11), (a + 12), (a + 13)], [], [], [], [], [], [t, (a + 15), (a + 16), (a + 17), (a + 18), (a + 19)], [], [], [], [], [], [t, (a + 21), (a + 22), (a + 23), (a + 24), (a + 25)], [], [], [], [], [], [t, (a + 27), (a + 28), (a + 29), (a + 30), (a + 31)], [], [], [], [], [], [t, (a + 33), (a + 34), (a + 35), (a + 36), (a + 37)], [], [], [], [], []]) Q
  refine T_aast 1 5 32 (T' := [[(a + 1)], [(a + 2), (a + 8), (a + 14), (a + 20), (a + 26), (a + 32)], [t, (a + 3), (a + 4), (a + 5), (a + 6), (a + 7)], [], [], [], [], [], [t, (a + 9), (a + 10), (a + 11), (a + 12), (a + 13)], [], [], [], [], [], [t, (a + 15), (a + 16), (a + 17), (a + 18), (a + 19)], [], [], [], [], [], [t, (a + 21), (a + 22), (a + 23), (a + 24), (a + 25)], [], [], [], [], [], [t, (a + 27), (a + 28), (a + 29), (a + 30), (a + 31)], [], [], [], [], [], [t, (a + 33), (a + 34), (a + 35), (a + 36), (a + 37)], [], [], [], [], []]) hB d_Ps_init_34 (Or.inl ⟨rfl, rfl⟩) rfl (by decide) (by decide) rfl cl_St (Nat.le_of_ble_eq_true rfl) rfl ?_
  refine N_iinc_3_2_1 d_Ps_init_35 rfl rfl ?_
  refine P_goto d_Ps_init_38 15 (by decide) ?_
  refine g_iload_n d_Ps_init_15 rfl ?_
  refine N_bipush d_Ps_init_16 8 rfl ?_
  refine N_icmp_ge d_Ps_init_18 41 (by decide) ⟨by omega, by omega⟩ (fun z => absurd z (by omega)) (fun _ => ?_)
  refine g_aload_n d_Ps_init_21 rfl ?_
  refine T_getR 0 (a + 1) hB d_Ps_init_22 f_Ps_11.g rfl rfl (by decide) rfl ?_
  refine g_iload_n d_Ps_init_25 rfl ?_
  refine T_new (L' := [(4, 3), (22, 8), (3, 8), (20, 5), (20, 10), (20, 10), (20, 10), (20, 10), (3, 8), (20, 5), (20, 10), (20, 10), (20, 10), (20, 10), (3, 8), (20, 5), (20, 10), (20, 10), (20, 10), (20, 10), (3, 8), (20, 5), (20, 10), (20, 10), (20, 10), (20, 10), (3, 8), (20, 5), (20, 10), (20, 10), (20, 10), (20, 10), (3, 8), (20, 5), (20, 10), (20, 10), (20, 10), (20, 10), (3, 8)]) (T' := [[(a + 1)], [(a + 2), (a + 8), (a + 14), (a + 20), (a + 26), (a + 32)], [t, (a + 3), (a + 4), (a + 5), (a + 6), (a + 7)], [], [], [], [], [], [t, (a + 9), (a + 10), (a + 11), (a + 12), (a + 13)], [], [], [], [], [], [t, (a + 15), (a + 16), (a + 17), (a + 18), (a + 19)], [], [], [], [], [], [t, (a + 21), (a + 22), (a + 23), (a + 24), (a + 25)], [], [], [], [], [], [t, (a + 27), (a + 28), (a + 29), (a + 30), (a + 31)], [], [], [], [], [], [t, (a + 33), (a + 34), (a + 35), (a + 36), (a + 37)], [], [], [], [], [], []]) hB d_Ps_init_26 n_Ps_9 ⟨rfl, rfl⟩ rfl rfl ?_
  refine P_dupA d_Ps_init_29 ?_
  refine g_aload_n d_Ps_init_30 rfl ?_
  refine C_I1 d_Ps_init_31 k_Ps_15 (by omega) (Nat.le_of_ble_eq_true rfl) (by decide) (Nat.le_of_ble_eq_true rfl) ?_
  refine c_St_init (L := [(4, 3), (22, 8), (3, 8), (20, 5), (20, 10), (20, 10), (20, 10), (20, 10), (3, 8), (20, 5), (20, 10), (20, 10), (20, 10), (20, 10), (3, 8), (20, 5), (20, 10), (20, 10), (20, 10), (20, 10), (3, 8), (20, 5), (20, 10), (20, 10), (20, 10), (20, 10), (3, 8), (20, 5), (20, 10), (20, 10), (20, 10), (20, 10), (3, 8), (20, 5), (20, 10), (20, 10), (20, 10), (20, 10)]) (T := [[(a + 1)], [(a + 2), (a + 8), (a + 14), (a + 20), (a + 26), (a + 32)], [t, (a + 3), (a + 4), (a + 5), (a + 6), (a + 7)], [], [], [], [], [], [t, (a + 9), (a + 10), (a + 11), (a + 12), (a + 13)], [], [], [], [], [], [t, (a + 15), (a + 16), (a + 17), (a + 18), (a + 19)], [], [], [], [], [], [t, (a + 21), (a + 22), (a + 23), (a + 24), (a + 25)], [], [], [], [], [], [t, (a + 27), (a + 28), (a + 29), (a + 30), (a + 31)], [], [], [], [], [], [t, (a + 33), (a + 34), (a + 35), (a + 36), (a + 37)], [], [], [], [], []]) (k := 38) hB ⟨rfl, rfl⟩ ?_
  show EW X m_Ps_init 34 [.ref a, .ref t, .int (nI 6)] [.ref (a + 38), .int (nI 6), .ref (a + 1)] (cP X ly tb [(4, 3), (22, 8), (3, 8), (20, 5), (20, 10), (20, 10), (20, 10), (20, 10), (3, 8), (20, 5), (20, 10), (20, 10), (20, 10), (20, 10), (3, 8), (20, 5), (20, 10), (20, 10), (20, 10), (20, 10), (3, 8), (20, 5), (20, 10), (20, 10), (20, 10), (20, 10), (3, 8), (20, 5), (20, 10), (20, 10), (20, 10), (20, 10), (3, 8), (20, 5), (20, 10), (20, 10), (20, 10), (20, 10), (3, 8), (20, 5), (20, 10), (20, 10), (20, 10), (20, 10)] [[(a + 1)], [(a + 2), (a + 8), (a + 14), (a + 20), (a + 26), (a + 32)], [t, (a + 3), (a + 4), (a + 5), (a + 6), (a + 7)], [], [], [], [], [], [t, (a + 9), (a + 10), (a + 11), (a + 12), (a + 13)], [], [], [], [], [], [t, (a + 15), (a + 16), (a + 17), (a + 18), (a + 19)], [], [], [], [], [], [t, (a + 21), (a + 22), (a + 23), (a + 24), (a + 25)], [], [], [], [], [], [t, (a + 27), (a + 28), (a + 29), (a + 30), (a + 31)], [], [], [], [], [], [t, (a + 33), (a + 34), (a + 35), (a + 36), (a + 37)], [], [], [], [], [], [t, (a + 39), (a + 40), (a + 41), (a + 42), (a + 43)], [], [], [], [], []]) Q
  refine T_aast 1 6 38 (T' := [[(a + 1)], [(a + 2), (a + 8), (a + 14), (a + 20), (a + 26), (a + 32), (a + 38)], [t, (a + 3), (a + 4), (a + 5), (a + 6), (a + 7)], [], [], [], [], [], [t, (a + 9), (a + 10), (a + 11), (a + 12), (a + 13)], [], [], [], [], [], [t, (a + 15), (a + 16), (a + 17), (a + 18), (a + 19)], [], [], [], [], [], [t, (a + 21), (a + 22), (a + 23), (a + 24), (a + 25)], [], [], [], [], [], [t, (a + 27), (a + 28), (a + 29), (a + 30), (a + 31)], [], [], [], [], [], [t, (a + 33), (a + 34), (a + 35), (a + 36), (a + 37)], [], [], [], [], [], [t, (a + 39), (a + 40), (a + 41), (a + 42), (a + 43)], [], [], [], [], []]) hB d_Ps_init_34 (Or.inl ⟨rfl, rfl⟩) rfl (by decide) (by decide) rfl cl_St (Nat.le_of_ble_eq_true rfl) rfl ?_
  refine N_iinc_3_2_1 d_Ps_init_35 rfl rfl ?_
  refine P_goto d_Ps_init_38 15 (by decide) ?_
  refine g_iload_n d_Ps_init_15 rfl ?_
  refine N_bipush d_Ps_init_16 8 rfl ?_
  refine N_icmp_ge d_Ps_init_18 41 (by decide) ⟨by omega, by omega⟩ (fun z => absurd z (by omega)) (fun _ => ?_)
  refine g_aload_n d_Ps_init_21 rfl ?_
  refine T_getR 0 (a + 1) hB d_Ps_init_22 f_Ps_11.g rfl rfl (by decide) rfl ?_
  refine g_iload_n d_Ps_init_25 rfl ?_
  refine T_new (L' := [(4, 3), (22, 8), (3, 8), (20, 5), (20, 10), (20, 10), (20, 10), (20, 10), (3, 8), (20, 5), (20, 10), (20, 10), (20, 10), (20, 10), (3, 8), (20, 5), (20, 10), (20, 10), (20, 10), (20, 10), (3, 8), (20, 5), (20, 10), (20, 10), (20, 10), (20, 10), (3, 8), (20, 5), (20, 10), (20, 10), (20, 10), (20, 10), (3, 8), (20, 5), (20, 10), (20, 10), (20, 10), (20, 10), (3, 8), (20, 5), (20, 10), (20, 10), (20, 10), (20, 10), (3, 8)]) (T' := [[(a + 1)], [(a + 2), (a + 8), (a + 14), (a + 20), (a + 26), (a + 32), (a + 38)], [t, (a + 3), (a + 4), (a + 5), (a + 6), (a + 7)], [], [], [], [], [], [t, (a + 9), (a + 10), (a + 11), (a + 12), (a + 13)], [], [], [], [], [], [t, (a + 15), (a + 16), (a + 17), (a + 18), (a + 19)], [], [], [], [], [], [t, (a + 21), (a + 22), (a + 23), (a + 24), (a + 25)], [], [], [], [], [], [t, (a + 27), (a + 28), (a + 29), (a + 30), (a + 31)], [], [], [], [], [], [t, (a + 33), (a + 34), (a + 35), (a + 36), (a + 37)], [], [], [], [], [], [t, (a + 39), (a + 40), (a + 41), (a + 42), (a + 43)], [], [], [], [], [], []]) hB d_Ps_init_26 n_Ps_9 ⟨rfl, rfl⟩ rfl rfl ?_
  refine P_dupA d_Ps_init_29 ?_
  refine g_aload_n d_Ps_init_30 rfl ?_
  refine C_I1 d_Ps_init_31 k_Ps_15 (by omega) (Nat.le_of_ble_eq_true rfl) (by decide) (Nat.le_of_ble_eq_true rfl) ?_
  refine c_St_init (L := [(4, 3), (22, 8), (3, 8), (20, 5), (20, 10), (20, 10), (20, 10), (20, 10), (3, 8), (20, 5), (20, 10), (20, 10), (20, 10), (20, 10), (3, 8), (20, 5), (20, 10), (20, 10), (20, 10), (20, 10), (3, 8), (20, 5), (20, 10), (20, 10), (20, 10), (20, 10), (3, 8), (20, 5), (20, 10), (20, 10), (20, 10), (20, 10), (3, 8), (20, 5), (20, 10), (20, 10), (20, 10), (20, 10), (3, 8), (20, 5), (20, 10), (20, 10), (20, 10), (20, 10)]) (T := [[(a + 1)], [(a + 2), (a + 8), (a + 14), (a + 20), (a + 26), (a + 32), (a + 38)], [t, (a + 3), (a + 4), (a + 5), (a + 6), (a + 7)], [], [], [], [], [], [t, (a + 9), (a + 10), (a + 11), (a + 12), (a + 13)], [], [], [], [], [], [t, (a + 15), (a + 16), (a + 17), (a + 18), (a + 19)], [], [], [], [], [], [t, (a + 21), (a + 22), (a + 23), (a + 24), (a + 25)], [], [], [], [], [], [t, (a + 27), (a + 28), (a + 29), (a + 30), (a + 31)], [], [], [], [], [], [t, (a + 33), (a + 34), (a + 35), (a + 36), (a + 37)], [], [], [], [], [], [t, (a + 39), (a + 40), (a + 41), (a + 42), (a + 43)], [], [], [], [], []]) (k := 44) hB ⟨rfl, rfl⟩ ?_
  show EW X m_Ps_init 34 [.ref a, .ref t, .int (nI 7)] [.ref (a + 44), .int (nI 7), .ref (a + 1)] (cP X ly tb [(4, 3), (22, 8), (3, 8), (20, 5), (20, 10), (20, 10), (20, 10), (20, 10), (3, 8), (20, 5), (20, 10), (20, 10), (20, 10), (20, 10), (3, 8), (20, 5), (20, 10), (20, 10), (20, 10), (20, 10), (3, 8), (20, 5), (20, 10), (20, 10), (20, 10), (20, 10), (3, 8), (20, 5), (20, 10), (20, 10), (20, 10), (20, 10), (3, 8), (20, 5), (20, 10), (20, 10), (20, 10), (20, 10), (3, 8), (20, 5), (20, 10), (20, 10), (20, 10), (20, 10), (3, 8), (20, 5), (20, 10), (20, 10), (20, 10), (20, 10)] [[(a + 1)], [(a + 2), (a + 8), (a + 14), (a + 20), (a + 26), (a + 32), (a + 38)], [t, (a + 3), (a + 4), (a + 5), (a + 6), (a + 7)], [], [], [], [], [], [t, (a + 9), (a + 10), (a + 11), (a + 12), (a + 13)], [], [], [], [], [], [t, (a + 15), (a + 16), (a + 17), (a + 18), (a + 19)], [], [], [], [], [], [t, (a + 21), (a + 22), (a + 23), (a + 24), (a + 25)], [], [], [], [], [], [t, (a + 27), (a + 28), (a + 29), (a + 30), (a + 31)], [], [], [], [], [], [t, (a + 33), (a + 34), (a + 35), (a + 36), (a + 37)], [], [], [], [], [], [t, (a + 39), (a + 40), (a + 41), (a + 42), (a + 43)], [], [], [], [], [], [t, (a + 45), (a + 46), (a + 47), (a + 48), (a + 49)], [], [], [], [], []]) Q
  refine T_aast 1 7 44 (T' := [[(a + 1)], [(a + 2), (a + 8), (a + 14), (a + 20), (a + 26), (a + 32), (a + 38), (a + 44)], [t, (a + 3), (a + 4), (a + 5), (a + 6), (a + 7)], [], [], [], [], [], [t, (a + 9), (a + 10), (a + 11), (a + 12), (a + 13)], [], [], [], [], [], [t, (a + 15), (a + 16), (a + 17), (a + 18), (a + 19)], [], [], [], [], [], [t, (a + 21), (a + 22), (a + 23), (a + 24), (a + 25)], [], [], [], [], [], [t, (a + 27), (a + 28), (a + 29), (a + 30), (a + 31)], [], [], [], [], [], [t, (a + 33), (a + 34), (a + 35), (a + 36), (a + 37)], [], [], [], [], [], [t, (a + 39), (a + 40), (a + 41), (a + 42), (a + 43)], [], [], [], [], [], [t, (a + 45), (a + 46), (a + 47), (a + 48), (a + 49)], [], [], [], [], []]) hB d_Ps_init_34 (Or.inl ⟨rfl, rfl⟩) rfl (by decide) (by decide) rfl cl_St (Nat.le_of_ble_eq_true rfl) rfl ?_
  refine N_iinc_3_2_1 d_Ps_init_35 rfl rfl ?_
  refine P_goto d_Ps_init_38 15 (by decide) ?_
  refine g_iload_n d_Ps_init_15 rfl ?_
  refine N_bipush d_Ps_init_16 8 rfl ?_
  refine N_icmp_ge d_Ps_init_18 41 (by decide) ⟨by omega, by omega⟩ (fun _ => ?_) (fun z => absurd z (by omega))
  refine P_vret d_Ps_init_41 rfl ?_
  exact k
theorem c_Ps_init {X : CX} {Q : Option Value → AH → Prop} {ly : List (Nat × Nat)} {tb : List (List Nat)} {a0 k : Nat} {L : List (Nat × Nat)} {T : List (List Nat)} {t : Nat} (hB : ly.length + 32 = a0 ∧ tb.length + 32 = a0) (hk : L.length = k ∧ T.length = k) (kk : Q none (cP X ly tb (L ++ [(4, 3), (22, 8), (3, 8), (20, 5), (20, 10), (20, 10), (20, 10), (20, 10), (3, 8), (20, 5), (20, 10), (20, 10), (20, 10), (20, 10), (3, 8), (20, 5), (20, 10), (20, 10), (20, 10), (20, 10), (3, 8), (20, 5), (20, 10), (20, 10), (20, 10), (20, 10), (3, 8), (20, 5), (20, 10), (20, 10), (20, 10), (20, 10), (3, 8), (20, 5), (20, 10), (20, 10), (20, 10), (20, 10), (3, 8), (20, 5), (20, 10), (20, 10), (20, 10), (20, 10), (3, 8), (20, 5), (20, 10), (20, 10), (20, 10), (20, 10)]) (T ++ [[(a0 + k + 1)], [(a0 + k + 2), (a0 + k + 8), (a0 + k + 14), (a0 + k + 20), (a0 + k + 26), (a0 + k + 32), (a0 + k + 38), (a0 + k + 44)], [t, (a0 + k + 3), (a0 + k + 4), (a0 + k + 5), (a0 + k + 6), (a0 + k + 7)], [], [], [], [], [], [t, (a0 + k + 9), (a0 + k + 10), (a0 + k + 11), (a0 + k + 12), (a0 + k + 13)], [], [], [], [], [], [t, (a0 + k + 15), (a0 + k + 16), (a0 + k + 17), (a0 + k + 18), (a0 + k + 19)], [], [], [], [], [], [t, (a0 + k + 21), (a0 + k + 22), (a0 + k + 23), (a0 + k + 24), (a0 + k + 25)], [], [], [], [], [], [t, (a0 + k + 27), (a0 + k + 28), (a0 + k + 29), (a0 + k + 30), (a0 + k + 31)], [], [], [], [], [], [t, (a0 + k + 33), (a0 + k + 34), (a0 + k + 35), (a0 + k + 36), (a0 + k + 37)], [], [], [], [], [], [t, (a0 + k + 39), (a0 + k + 40), (a0 + k + 41), (a0 + k + 42), (a0 + k + 43)], [], [], [], [], [], [t, (a0 + k + 45), (a0 + k + 46), (a0 + k + 47), (a0 + k + 48), (a0 + k + 49)], [], [], [], [], []]))) : EW X m_Ps_init 0 (enL m_Ps_init.2.2.1 [.ref (a0 + k), .ref t]) [] (cP X ly tb (L ++ [(4, 3)]) (T ++ [[]])) Q := by
  rw [cP_sp]
  refine c0_Ps_init (a := a0 + k) ⟨by rw [List.length_append]; omega, by rw [List.length_append]; omega⟩ ?_
  rw [← cP_sp]; exact kk
theorem c0_Fo_init {X : CX} {Q : Option Value → AH → Prop} {ly : List (Nat × Nat)} {tb : List (List Nat)} {a : Nat} {t : Nat} (hB : ly.length + 32 = a ∧ tb.length + 32 = a) (k : Q none (cP X ly tb [(5, 7), (20, 5), (20, 5), (20, 5), (3, 8), (20, 5), (20, 10), (20, 10), (20, 10), (20, 10)] [[t, (a + 4), (a + 1), (a + 2), (a + 3)], [], [], [], [t, (a + 5), (a + 6), (a + 7), (a + 8), (a + 9)], [], [], [], [], []])) : EW X m_Fo_init 0 (enL m_Fo_init.2.2.1 [.ref a, .ref t]) [] (cP X ly tb [(5, 7)] [[]]) Q := by
  show EW X m_Fo_init 0 [.ref a, .ref t] [] (cP X ly tb [(5, 7)] [[]]) Q
  refine g_aload_n d_Fo_init_0 rfl ?_
  refine P_objInit d_Fo_init_1 o_Fo_3 (by omega) (by decide) (Nat.le_of_ble_eq_true rfl) ?_
  refine g_aload_n d_Fo_init_4 rfl ?_
  refine N_iconst d_Fo_init_5 5 rfl ?_
  refine T_newI (L' := [(5, 7), (20, 5)]) (T' := [[], []]) hB d_Fo_init_6 (by decide) ⟨rfl, rfl⟩ rfl rfl ?_
  refine T_putR 0 (T' := [[0, 0, (a + 1)], []]) hB d_Fo_init_8 f_Fo_11 (fun _ => rfl) rfl rfl (by decide) (Nat.le_of_ble_eq_true rfl) rfl ?_
  refine g_aload_n d_Fo_init_11 rfl ?_
  refine N_iconst d_Fo_init_12 5 rfl ?_
  refine T_newI (L' := [(5, 7), (20, 5), (20, 5)]) (T' := [[0, 0, (a + 1)], [], []]) hB d_Fo_init_13 (by decide) ⟨rfl, rfl⟩ rfl rfl ?_
  refine T_putR 0 (T' := [[0, 0, (a + 1), (a + 2)], [], []]) hB d_Fo_init_15 f_Fo_15 (fun _ => rfl) rfl rfl (by decide) (Nat.le_of_ble_eq_true rfl) rfl ?_
  refine g_aload_n d_Fo_init_18 rfl ?_
  refine N_iconst d_Fo_init_19 5 rfl ?_
  refine T_newI (L' := [(5, 7), (20, 5), (20, 5), (20, 5)]) (T' := [[0, 0, (a + 1), (a + 2)], [], [], []]) hB d_Fo_init_20 (by decide) ⟨rfl, rfl⟩ rfl rfl ?_
  refine T_putR 0 (T' := [[0, 0, (a + 1), (a + 2), (a + 3)], [], [], []]) hB d_Fo_init_22 f_Fo_18 (fun _ => rfl) rfl rfl (by decide) (Nat.le_of_ble_eq_true rfl) rfl ?_
  refine g_aload_n d_Fo_init_25 rfl ?_
  refine g_aload_n d_Fo_init_26 rfl ?_
  refine T_putR 0 (T' := [[t, 0, (a + 1), (a + 2), (a + 3)], [], [], []]) hB d_Fo_init_27 f_Fo_21 (fun _ => rfl) rfl rfl (by decide) (Nat.le_of_ble_eq_true rfl) rfl ?_
  refine g_aload_n d_Fo_init_30 rfl ?_
  refine T_new (L' := [(5, 7), (20, 5), (20, 5), (20, 5), (3, 8)]) (T' := [[t, 0, (a + 1), (a + 2), (a + 3)], [], [], [], []]) hB d_Fo_init_31 n_Fo_25 ⟨rfl, rfl⟩ rfl rfl ?_
  refine P_dupA d_Fo_init_34 ?_
  refine g_aload_n d_Fo_init_35 rfl ?_
  refine C_I1 d_Fo_init_36 k_Fo_27 (by omega) (Nat.le_of_ble_eq_true rfl) (by decide) (Nat.le_of_ble_eq_true rfl) ?_
  refine c_St_init (L := [(5, 7), (20, 5), (20, 5), (20, 5)]) (T := [[t, 0, (a + 1), (a + 2), (a + 3)], [], [], []]) (k := 4) hB ⟨rfl, rfl⟩ ?_
  show EW X m_Fo_init 39 [.ref a, .ref t] [.ref (a + 4), .ref a] (cP X ly tb [(5, 7), (20, 5), (20, 5), (20, 5), (3, 8), (20, 5), (20, 10), (20, 10), (20, 10), (20, 10)] [[t, 0, (a + 1), (a + 2), (a + 3)], [], [], [], [t, (a + 5), (a + 6), (a + 7), (a + 8), (a + 9)], [], [], [], [], []]) Q
  refine T_putR 0 (T' := [[t, (a + 4), (a + 1), (a + 2), (a + 3)], [], [], [], [t, (a + 5), (a + 6), (a + 7), (a + 8), (a + 9)], [], [], [], [], []]) hB d_Fo_init_39 f_Fo_30 (fun _ => rfl) rfl rfl (by decide) (Nat.le_of_ble_eq_true rfl) rfl ?_
  refine P_vret d_Fo_init_42 rfl ?_
  exact k
theorem c_Fo_init {X : CX} {Q : Option Value → AH → Prop} {ly : List (Nat × Nat)} {tb : List (List Nat)} {a0 k : Nat} {L : List (Nat × Nat)} {T : List (List Nat)} {t : Nat} (hB : ly.length + 32 = a0 ∧ tb.length + 32 = a0) (hk : L.length = k ∧ T.length = k) (kk : Q none (cP X ly tb (L ++ [(5, 7), (20, 5), (20, 5), (20, 5), (3, 8), (20, 5), (20, 10), (20, 10), (20, 10), (20, 10)]) (T ++ [[t, (a0 + k + 4), (a0 + k + 1), (a0 + k + 2), (a0 + k + 3)], [], [], [], [t, (a0 + k + 5), (a0 + k + 6), (a0 + k + 7), (a0 + k + 8), (a0 + k + 9)], [], [], [], [], []]))) : EW X m_Fo_init 0 (enL m_Fo_init.2.2.1 [.ref (a0 + k), .ref t]) [] (cP X ly tb (L ++ [(5, 7)]) (T ++ [[]])) Q := by
  rw [cP_sp]
  refine c0_Fo_init (a := a0 + k) ⟨by rw [List.length_append]; omega, by rw [List.length_append]; omega⟩ ?_
  rw [← cP_sp]; exact kk
theorem c0_Sg_init {X : CX} {Q : Option Value → AH → Prop} {ly : List (Nat × Nat)} {tb : List (List Nat)} {a : Nat} (hB : ly.length + 32 = a ∧ tb.length + 32 = a) (k : Q none (cP X ly tb [(6, 4), (20, 6), (20, 6), (20, 6)] [[(a + 1), (a + 2), (a + 3)], [], [], []])) : EW X m_Sg_init 0 (enL m_Sg_init.2.2.1 [.ref a]) [] (cP X ly tb [(6, 4)] [[]]) Q := by
  show EW X m_Sg_init 0 [.ref a] [] (cP X ly tb [(6, 4)] [[]]) Q
  refine g_aload_n d_Sg_init_0 rfl ?_
  refine P_objInit d_Sg_init_1 o_Sg_3 (by omega) (by decide) (Nat.le_of_ble_eq_true rfl) ?_
  refine g_aload_n d_Sg_init_4 rfl ?_
  refine N_bipush d_Sg_init_5 6 rfl ?_
  refine T_newI (L' := [(6, 4), (20, 6)]) (T' := [[], []]) hB d_Sg_init_7 (by decide) ⟨rfl, rfl⟩ rfl rfl ?_
  refine T_putR 0 (T' := [[(a + 1)], []]) hB d_Sg_init_9 f_Sg_11 (fun _ => rfl) rfl rfl (by decide) (Nat.le_of_ble_eq_true rfl) rfl ?_
  refine g_aload_n d_Sg_init_12 rfl ?_
  refine N_bipush d_Sg_init_13 6 rfl ?_
  refine T_newI (L' := [(6, 4), (20, 6), (20, 6)]) (T' := [[(a + 1)], [], []]) hB d_Sg_init_15 (by decide) ⟨rfl, rfl⟩ rfl rfl ?_
  refine T_putR 0 (T' := [[(a + 1), (a + 2)], [], []]) hB d_Sg_init_17 f_Sg_15 (fun _ => rfl) rfl rfl (by decide) (Nat.le_of_ble_eq_true rfl) rfl ?_
  refine g_aload_n d_Sg_init_20 rfl ?_
  refine N_bipush d_Sg_init_21 6 rfl ?_
  refine T_newI (L' := [(6, 4), (20, 6), (20, 6), (20, 6)]) (T' := [[(a + 1), (a + 2)], [], [], []]) hB d_Sg_init_23 (by decide) ⟨rfl, rfl⟩ rfl rfl ?_
  refine T_putR 0 (T' := [[(a + 1), (a + 2), (a + 3)], [], [], []]) hB d_Sg_init_25 f_Sg_18 (fun _ => rfl) rfl rfl (by decide) (Nat.le_of_ble_eq_true rfl) rfl ?_
  refine P_vret d_Sg_init_28 rfl ?_
  exact k
theorem c_Sg_init {X : CX} {Q : Option Value → AH → Prop} {ly : List (Nat × Nat)} {tb : List (List Nat)} {a0 k : Nat} {L : List (Nat × Nat)} {T : List (List Nat)} (hB : ly.length + 32 = a0 ∧ tb.length + 32 = a0) (hk : L.length = k ∧ T.length = k) (kk : Q none (cP X ly tb (L ++ [(6, 4), (20, 6), (20, 6), (20, 6)]) (T ++ [[(a0 + k + 1), (a0 + k + 2), (a0 + k + 3)], [], [], []]))) : EW X m_Sg_init 0 (enL m_Sg_init.2.2.1 [.ref (a0 + k)]) [] (cP X ly tb (L ++ [(6, 4)]) (T ++ [[]])) Q := by
  rw [cP_sp]
  refine c0_Sg_init (a := a0 + k) ⟨by rw [List.length_append]; omega, by rw [List.length_append]; omega⟩ ?_
  rw [← cP_sp]; exact kk
theorem c0_Sh_init {X : CX} {Q : Option Value → AH → Prop} {ly : List (Nat × Nat)} {tb : List (List Nat)} {a : Nat} (hB : ly.length + 32 = a ∧ tb.length + 32 = a) (k : Q none (cP X ly tb [(7, 1), (23, 3)] [[(a + 1)], []])) : EW X m_Sh_init 0 (enL m_Sh_init.2.2.1 [.ref a]) [] (cP X ly tb [(7, 1)] [[]]) Q := by
  show EW X m_Sh_init 0 [.ref a] [] (cP X ly tb [(7, 1)] [[]]) Q
  refine g_aload_n d_Sh_init_0 rfl ?_
  refine P_objInit d_Sh_init_1 o_Sh_3 (by omega) (by decide) (Nat.le_of_ble_eq_true rfl) ?_
  refine g_aload_n d_Sh_init_4 rfl ?_
  refine N_iconst d_Sh_init_5 3 rfl ?_
  refine T_anew (L' := [(7, 1), (23, 3)]) (T' := [[], []]) hB d_Sh_init_6 (Or.inr (Or.inl ⟨rfl, rfl⟩)) w_Sh_11 (by decide) ⟨rfl, rfl⟩ rfl rfl ?_
  refine T_putR 0 (T' := [[(a + 1)], []]) hB d_Sh_init_9 f_Sh_13 (fun _ => rfl) rfl rfl (by decide) (Nat.le_of_ble_eq_true rfl) rfl ?_
  refine P_vret d_Sh_init_12 rfl ?_
  exact k
theorem c_Sh_init {X : CX} {Q : Option Value → AH → Prop} {ly : List (Nat × Nat)} {tb : List (List Nat)} {a0 k : Nat} {L : List (Nat × Nat)} {T : List (List Nat)} (hB : ly.length + 32 = a0 ∧ tb.length + 32 = a0) (hk : L.length = k ∧ T.length = k) (kk : Q none (cP X ly tb (L ++ [(7, 1), (23, 3)]) (T ++ [[(a0 + k + 1)], []]))) : EW X m_Sh_init 0 (enL m_Sh_init.2.2.1 [.ref (a0 + k)]) [] (cP X ly tb (L ++ [(7, 1)]) (T ++ [[]])) Q := by
  rw [cP_sp]
  refine c0_Sh_init (a := a0 + k) ⟨by rw [List.length_append]; omega, by rw [List.length_append]; omega⟩ ?_
  rw [← cP_sp]; exact kk
