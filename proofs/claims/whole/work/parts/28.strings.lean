theorem d_Sr_length_0 : decode m_Sr_length.2.1 0 = .ok (.aload_n 0, 1) := by decide +kernel
theorem d_Sr_length_1 : decode m_Sr_length.2.1 1 = .ok (.getfield 9, 3) := by decide +kernel
theorem d_Sr_length_4 : decode m_Sr_length.2.1 4 = .ok (.arraylength, 1) := by decide +kernel
theorem d_Sr_length_5 : decode m_Sr_length.2.1 5 = .ok (.aload_n 0, 1) := by decide +kernel
theorem d_Sr_length_6 : decode m_Sr_length.2.1 6 = .ok (.invokevirtual 335, 3) := by decide +kernel
theorem d_Sr_length_9 : decode m_Sr_length.2.1 9 = .ok (.ishr, 1) := by decide +kernel
theorem d_Sr_length_10 : decode m_Sr_length.2.1 10 = .ok (.ireturn, 1) := by decide +kernel
theorem d_Sr_coder_0 : decode m_Sr_coder.2.1 0 = .ok (.getstatic 38, 3) := by decide +kernel
theorem d_Sr_coder_3 : decode m_Sr_coder.2.1 3 = .ok (.ifCond .eq 10, 3) := by decide +kernel
theorem d_Sr_coder_6 : decode m_Sr_coder.2.1 6 = .ok (.aload_n 0, 1) := by decide +kernel
theorem d_Sr_coder_7 : decode m_Sr_coder.2.1 7 = .ok (.getfield 15, 3) := by decide +kernel
theorem d_Sr_coder_10 : decode m_Sr_coder.2.1 10 = .ok (.goto 4, 3) := by decide +kernel
theorem d_Sr_coder_13 : decode m_Sr_coder.2.1 13 = .ok (.iconst 1, 1) := by decide +kernel
theorem d_Sr_coder_14 : decode m_Sr_coder.2.1 14 = .ok (.ireturn, 1) := by decide +kernel
theorem d_Sr_charAt_0 : decode m_Sr_charAt.2.1 0 = .ok (.aload_n 0, 1) := by decide +kernel
theorem d_Sr_charAt_1 : decode m_Sr_charAt.2.1 1 = .ok (.invokevirtual 492, 3) := by decide +kernel
theorem d_Sr_charAt_4 : decode m_Sr_charAt.2.1 4 = .ok (.ifCond .eq 12, 3) := by decide +kernel
theorem d_Sr_charAt_7 : decode m_Sr_charAt.2.1 7 = .ok (.aload_n 0, 1) := by decide +kernel
theorem d_Sr_charAt_8 : decode m_Sr_charAt.2.1 8 = .ok (.getfield 9, 3) := by decide +kernel
theorem d_Sr_charAt_11 : decode m_Sr_charAt.2.1 11 = .ok (.iload_n 1, 1) := by decide +kernel
theorem d_Sr_charAt_12 : decode m_Sr_charAt.2.1 12 = .ok (.invokestatic 495, 3) := by decide +kernel
theorem d_Sr_charAt_15 : decode m_Sr_charAt.2.1 15 = .ok (.ireturn, 1) := by decide +kernel
theorem d_Sr_charAt_16 : decode m_Sr_charAt.2.1 16 = .ok (.aload_n 0, 1) := by decide +kernel
theorem d_Sr_charAt_17 : decode m_Sr_charAt.2.1 17 = .ok (.getfield 9, 3) := by decide +kernel
theorem d_Sr_charAt_20 : decode m_Sr_charAt.2.1 20 = .ok (.iload_n 1, 1) := by decide +kernel
theorem d_Sr_charAt_21 : decode m_Sr_charAt.2.1 21 = .ok (.invokestatic 498, 3) := by decide +kernel
theorem d_Sr_charAt_24 : decode m_Sr_charAt.2.1 24 = .ok (.ireturn, 1) := by decide +kernel
theorem d_Sr_isLatin1_0 : decode m_Sr_isLatin1.2.1 0 = .ok (.getstatic 38, 3) := by decide +kernel
theorem d_Sr_isLatin1_3 : decode m_Sr_isLatin1.2.1 3 = .ok (.ifCond .eq 14, 3) := by decide +kernel
theorem d_Sr_isLatin1_6 : decode m_Sr_isLatin1.2.1 6 = .ok (.aload_n 0, 1) := by decide +kernel
theorem d_Sr_isLatin1_7 : decode m_Sr_isLatin1.2.1 7 = .ok (.getfield 15, 3) := by decide +kernel
theorem d_Sr_isLatin1_10 : decode m_Sr_isLatin1.2.1 10 = .ok (.ifCond .ne 7, 3) := by decide +kernel
theorem d_Sr_isLatin1_13 : decode m_Sr_isLatin1.2.1 13 = .ok (.iconst 1, 1) := by decide +kernel
theorem d_Sr_isLatin1_14 : decode m_Sr_isLatin1.2.1 14 = .ok (.goto 4, 3) := by decide +kernel
theorem d_Sr_isLatin1_17 : decode m_Sr_isLatin1.2.1 17 = .ok (.iconst 0, 1) := by decide +kernel
theorem d_Sr_isLatin1_18 : decode m_Sr_isLatin1.2.1 18 = .ok (.ireturn, 1) := by decide +kernel
theorem d_Sl_charAt_0 : decode m_Sl_charAt.2.1 0 = .ok (.iload_n 1, 1) := by decide +kernel
theorem d_Sl_charAt_1 : decode m_Sl_charAt.2.1 1 = .ok (.aload_n 0, 1) := by decide +kernel
theorem d_Sl_charAt_2 : decode m_Sl_charAt.2.1 2 = .ok (.arraylength, 1) := by decide +kernel
theorem d_Sl_charAt_3 : decode m_Sl_charAt.2.1 3 = .ok (.invokestatic 9, 3) := by decide +kernel
theorem d_Sl_charAt_6 : decode m_Sl_charAt.2.1 6 = .ok (.aload_n 0, 1) := by decide +kernel
theorem d_Sl_charAt_7 : decode m_Sl_charAt.2.1 7 = .ok (.iload_n 1, 1) := by decide +kernel
theorem d_Sl_charAt_8 : decode m_Sl_charAt.2.1 8 = .ok (.baload, 1) := by decide +kernel
theorem d_Sl_charAt_9 : decode m_Sl_charAt.2.1 9 = .ok (.sipush 255, 3) := by decide +kernel
theorem d_Sl_charAt_12 : decode m_Sl_charAt.2.1 12 = .ok (.iand, 1) := by decide +kernel
theorem d_Sl_charAt_13 : decode m_Sl_charAt.2.1 13 = .ok (.i2c, 1) := by decide +kernel
theorem d_Sl_charAt_14 : decode m_Sl_charAt.2.1 14 = .ok (.ireturn, 1) := by decide +kernel
theorem d_Sr_checkIndex_0 : decode m_Sr_checkIndex.2.1 0 = .ok (.iload_n 0, 1) := by decide +kernel
theorem d_Sr_checkIndex_1 : decode m_Sr_checkIndex.2.1 1 = .ok (.iload_n 1, 1) := by decide +kernel
theorem d_Sr_checkIndex_2 : decode m_Sr_checkIndex.2.1 2 = .ok (.getstatic 1053, 3) := by decide +kernel
theorem d_Sr_checkIndex_5 : decode m_Sr_checkIndex.2.1 5 = .ok (.invokestatic 1059, 3) := by decide +kernel
theorem d_Sr_checkIndex_8 : decode m_Sr_checkIndex.2.1 8 = .ok (.pop, 1) := by decide +kernel
theorem d_Sr_checkIndex_9 : decode m_Sr_checkIndex.2.1 9 = .ok (.return_, 1) := by decide +kernel
theorem d_Pr_checkIndex_0 : decode m_Pr_checkIndex.2.1 0 = .ok (.iload_n 0, 1) := by decide +kernel
theorem d_Pr_checkIndex_1 : decode m_Pr_checkIndex.2.1 1 = .ok (.ifCond .lt 8, 3) := by decide +kernel
theorem d_Pr_checkIndex_4 : decode m_Pr_checkIndex.2.1 4 = .ok (.iload_n 0, 1) := by decide +kernel
theorem d_Pr_checkIndex_5 : decode m_Pr_checkIndex.2.1 5 = .ok (.iload_n 1, 1) := by decide +kernel
theorem d_Pr_checkIndex_6 : decode m_Pr_checkIndex.2.1 6 = .ok (.if_icmp .lt 10, 3) := by decide +kernel
theorem d_Pr_checkIndex_9 : decode m_Pr_checkIndex.2.1 9 = .ok (.aload_n 2, 1) := by decide +kernel
theorem d_Pr_checkIndex_10 : decode m_Pr_checkIndex.2.1 10 = .ok (.iload_n 0, 1) := by decide +kernel
theorem d_Pr_checkIndex_11 : decode m_Pr_checkIndex.2.1 11 = .ok (.iload_n 1, 1) := by decide +kernel
theorem d_Pr_checkIndex_12 : decode m_Pr_checkIndex.2.1 12 = .ok (.invokestatic 95, 3) := by decide +kernel
theorem d_Pr_checkIndex_15 : decode m_Pr_checkIndex.2.1 15 = .ok (.athrow, 1) := by decide +kernel
theorem d_Pr_checkIndex_16 : decode m_Pr_checkIndex.2.1 16 = .ok (.iload_n 0, 1) := by decide +kernel
theorem d_Pr_checkIndex_17 : decode m_Pr_checkIndex.2.1 17 = .ok (.ireturn, 1) := by decide +kernel
/-! String constants: number i, at the old cell 2 + i, its bytes at 10 + i -/
def CVs (own : String) (idx : Nat) (M : MD) (np : Nat) : Prop := MOk M ∧ Cond.methodLink own idx M.1 ∈ tbG ∧ Cond.instanceMethod M.1 ∈ tbG ∧ Cond.selects "java/lang/String" M.1 M.1 ∈ tbG ∧ (parseMethodDescriptor M.1.desc).map (fun d => d.parameters.length) = some np
theorem ks_Rd_135 : CVs R_Rd 135 m_Sr_length 0 := ⟨ok_Sr_length, (tbG_of (tm_2 (ta 78 rfl)) rfl), (tbG_of (tm_2 (ta 79 rfl)) rfl), (tbG_of (tm_2 (ta 80 rfl)) rfl), by decide +kernel⟩
theorem ks_Rd_139 : CVs R_Rd 139 m_Sr_charAt 1 := ⟨ok_Sr_charAt, (tbG_of (tm_2 (ta 88 rfl)) rfl), (tbG_of (tm_2 (ta 89 rfl)) rfl), (tbG_of (tm_2 (ta 90 rfl)) rfl), by decide +kernel⟩
theorem ks_Sr_335 : CVs "java/lang/String" 335 m_Sr_coder 0 := ⟨ok_Sr_coder, (tbG_of (tm_2 (ta 82 rfl)) rfl), (tbG_of (tm_2 (ta 83 rfl)) rfl), (tbG_of (tm_2 (ta 84 rfl)) rfl), by decide +kernel⟩
theorem ks_Sr_492 : CVs "java/lang/String" 492 m_Sr_isLatin1 0 := ⟨ok_Sr_isLatin1, (tbG_of (tm_2 (ta 92 rfl)) rfl), (tbG_of (tm_2 (ta 93 rfl)) rfl), (tbG_of (tm_2 (ta 94 rfl)) rfl), by decide +kernel⟩
theorem fs_38 : Cond.fieldLink "java/lang/String" 38 "java/lang/String" "COMPACT_STRINGS" "Z" ∈ tbG := (tbG_of (tm_2 (ta 86 rfl)) rfl)
theorem fs_1053 : Cond.fieldLink "java/lang/String" 1053 "jdk/internal/util/Preconditions" "SIOOBE_FORMATTER" "Ljava/util/function/BiFunction;" ∈ tbG := (tbG_of (tm_2 (ta 102 rfl)) rfl)
theorem fs_9 : Cond.fieldLink "java/lang/String" 9 "java/lang/String" "value" "[B" ∈ tbG := (tbG_of (tm_6 (ta 155 rfl)) rfl)
theorem fs_15 : Cond.fieldLink "java/lang/String" 15 "java/lang/String" "coder" "B" ∈ tbG := (tbG_of (tm_6 (ta 156 rfl)) rfl)
section StringRules
variable {X : CX} {M M2 : MD} {pc idx : Nat} {ls rest : List Value} {h : AH} {Q : Option Value → AH → Prop}
theorem am_s {r : Nat} (hr : r < 32) (h0 : r ≠ 0) : rv X (.ref r) = .ref (xE X r) := by simp [rv, rO, am, va_rf, hr, h0]
theorem P_ldcS {i : Nat} {tx : String} (hd : decode M.2.1 pc = .ok (.ldc idx, 2)) (hown : M.1.cls = R_Rd) (hm : (i, idx, tx) ∈ [(0, 42, "parish"), (1, 53, "man"), (2, 58, "strife"), (3, 71, "will"), (4, 75, "pay"), (5, 77, "short"), (6, 79, "shun"), (7, 81, "ever")]) (hi : i < 8) (k : EW X M (pc + 2) ls (.ref (2 + i) :: rest) h Q) : EW X M pc ls rest h Q :=
  k.lift fun _ _ => AW.go fun p e s m args below meth cd R Q F H locs cells slots la S L w => by
    simp only [List.map_cons] at w
    rw [am_s (by omega) (by omega)] at w
    have hz := F.2.2.2.2.2.1.2.2.2.2.1.2 _ hm
    have ho := F.2.2.2.1
    rw [hown] at ho
    exact va_ldcS F.1 F.2.1 ho hz hd w
theorem P_gets {v : Value} {C n d : String} (hd : decode M.2.1 pc = .ok (.getstatic idx, 3)) (hz : ∀ s, Kw X s → va_Z C n d (rv X v) (xF X) s s.heap) (hlk : Cond.fieldLink M.1.cls idx C n d ∈ tbG) (k : EW X M (pc + 3) ls (v :: rest) h Q) : EW X M pc ls rest h Q :=
  k.lift fun _ _ => AW.go fun p e s m args below meth cd R Q F H locs cells slots la S L w => by
    simp only [List.map_cons] at w
    exact va_gets F.1 F.2.1 (hz s F.2.2.2.2.2.1) S.2 F.2.2.2.1 (F.2.2.2.2.1 _ hlk) (fun _ z => z) hd w
theorem P_sval {i : Nat} (hd : decode M.2.1 pc = .ok (.getfield idx, 3)) (hi : i < 8) (hlk : Cond.fieldLink M.1.cls idx "java/lang/String" "value" "[B" ∈ tbG) (k : EW X M (pc + 3) ls (.ref (10 + i) :: rest) h Q) : EW X M pc ls (.ref (2 + i) :: rest) h Q :=
  k.lift fun _ _ => AW.go fun p e s m args below meth cd R Q F H locs cells slots la S L w => by
    simp only [List.map_cons] at w ⊢
    rw [am_s (by omega) (by omega)] at w ⊢
    exact vk_getf F.1 F.2.1 ((F.2.2.2.2.2.1.2.2.2.2.1.1.1 i hi).2.2.1) S.2 F.2.2.2.1 (F.2.2.2.2.1 _ hlk) (fun _ z => z) hd w
theorem P_scod {i : Nat} (hd : decode M.2.1 pc = .ok (.getfield idx, 3)) (hi : i < 8) (hlk : Cond.fieldLink M.1.cls idx "java/lang/String" "coder" "B" ∈ tbG) (k : EW X M (pc + 3) ls (.int (nI 0) :: rest) h Q) : EW X M pc ls (.ref (2 + i) :: rest) h Q :=
  k.lift fun _ _ => AW.go fun p e s m args below meth cd R Q F H locs cells slots la S L w => by
    simp only [List.map_cons] at w ⊢
    rw [am_s (by omega) (by omega)]
    exact vk_getf F.1 F.2.1 ((F.2.2.2.2.2.1.2.2.2.2.1.1.1 i hi).2.1) S.2 F.2.2.2.1 (F.2.2.2.2.1 _ hlk) (fun _ z => z) hd w
theorem P_blen {i : Nat} (hd : decode M.2.1 pc = .ok (.arraylength, 1)) (hi : i < 8) (k : EW X M (pc + 1) ls (.int (nI (lenS.getD i 0)) :: rest) h Q) : EW X M pc ls (.ref (10 + i) :: rest) h Q :=
  k.lift fun _ _ => AW.go fun p e s m args below meth cd R Q F H locs cells slots la S L w => by
    simp only [List.map_cons] at w ⊢
    rw [am_s (by omega) (by omega)]
    obtain ⟨cell, h1, h2, h3, h4, h5, h6, h7⟩ := ((F.2.2.2.2.2.1.2.2.2.2.1.1.1 i hi).2.2.2).kept S.2.2.1
    exact W.alen F.1 F.2.1 h1 h2 h5 rfl rfl hd w
theorem P_bald {i j : Nat} (hd : decode M.2.1 pc = .ok (.baload, 1)) (hi : i < 8) (hj : j < lenS.getD i 0) (hL : lenS.getD i 0 < 2 ^ 31) (k : EW X M (pc + 1) ls (.int ((bytS.getD i []).getD j 0) :: rest) h Q) : EW X M pc ls (.int (nI j) :: .ref (10 + i) :: rest) h Q :=
  k.lift fun _ _ => AW.go fun p e s m args below meth cd R Q F H locs cells slots la S L w => by
    simp only [List.map_cons] at w ⊢
    rw [am_s (by omega) (by omega)]
    exact va_tb F.1 F.2.1 ((F.2.2.2.2.2.1.2.2.2.2.1.1.1 i hi).2.2.2) S.2 (vp_in_nI hj hL) (by rw [nI_clamp (by omega)]; rfl) hd w
theorem P_i2c {x : Int32} (v : Int32) (hd : decode M.2.1 pc = .ok (.i2c, 1)) (hv : (x.toUInt32 % 65536).toInt32 = v) (k : EW X M (pc + 1) ls (.int v :: rest) h Q) : EW X M pc ls (.int x :: rest) h Q :=
  k.lift fun _ _ => AW.go fun _ _ _ _ _ _ _ _ _ _ F _ _ _ _ _ _ _ w => lv_i2c F.1 F.2.1 hd hv w
theorem P_popI {x : Int32} (hd : decode M.2.1 pc = .ok (.pop, 1)) (k : EW X M (pc + 1) ls rest h Q) : EW X M pc ls (.int x :: rest) h Q :=
  k.lift fun _ _ => AW.go fun _ _ _ _ _ _ _ _ _ _ F _ _ _ _ _ _ _ w => lv_pop F.1 F.2.1 hd rfl w
theorem P_callVs {np i : Nat} (as : List Value) (hd : decode M.2.1 pc = .ok (.invokevirtual idx, 3)) (hL : CVs M.1.cls idx M2 np) (hi : i < 8) (hn : as.length = np) (hlen : (enX (.ref (2 + i) :: as)).length ≤ M2.2.2.1) (hdep : M2.2.2.2.2 + 1 ≤ M.2.2.2.2) (hsum : (rest.map fun v => v.category).sum ≤ 8)
    (k : EW X M2 0 (enL M2.2.2.1 (.ref (2 + i) :: as)) [] h (kI X M (pc + 3) ls rest Q)) : EW X M pc ls (as.reverse ++ .ref (2 + i) :: rest) h Q := by
  obtain ⟨r1, h1, hk, w1⟩ := k
  obtain ⟨r, h', q, w⟩ := kI_k hk
  obtain ⟨hM, hlk, hins, hse, hnp⟩ := hL
  refine ⟨r, h', q, AW.call hM hlen hdep ?_ w1 w⟩
  intro p e s m args below meth cd R F H locs cells slots la S L mc ms hMet hR hcs
  have hts := F.2.2.2.2.1
  have er : rv X (.ref (2 + i)) = .ref (xE X (2 + i)) := am_s (by omega) (by omega)
  refine ⟨((.ref (2 + i) :: as).map (rv X)).toArray, ?_⟩
  have e1 : (as.reverse ++ .ref (2 + i) :: rest).map (rv X) = (as.map (rv X)).reverse ++ .ref (xE X (2 + i)) :: rest.map (rv X) := by simp [er]
  rw [e1]
  have e2 : (Value.ref (2 + i) :: as).map (rv X) = .ref (xE X (2 + i)) :: as.map (rv X) := by simp [er]
  rw [e2]
  refine va_runV (C := "java/lang/String") (b := xE X (2 + i)) (As := as.map (rv X)) (Ts := tbG) ⟨F.1, F.2.1, F.2.2.1, F.2.2.2.1, hts⟩ hMet ⟨callB_of np hts (tbG_in hM) rfl rfl rfl (hts _ hM.2.2.1) (hts _ hlk) ⟨hM.2.2.2.1, hM.2.2.2.2.1, hnp⟩ hR, hts _ hins, hts _ hse⟩ ⟨Pc_blind, vk_recv (adK := fun i => xE X (2 + i)) (i := i) (F.2.2.2.2.2.1.2.2.2.2.1.1) hi S.2, ?_⟩ rfl (by simp [hn]) L.1 rfl (lv_room (by rw [sum_rv]; exact hsum)) hd hcs
  rw [← e2]
  exact Pc_here F.2.2.2.2.2.1 S
theorem C_Vs0 {i : Nat} (hd : decode M.2.1 pc = .ok (.invokevirtual idx, 3)) (hL : CVs M.1.cls idx M2 0) (hi : i < 8) (hlen : (enX [.ref (2 + i)]).length ≤ M2.2.2.1) (hdep : M2.2.2.2.2 + 1 ≤ M.2.2.2.2) (hsum : (rest.map fun v => v.category).sum ≤ 8) (k : EW X M2 0 (enL M2.2.2.1 [.ref (2 + i)]) [] h (kI X M (pc + 3) ls rest Q)) : EW X M pc ls (.ref (2 + i) :: rest) h Q := P_callVs [] hd hL hi rfl hlen hdep hsum k
theorem C_Vs1 {i : Nat} {a1 : Value} (hd : decode M.2.1 pc = .ok (.invokevirtual idx, 3)) (hL : CVs M.1.cls idx M2 1) (hi : i < 8) (hlen : (enX [.ref (2 + i), a1]).length ≤ M2.2.2.1) (hdep : M2.2.2.2.2 + 1 ≤ M.2.2.2.2) (hsum : (rest.map fun v => v.category).sum ≤ 8) (k : EW X M2 0 (enL M2.2.2.1 [.ref (2 + i), a1]) [] h (kI X M (pc + 3) ls rest Q)) : EW X M pc ls (a1 :: .ref (2 + i) :: rest) h Q := P_callVs [a1] hd hL hi rfl hlen hdep hsum k
end StringRules
theorem lenS_lt : ∀ i, i < 8 → lenS.getD i 0 < 10 ∧ (bytS.getD i []).length = lenS.getD i 0 := by decide +kernel
/-- the letter j of the String constant i -/
def chS (i j : Nat) : Int32 := (bytS.getD i []).getD j 0
theorem chS_ok : ∀ i, i < 8 → ∀ j, j < lenS.getD i 0 → (((chS i j &&& nI 255).toUInt32 % 65536).toInt32 = chS i j ∧ narrow .char (.int (chS i j)) = .int (chS i j)) := by decide +kernel
section StringContracts
variable {X : CX} {h : AH} {Q : Option Value → AH → Prop} {i j : Nat}
theorem c_Sr_coder (hi : i < 8) (k : Q (some (.int (nI 0))) h) : EW X m_Sr_coder 0 (enL m_Sr_coder.2.2.1 [.ref (2 + i)]) [] h Q := by
  show EW X m_Sr_coder 0 [.ref (2 + i)] [] h Q
  refine P_gets (v := .int 1) d_Sr_coder_0 (fun s hK => hK.2.2.2.2.2.1.1) fs_38 ?_
  refine P_if_eq d_Sr_coder_3 13 (by decide) (fun q => absurd q (by decide)) (fun _ => ?_)
  refine g_aload_n d_Sr_coder_6 rfl ?_
  refine P_scod d_Sr_coder_7 hi fs_15 ?_
  refine P_goto d_Sr_coder_10 14 (by decide) ?_
  exact P_ret (Or.inl ⟨nI 0, .byte, d_Sr_coder_14, rfl, rfl, rfl, rfl⟩) k
theorem c_Sr_isLatin1 (hi : i < 8) (k : Q (some (.int (nI 1))) h) : EW X m_Sr_isLatin1 0 (enL m_Sr_isLatin1.2.2.1 [.ref (2 + i)]) [] h Q := by
  show EW X m_Sr_isLatin1 0 [.ref (2 + i)] [] h Q
  refine P_gets (v := .int 1) d_Sr_isLatin1_0 (fun s hK => hK.2.2.2.2.2.1.1) fs_38 ?_
  refine P_if_eq d_Sr_isLatin1_3 17 (by decide) (fun q => absurd q (by decide)) (fun _ => ?_)
  refine g_aload_n d_Sr_isLatin1_6 rfl ?_
  refine P_scod d_Sr_isLatin1_7 hi fs_15 ?_
  refine N_if_ne d_Sr_isLatin1_10 17 (by decide) (by decide) (fun q => absurd rfl q) (fun _ => ?_)
  refine N_iconst d_Sr_isLatin1_13 1 rfl ?_
  refine P_goto d_Sr_isLatin1_14 18 (by decide) ?_
  exact P_zret d_Sr_isLatin1_18 rfl (by decide) k
theorem c_Sr_length (hi : i < 8) (k : Q (some (.int (nI (lenS.getD i 0)))) h) : EW X m_Sr_length 0 (enL m_Sr_length.2.2.1 [.ref (2 + i)]) [] h Q := by
  show EW X m_Sr_length 0 [.ref (2 + i)] [] h Q
  have hl := (lenS_lt i hi).1
  refine g_aload_n d_Sr_length_0 rfl ?_
  refine P_sval d_Sr_length_1 hi fs_9 ?_
  refine P_blen d_Sr_length_4 hi ?_
  refine g_aload_n d_Sr_length_5 rfl ?_
  refine C_Vs0 d_Sr_length_6 ks_Sr_335 hi (Nat.le_of_ble_eq_true rfl) (by decide) (Nat.le_of_ble_eq_true rfl) ?_
  refine c_Sr_coder hi ?_
  refine N_ishr d_Sr_length_9 (by omega) (by decide) ?_
  refine P_iret d_Sr_length_10 rfl ?_
  exact R_i k (congrArg nI (by simp))
theorem c_Pr_checkIndex {n z : Nat} (hj : j < n) (hn : n < 100) (k : Q (some (.int (nI j))) h) : EW X m_Pr_checkIndex 0 (enL m_Pr_checkIndex.2.2.1 [.int (nI j), .int (nI n), .ref z]) [] h Q := by
  show EW X m_Pr_checkIndex 0 [.int (nI j), .int (nI n), .ref z] [] h Q
  refine g_iload_n d_Pr_checkIndex_0 rfl ?_
  refine N_if_lt d_Pr_checkIndex_1 9 (by decide) (by omega) ?_
  refine g_iload_n d_Pr_checkIndex_4 rfl ?_
  refine g_iload_n d_Pr_checkIndex_5 rfl ?_
  refine N_icmp_lt d_Pr_checkIndex_6 16 (by decide) ⟨by omega, by omega⟩ (fun _ => ?_) (fun q => absurd q (by omega))
  refine g_iload_n d_Pr_checkIndex_16 rfl ?_
  exact P_iret d_Pr_checkIndex_17 rfl k
theorem c_Sr_checkIndex {n : Nat} (hj : j < n) (hn : n < 100) (k : Q none h) : EW X m_Sr_checkIndex 0 (enL m_Sr_checkIndex.2.2.1 [.int (nI j), .int (nI n)]) [] h Q := by
  show EW X m_Sr_checkIndex 0 [.int (nI j), .int (nI n)] [] h Q
  refine g_iload_n d_Sr_checkIndex_0 rfl ?_
  refine g_iload_n d_Sr_checkIndex_1 rfl ?_
  refine P_gets (v := .ref (zX X)) d_Sr_checkIndex_2 (fun s hK => hK.2.2.2.2.2.1.2) fs_1053 ?_
  refine C_S3 d_Sr_checkIndex_5 k_Sr_1059 (Nat.le_of_ble_eq_true rfl) (by decide) (Nat.le_of_ble_eq_true rfl) ?_
  refine c_Pr_checkIndex hj hn ?_
  refine P_popI d_Sr_checkIndex_8 ?_
  exact P_vret d_Sr_checkIndex_9 rfl k
theorem c_Sl_charAt (hi : i < 8) (hj : j < lenS.getD i 0) (k : Q (some (.int (chS i j))) h) : EW X m_Sl_charAt 0 (enL m_Sl_charAt.2.2.1 [.ref (10 + i), .int (nI j)]) [] h Q := by
  show EW X m_Sl_charAt 0 [.ref (10 + i), .int (nI j)] [] h Q
  have hl := (lenS_lt i hi).1
  refine g_iload_n d_Sl_charAt_0 rfl ?_
  refine g_aload_n d_Sl_charAt_1 rfl ?_
  refine P_blen d_Sl_charAt_2 hi ?_
  refine C_S2 d_Sl_charAt_3 k_Sl_9 (Nat.le_of_ble_eq_true rfl) (by decide) (Nat.le_of_ble_eq_true rfl) ?_
  refine c_Sr_checkIndex hj (by omega) ?_
  refine g_aload_n d_Sl_charAt_6 rfl ?_
  refine g_iload_n d_Sl_charAt_7 rfl ?_
  refine P_bald d_Sl_charAt_8 hi hj (by omega) ?_
  refine N_sipush d_Sl_charAt_9 255 rfl ?_
  refine P_iand d_Sl_charAt_12 ?_
  refine P_i2c (chS i j) d_Sl_charAt_13 (chS_ok i hi j hj).1 ?_
  exact P_ret (Or.inl ⟨chS i j, .char, d_Sl_charAt_14, rfl, rfl, rfl, (chS_ok i hi j hj).2⟩) k
theorem c_Sr_charAt (hi : i < 8) (hj : j < lenS.getD i 0) (k : Q (some (.int (chS i j))) h) : EW X m_Sr_charAt 0 (enL m_Sr_charAt.2.2.1 [.ref (2 + i), .int (nI j)]) [] h Q := by
  show EW X m_Sr_charAt 0 [.ref (2 + i), .int (nI j)] [] h Q
  refine g_aload_n d_Sr_charAt_0 rfl ?_
  refine C_Vs0 d_Sr_charAt_1 ks_Sr_492 hi (Nat.le_of_ble_eq_true rfl) (by decide) (Nat.le_of_ble_eq_true rfl) ?_
  refine c_Sr_isLatin1 hi ?_
  refine N_if_eq d_Sr_charAt_4 16 (by decide) (by decide) (fun q => absurd q (by decide)) (fun _ => ?_)
  refine g_aload_n d_Sr_charAt_7 rfl ?_
  refine P_sval d_Sr_charAt_8 hi fs_9 ?_
  refine g_iload_n d_Sr_charAt_11 rfl ?_
  refine C_S2 d_Sr_charAt_12 k_Sr_495 (Nat.le_of_ble_eq_true rfl) (by decide) (Nat.le_of_ble_eq_true rfl) ?_
  refine c_Sl_charAt hi hj ?_
  exact P_ret (Or.inl ⟨chS i j, .char, d_Sr_charAt_15, rfl, rfl, rfl, (chS_ok i hi j hj).2⟩) k
end StringContracts
