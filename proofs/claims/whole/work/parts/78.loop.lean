def lwQ (X : CX) : Option Value → AH → Prop := fun r h' => r = some (.int 1) ∧ h'.1.length ≤ 600032 ∧ sz h' ≤ sz (h0 X) + 7302250
theorem fix_sum : (fixL.map (fun q => q.2)).sum ≤ 5000 := by decide +kernel
theorem sz_hp {X : CX} {dl : List (Nat × Nat)} {mI : Nat → Nat → Int32} {dr : Nat → Nat → Nat} (h : (dl.map (fun q => q.2)).sum ≤ 20 * 512) : sz (hp X dl mI dr) ≤ sz (h0 X) + 7302250 := by
  have h1 := fix_sum
  have e : sz (hp X dl mI dr) = ((lay0 (xL X)).map (fun q => q.2)).sum + ((fixL.map (fun q => q.2)).sum + (dl.map (fun q => q.2)).sum) := by
    unfold sz hp lf
    rw [List.map_append, List.sum_append, List.map_append, List.sum_append]
  have e0 : sz (h0 X) = ((lay0 (xL X)).map (fun q => q.2)).sum := rfl
  rw [e, e0]; omega
theorem lp_law {X : CX} (hL : xL X ≤ 3072) : ∀ (d c : Nat) (dl : List (Nat × Nat)) (mI : Nat → Nat → Int32) (dr : Nat → Nat → Nat), c ≤ 512 → Inv dl dr mI → dl.length ≤ 3 * c → (dl.map (fun q => q.2)).sum ≤ 20 * c → 512 - c = d → EW X m_law 18 [.ref 1, .ref 32, .ref 139, .int (nI (6 * c))] [] (hp X dl mI dr) (lwQ X) := by
  intro d
  induction d using Nat.strongRecOn with
  | _ d ih =>
    intro c dl mI dr hc hI h1 h2 hd
    refine g_iload_n d_La_law_18 rfl ?_
    refine g_aload_n d_La_law_19 rfl ?_
    refine P_salen d_La_law_20 ?_
    refine N_bipush d_La_law_21 6 rfl ?_
    refine P_isub d_La_law_23 ?_
    refine P_icmp_gt d_La_law_24 1256 (by decide) (fun c1 => ?_) (fun c1 => ?_)
    · refine P_iconst d_La_law_1256 1 rfl ?_
      refine P_zret d_La_law_1257 rfl (Or.inr rfl) ?_
      refine ⟨rfl, ?_, sz_hp (by omega)⟩
      show (lf X dl).length ≤ 600032
      rw [lf_len]; omega
    · have hlt := mt (sub6 (L := xL X) (i := 6 * c) (by omega) (by omega)).mpr c1
      have nxt : ∀ dl' mI' dr', Inv dl' dr' mI' → GY dl dl' → EW X m_law 1250 [.ref 1, .ref 32, .ref 139, .int (nI (6 * c))] [] (hp X dl' mI' dr') (lwQ X) := fun dl' mI' dr' hI' hG => by
        obtain ⟨ext, e1, e2, e3⟩ := hG
        refine S_iinc_4_3 (nI 6) d_La_law_1250 rfl rfl rfl ?_
        refine P_goto d_La_law_1253 18 (by decide) ?_
        rw [nI_add, show 6 * c + 6 = 6 * (c + 1) by omega]
        refine ih (512 - (c + 1)) (by omega) (c + 1) dl' mI' dr' (by omega) hI' ?_ ?_ rfl
        · rw [e1, List.length_append]; omega
        · rw [e1, List.map_append, List.sum_append]; omega
      refine g_aload_n d_La_law_27 rfl ?_
      refine g_iload_n d_La_law_28 rfl ?_
      refine L_sald d_La_law_29 (by omega) hL ?_
      refine N_bipush d_La_law_30 63 rfl ?_
      refine P_iand d_La_law_32 ?_
      obtain ⟨v, hv, e⟩ := and63 (xS X (6 * c))
      refine T_int (nI v) e ?_
      rcases (show v = 0 ∨ v = 1 ∨ v = 2 ∨ v = 3 ∨ v = 4 ∨ v = 5 ∨ v = 6 ∨ v = 7 ∨ v = 8 ∨ v = 9 ∨ v = 10 ∨ v = 11 ∨ v = 12 ∨ v = 13 ∨ v = 14 ∨ v = 15 ∨ v = 16 ∨ v = 17 ∨ v = 18 ∨ v = 19 ∨ v = 20 ∨ v = 21 ∨ v = 22 ∨ v = 23 ∨ v = 24 ∨ v = 25 ∨ v = 26 ∨ v = 27 ∨ v = 28 ∨ v = 29 ∨ v = 30 ∨ v = 31 ∨ v = 32 ∨ v = 33 ∨ v = 34 ∨ v = 35 ∨ 35 < v by omega) with rfl | rfl | rfl | rfl | rfl | rfl | rfl | rfl | rfl | rfl | rfl | rfl | rfl | rfl | rfl | rfl | rfl | rfl | rfl | rfl | rfl | rfl | rfl | rfl | rfl | rfl | rfl | rfl | rfl | rfl | rfl | rfl | rfl | rfl | rfl | rfl | hsw
      · refine P_tableIn d_La_law_33 159 192 (by decide) (by decide) rfl (by decide) ?_
        exact lw_write hI (by omega) hL nxt
      · refine P_tableIn d_La_law_33 182 215 (by decide) (by decide) rfl (by decide) ?_
        exact lw_erase hI (by omega) hL nxt
      · refine P_tableIn d_La_law_33 195 228 (by decide) (by decide) rfl (by decide) ?_
        exact lw_fault hI (by omega) hL nxt
      · refine P_tableIn d_La_law_33 208 241 (by decide) (by decide) rfl (by decide) ?_
        exact lw_parish hI (by omega) hL nxt
      · refine P_tableIn d_La_law_33 221 254 (by decide) (by decide) rfl (by decide) ?_
        exact lw_person hI (by omega) hL nxt
      · refine P_tableIn d_La_law_33 254 287 (by decide) (by decide) rfl (by decide) ?_
        exact lw_holds hI (by omega) hL nxt
      · refine P_tableIn d_La_law_33 287 320 (by decide) (by decide) rfl (by decide) ?_
        exact lw_promise hI (by omega) hL nxt
      · refine P_tableIn d_La_law_33 320 353 (by decide) (by decide) rfl (by decide) ?_
        exact lw_as hI (by omega) hL nxt
      · refine P_tableIn d_La_law_33 353 386 (by decide) (by decide) rfl (by decide) ?_
        exact lw_year hI (by omega) hL nxt
      · refine P_tableIn d_La_law_33 376 409 (by decide) (by decide) rfl (by decide) ?_
        exact lw_give hI (by omega) hL nxt
      · refine P_tableIn d_La_law_33 409 442 (by decide) (by decide) rfl (by decide) ?_
        exact lw_shorten hI (by omega) hL nxt
      · refine P_tableIn d_La_law_33 432 465 (by decide) (by decide) rfl (by decide) ?_
        exact lw_ahead hI (by omega) hL nxt
      · refine P_tableIn d_La_law_33 455 488 (by decide) (by decide) rfl (by decide) ?_
        exact lw_undo hI (by omega) hL nxt
      · refine P_tableIn d_La_law_33 468 501 (by decide) (by decide) rfl (by decide) ?_
        exact lw_keep hI (by omega) hL nxt
      · refine P_tableIn d_La_law_33 491 524 (by decide) (by decide) rfl (by decide) ?_
        exact lw_back hI (by omega) hL nxt
      · refine P_tableIn d_La_law_33 514 547 (by decide) (by decide) rfl (by decide) ?_
        exact lw_behind hI (by omega) hL nxt
      · refine P_tableIn d_La_law_33 557 590 (by decide) (by decide) rfl (by decide) ?_
        exact lw_keeps hI (by omega) hL nxt
      · refine P_tableIn d_La_law_33 580 613 (by decide) (by decide) rfl (by decide) ?_
        exact lw_just hI (by omega) hL nxt
      · refine P_tableIn d_La_law_33 603 636 (by decide) (by decide) rfl (by decide) ?_
        exact lw_stuck hI (by omega) hL nxt
      · refine P_tableIn d_La_law_33 616 649 (by decide) (by decide) rfl (by decide) ?_
        exact lw_order hI (by omega) hL nxt
      · refine P_tableIn d_La_law_33 659 692 (by decide) (by decide) rfl (by decide) ?_
        exact lw_godfathers hI (by omega) hL nxt
      · refine P_tableIn d_La_law_33 692 725 (by decide) (by decide) rfl (by decide) ?_
        exact lw_peace hI (by omega) hL nxt
      · refine P_tableIn d_La_law_33 705 738 (by decide) (by decide) rfl (by decide) ?_
        exact lw_idle hI (by omega) hL nxt
      · refine P_tableIn d_La_law_33 758 791 (by decide) (by decide) rfl (by decide) ?_
        exact lw_seen hI (by omega) hL nxt
      · refine P_tableIn d_La_law_33 801 834 (by decide) (by decide) rfl (by decide) ?_
        exact lw_forget hI (by omega) hL nxt
      · refine P_tableIn d_La_law_33 814 847 (by decide) (by decide) rfl (by decide) ?_
        exact lw_kinds hI (by omega) hL nxt
      · refine P_tableIn d_La_law_33 827 860 (by decide) (by decide) rfl (by decide) ?_
        exact lw_attempt hI (by omega) hL nxt
      · refine P_tableIn d_La_law_33 840 873 (by decide) (by decide) rfl (by decide) ?_
        exact lw_register hI (by omega) hL nxt
      · refine P_tableIn d_La_law_33 873 906 (by decide) (by decide) rfl (by decide) ?_
        exact lw_page hI (by omega) hL nxt
      · refine P_tableIn d_La_law_33 916 949 (by decide) (by decide) rfl (by decide) ?_
        exact lw_bind hI (by omega) hL nxt
      · refine P_tableIn d_La_law_33 969 1002 (by decide) (by decide) rfl (by decide) ?_
        exact lw_same hI (by omega) hL nxt
      · refine P_tableIn d_La_law_33 1022 1055 (by decide) (by decide) rfl (by decide) ?_
        exact lw_enter hI (by omega) hL nxt
      · refine P_tableIn d_La_law_33 1085 1118 (by decide) (by decide) rfl (by decide) ?_
        exact lw_read hI (by omega) hL nxt
      · refine P_tableIn d_La_law_33 1138 1171 (by decide) (by decide) rfl (by decide) ?_
        exact lw_pages hI (by omega) hL nxt
      · refine P_tableIn d_La_law_33 1171 1204 (by decide) (by decide) rfl (by decide) ?_
        exact lw_drop hI (by omega) hL nxt
      · refine P_tableIn d_La_law_33 1194 1227 (by decide) (by decide) rfl (by decide) ?_
        exact lw_count hI (by omega) hL nxt
      · refine P_tableOut d_La_law_33 1250 (by decide) (Or.inr (by rw [nI_toInt (by omega)]; omega)) ?_
        exact nxt dl mI dr hI GY.rf
/-- nothing is told yet -/
theorem inv0 {X : CX} {mI : Nat → Nat → Int32} (h1 : ∀ j, j < 3 → mI 167 j = -1) (h2 : ∀ q, q ≠ 167 → mI q = mI0 X q) : Inv [] (fun _ _ => 0) mI := by
  have z : ∀ q f, 32 ≤ q → q ≠ 167 → mI q f = nI 0 := fun q f hq hn => by
    rw [h2 q hn]; unfold mI0; rw [if_neg (by omega), if_neg (by omega)]; rfl
  have no : ∀ {p : Prop} {j : Nat}, j < 0 → p := fun hj => absurd hj (Nat.not_lt_zero _)
  refine ⟨(0, 0, fun _ => 0, fun _ => 0, fun _ => 0, fun _ => 0, fun _ => 0, fun _ => 0, fun _ => 0, fun _ => 0), ((0, fun _ => 0, fun _ => 0, fun _ => 0, fun _ => 0, []), []), fun _ => none, fun _ => 0, 0, (0, fun _ => 0, fun _ => 0, fun _ => 0), (fun _ => none, fun _ => []), ⟨⟨Nat.zero_le _, Nat.zero_le _, fun i hi => no hi, fun i hi => no hi⟩, ⟨⟨⟨rfl, List.nodup_nil, fun p hp1 => nomatch hp1⟩, fun p hp1 => no hp1, fun i hi => no hi⟩, Nat.zero_le _, fun τ hτ => nomatch hτ⟩, (fun u τ _ e => nomatch e), ⟨Nat.zero_le _, fun i hi => no hi⟩⟩, ⟨⟨z _ _ (by omega) (by omega), z _ _ (by omega) (by omega), fun i hi => no hi, fun i hi => no hi⟩, ⟨z _ _ (by omega) (by omega), z _ _ (by omega) (by omega), fun i hi => no hi, fun i hi => no hi, fun i hi => no hi⟩, ⟨0, by decide, Nat.zero_le _, z _ _ (by omega) (by omega), z _ _ (by omega) (by omega), fun k σ hk => by cases hk⟩, fun k hk => ⟨z _ _ (by omega) (by omega), fun σ hσ => nomatch hσ⟩, ⟨Nat.zero_le _, z _ _ (by omega) (by omega), fun i hi => no hi⟩, ⟨z _ _ (by omega) (by omega), fun i hi => no hi⟩, ⟨fun g hg => ⟨fun _ => rfl, fun l hl => nomatch hl⟩, fun g g' _ _ _ hz => absurd rfl hz⟩⟩, ⟨⟨z _ _ (by omega) (by omega), z _ _ (by omega) (by omega), fun i hi => no hi, fun i hi => no hi, fun p _ hp1 => z _ _ (by omega) (by omega)⟩, ⟨z _ _ (by omega) (by omega), z _ _ (by omega) (by omega), fun i hi => no hi, fun i hi => no hi, fun m hm => ⟨z _ _ (by omega) (by omega), fun k hk => no hk⟩⟩, ⟨Nat.zero_le _, z _ _ (by omega) (by omega), fun k σ hk => by cases hk⟩, fun k hk => ⟨z _ _ (by omega) (by omega), fun σ hσ => nomatch hσ⟩, ⟨Nat.zero_le _, z _ _ (by omega) (by omega), fun i hi => no hi⟩, ⟨z _ _ (by omega) (by omega), fun i hi => no hi⟩, RM_none h1⟩⟩
theorem h0_cP {X : CX} : h0 X = cP X [] [] [] [] := by
  have e3 : mR0 = (fun r f => if r < 32 then mR0 r f else (([] : List (List Nat)).getD (r - 32) []).getD f 0) := by
    funext r f
    by_cases h : r < 32
    · rw [if_pos h]
    · rw [if_neg h]
      unfold mR0
      rw [if_neg (by omega)]; rfl
  unfold h0 cP cH
  rw [List.append_nil, List.append_nil, List.append_nil]
  exact congrArg (fun z => (lay0 (xL X), mI0 X, z)) e3
theorem law_owes : lawOwes := by
  intro X hL
  rw [h0_cP]
  refine T_new (a := 32) (L' := [(0, 10)]) (T' := [[]]) ⟨rfl, rfl⟩ d_La_law_0 n_La_7 ⟨rfl, rfl⟩ rfl rfl ?_
  refine P_dupA d_La_law_3 ?_
  refine C_I0 d_La_law_4 k_La_9 (by decide) (Nat.le_of_ble_eq_true rfl) (by decide) (Nat.le_of_ble_eq_true rfl) ?_
  refine c0_Pn_init (ly := []) (tb := []) (a := 32) ⟨rfl, rfl⟩ ?_
  show EW X m_law 7 [.ref 1, jk, jk, jk] [.ref 32] (cP X pnL pnT [] []) _
  refine S_astore_n_4_1 d_La_law_7 rfl rfl ?_
  refine T_new (a := 139) (L' := [(10, 45)]) (T' := [[]]) ⟨rfl, rfl⟩ d_La_law_8 n_La_10 ⟨rfl, rfl⟩ rfl rfl ?_
  refine P_dupA d_La_law_11 ?_
  refine C_I0 d_La_law_12 k_La_12 (by decide) (Nat.le_of_ble_eq_true rfl) (by decide) (Nat.le_of_ble_eq_true rfl) ?_
  refine c_Md_init (fun mI1 g1 g2 => ?_)
  refine S_astore_n_4_2 d_La_law_15 rfl rfl ?_
  refine N_iconst d_La_law_16 0 rfl ?_
  refine S_istore_n_4_3 d_La_law_17 rfl rfl ?_
  exact lp_law hL _ 0 [] mI1 (fun _ _ => 0) (Nat.zero_le _) (inv0 g1 g2) (Nat.zero_le _) (Nat.zero_le _) rfl
