theorem L_sald {X : CX} {M : MD} {pc : Nat} {ls rest : List Value} {h : AH} {Q : Option Value → AH → Prop} {j : Nat} (hd : decode M.2.1 pc = .ok (.iaload, 1)) (hj : j < xL X) (hL : xL X ≤ 3072) (k : EW X M (pc + 1) ls (.int (xS X j) :: rest) h Q) : EW X M pc ls (.int (nI j) :: .ref 1 :: rest) h Q := by
  refine P_sald (n := xL X) hd rfl (vp_s hj hL) ?_
  rw [nI_clamp (by omega)]
  exact k
theorem bd_fresh {S : RS} {dl : List (Nat × Nat)} {dr : Nat → Nat → Nat} {mI : Nat → Nat → Int32} (h : CG S dl dr mI) : ¬ bdA S (172 + dl.length) := fun z => by
  obtain ⟨z0, g, l, p, hg, hl, hp1, hq⟩ := z
  have R := (h.1 g hg).2 l hl
  have := ((R.2.2.2.2.2 p hp1).2 (by rw [hq]; exact z0)).lt
  omega
theorem lw_person {X : CX} {dl : List (Nat × Nat)} {mI : Nat → Nat → Int32} {dr : Nat → Nat → Nat} {Q : Option Value → AH → Prop} {i : Nat} (hI : Inv dl dr mI) (hi : i + 5 < xL X) (hL : xL X ≤ 3072) (k : ∀ dl' mI' dr', Inv dl' dr' mI' → GY dl dl' → EW X m_law 1250 [.ref 1, .ref 32, .ref 139, .int (nI i)] [] (hp X dl' mI' dr') Q) : EW X m_law 254 [.ref 1, .ref 32, .ref 139, .int (nI i)] [] (hp X dl mI dr) Q := by
  obtain ⟨T, N, kp, t, L, G, S, hWf, hC, hM⟩ := id hI
  obtain ⟨hw, hN, hk, hg⟩ := id hWf
  obtain ⟨hW, hy, hl⟩ := id hN
  obtain ⟨cT, cS, cP_, cK, cX, cG, cR⟩ := id hC
  have hw2 := hw.2.1
  have hlv : ∀ τ ∈ N.2, SV T τ := fun τ h => (hl τ h).1.v
  have hkv : ∀ u τ, u < 2 → kp u = some τ → SV T τ := fun u τ h1 h2 => (hk u τ h1 h2).1.v
  refine g_aload_n d_La_law_254 rfl ?_
  refine g_aload_n d_La_law_255 rfl ?_
  refine g_iload_n d_La_law_256 rfl ?_
  refine N_iconst d_La_law_257 1 rfl ?_
  refine N_iadd d_La_law_258 ?_
  refine L_sald d_La_law_259 (by omega) hL ?_
  refine g_aload_n d_La_law_260 rfl ?_
  refine g_iload_n d_La_law_261 rfl ?_
  refine N_iconst d_La_law_262 2 rfl ?_
  refine N_iadd d_La_law_263 ?_
  refine L_sald d_La_law_264 (by omega) hL ?_
  refine C_V2 d_La_law_265 k_La_31 rfl (Nat.le_of_ble_eq_true rfl) (by decide) (Nat.le_of_ble_eq_true rfl) ?_
  refine c_Pn_person hw cT cS hW.v ?_
  obtain ⟨mT, mS, mP, mK, mX, mG, mR⟩ := id hM
  refine g_aload_n d_La_law_268 rfl ?_
  refine g_aload_n d_La_law_269 rfl ?_
  refine g_iload_n d_La_law_270 rfl ?_
  refine N_iconst d_La_law_271 1 rfl ?_
  refine N_iadd d_La_law_272 ?_
  refine L_sald d_La_law_273 (by omega) hL ?_
  refine g_aload_n d_La_law_274 rfl ?_
  refine g_iload_n d_La_law_275 rfl ?_
  refine N_iconst d_La_law_276 2 rfl ?_
  refine N_iadd d_La_law_277 ?_
  refine L_sald d_La_law_278 (by omega) hL ?_
  refine C_V2 d_La_law_279 k_La_35 rfl (Nat.le_of_ble_eq_true rfl) (by decide) (Nat.le_of_ble_eq_true rfl) ?_
  refine c_Md_person hw mT mS hW ?_
  refine P_icmp_eq d_La_law_282 1250 (by decide) (fun _ => ?_) (fun z => absurd rfl z)
  exact k dl mI dr hI GY.rf
theorem lw_holds {X : CX} {dl : List (Nat × Nat)} {mI : Nat → Nat → Int32} {dr : Nat → Nat → Nat} {Q : Option Value → AH → Prop} {i : Nat} (hI : Inv dl dr mI) (hi : i + 5 < xL X) (hL : xL X ≤ 3072) (k : ∀ dl' mI' dr', Inv dl' dr' mI' → GY dl dl' → EW X m_law 1250 [.ref 1, .ref 32, .ref 139, .int (nI i)] [] (hp X dl' mI' dr') Q) : EW X m_law 287 [.ref 1, .ref 32, .ref 139, .int (nI i)] [] (hp X dl mI dr) Q := by
  obtain ⟨T, N, kp, t, L, G, S, hWf, hC, hM⟩ := id hI
  obtain ⟨hw, hN, hk, hg⟩ := id hWf
  obtain ⟨hW, hy, hl⟩ := id hN
  obtain ⟨cT, cS, cP_, cK, cX, cG, cR⟩ := id hC
  have hw2 := hw.2.1
  have hlv : ∀ τ ∈ N.2, SV T τ := fun τ h => (hl τ h).1.v
  have hkv : ∀ u τ, u < 2 → kp u = some τ → SV T τ := fun u τ h1 h2 => (hk u τ h1 h2).1.v
  refine g_aload_n d_La_law_287 rfl ?_
  refine g_aload_n d_La_law_288 rfl ?_
  refine g_iload_n d_La_law_289 rfl ?_
  refine N_iconst d_La_law_290 1 rfl ?_
  refine N_iadd d_La_law_291 ?_
  refine L_sald d_La_law_292 (by omega) hL ?_
  refine g_aload_n d_La_law_293 rfl ?_
  refine g_iload_n d_La_law_294 rfl ?_
  refine N_iconst d_La_law_295 2 rfl ?_
  refine N_iadd d_La_law_296 ?_
  refine L_sald d_La_law_297 (by omega) hL ?_
  refine C_V2 d_La_law_298 k_La_36 rfl (Nat.le_of_ble_eq_true rfl) (by decide) (Nat.le_of_ble_eq_true rfl) ?_
  refine c_Pn_holds hw cT cS hW.v ?_
  obtain ⟨mT, mS, mP, mK, mX, mG, mR⟩ := id hM
  refine g_aload_n d_La_law_301 rfl ?_
  refine g_aload_n d_La_law_302 rfl ?_
  refine g_iload_n d_La_law_303 rfl ?_
  refine N_iconst d_La_law_304 1 rfl ?_
  refine N_iadd d_La_law_305 ?_
  refine L_sald d_La_law_306 (by omega) hL ?_
  refine g_aload_n d_La_law_307 rfl ?_
  refine g_iload_n d_La_law_308 rfl ?_
  refine N_iconst d_La_law_309 2 rfl ?_
  refine N_iadd d_La_law_310 ?_
  refine L_sald d_La_law_311 (by omega) hL ?_
  refine C_V2 d_La_law_312 k_La_39 rfl (Nat.le_of_ble_eq_true rfl) (by decide) (Nat.le_of_ble_eq_true rfl) ?_
  refine c_Md_holds hw mT mS hW ?_
  refine P_icmp_eq d_La_law_315 1250 (by decide) (fun _ => ?_) (fun z => absurd rfl z)
  exact k dl mI dr hI GY.rf
theorem lw_promise {X : CX} {dl : List (Nat × Nat)} {mI : Nat → Nat → Int32} {dr : Nat → Nat → Nat} {Q : Option Value → AH → Prop} {i : Nat} (hI : Inv dl dr mI) (hi : i + 5 < xL X) (hL : xL X ≤ 3072) (k : ∀ dl' mI' dr', Inv dl' dr' mI' → GY dl dl' → EW X m_law 1250 [.ref 1, .ref 32, .ref 139, .int (nI i)] [] (hp X dl' mI' dr') Q) : EW X m_law 320 [.ref 1, .ref 32, .ref 139, .int (nI i)] [] (hp X dl mI dr) Q := by
  obtain ⟨T, N, kp, t, L, G, S, hWf, hC, hM⟩ := id hI
  obtain ⟨hw, hN, hk, hg⟩ := id hWf
  obtain ⟨hW, hy, hl⟩ := id hN
  obtain ⟨cT, cS, cP_, cK, cX, cG, cR⟩ := id hC
  have hw2 := hw.2.1
  have hlv : ∀ τ ∈ N.2, SV T τ := fun τ h => (hl τ h).1.v
  have hkv : ∀ u τ, u < 2 → kp u = some τ → SV T τ := fun u τ h1 h2 => (hk u τ h1 h2).1.v
  refine g_aload_n d_La_law_320 rfl ?_
  refine g_aload_n d_La_law_321 rfl ?_
  refine g_iload_n d_La_law_322 rfl ?_
  refine N_iconst d_La_law_323 1 rfl ?_
  refine N_iadd d_La_law_324 ?_
  refine L_sald d_La_law_325 (by omega) hL ?_
  refine g_aload_n d_La_law_326 rfl ?_
  refine g_iload_n d_La_law_327 rfl ?_
  refine N_iconst d_La_law_328 2 rfl ?_
  refine N_iadd d_La_law_329 ?_
  refine L_sald d_La_law_330 (by omega) hL ?_
  refine C_V2 d_La_law_331 k_La_40 rfl (Nat.le_of_ble_eq_true rfl) (by decide) (Nat.le_of_ble_eq_true rfl) ?_
  refine c_Pn_promise hw cT cS hW.v ?_
  obtain ⟨mT, mS, mP, mK, mX, mG, mR⟩ := id hM
  refine g_aload_n d_La_law_334 rfl ?_
  refine g_aload_n d_La_law_335 rfl ?_
  refine g_iload_n d_La_law_336 rfl ?_
  refine N_iconst d_La_law_337 1 rfl ?_
  refine N_iadd d_La_law_338 ?_
  refine L_sald d_La_law_339 (by omega) hL ?_
  refine g_aload_n d_La_law_340 rfl ?_
  refine g_iload_n d_La_law_341 rfl ?_
  refine N_iconst d_La_law_342 2 rfl ?_
  refine N_iadd d_La_law_343 ?_
  refine L_sald d_La_law_344 (by omega) hL ?_
  refine C_V2 d_La_law_345 k_La_43 rfl (Nat.le_of_ble_eq_true rfl) (by decide) (Nat.le_of_ble_eq_true rfl) ?_
  refine c_Md_promise hw mT mS hW ?_
  refine P_icmp_eq d_La_law_348 1250 (by decide) (fun _ => ?_) (fun z => absurd rfl z)
  exact k dl mI dr hI GY.rf
theorem lw_as {X : CX} {dl : List (Nat × Nat)} {mI : Nat → Nat → Int32} {dr : Nat → Nat → Nat} {Q : Option Value → AH → Prop} {i : Nat} (hI : Inv dl dr mI) (hi : i + 5 < xL X) (hL : xL X ≤ 3072) (k : ∀ dl' mI' dr', Inv dl' dr' mI' → GY dl dl' → EW X m_law 1250 [.ref 1, .ref 32, .ref 139, .int (nI i)] [] (hp X dl' mI' dr') Q) : EW X m_law 353 [.ref 1, .ref 32, .ref 139, .int (nI i)] [] (hp X dl mI dr) Q := by
  obtain ⟨T, N, kp, t, L, G, S, hWf, hC, hM⟩ := id hI
  obtain ⟨hw, hN, hk, hg⟩ := id hWf
  obtain ⟨hW, hy, hl⟩ := id hN
  obtain ⟨cT, cS, cP_, cK, cX, cG, cR⟩ := id hC
  have hw2 := hw.2.1
  have hlv : ∀ τ ∈ N.2, SV T τ := fun τ h => (hl τ h).1.v
  have hkv : ∀ u τ, u < 2 → kp u = some τ → SV T τ := fun u τ h1 h2 => (hk u τ h1 h2).1.v
  refine g_aload_n d_La_law_353 rfl ?_
  refine g_aload_n d_La_law_354 rfl ?_
  refine g_iload_n d_La_law_355 rfl ?_
  refine N_iconst d_La_law_356 1 rfl ?_
  refine N_iadd d_La_law_357 ?_
  refine L_sald d_La_law_358 (by omega) hL ?_
  refine g_aload_n d_La_law_359 rfl ?_
  refine g_iload_n d_La_law_360 rfl ?_
  refine N_iconst d_La_law_361 2 rfl ?_
  refine N_iadd d_La_law_362 ?_
  refine L_sald d_La_law_363 (by omega) hL ?_
  refine C_V2 d_La_law_364 k_La_44 rfl (Nat.le_of_ble_eq_true rfl) (by decide) (Nat.le_of_ble_eq_true rfl) ?_
  refine c_Pn_as hw cT ?_
  obtain ⟨mT, mS, mP, mK, mX, mG, mR⟩ := id hM
  refine g_aload_n d_La_law_367 rfl ?_
  refine g_aload_n d_La_law_368 rfl ?_
  refine g_iload_n d_La_law_369 rfl ?_
  refine N_iconst d_La_law_370 1 rfl ?_
  refine N_iadd d_La_law_371 ?_
  refine L_sald d_La_law_372 (by omega) hL ?_
  refine g_aload_n d_La_law_373 rfl ?_
  refine g_iload_n d_La_law_374 rfl ?_
  refine N_iconst d_La_law_375 2 rfl ?_
  refine N_iadd d_La_law_376 ?_
  refine L_sald d_La_law_377 (by omega) hL ?_
  refine C_V2 d_La_law_378 k_La_47 rfl (Nat.le_of_ble_eq_true rfl) (by decide) (Nat.le_of_ble_eq_true rfl) ?_
  refine c_Md_as hw mT ?_
  refine P_icmp_eq d_La_law_381 1250 (by decide) (fun _ => ?_) (fun z => absurd rfl z)
  exact k dl mI dr hI GY.rf
theorem lw_stuck {X : CX} {dl : List (Nat × Nat)} {mI : Nat → Nat → Int32} {dr : Nat → Nat → Nat} {Q : Option Value → AH → Prop} {i : Nat} (hI : Inv dl dr mI) (hi : i + 5 < xL X) (hL : xL X ≤ 3072) (k : ∀ dl' mI' dr', Inv dl' dr' mI' → GY dl dl' → EW X m_law 1250 [.ref 1, .ref 32, .ref 139, .int (nI i)] [] (hp X dl' mI' dr') Q) : EW X m_law 636 [.ref 1, .ref 32, .ref 139, .int (nI i)] [] (hp X dl mI dr) Q := by
  obtain ⟨T, N, kp, t, L, G, S, hWf, hC, hM⟩ := id hI
  obtain ⟨hw, hN, hk, hg⟩ := id hWf
  obtain ⟨hW, hy, hl⟩ := id hN
  obtain ⟨cT, cS, cP_, cK, cX, cG, cR⟩ := id hC
  have hw2 := hw.2.1
  have hlv : ∀ τ ∈ N.2, SV T τ := fun τ h => (hl τ h).1.v
  have hkv : ∀ u τ, u < 2 → kp u = some τ → SV T τ := fun u τ h1 h2 => (hk u τ h1 h2).1.v
  refine g_aload_n d_La_law_636 rfl ?_
  refine C_V0 d_La_law_637 k_La_89 rfl (Nat.le_of_ble_eq_true rfl) (by decide) (Nat.le_of_ble_eq_true rfl) ?_
  refine c_Pn_stuck hw cT cS hW.v ?_
  obtain ⟨mT, mS, mP, mK, mX, mG, mR⟩ := id hM
  refine g_aload_n d_La_law_640 rfl ?_
  refine C_V0 d_La_law_641 k_La_92 rfl (Nat.le_of_ble_eq_true rfl) (by decide) (Nat.le_of_ble_eq_true rfl) ?_
  refine c_Md_stuck hw mT mS ?_
  refine P_icmp_eq d_La_law_644 1250 (by decide) (fun _ => ?_) (fun z => absurd rfl z)
  exact k dl mI dr hI GY.rf
theorem lw_peace {X : CX} {dl : List (Nat × Nat)} {mI : Nat → Nat → Int32} {dr : Nat → Nat → Nat} {Q : Option Value → AH → Prop} {i : Nat} (hI : Inv dl dr mI) (hi : i + 5 < xL X) (hL : xL X ≤ 3072) (k : ∀ dl' mI' dr', Inv dl' dr' mI' → GY dl dl' → EW X m_law 1250 [.ref 1, .ref 32, .ref 139, .int (nI i)] [] (hp X dl' mI' dr') Q) : EW X m_law 725 [.ref 1, .ref 32, .ref 139, .int (nI i)] [] (hp X dl mI dr) Q := by
  obtain ⟨T, N, kp, t, L, G, S, hWf, hC, hM⟩ := id hI
  obtain ⟨hw, hN, hk, hg⟩ := id hWf
  obtain ⟨hW, hy, hl⟩ := id hN
  obtain ⟨cT, cS, cP_, cK, cX, cG, cR⟩ := id hC
  have hw2 := hw.2.1
  have hlv : ∀ τ ∈ N.2, SV T τ := fun τ h => (hl τ h).1.v
  have hkv : ∀ u τ, u < 2 → kp u = some τ → SV T τ := fun u τ h1 h2 => (hk u τ h1 h2).1.v
  refine g_aload_n d_La_law_725 rfl ?_
  refine C_V0 d_La_law_726 k_La_101 rfl (Nat.le_of_ble_eq_true rfl) (by decide) (Nat.le_of_ble_eq_true rfl) ?_
  refine c_Pn_peace hw cT ?_
  obtain ⟨mT, mS, mP, mK, mX, mG, mR⟩ := id hM
  refine g_aload_n d_La_law_729 rfl ?_
  refine C_V0 d_La_law_730 k_La_104 rfl (Nat.le_of_ble_eq_true rfl) (by decide) (Nat.le_of_ble_eq_true rfl) ?_
  refine c_Md_peace hw mT ?_
  refine P_icmp_eq d_La_law_733 1250 (by decide) (fun _ => ?_) (fun z => absurd rfl z)
  exact k dl mI dr hI GY.rf
theorem lw_idle {X : CX} {dl : List (Nat × Nat)} {mI : Nat → Nat → Int32} {dr : Nat → Nat → Nat} {Q : Option Value → AH → Prop} {i : Nat} (hI : Inv dl dr mI) (hi : i + 5 < xL X) (hL : xL X ≤ 3072) (k : ∀ dl' mI' dr', Inv dl' dr' mI' → GY dl dl' → EW X m_law 1250 [.ref 1, .ref 32, .ref 139, .int (nI i)] [] (hp X dl' mI' dr') Q) : EW X m_law 738 [.ref 1, .ref 32, .ref 139, .int (nI i)] [] (hp X dl mI dr) Q := by
  obtain ⟨T, N, kp, t, L, G, S, hWf, hC, hM⟩ := id hI
  obtain ⟨hw, hN, hk, hg⟩ := id hWf
  obtain ⟨hW, hy, hl⟩ := id hN
  obtain ⟨cT, cS, cP_, cK, cX, cG, cR⟩ := id hC
  have hw2 := hw.2.1
  have hlv : ∀ τ ∈ N.2, SV T τ := fun τ h => (hl τ h).1.v
  have hkv : ∀ u τ, u < 2 → kp u = some τ → SV T τ := fun u τ h1 h2 => (hk u τ h1 h2).1.v
  refine g_aload_n d_La_law_738 rfl ?_
  refine g_aload_n d_La_law_739 rfl ?_
  refine g_iload_n d_La_law_740 rfl ?_
  refine N_iconst d_La_law_741 1 rfl ?_
  refine N_iadd d_La_law_742 ?_
  refine L_sald d_La_law_743 (by omega) hL ?_
  refine g_aload_n d_La_law_744 rfl ?_
  refine g_iload_n d_La_law_745 rfl ?_
  refine N_iconst d_La_law_746 2 rfl ?_
  refine N_iadd d_La_law_747 ?_
  refine L_sald d_La_law_748 (by omega) hL ?_
  refine g_aload_n d_La_law_749 rfl ?_
  refine g_iload_n d_La_law_750 rfl ?_
  refine N_iconst d_La_law_751 3 rfl ?_
  refine N_iadd d_La_law_752 ?_
  refine L_sald d_La_law_753 (by omega) hL ?_
  refine g_aload_n d_La_law_754 rfl ?_
  refine g_iload_n d_La_law_755 rfl ?_
  refine N_iconst d_La_law_756 4 rfl ?_
  refine N_iadd d_La_law_757 ?_
  refine L_sald d_La_law_758 (by omega) hL ?_
  refine C_V4 d_La_law_759 k_La_105 rfl (Nat.le_of_ble_eq_true rfl) (by decide) (Nat.le_of_ble_eq_true rfl) ?_
  refine c_Pn_idle ?_
  obtain ⟨mT, mS, mP, mK, mX, mG, mR⟩ := id hM
  refine g_aload_n d_La_law_762 rfl ?_
  refine g_aload_n d_La_law_763 rfl ?_
  refine g_iload_n d_La_law_764 rfl ?_
  refine N_iconst d_La_law_765 1 rfl ?_
  refine N_iadd d_La_law_766 ?_
  refine L_sald d_La_law_767 (by omega) hL ?_
  refine g_aload_n d_La_law_768 rfl ?_
  refine g_iload_n d_La_law_769 rfl ?_
  refine N_iconst d_La_law_770 2 rfl ?_
  refine N_iadd d_La_law_771 ?_
  refine L_sald d_La_law_772 (by omega) hL ?_
  refine g_aload_n d_La_law_773 rfl ?_
  refine g_iload_n d_La_law_774 rfl ?_
  refine N_iconst d_La_law_775 3 rfl ?_
  refine N_iadd d_La_law_776 ?_
  refine L_sald d_La_law_777 (by omega) hL ?_
  refine g_aload_n d_La_law_778 rfl ?_
  refine g_iload_n d_La_law_779 rfl ?_
  refine N_iconst d_La_law_780 4 rfl ?_
  refine N_iadd d_La_law_781 ?_
  refine L_sald d_La_law_782 (by omega) hL ?_
  refine C_V4 d_La_law_783 k_La_109 rfl (Nat.le_of_ble_eq_true rfl) (by decide) (Nat.le_of_ble_eq_true rfl) ?_
  refine c_Md_idle ?_
  refine P_icmp_eq d_La_law_786 1250 (by decide) (fun _ => ?_) (fun z => absurd rfl z)
  exact k dl mI dr hI GY.rf
theorem lw_kinds {X : CX} {dl : List (Nat × Nat)} {mI : Nat → Nat → Int32} {dr : Nat → Nat → Nat} {Q : Option Value → AH → Prop} {i : Nat} (hI : Inv dl dr mI) (hi : i + 5 < xL X) (hL : xL X ≤ 3072) (k : ∀ dl' mI' dr', Inv dl' dr' mI' → GY dl dl' → EW X m_law 1250 [.ref 1, .ref 32, .ref 139, .int (nI i)] [] (hp X dl' mI' dr') Q) : EW X m_law 847 [.ref 1, .ref 32, .ref 139, .int (nI i)] [] (hp X dl mI dr) Q := by
  obtain ⟨T, N, kp, t, L, G, S, hWf, hC, hM⟩ := id hI
  obtain ⟨hw, hN, hk, hg⟩ := id hWf
  obtain ⟨hW, hy, hl⟩ := id hN
  obtain ⟨cT, cS, cP_, cK, cX, cG, cR⟩ := id hC
  have hw2 := hw.2.1
  have hlv : ∀ τ ∈ N.2, SV T τ := fun τ h => (hl τ h).1.v
  have hkv : ∀ u τ, u < 2 → kp u = some τ → SV T τ := fun u τ h1 h2 => (hk u τ h1 h2).1.v
  refine g_aload_n d_La_law_847 rfl ?_
  refine C_V0 d_La_law_848 k_La_118 rfl (Nat.le_of_ble_eq_true rfl) (by decide) (Nat.le_of_ble_eq_true rfl) ?_
  refine c_Pn_kinds hg cG ?_
  obtain ⟨mT, mS, mP, mK, mX, mG, mR⟩ := id hM
  refine g_aload_n d_La_law_851 rfl ?_
  refine C_V0 d_La_law_852 k_La_121 rfl (Nat.le_of_ble_eq_true rfl) (by decide) (Nat.le_of_ble_eq_true rfl) ?_
  refine c_Md_kinds hg mG ?_
  refine P_icmp_eq d_La_law_855 1250 (by decide) (fun _ => ?_) (fun z => absurd rfl z)
  exact k dl mI dr hI GY.rf
theorem lw_attempt {X : CX} {dl : List (Nat × Nat)} {mI : Nat → Nat → Int32} {dr : Nat → Nat → Nat} {Q : Option Value → AH → Prop} {i : Nat} (hI : Inv dl dr mI) (hi : i + 5 < xL X) (hL : xL X ≤ 3072) (k : ∀ dl' mI' dr', Inv dl' dr' mI' → GY dl dl' → EW X m_law 1250 [.ref 1, .ref 32, .ref 139, .int (nI i)] [] (hp X dl' mI' dr') Q) : EW X m_law 860 [.ref 1, .ref 32, .ref 139, .int (nI i)] [] (hp X dl mI dr) Q := by
  obtain ⟨T, N, kp, t, L, G, S, hWf, hC, hM⟩ := id hI
  obtain ⟨hw, hN, hk, hg⟩ := id hWf
  obtain ⟨hW, hy, hl⟩ := id hN
  obtain ⟨cT, cS, cP_, cK, cX, cG, cR⟩ := id hC
  have hw2 := hw.2.1
  have hlv : ∀ τ ∈ N.2, SV T τ := fun τ h => (hl τ h).1.v
  have hkv : ∀ u τ, u < 2 → kp u = some τ → SV T τ := fun u τ h1 h2 => (hk u τ h1 h2).1.v
  refine g_aload_n d_La_law_860 rfl ?_
  refine C_V0 d_La_law_861 k_La_122 rfl (Nat.le_of_ble_eq_true rfl) (by decide) (Nat.le_of_ble_eq_true rfl) ?_
  refine c_Pn_attempt hg cG ?_
  obtain ⟨mT, mS, mP, mK, mX, mG, mR⟩ := id hM
  refine g_aload_n d_La_law_864 rfl ?_
  refine C_V0 d_La_law_865 k_La_125 rfl (Nat.le_of_ble_eq_true rfl) (by decide) (Nat.le_of_ble_eq_true rfl) ?_
  refine c_Md_attempt hg mG ?_
  refine P_icmp_eq d_La_law_868 1250 (by decide) (fun _ => ?_) (fun z => absurd rfl z)
  exact k dl mI dr hI GY.rf
theorem lw_same {X : CX} {dl : List (Nat × Nat)} {mI : Nat → Nat → Int32} {dr : Nat → Nat → Nat} {Q : Option Value → AH → Prop} {i : Nat} (hI : Inv dl dr mI) (hi : i + 5 < xL X) (hL : xL X ≤ 3072) (k : ∀ dl' mI' dr', Inv dl' dr' mI' → GY dl dl' → EW X m_law 1250 [.ref 1, .ref 32, .ref 139, .int (nI i)] [] (hp X dl' mI' dr') Q) : EW X m_law 1002 [.ref 1, .ref 32, .ref 139, .int (nI i)] [] (hp X dl mI dr) Q := by
  obtain ⟨T, N, kp, t, L, G, S, hWf, hC, hM⟩ := id hI
  obtain ⟨hw, hN, hk, hg⟩ := id hWf
  obtain ⟨hW, hy, hl⟩ := id hN
  obtain ⟨cT, cS, cP_, cK, cX, cG, cR⟩ := id hC
  have hw2 := hw.2.1
  have hlv : ∀ τ ∈ N.2, SV T τ := fun τ h => (hl τ h).1.v
  have hkv : ∀ u τ, u < 2 → kp u = some τ → SV T τ := fun u τ h1 h2 => (hk u τ h1 h2).1.v
  refine g_aload_n d_La_law_1002 rfl ?_
  refine g_aload_n d_La_law_1003 rfl ?_
  refine g_iload_n d_La_law_1004 rfl ?_
  refine N_iconst d_La_law_1005 1 rfl ?_
  refine N_iadd d_La_law_1006 ?_
  refine L_sald d_La_law_1007 (by omega) hL ?_
  refine g_aload_n d_La_law_1008 rfl ?_
  refine g_iload_n d_La_law_1009 rfl ?_
  refine N_iconst d_La_law_1010 2 rfl ?_
  refine N_iadd d_La_law_1011 ?_
  refine L_sald d_La_law_1012 (by omega) hL ?_
  refine g_aload_n d_La_law_1013 rfl ?_
  refine g_iload_n d_La_law_1014 rfl ?_
  refine N_iconst d_La_law_1015 3 rfl ?_
  refine N_iadd d_La_law_1016 ?_
  refine L_sald d_La_law_1017 (by omega) hL ?_
  refine g_aload_n d_La_law_1018 rfl ?_
  refine g_iload_n d_La_law_1019 rfl ?_
  refine N_iconst d_La_law_1020 4 rfl ?_
  refine N_iadd d_La_law_1021 ?_
  refine L_sald d_La_law_1022 (by omega) hL ?_
  refine C_V4 d_La_law_1023 k_La_138 rfl (Nat.le_of_ble_eq_true rfl) (by decide) (Nat.le_of_ble_eq_true rfl) ?_
  refine c_Pn_same cR ?_
  obtain ⟨mT, mS, mP, mK, mX, mG, mR⟩ := id hM
  refine g_aload_n d_La_law_1026 rfl ?_
  refine g_aload_n d_La_law_1027 rfl ?_
  refine g_iload_n d_La_law_1028 rfl ?_
  refine N_iconst d_La_law_1029 1 rfl ?_
  refine N_iadd d_La_law_1030 ?_
  refine L_sald d_La_law_1031 (by omega) hL ?_
  refine g_aload_n d_La_law_1032 rfl ?_
  refine g_iload_n d_La_law_1033 rfl ?_
  refine N_iconst d_La_law_1034 2 rfl ?_
  refine N_iadd d_La_law_1035 ?_
  refine L_sald d_La_law_1036 (by omega) hL ?_
  refine g_aload_n d_La_law_1037 rfl ?_
  refine g_iload_n d_La_law_1038 rfl ?_
  refine N_iconst d_La_law_1039 3 rfl ?_
  refine N_iadd d_La_law_1040 ?_
  refine L_sald d_La_law_1041 (by omega) hL ?_
  refine g_aload_n d_La_law_1042 rfl ?_
  refine g_iload_n d_La_law_1043 rfl ?_
  refine N_iconst d_La_law_1044 4 rfl ?_
  refine N_iadd d_La_law_1045 ?_
  refine L_sald d_La_law_1046 (by omega) hL ?_
  refine C_V4 d_La_law_1047 k_La_141 rfl (Nat.le_of_ble_eq_true rfl) (by decide) (Nat.le_of_ble_eq_true rfl) ?_
  refine c_Md_same mR ?_
  refine P_icmp_eq d_La_law_1050 1250 (by decide) (fun _ => ?_) (fun z => absurd rfl z)
  exact k dl mI dr hI GY.rf
theorem lw_read {X : CX} {dl : List (Nat × Nat)} {mI : Nat → Nat → Int32} {dr : Nat → Nat → Nat} {Q : Option Value → AH → Prop} {i : Nat} (hI : Inv dl dr mI) (hi : i + 5 < xL X) (hL : xL X ≤ 3072) (k : ∀ dl' mI' dr', Inv dl' dr' mI' → GY dl dl' → EW X m_law 1250 [.ref 1, .ref 32, .ref 139, .int (nI i)] [] (hp X dl' mI' dr') Q) : EW X m_law 1118 [.ref 1, .ref 32, .ref 139, .int (nI i)] [] (hp X dl mI dr) Q := by
  obtain ⟨T, N, kp, t, L, G, S, hWf, hC, hM⟩ := id hI
  obtain ⟨hw, hN, hk, hg⟩ := id hWf
  obtain ⟨hW, hy, hl⟩ := id hN
  obtain ⟨cT, cS, cP_, cK, cX, cG, cR⟩ := id hC
  have hw2 := hw.2.1
  have hlv : ∀ τ ∈ N.2, SV T τ := fun τ h => (hl τ h).1.v
  have hkv : ∀ u τ, u < 2 → kp u = some τ → SV T τ := fun u τ h1 h2 => (hk u τ h1 h2).1.v
  refine g_aload_n d_La_law_1118 rfl ?_
  refine g_aload_n d_La_law_1119 rfl ?_
  refine g_iload_n d_La_law_1120 rfl ?_
  refine N_iconst d_La_law_1121 1 rfl ?_
  refine N_iadd d_La_law_1122 ?_
  refine L_sald d_La_law_1123 (by omega) hL ?_
  refine g_aload_n d_La_law_1124 rfl ?_
  refine g_iload_n d_La_law_1125 rfl ?_
  refine N_iconst d_La_law_1126 2 rfl ?_
  refine N_iadd d_La_law_1127 ?_
  refine L_sald d_La_law_1128 (by omega) hL ?_
  refine g_aload_n d_La_law_1129 rfl ?_
  refine g_iload_n d_La_law_1130 rfl ?_
  refine N_iconst d_La_law_1131 3 rfl ?_
  refine N_iadd d_La_law_1132 ?_
  refine L_sald d_La_law_1133 (by omega) hL ?_
  refine g_aload_n d_La_law_1134 rfl ?_
  refine g_iload_n d_La_law_1135 rfl ?_
  refine N_iconst d_La_law_1136 4 rfl ?_
  refine N_iadd d_La_law_1137 ?_
  refine L_sald d_La_law_1138 (by omega) hL ?_
  refine C_V4 d_La_law_1139 k_La_147 rfl (Nat.le_of_ble_eq_true rfl) (by decide) (Nat.le_of_ble_eq_true rfl) ?_
  refine c_Pn_read cR ?_
  obtain ⟨mT, mS, mP, mK, mX, mG, mR⟩ := id hM
  refine g_aload_n d_La_law_1142 rfl ?_
  refine g_aload_n d_La_law_1143 rfl ?_
  refine g_iload_n d_La_law_1144 rfl ?_
  refine N_iconst d_La_law_1145 1 rfl ?_
  refine N_iadd d_La_law_1146 ?_
  refine L_sald d_La_law_1147 (by omega) hL ?_
  refine g_aload_n d_La_law_1148 rfl ?_
  refine g_iload_n d_La_law_1149 rfl ?_
  refine N_iconst d_La_law_1150 2 rfl ?_
  refine N_iadd d_La_law_1151 ?_
  refine L_sald d_La_law_1152 (by omega) hL ?_
  refine g_aload_n d_La_law_1153 rfl ?_
  refine g_iload_n d_La_law_1154 rfl ?_
  refine N_iconst d_La_law_1155 3 rfl ?_
  refine N_iadd d_La_law_1156 ?_
  refine L_sald d_La_law_1157 (by omega) hL ?_
  refine g_aload_n d_La_law_1158 rfl ?_
  refine g_iload_n d_La_law_1159 rfl ?_
  refine N_iconst d_La_law_1160 4 rfl ?_
  refine N_iadd d_La_law_1161 ?_
  refine L_sald d_La_law_1162 (by omega) hL ?_
  refine C_V4 d_La_law_1163 k_La_150 rfl (Nat.le_of_ble_eq_true rfl) (by decide) (Nat.le_of_ble_eq_true rfl) ?_
  refine c_Md_read mR ?_
  refine P_icmp_eq d_La_law_1166 1250 (by decide) (fun _ => ?_) (fun z => absurd rfl z)
  exact k dl mI dr hI GY.rf
theorem lw_pages {X : CX} {dl : List (Nat × Nat)} {mI : Nat → Nat → Int32} {dr : Nat → Nat → Nat} {Q : Option Value → AH → Prop} {i : Nat} (hI : Inv dl dr mI) (hi : i + 5 < xL X) (hL : xL X ≤ 3072) (k : ∀ dl' mI' dr', Inv dl' dr' mI' → GY dl dl' → EW X m_law 1250 [.ref 1, .ref 32, .ref 139, .int (nI i)] [] (hp X dl' mI' dr') Q) : EW X m_law 1171 [.ref 1, .ref 32, .ref 139, .int (nI i)] [] (hp X dl mI dr) Q := by
  obtain ⟨T, N, kp, t, L, G, S, hWf, hC, hM⟩ := id hI
  obtain ⟨hw, hN, hk, hg⟩ := id hWf
  obtain ⟨hW, hy, hl⟩ := id hN
  obtain ⟨cT, cS, cP_, cK, cX, cG, cR⟩ := id hC
  have hw2 := hw.2.1
  have hlv : ∀ τ ∈ N.2, SV T τ := fun τ h => (hl τ h).1.v
  have hkv : ∀ u τ, u < 2 → kp u = some τ → SV T τ := fun u τ h1 h2 => (hk u τ h1 h2).1.v
  refine g_aload_n d_La_law_1171 rfl ?_
  refine g_aload_n d_La_law_1172 rfl ?_
  refine g_iload_n d_La_law_1173 rfl ?_
  refine N_iconst d_La_law_1174 1 rfl ?_
  refine N_iadd d_La_law_1175 ?_
  refine L_sald d_La_law_1176 (by omega) hL ?_
  refine g_aload_n d_La_law_1177 rfl ?_
  refine g_iload_n d_La_law_1178 rfl ?_
  refine N_iconst d_La_law_1179 2 rfl ?_
  refine N_iadd d_La_law_1180 ?_
  refine L_sald d_La_law_1181 (by omega) hL ?_
  refine C_V2 d_La_law_1182 k_La_151 rfl (Nat.le_of_ble_eq_true rfl) (by decide) (Nat.le_of_ble_eq_true rfl) ?_
  refine c_Pn_pages cR ?_
  obtain ⟨mT, mS, mP, mK, mX, mG, mR⟩ := id hM
  refine g_aload_n d_La_law_1185 rfl ?_
  refine g_aload_n d_La_law_1186 rfl ?_
  refine g_iload_n d_La_law_1187 rfl ?_
  refine N_iconst d_La_law_1188 1 rfl ?_
  refine N_iadd d_La_law_1189 ?_
  refine L_sald d_La_law_1190 (by omega) hL ?_
  refine g_aload_n d_La_law_1191 rfl ?_
  refine g_iload_n d_La_law_1192 rfl ?_
  refine N_iconst d_La_law_1193 2 rfl ?_
  refine N_iadd d_La_law_1194 ?_
  refine L_sald d_La_law_1195 (by omega) hL ?_
  refine C_V2 d_La_law_1196 k_La_154 rfl (Nat.le_of_ble_eq_true rfl) (by decide) (Nat.le_of_ble_eq_true rfl) ?_
  refine c_Md_pages mR ?_
  refine P_icmp_eq d_La_law_1199 1250 (by decide) (fun _ => ?_) (fun z => absurd rfl z)
  exact k dl mI dr hI GY.rf
theorem lw_count {X : CX} {dl : List (Nat × Nat)} {mI : Nat → Nat → Int32} {dr : Nat → Nat → Nat} {Q : Option Value → AH → Prop} {i : Nat} (hI : Inv dl dr mI) (hi : i + 5 < xL X) (hL : xL X ≤ 3072) (k : ∀ dl' mI' dr', Inv dl' dr' mI' → GY dl dl' → EW X m_law 1250 [.ref 1, .ref 32, .ref 139, .int (nI i)] [] (hp X dl' mI' dr') Q) : EW X m_law 1227 [.ref 1, .ref 32, .ref 139, .int (nI i)] [] (hp X dl mI dr) Q := by
  obtain ⟨T, N, kp, t, L, G, S, hWf, hC, hM⟩ := id hI
  obtain ⟨hw, hN, hk, hg⟩ := id hWf
  obtain ⟨hW, hy, hl⟩ := id hN
  obtain ⟨cT, cS, cP_, cK, cX, cG, cR⟩ := id hC
  have hw2 := hw.2.1
  have hlv : ∀ τ ∈ N.2, SV T τ := fun τ h => (hl τ h).1.v
  have hkv : ∀ u τ, u < 2 → kp u = some τ → SV T τ := fun u τ h1 h2 => (hk u τ h1 h2).1.v
  refine g_aload_n d_La_law_1227 rfl ?_
  refine g_aload_n d_La_law_1228 rfl ?_
  refine g_iload_n d_La_law_1229 rfl ?_
  refine N_iconst d_La_law_1230 1 rfl ?_
  refine N_iadd d_La_law_1231 ?_
  refine L_sald d_La_law_1232 (by omega) hL ?_
  refine C_V1 d_La_law_1233 k_La_159 rfl (Nat.le_of_ble_eq_true rfl) (by decide) (Nat.le_of_ble_eq_true rfl) ?_
  refine c_Pn_count (N := N) hw cT cS hW.v cP_ cX cG cR ?_
  obtain ⟨mT, mS, mP, mK, mX, mG, mR⟩ := id hM
  refine g_aload_n d_La_law_1236 rfl ?_
  refine g_aload_n d_La_law_1237 rfl ?_
  refine g_iload_n d_La_law_1238 rfl ?_
  refine N_iconst d_La_law_1239 1 rfl ?_
  refine N_iadd d_La_law_1240 ?_
  refine L_sald d_La_law_1241 (by omega) hL ?_
  refine C_V1 d_La_law_1242 k_La_162 rfl (Nat.le_of_ble_eq_true rfl) (by decide) (Nat.le_of_ble_eq_true rfl) ?_
  refine c_Md_count (N := N) hw mT mS hW mP mX mG mR ?_
  refine P_icmp_eq d_La_law_1245 1250 (by decide) (fun _ => ?_) (fun z => absurd rfl z)
  exact k dl mI dr hI GY.rf
theorem lw_behind {X : CX} {dl : List (Nat × Nat)} {mI : Nat → Nat → Int32} {dr : Nat → Nat → Nat} {Q : Option Value → AH → Prop} {i : Nat} (hI : Inv dl dr mI) (hi : i + 5 < xL X) (hL : xL X ≤ 3072) (k : ∀ dl' mI' dr', Inv dl' dr' mI' → GY dl dl' → EW X m_law 1250 [.ref 1, .ref 32, .ref 139, .int (nI i)] [] (hp X dl' mI' dr') Q) : EW X m_law 547 [.ref 1, .ref 32, .ref 139, .int (nI i)] [] (hp X dl mI dr) Q := by
  obtain ⟨T, N, kp, t, L, G, S, hWf, hC, hM⟩ := id hI
  obtain ⟨hw, hN, hk, hg⟩ := id hWf
  obtain ⟨hW, hy, hl⟩ := id hN
  obtain ⟨cT, cS, cP_, cK, cX, cG, cR⟩ := id hC
  have hw2 := hw.2.1
  have hlv : ∀ τ ∈ N.2, SV T τ := fun τ h => (hl τ h).1.v
  have hkv : ∀ u τ, u < 2 → kp u = some τ → SV T τ := fun u τ h1 h2 => (hk u τ h1 h2).1.v
  refine g_aload_n d_La_law_547 rfl ?_
  refine g_aload_n d_La_law_548 rfl ?_
  refine g_iload_n d_La_law_549 rfl ?_
  refine N_iconst d_La_law_550 1 rfl ?_
  refine N_iadd d_La_law_551 ?_
  refine L_sald d_La_law_552 (by omega) hL ?_
  refine g_aload_n d_La_law_553 rfl ?_
  refine g_iload_n d_La_law_554 rfl ?_
  refine N_iconst d_La_law_555 2 rfl ?_
  refine N_iadd d_La_law_556 ?_
  refine L_sald d_La_law_557 (by omega) hL ?_
  refine g_aload_n d_La_law_558 rfl ?_
  refine g_iload_n d_La_law_559 rfl ?_
  refine N_iconst d_La_law_560 3 rfl ?_
  refine N_iadd d_La_law_561 ?_
  refine L_sald d_La_law_562 (by omega) hL ?_
  refine C_V3 d_La_law_563 k_La_76 rfl (Nat.le_of_ble_eq_true rfl) (by decide) (Nat.le_of_ble_eq_true rfl) ?_
  refine c_Pn_behind hw cT cS hW.v (fun mI1 hF1 => ?_)
  have hC1 := hC.to (fun q hq => hF1 q (by omega))
  have hM1 := hM.to hWf (fun q z1 z2 => hF1 q (by omega))
  obtain ⟨mT, mS, mP, mK, mX, mG, mR⟩ := id hM1
  refine g_aload_n d_La_law_566 rfl ?_
  refine g_aload_n d_La_law_567 rfl ?_
  refine g_iload_n d_La_law_568 rfl ?_
  refine N_iconst d_La_law_569 1 rfl ?_
  refine N_iadd d_La_law_570 ?_
  refine L_sald d_La_law_571 (by omega) hL ?_
  refine g_aload_n d_La_law_572 rfl ?_
  refine g_iload_n d_La_law_573 rfl ?_
  refine N_iconst d_La_law_574 2 rfl ?_
  refine N_iadd d_La_law_575 ?_
  refine L_sald d_La_law_576 (by omega) hL ?_
  refine g_aload_n d_La_law_577 rfl ?_
  refine g_iload_n d_La_law_578 rfl ?_
  refine N_iconst d_La_law_579 3 rfl ?_
  refine N_iadd d_La_law_580 ?_
  refine L_sald d_La_law_581 (by omega) hL ?_
  refine C_V3 d_La_law_582 k_La_80 rfl (Nat.le_of_ble_eq_true rfl) (by decide) (Nat.le_of_ble_eq_true rfl) ?_
  refine c_Md_behind hw mT mS hW (fun mI2 hF2 => ?_)
  have hM2 : IM T N kp t L G S mI2 := ⟨mT.q hF2, mS.q hw hW.v hF2, mP.to hw hlv (congrFun (hF2.1 139 (by omega) (by omega)) 1) (fun j z1 => hF2.2 j (by omega)), mK.to hw hkv (hF2.1 141 (by omega) (by omega)) (fun j z1 z2 => hF2.2 j (by omega)), mX.to (congrFun (hF2.1 139 (by omega) (by omega)) 14) (hF2.1 150 (by omega) (by omega)), mG.to (congrFun (hF2.1 139 (by omega) (by omega)) 36) (fun r z1 z2 => (hF2.1 r (by omega) (by omega))), mR.to (fun r z1 z2 => (hF2.1 r (by omega) (by omega)))⟩
  have hC2 := hC1.to (fun q hq => hF2.1 q (by omega) (by omega))
  refine P_icmp_eq d_La_law_585 1250 (by decide) (fun _ => ?_) (fun z => absurd rfl z)
  exact k dl mI2 dr ⟨T, N, kp, t, L, G, S, hWf, hC2, hM2⟩ GY.rf
theorem lw_keeps {X : CX} {dl : List (Nat × Nat)} {mI : Nat → Nat → Int32} {dr : Nat → Nat → Nat} {Q : Option Value → AH → Prop} {i : Nat} (hI : Inv dl dr mI) (hi : i + 5 < xL X) (hL : xL X ≤ 3072) (k : ∀ dl' mI' dr', Inv dl' dr' mI' → GY dl dl' → EW X m_law 1250 [.ref 1, .ref 32, .ref 139, .int (nI i)] [] (hp X dl' mI' dr') Q) : EW X m_law 590 [.ref 1, .ref 32, .ref 139, .int (nI i)] [] (hp X dl mI dr) Q := by
  obtain ⟨T, N, kp, t, L, G, S, hWf, hC, hM⟩ := id hI
  obtain ⟨hw, hN, hk, hg⟩ := id hWf
  obtain ⟨hW, hy, hl⟩ := id hN
  obtain ⟨cT, cS, cP_, cK, cX, cG, cR⟩ := id hC
  have hw2 := hw.2.1
  have hlv : ∀ τ ∈ N.2, SV T τ := fun τ h => (hl τ h).1.v
  have hkv : ∀ u τ, u < 2 → kp u = some τ → SV T τ := fun u τ h1 h2 => (hk u τ h1 h2).1.v
  refine g_aload_n d_La_law_590 rfl ?_
  refine g_aload_n d_La_law_591 rfl ?_
  refine g_iload_n d_La_law_592 rfl ?_
  refine N_iconst d_La_law_593 1 rfl ?_
  refine N_iadd d_La_law_594 ?_
  refine L_sald d_La_law_595 (by omega) hL ?_
  refine C_V1 d_La_law_596 k_La_81 rfl (Nat.le_of_ble_eq_true rfl) (by decide) (Nat.le_of_ble_eq_true rfl) ?_
  refine c_Pn_keeps hw cT cS hW.v (fun mI1 hF1 => ?_)
  have hC1 := hC.to (fun q hq => hF1 q (by omega))
  have hM1 := hM.to hWf (fun q z1 z2 => hF1 q (by omega))
  obtain ⟨mT, mS, mP, mK, mX, mG, mR⟩ := id hM1
  refine g_aload_n d_La_law_599 rfl ?_
  refine g_aload_n d_La_law_600 rfl ?_
  refine g_iload_n d_La_law_601 rfl ?_
  refine N_iconst d_La_law_602 1 rfl ?_
  refine N_iadd d_La_law_603 ?_
  refine L_sald d_La_law_604 (by omega) hL ?_
  refine C_V1 d_La_law_605 k_La_84 rfl (Nat.le_of_ble_eq_true rfl) (by decide) (Nat.le_of_ble_eq_true rfl) ?_
  refine c_Md_keeps hw mT mS hW (fun mI2 hF2 => ?_)
  have hM2 : IM T N kp t L G S mI2 := ⟨mT.q hF2, mS.q hw hW.v hF2, mP.to hw hlv (congrFun (hF2.1 139 (by omega) (by omega)) 1) (fun j z1 => hF2.2 j (by omega)), mK.to hw hkv (hF2.1 141 (by omega) (by omega)) (fun j z1 z2 => hF2.2 j (by omega)), mX.to (congrFun (hF2.1 139 (by omega) (by omega)) 14) (hF2.1 150 (by omega) (by omega)), mG.to (congrFun (hF2.1 139 (by omega) (by omega)) 36) (fun r z1 z2 => (hF2.1 r (by omega) (by omega))), mR.to (fun r z1 z2 => (hF2.1 r (by omega) (by omega)))⟩
  have hC2 := hC1.to (fun q hq => hF2.1 q (by omega) (by omega))
  refine P_icmp_eq d_La_law_608 1250 (by decide) (fun _ => ?_) (fun z => absurd rfl z)
  exact k dl mI2 dr ⟨T, N, kp, t, L, G, S, hWf, hC2, hM2⟩ GY.rf
theorem lw_just {X : CX} {dl : List (Nat × Nat)} {mI : Nat → Nat → Int32} {dr : Nat → Nat → Nat} {Q : Option Value → AH → Prop} {i : Nat} (hI : Inv dl dr mI) (hi : i + 5 < xL X) (hL : xL X ≤ 3072) (k : ∀ dl' mI' dr', Inv dl' dr' mI' → GY dl dl' → EW X m_law 1250 [.ref 1, .ref 32, .ref 139, .int (nI i)] [] (hp X dl' mI' dr') Q) : EW X m_law 613 [.ref 1, .ref 32, .ref 139, .int (nI i)] [] (hp X dl mI dr) Q := by
  obtain ⟨T, N, kp, t, L, G, S, hWf, hC, hM⟩ := id hI
  obtain ⟨hw, hN, hk, hg⟩ := id hWf
  obtain ⟨hW, hy, hl⟩ := id hN
  obtain ⟨cT, cS, cP_, cK, cX, cG, cR⟩ := id hC
  have hw2 := hw.2.1
  have hlv : ∀ τ ∈ N.2, SV T τ := fun τ h => (hl τ h).1.v
  have hkv : ∀ u τ, u < 2 → kp u = some τ → SV T τ := fun u τ h1 h2 => (hk u τ h1 h2).1.v
  refine g_aload_n d_La_law_613 rfl ?_
  refine g_aload_n d_La_law_614 rfl ?_
  refine g_iload_n d_La_law_615 rfl ?_
  refine N_iconst d_La_law_616 1 rfl ?_
  refine N_iadd d_La_law_617 ?_
  refine L_sald d_La_law_618 (by omega) hL ?_
  refine C_V1 d_La_law_619 k_La_85 rfl (Nat.le_of_ble_eq_true rfl) (by decide) (Nat.le_of_ble_eq_true rfl) ?_
  refine c_Pn_just hw cT cS hW.v (fun mI1 hF1 => ?_)
  have hC1 := hC.to (fun q hq => hF1 q (by omega))
  have hM1 := hM.to hWf (fun q z1 z2 => hF1 q (by omega))
  obtain ⟨mT, mS, mP, mK, mX, mG, mR⟩ := id hM1
  refine g_aload_n d_La_law_622 rfl ?_
  refine g_aload_n d_La_law_623 rfl ?_
  refine g_iload_n d_La_law_624 rfl ?_
  refine N_iconst d_La_law_625 1 rfl ?_
  refine N_iadd d_La_law_626 ?_
  refine L_sald d_La_law_627 (by omega) hL ?_
  refine C_V1 d_La_law_628 k_La_88 rfl (Nat.le_of_ble_eq_true rfl) (by decide) (Nat.le_of_ble_eq_true rfl) ?_
  refine c_Md_just hw mT mS hW (fun mI2 hF2 => ?_)
  have hM2 : IM T N kp t L G S mI2 := ⟨mT.q hF2, mS.q hw hW.v hF2, mP.to hw hlv (congrFun (hF2.1 139 (by omega) (by omega)) 1) (fun j z1 => hF2.2 j (by omega)), mK.to hw hkv (hF2.1 141 (by omega) (by omega)) (fun j z1 z2 => hF2.2 j (by omega)), mX.to (congrFun (hF2.1 139 (by omega) (by omega)) 14) (hF2.1 150 (by omega) (by omega)), mG.to (congrFun (hF2.1 139 (by omega) (by omega)) 36) (fun r z1 z2 => (hF2.1 r (by omega) (by omega))), mR.to (fun r z1 z2 => (hF2.1 r (by omega) (by omega)))⟩
  have hC2 := hC1.to (fun q hq => hF2.1 q (by omega) (by omega))
  refine P_icmp_eq d_La_law_631 1250 (by decide) (fun _ => ?_) (fun z => absurd rfl z)
  exact k dl mI2 dr ⟨T, N, kp, t, L, G, S, hWf, hC2, hM2⟩ GY.rf
theorem lw_order {X : CX} {dl : List (Nat × Nat)} {mI : Nat → Nat → Int32} {dr : Nat → Nat → Nat} {Q : Option Value → AH → Prop} {i : Nat} (hI : Inv dl dr mI) (hi : i + 5 < xL X) (hL : xL X ≤ 3072) (k : ∀ dl' mI' dr', Inv dl' dr' mI' → GY dl dl' → EW X m_law 1250 [.ref 1, .ref 32, .ref 139, .int (nI i)] [] (hp X dl' mI' dr') Q) : EW X m_law 649 [.ref 1, .ref 32, .ref 139, .int (nI i)] [] (hp X dl mI dr) Q := by
  obtain ⟨T, N, kp, t, L, G, S, hWf, hC, hM⟩ := id hI
  obtain ⟨hw, hN, hk, hg⟩ := id hWf
  obtain ⟨hW, hy, hl⟩ := id hN
  obtain ⟨cT, cS, cP_, cK, cX, cG, cR⟩ := id hC
  have hw2 := hw.2.1
  have hlv : ∀ τ ∈ N.2, SV T τ := fun τ h => (hl τ h).1.v
  have hkv : ∀ u τ, u < 2 → kp u = some τ → SV T τ := fun u τ h1 h2 => (hk u τ h1 h2).1.v
  refine g_aload_n d_La_law_649 rfl ?_
  refine g_aload_n d_La_law_650 rfl ?_
  refine g_iload_n d_La_law_651 rfl ?_
  refine N_iconst d_La_law_652 1 rfl ?_
  refine N_iadd d_La_law_653 ?_
  refine L_sald d_La_law_654 (by omega) hL ?_
  refine g_aload_n d_La_law_655 rfl ?_
  refine g_iload_n d_La_law_656 rfl ?_
  refine N_iconst d_La_law_657 2 rfl ?_
  refine N_iadd d_La_law_658 ?_
  refine L_sald d_La_law_659 (by omega) hL ?_
  refine g_aload_n d_La_law_660 rfl ?_
  refine g_iload_n d_La_law_661 rfl ?_
  refine N_iconst d_La_law_662 3 rfl ?_
  refine N_iadd d_La_law_663 ?_
  refine L_sald d_La_law_664 (by omega) hL ?_
  refine C_V3 d_La_law_665 k_La_93 rfl (Nat.le_of_ble_eq_true rfl) (by decide) (Nat.le_of_ble_eq_true rfl) ?_
  refine c_Pn_order hw cT cS hW.v (fun mI1 hF1 => ?_)
  have hC1 := hC.to (fun q hq => hF1 q (by omega))
  have hM1 := hM.to hWf (fun q z1 z2 => hF1 q (by omega))
  obtain ⟨mT, mS, mP, mK, mX, mG, mR⟩ := id hM1
  refine g_aload_n d_La_law_668 rfl ?_
  refine g_aload_n d_La_law_669 rfl ?_
  refine g_iload_n d_La_law_670 rfl ?_
  refine N_iconst d_La_law_671 1 rfl ?_
  refine N_iadd d_La_law_672 ?_
  refine L_sald d_La_law_673 (by omega) hL ?_
  refine g_aload_n d_La_law_674 rfl ?_
  refine g_iload_n d_La_law_675 rfl ?_
  refine N_iconst d_La_law_676 2 rfl ?_
  refine N_iadd d_La_law_677 ?_
  refine L_sald d_La_law_678 (by omega) hL ?_
  refine g_aload_n d_La_law_679 rfl ?_
  refine g_iload_n d_La_law_680 rfl ?_
  refine N_iconst d_La_law_681 3 rfl ?_
  refine N_iadd d_La_law_682 ?_
  refine L_sald d_La_law_683 (by omega) hL ?_
  refine C_V3 d_La_law_684 k_La_96 rfl (Nat.le_of_ble_eq_true rfl) (by decide) (Nat.le_of_ble_eq_true rfl) ?_
  refine c_Md_order hw mT mS hW (fun mI2 hF2 => ?_)
  have hM2 : IM T N kp t L G S mI2 := ⟨mT.q hF2, mS.q hw hW.v hF2, mP.to hw hlv (congrFun (hF2.1 139 (by omega) (by omega)) 1) (fun j z1 => hF2.2 j (by omega)), mK.to hw hkv (hF2.1 141 (by omega) (by omega)) (fun j z1 z2 => hF2.2 j (by omega)), mX.to (congrFun (hF2.1 139 (by omega) (by omega)) 14) (hF2.1 150 (by omega) (by omega)), mG.to (congrFun (hF2.1 139 (by omega) (by omega)) 36) (fun r z1 z2 => (hF2.1 r (by omega) (by omega))), mR.to (fun r z1 z2 => (hF2.1 r (by omega) (by omega)))⟩
  have hC2 := hC1.to (fun q hq => hF2.1 q (by omega) (by omega))
  refine P_icmp_eq d_La_law_687 1250 (by decide) (fun _ => ?_) (fun z => absurd rfl z)
  exact k dl mI2 dr ⟨T, N, kp, t, L, G, S, hWf, hC2, hM2⟩ GY.rf
theorem lw_godfathers {X : CX} {dl : List (Nat × Nat)} {mI : Nat → Nat → Int32} {dr : Nat → Nat → Nat} {Q : Option Value → AH → Prop} {i : Nat} (hI : Inv dl dr mI) (hi : i + 5 < xL X) (hL : xL X ≤ 3072) (k : ∀ dl' mI' dr', Inv dl' dr' mI' → GY dl dl' → EW X m_law 1250 [.ref 1, .ref 32, .ref 139, .int (nI i)] [] (hp X dl' mI' dr') Q) : EW X m_law 692 [.ref 1, .ref 32, .ref 139, .int (nI i)] [] (hp X dl mI dr) Q := by
  obtain ⟨T, N, kp, t, L, G, S, hWf, hC, hM⟩ := id hI
  obtain ⟨hw, hN, hk, hg⟩ := id hWf
  obtain ⟨hW, hy, hl⟩ := id hN
  obtain ⟨cT, cS, cP_, cK, cX, cG, cR⟩ := id hC
  have hw2 := hw.2.1
  have hlv : ∀ τ ∈ N.2, SV T τ := fun τ h => (hl τ h).1.v
  have hkv : ∀ u τ, u < 2 → kp u = some τ → SV T τ := fun u τ h1 h2 => (hk u τ h1 h2).1.v
  refine g_aload_n d_La_law_692 rfl ?_
  refine g_aload_n d_La_law_693 rfl ?_
  refine g_iload_n d_La_law_694 rfl ?_
  refine N_iconst d_La_law_695 1 rfl ?_
  refine N_iadd d_La_law_696 ?_
  refine L_sald d_La_law_697 (by omega) hL ?_
  refine g_aload_n d_La_law_698 rfl ?_
  refine g_iload_n d_La_law_699 rfl ?_
  refine N_iconst d_La_law_700 2 rfl ?_
  refine N_iadd d_La_law_701 ?_
  refine L_sald d_La_law_702 (by omega) hL ?_
  refine C_V2 d_La_law_703 k_La_97 rfl (Nat.le_of_ble_eq_true rfl) (by decide) (Nat.le_of_ble_eq_true rfl) ?_
  refine c_Pn_godfathers hw cT cS hW.v (fun mI1 hF1 => ?_)
  have hC1 := hC.to (fun q hq => hF1 q (by omega))
  have hM1 := hM.to hWf (fun q z1 z2 => hF1 q (by omega))
  obtain ⟨mT, mS, mP, mK, mX, mG, mR⟩ := id hM1
  refine g_aload_n d_La_law_706 rfl ?_
  refine g_aload_n d_La_law_707 rfl ?_
  refine g_iload_n d_La_law_708 rfl ?_
  refine N_iconst d_La_law_709 1 rfl ?_
  refine N_iadd d_La_law_710 ?_
  refine L_sald d_La_law_711 (by omega) hL ?_
  refine g_aload_n d_La_law_712 rfl ?_
  refine g_iload_n d_La_law_713 rfl ?_
  refine N_iconst d_La_law_714 2 rfl ?_
  refine N_iadd d_La_law_715 ?_
  refine L_sald d_La_law_716 (by omega) hL ?_
  refine C_V2 d_La_law_717 k_La_100 rfl (Nat.le_of_ble_eq_true rfl) (by decide) (Nat.le_of_ble_eq_true rfl) ?_
  refine c_Md_godfathers hw mT mS hW (fun mI2 hF2 => ?_)
  have hM2 : IM T N kp t L G S mI2 := ⟨mT.q hF2, mS.q hw hW.v hF2, mP.to hw hlv (congrFun (hF2.1 139 (by omega) (by omega)) 1) (fun j z1 => hF2.2 j (by omega)), mK.to hw hkv (hF2.1 141 (by omega) (by omega)) (fun j z1 z2 => hF2.2 j (by omega)), mX.to (congrFun (hF2.1 139 (by omega) (by omega)) 14) (hF2.1 150 (by omega) (by omega)), mG.to (congrFun (hF2.1 139 (by omega) (by omega)) 36) (fun r z1 z2 => (hF2.1 r (by omega) (by omega))), mR.to (fun r z1 z2 => (hF2.1 r (by omega) (by omega)))⟩
  have hC2 := hC1.to (fun q hq => hF2.1 q (by omega) (by omega))
  refine P_icmp_eq d_La_law_720 1250 (by decide) (fun _ => ?_) (fun z => absurd rfl z)
  exact k dl mI2 dr ⟨T, N, kp, t, L, G, S, hWf, hC2, hM2⟩ GY.rf
theorem lw_year {X : CX} {dl : List (Nat × Nat)} {mI : Nat → Nat → Int32} {dr : Nat → Nat → Nat} {Q : Option Value → AH → Prop} {i : Nat} (hI : Inv dl dr mI) (hi : i + 5 < xL X) (hL : xL X ≤ 3072) (k : ∀ dl' mI' dr', Inv dl' dr' mI' → GY dl dl' → EW X m_law 1250 [.ref 1, .ref 32, .ref 139, .int (nI i)] [] (hp X dl' mI' dr') Q) : EW X m_law 386 [.ref 1, .ref 32, .ref 139, .int (nI i)] [] (hp X dl mI dr) Q := by
  obtain ⟨T, N, kp, t, L, G, S, hWf, hC, hM⟩ := id hI
  obtain ⟨hw, hN, hk, hg⟩ := id hWf
  obtain ⟨hW, hy, hl⟩ := id hN
  obtain ⟨cT, cS, cP_, cK, cX, cG, cR⟩ := id hC
  have hw2 := hw.2.1
  have hlv : ∀ τ ∈ N.2, SV T τ := fun τ h => (hl τ h).1.v
  have hkv : ∀ u τ, u < 2 → kp u = some τ → SV T τ := fun u τ h1 h2 => (hk u τ h1 h2).1.v
  refine g_aload_n d_La_law_386 rfl ?_
  refine g_aload_n d_La_law_387 rfl ?_
  refine g_iload_n d_La_law_388 rfl ?_
  refine N_iconst d_La_law_389 1 rfl ?_
  refine N_iadd d_La_law_390 ?_
  refine L_sald d_La_law_391 (by omega) hL ?_
  refine C_V1 d_La_law_392 k_La_48 rfl (Nat.le_of_ble_eq_true rfl) (by decide) (Nat.le_of_ble_eq_true rfl) ?_
  refine c_Pn_year (N := N) hw cT cS hW.v cP_ hy (fun mI1 s1 p1 hF1 => ?_)
  have hC1 : IC T (sYr T N (xS X (i + 1))).1 kp t L G S dl dr mI1 := ⟨cT.to (fun r z1 z2 => (hF1 r (by omega))), s1, p1, cK.to (fun r z => (hF1 r (by omega))), cX.fx (congrFun (hF1 51 (by omega)) 1) (hF1 52 (by omega)), cG.to (fun r z1 z2 => (hF1 r (by omega))), cR.to (fun r z => (hF1 r (by omega)))⟩
  have hM1 := hM.to hWf (fun q z1 z2 => hF1 q (by omega))
  obtain ⟨mT, mS, mP, mK, mX, mG, mR⟩ := id hM1
  refine g_aload_n d_La_law_395 rfl ?_
  refine g_aload_n d_La_law_396 rfl ?_
  refine g_iload_n d_La_law_397 rfl ?_
  refine N_iconst d_La_law_398 1 rfl ?_
  refine N_iadd d_La_law_399 ?_
  refine L_sald d_La_law_400 (by omega) hL ?_
  refine C_V1 d_La_law_401 k_La_51 rfl (Nat.le_of_ble_eq_true rfl) (by decide) (Nat.le_of_ble_eq_true rfl) ?_
  refine c_Md_year (N := N) hw mT mS hW mP hlv hy (fun mI2 s2 p2 hF2 => ?_)
  have hM2 : IM T (sYr T N (xS X (i + 1))).1 kp t L G S mI2 := ⟨mT.n hF2, s2, p2, mK.to hw hkv (hF2.1 141 (by omega) (by omega) (by omega)) (fun j z1 z2 => hF2.2.2 j z1 z2), mX.to (hF2.2.1 14 (by omega)) (hF2.1 150 (by omega) (by omega) (by omega)), mG.to (hF2.2.1 36 (by omega)) (fun r z1 z2 => (hF2.1 r (by omega) (by omega) (by omega))), mR.to (fun r z1 z2 => (hF2.1 r (by omega) (by omega) (by omega)))⟩
  have hC2 := hC1.to (fun q hq => hF2.1 q (by omega) (by omega) (by omega))
  refine P_icmp_eq d_La_law_404 1250 (by decide) (fun _ => ?_) (fun z => absurd rfl z)
  exact k dl mI2 dr ⟨T, (sYr T N (xS X (i + 1))).1, kp, t, L, G, S, ⟨hw, NWf_yr hw hN _, hk, hg⟩, hC2, hM2⟩ GY.rf
theorem lw_give {X : CX} {dl : List (Nat × Nat)} {mI : Nat → Nat → Int32} {dr : Nat → Nat → Nat} {Q : Option Value → AH → Prop} {i : Nat} (hI : Inv dl dr mI) (hi : i + 5 < xL X) (hL : xL X ≤ 3072) (k : ∀ dl' mI' dr', Inv dl' dr' mI' → GY dl dl' → EW X m_law 1250 [.ref 1, .ref 32, .ref 139, .int (nI i)] [] (hp X dl' mI' dr') Q) : EW X m_law 409 [.ref 1, .ref 32, .ref 139, .int (nI i)] [] (hp X dl mI dr) Q := by
  obtain ⟨T, N, kp, t, L, G, S, hWf, hC, hM⟩ := id hI
  obtain ⟨hw, hN, hk, hg⟩ := id hWf
  obtain ⟨hW, hy, hl⟩ := id hN
  obtain ⟨cT, cS, cP_, cK, cX, cG, cR⟩ := id hC
  have hw2 := hw.2.1
  have hlv : ∀ τ ∈ N.2, SV T τ := fun τ h => (hl τ h).1.v
  have hkv : ∀ u τ, u < 2 → kp u = some τ → SV T τ := fun u τ h1 h2 => (hk u τ h1 h2).1.v
  refine g_aload_n d_La_law_409 rfl ?_
  refine g_aload_n d_La_law_410 rfl ?_
  refine g_iload_n d_La_law_411 rfl ?_
  refine N_iconst d_La_law_412 1 rfl ?_
  refine N_iadd d_La_law_413 ?_
  refine L_sald d_La_law_414 (by omega) hL ?_
  refine g_aload_n d_La_law_415 rfl ?_
  refine g_iload_n d_La_law_416 rfl ?_
  refine N_iconst d_La_law_417 2 rfl ?_
  refine N_iadd d_La_law_418 ?_
  refine L_sald d_La_law_419 (by omega) hL ?_
  refine C_V2 d_La_law_420 k_La_52 rfl (Nat.le_of_ble_eq_true rfl) (by decide) (Nat.le_of_ble_eq_true rfl) ?_
  refine c_Pn_give (N := N) hw cT cS hW.v cP_ (fun mI1 s1 p1 hF1 => ?_)
  have hC1 : IC T (sGi T N (xS X (i + 1)) (xS X (i + 2))).1 kp t L G S dl dr mI1 := ⟨cT.to (fun r z1 z2 => (hF1 r (by omega))), s1, p1, cK.to (fun r z => (hF1 r (by omega))), cX.fx (congrFun (hF1 51 (by omega)) 1) (hF1 52 (by omega)), cG.to (fun r z1 z2 => (hF1 r (by omega))), cR.to (fun r z => (hF1 r (by omega)))⟩
  have hM1 := hM.to hWf (fun q z1 z2 => hF1 q (by omega))
  obtain ⟨mT, mS, mP, mK, mX, mG, mR⟩ := id hM1
  refine g_aload_n d_La_law_423 rfl ?_
  refine g_aload_n d_La_law_424 rfl ?_
  refine g_iload_n d_La_law_425 rfl ?_
  refine N_iconst d_La_law_426 1 rfl ?_
  refine N_iadd d_La_law_427 ?_
  refine L_sald d_La_law_428 (by omega) hL ?_
  refine g_aload_n d_La_law_429 rfl ?_
  refine g_iload_n d_La_law_430 rfl ?_
  refine N_iconst d_La_law_431 2 rfl ?_
  refine N_iadd d_La_law_432 ?_
  refine L_sald d_La_law_433 (by omega) hL ?_
  refine C_V2 d_La_law_434 k_La_55 rfl (Nat.le_of_ble_eq_true rfl) (by decide) (Nat.le_of_ble_eq_true rfl) ?_
  refine c_Md_give (N := N) hw mT mS hW mP hlv (fun mI2 s2 p2 hF2 => ?_)
  have hM2 : IM T (sGi T N (xS X (i + 1)) (xS X (i + 2))).1 kp t L G S mI2 := ⟨mT.n hF2, s2, p2, mK.to hw hkv (hF2.1 141 (by omega) (by omega) (by omega)) (fun j z1 z2 => hF2.2.2 j z1 z2), mX.to (hF2.2.1 14 (by omega)) (hF2.1 150 (by omega) (by omega) (by omega)), mG.to (hF2.2.1 36 (by omega)) (fun r z1 z2 => (hF2.1 r (by omega) (by omega) (by omega))), mR.to (fun r z1 z2 => (hF2.1 r (by omega) (by omega) (by omega)))⟩
  have hC2 := hC1.to (fun q hq => hF2.1 q (by omega) (by omega) (by omega))
  refine P_icmp_eq d_La_law_437 1250 (by decide) (fun _ => ?_) (fun z => absurd rfl z)
  exact k dl mI2 dr ⟨T, (sGi T N (xS X (i + 1)) (xS X (i + 2))).1, kp, t, L, G, S, ⟨hw, NWf_gi hw hN _ _, hk, hg⟩, hC2, hM2⟩ GY.rf
theorem lw_shorten {X : CX} {dl : List (Nat × Nat)} {mI : Nat → Nat → Int32} {dr : Nat → Nat → Nat} {Q : Option Value → AH → Prop} {i : Nat} (hI : Inv dl dr mI) (hi : i + 5 < xL X) (hL : xL X ≤ 3072) (k : ∀ dl' mI' dr', Inv dl' dr' mI' → GY dl dl' → EW X m_law 1250 [.ref 1, .ref 32, .ref 139, .int (nI i)] [] (hp X dl' mI' dr') Q) : EW X m_law 442 [.ref 1, .ref 32, .ref 139, .int (nI i)] [] (hp X dl mI dr) Q := by
  obtain ⟨T, N, kp, t, L, G, S, hWf, hC, hM⟩ := id hI
  obtain ⟨hw, hN, hk, hg⟩ := id hWf
  obtain ⟨hW, hy, hl⟩ := id hN
  obtain ⟨cT, cS, cP_, cK, cX, cG, cR⟩ := id hC
  have hw2 := hw.2.1
  have hlv : ∀ τ ∈ N.2, SV T τ := fun τ h => (hl τ h).1.v
  have hkv : ∀ u τ, u < 2 → kp u = some τ → SV T τ := fun u τ h1 h2 => (hk u τ h1 h2).1.v
  refine g_aload_n d_La_law_442 rfl ?_
  refine g_aload_n d_La_law_443 rfl ?_
  refine g_iload_n d_La_law_444 rfl ?_
  refine N_iconst d_La_law_445 1 rfl ?_
  refine N_iadd d_La_law_446 ?_
  refine L_sald d_La_law_447 (by omega) hL ?_
  refine C_V1 d_La_law_448 k_La_56 rfl (Nat.le_of_ble_eq_true rfl) (by decide) (Nat.le_of_ble_eq_true rfl) ?_
  refine c_Pn_shorten (N := N) hw cT cS hW.v cP_ (fun mI1 s1 p1 hF1 => ?_)
  have hC1 : IC T (sSh T N (xS X (i + 1))).1 kp t L G S dl dr mI1 := ⟨cT.to (fun r z1 z2 => (hF1 r (by omega))), s1, p1, cK.to (fun r z => (hF1 r (by omega))), cX.fx (congrFun (hF1 51 (by omega)) 1) (hF1 52 (by omega)), cG.to (fun r z1 z2 => (hF1 r (by omega))), cR.to (fun r z => (hF1 r (by omega)))⟩
  have hM1 := hM.to hWf (fun q z1 z2 => hF1 q (by omega))
  obtain ⟨mT, mS, mP, mK, mX, mG, mR⟩ := id hM1
  refine g_aload_n d_La_law_451 rfl ?_
  refine g_aload_n d_La_law_452 rfl ?_
  refine g_iload_n d_La_law_453 rfl ?_
  refine N_iconst d_La_law_454 1 rfl ?_
  refine N_iadd d_La_law_455 ?_
  refine L_sald d_La_law_456 (by omega) hL ?_
  refine C_V1 d_La_law_457 k_La_59 rfl (Nat.le_of_ble_eq_true rfl) (by decide) (Nat.le_of_ble_eq_true rfl) ?_
  refine c_Md_shorten (N := N) hw mT mS hW mP hlv (fun mI2 s2 p2 hF2 => ?_)
  have hM2 : IM T (sSh T N (xS X (i + 1))).1 kp t L G S mI2 := ⟨mT.n hF2, s2, p2, mK.to hw hkv (hF2.1 141 (by omega) (by omega) (by omega)) (fun j z1 z2 => hF2.2.2 j z1 z2), mX.to (hF2.2.1 14 (by omega)) (hF2.1 150 (by omega) (by omega) (by omega)), mG.to (hF2.2.1 36 (by omega)) (fun r z1 z2 => (hF2.1 r (by omega) (by omega) (by omega))), mR.to (fun r z1 z2 => (hF2.1 r (by omega) (by omega) (by omega)))⟩
  have hC2 := hC1.to (fun q hq => hF2.1 q (by omega) (by omega) (by omega))
  refine P_icmp_eq d_La_law_460 1250 (by decide) (fun _ => ?_) (fun z => absurd rfl z)
  exact k dl mI2 dr ⟨T, (sSh T N (xS X (i + 1))).1, kp, t, L, G, S, ⟨hw, NWf_sh hw hN _, hk, hg⟩, hC2, hM2⟩ GY.rf
theorem lw_ahead {X : CX} {dl : List (Nat × Nat)} {mI : Nat → Nat → Int32} {dr : Nat → Nat → Nat} {Q : Option Value → AH → Prop} {i : Nat} (hI : Inv dl dr mI) (hi : i + 5 < xL X) (hL : xL X ≤ 3072) (k : ∀ dl' mI' dr', Inv dl' dr' mI' → GY dl dl' → EW X m_law 1250 [.ref 1, .ref 32, .ref 139, .int (nI i)] [] (hp X dl' mI' dr') Q) : EW X m_law 465 [.ref 1, .ref 32, .ref 139, .int (nI i)] [] (hp X dl mI dr) Q := by
  obtain ⟨T, N, kp, t, L, G, S, hWf, hC, hM⟩ := id hI
  obtain ⟨hw, hN, hk, hg⟩ := id hWf
  obtain ⟨hW, hy, hl⟩ := id hN
  obtain ⟨cT, cS, cP_, cK, cX, cG, cR⟩ := id hC
  have hw2 := hw.2.1
  have hlv : ∀ τ ∈ N.2, SV T τ := fun τ h => (hl τ h).1.v
  have hkv : ∀ u τ, u < 2 → kp u = some τ → SV T τ := fun u τ h1 h2 => (hk u τ h1 h2).1.v
  refine g_aload_n d_La_law_465 rfl ?_
  refine g_aload_n d_La_law_466 rfl ?_
  refine g_iload_n d_La_law_467 rfl ?_
  refine N_iconst d_La_law_468 1 rfl ?_
  refine N_iadd d_La_law_469 ?_
  refine L_sald d_La_law_470 (by omega) hL ?_
  refine C_V1 d_La_law_471 k_La_60 rfl (Nat.le_of_ble_eq_true rfl) (by decide) (Nat.le_of_ble_eq_true rfl) ?_
  refine c_Pn_ahead (N := N) hw cT cS hW.v cP_ (fun mI1 s1 p1 hF1 => ?_)
  have hC1 : IC T (sAh T N (xS X (i + 1))).1 kp t L G S dl dr mI1 := ⟨cT.to (fun r z1 z2 => (hF1 r (by omega))), s1, p1, cK.to (fun r z => (hF1 r (by omega))), cX.fx (congrFun (hF1 51 (by omega)) 1) (hF1 52 (by omega)), cG.to (fun r z1 z2 => (hF1 r (by omega))), cR.to (fun r z => (hF1 r (by omega)))⟩
  have hM1 := hM.to hWf (fun q z1 z2 => hF1 q (by omega))
  obtain ⟨mT, mS, mP, mK, mX, mG, mR⟩ := id hM1
  refine g_aload_n d_La_law_474 rfl ?_
  refine g_aload_n d_La_law_475 rfl ?_
  refine g_iload_n d_La_law_476 rfl ?_
  refine N_iconst d_La_law_477 1 rfl ?_
  refine N_iadd d_La_law_478 ?_
  refine L_sald d_La_law_479 (by omega) hL ?_
  refine C_V1 d_La_law_480 k_La_63 rfl (Nat.le_of_ble_eq_true rfl) (by decide) (Nat.le_of_ble_eq_true rfl) ?_
  refine c_Md_ahead (N := N) hw mT mS hW mP hlv (fun mI2 s2 p2 hF2 => ?_)
  have hM2 : IM T (sAh T N (xS X (i + 1))).1 kp t L G S mI2 := ⟨mT.n hF2, s2, p2, mK.to hw hkv (hF2.1 141 (by omega) (by omega) (by omega)) (fun j z1 z2 => hF2.2.2 j z1 z2), mX.to (hF2.2.1 14 (by omega)) (hF2.1 150 (by omega) (by omega) (by omega)), mG.to (hF2.2.1 36 (by omega)) (fun r z1 z2 => (hF2.1 r (by omega) (by omega) (by omega))), mR.to (fun r z1 z2 => (hF2.1 r (by omega) (by omega) (by omega)))⟩
  have hC2 := hC1.to (fun q hq => hF2.1 q (by omega) (by omega) (by omega))
  refine P_icmp_eq d_La_law_483 1250 (by decide) (fun _ => ?_) (fun z => absurd rfl z)
  exact k dl mI2 dr ⟨T, (sAh T N (xS X (i + 1))).1, kp, t, L, G, S, ⟨hw, NWf_ah hw hN _, hk, hg⟩, hC2, hM2⟩ GY.rf
theorem lw_undo {X : CX} {dl : List (Nat × Nat)} {mI : Nat → Nat → Int32} {dr : Nat → Nat → Nat} {Q : Option Value → AH → Prop} {i : Nat} (hI : Inv dl dr mI) (hi : i + 5 < xL X) (hL : xL X ≤ 3072) (k : ∀ dl' mI' dr', Inv dl' dr' mI' → GY dl dl' → EW X m_law 1250 [.ref 1, .ref 32, .ref 139, .int (nI i)] [] (hp X dl' mI' dr') Q) : EW X m_law 488 [.ref 1, .ref 32, .ref 139, .int (nI i)] [] (hp X dl mI dr) Q := by
  obtain ⟨T, N, kp, t, L, G, S, hWf, hC, hM⟩ := id hI
  obtain ⟨hw, hN, hk, hg⟩ := id hWf
  obtain ⟨hW, hy, hl⟩ := id hN
  obtain ⟨cT, cS, cP_, cK, cX, cG, cR⟩ := id hC
  have hw2 := hw.2.1
  have hlv : ∀ τ ∈ N.2, SV T τ := fun τ h => (hl τ h).1.v
  have hkv : ∀ u τ, u < 2 → kp u = some τ → SV T τ := fun u τ h1 h2 => (hk u τ h1 h2).1.v
  refine g_aload_n d_La_law_488 rfl ?_
  refine C_V0 d_La_law_489 k_La_64 rfl (Nat.le_of_ble_eq_true rfl) (by decide) (Nat.le_of_ble_eq_true rfl) ?_
  refine c_Pn_undo (N := N) hw cT cS hW.v cP_ (fun mI1 s1 p1 hF1 => ?_)
  have hC1 : IC T (sUn N).1 kp t L G S dl dr mI1 := ⟨cT.to (fun r z1 z2 => (hF1 r (by omega))), s1, p1, cK.to (fun r z => (hF1 r (by omega))), cX.fx (congrFun (hF1 51 (by omega)) 1) (hF1 52 (by omega)), cG.to (fun r z1 z2 => (hF1 r (by omega))), cR.to (fun r z => (hF1 r (by omega)))⟩
  have hM1 := hM.to hWf (fun q z1 z2 => hF1 q (by omega))
  obtain ⟨mT, mS, mP, mK, mX, mG, mR⟩ := id hM1
  refine g_aload_n d_La_law_492 rfl ?_
  refine C_V0 d_La_law_493 k_La_67 rfl (Nat.le_of_ble_eq_true rfl) (by decide) (Nat.le_of_ble_eq_true rfl) ?_
  refine c_Md_undo (N := N) hw mT mS hW mP hlv (fun mI2 s2 p2 hF2 => ?_)
  have hM2 : IM T (sUn N).1 kp t L G S mI2 := ⟨mT.n hF2, s2, p2, mK.to hw hkv (hF2.1 141 (by omega) (by omega) (by omega)) (fun j z1 z2 => hF2.2.2 j z1 z2), mX.to (hF2.2.1 14 (by omega)) (hF2.1 150 (by omega) (by omega) (by omega)), mG.to (hF2.2.1 36 (by omega)) (fun r z1 z2 => (hF2.1 r (by omega) (by omega) (by omega))), mR.to (fun r z1 z2 => (hF2.1 r (by omega) (by omega) (by omega)))⟩
  have hC2 := hC1.to (fun q hq => hF2.1 q (by omega) (by omega) (by omega))
  refine P_icmp_eq d_La_law_496 1250 (by decide) (fun _ => ?_) (fun z => absurd rfl z)
  exact k dl mI2 dr ⟨T, (sUn N).1, kp, t, L, G, S, ⟨hw, NWf_un hN, hk, hg⟩, hC2, hM2⟩ GY.rf
theorem lw_back {X : CX} {dl : List (Nat × Nat)} {mI : Nat → Nat → Int32} {dr : Nat → Nat → Nat} {Q : Option Value → AH → Prop} {i : Nat} (hI : Inv dl dr mI) (hi : i + 5 < xL X) (hL : xL X ≤ 3072) (k : ∀ dl' mI' dr', Inv dl' dr' mI' → GY dl dl' → EW X m_law 1250 [.ref 1, .ref 32, .ref 139, .int (nI i)] [] (hp X dl' mI' dr') Q) : EW X m_law 524 [.ref 1, .ref 32, .ref 139, .int (nI i)] [] (hp X dl mI dr) Q := by
  obtain ⟨T, N, kp, t, L, G, S, hWf, hC, hM⟩ := id hI
  obtain ⟨hw, hN, hk, hg⟩ := id hWf
  obtain ⟨hW, hy, hl⟩ := id hN
  obtain ⟨cT, cS, cP_, cK, cX, cG, cR⟩ := id hC
  have hw2 := hw.2.1
  have hlv : ∀ τ ∈ N.2, SV T τ := fun τ h => (hl τ h).1.v
  have hkv : ∀ u τ, u < 2 → kp u = some τ → SV T τ := fun u τ h1 h2 => (hk u τ h1 h2).1.v
  refine g_aload_n d_La_law_524 rfl ?_
  refine g_aload_n d_La_law_525 rfl ?_
  refine g_iload_n d_La_law_526 rfl ?_
  refine N_iconst d_La_law_527 1 rfl ?_
  refine N_iadd d_La_law_528 ?_
  refine L_sald d_La_law_529 (by omega) hL ?_
  refine C_V1 d_La_law_530 k_La_72 rfl (Nat.le_of_ble_eq_true rfl) (by decide) (Nat.le_of_ble_eq_true rfl) ?_
  refine c_Pn_back (N := N) hw cT cS hW.v cP_ cK (fun mI1 s1 p1 hF1 => ?_)
  have hC1 : IC T (sBa kp N (xS X (i + 1))).1 kp t L G S dl dr mI1 := ⟨cT.to (fun r z1 z2 => (hF1 r (by omega))), s1, p1, cK.to (fun r z => (hF1 r (by omega))), cX.fx (congrFun (hF1 51 (by omega)) 1) (hF1 52 (by omega)), cG.to (fun r z1 z2 => (hF1 r (by omega))), cR.to (fun r z => (hF1 r (by omega)))⟩
  have hM1 := hM.to hWf (fun q z1 z2 => hF1 q (by omega))
  obtain ⟨mT, mS, mP, mK, mX, mG, mR⟩ := id hM1
  refine g_aload_n d_La_law_533 rfl ?_
  refine g_aload_n d_La_law_534 rfl ?_
  refine g_iload_n d_La_law_535 rfl ?_
  refine N_iconst d_La_law_536 1 rfl ?_
  refine N_iadd d_La_law_537 ?_
  refine L_sald d_La_law_538 (by omega) hL ?_
  refine C_V1 d_La_law_539 k_La_75 rfl (Nat.le_of_ble_eq_true rfl) (by decide) (Nat.le_of_ble_eq_true rfl) ?_
  refine c_Md_back (N := N) hw mT mS hW mP hlv mK hkv (fun mI2 s2 p2 hF2 => ?_)
  have hM2 : IM T (sBa kp N (xS X (i + 1))).1 kp t L G S mI2 := ⟨mT.n hF2, s2, p2, mK.to hw hkv (hF2.1 141 (by omega) (by omega) (by omega)) (fun j z1 z2 => hF2.2.2 j z1 z2), mX.to (hF2.2.1 14 (by omega)) (hF2.1 150 (by omega) (by omega) (by omega)), mG.to (hF2.2.1 36 (by omega)) (fun r z1 z2 => (hF2.1 r (by omega) (by omega) (by omega))), mR.to (fun r z1 z2 => (hF2.1 r (by omega) (by omega) (by omega)))⟩
  have hC2 := hC1.to (fun q hq => hF2.1 q (by omega) (by omega) (by omega))
  refine P_icmp_eq d_La_law_542 1250 (by decide) (fun _ => ?_) (fun z => absurd rfl z)
  exact k dl mI2 dr ⟨T, (sBa kp N (xS X (i + 1))).1, kp, t, L, G, S, ⟨hw, NWf_ba hN hk _, hk, hg⟩, hC2, hM2⟩ GY.rf
theorem lw_keep {X : CX} {dl : List (Nat × Nat)} {mI : Nat → Nat → Int32} {dr : Nat → Nat → Nat} {Q : Option Value → AH → Prop} {i : Nat} (hI : Inv dl dr mI) (hi : i + 5 < xL X) (hL : xL X ≤ 3072) (k : ∀ dl' mI' dr', Inv dl' dr' mI' → GY dl dl' → EW X m_law 1250 [.ref 1, .ref 32, .ref 139, .int (nI i)] [] (hp X dl' mI' dr') Q) : EW X m_law 501 [.ref 1, .ref 32, .ref 139, .int (nI i)] [] (hp X dl mI dr) Q := by
  obtain ⟨T, N, kp, t, L, G, S, hWf, hC, hM⟩ := id hI
  obtain ⟨hw, hN, hk, hg⟩ := id hWf
  obtain ⟨hW, hy, hl⟩ := id hN
  obtain ⟨cT, cS, cP_, cK, cX, cG, cR⟩ := id hC
  have hw2 := hw.2.1
  have hlv : ∀ τ ∈ N.2, SV T τ := fun τ h => (hl τ h).1.v
  have hkv : ∀ u τ, u < 2 → kp u = some τ → SV T τ := fun u τ h1 h2 => (hk u τ h1 h2).1.v
  refine g_aload_n d_La_law_501 rfl ?_
  refine g_aload_n d_La_law_502 rfl ?_
  refine g_iload_n d_La_law_503 rfl ?_
  refine N_iconst d_La_law_504 1 rfl ?_
  refine N_iadd d_La_law_505 ?_
  refine L_sald d_La_law_506 (by omega) hL ?_
  refine C_V1 d_La_law_507 k_La_68 rfl (Nat.le_of_ble_eq_true rfl) (by decide) (Nat.le_of_ble_eq_true rfl) ?_
  refine c_Pn_keep hw cS cK (fun mI1 k1 hF1 => ?_)
  have hC1 : IC T N (sKe kp N.1 (xS X (i + 1))).1 t L G S dl dr mI1 := ⟨cT.to (fun r z1 z2 => (hF1 r (by omega) (by omega))), SR.to cS (fun r z1 z2 => (hF1 r (by omega) (by omega))), cP_.to (fun r z1 z2 => (hF1 r (by omega) (by omega))), k1, cX.fx (congrFun (hF1 51 (by omega) (by omega)) 1) (hF1 52 (by omega) (by omega)), cG.to (fun r z1 z2 => (hF1 r (by omega) (by omega))), cR.to (fun r z => (hF1 r (by omega) (by omega)))⟩
  have hM1 := hM.to hWf (fun q z1 z2 => hF1 q (by omega) (by omega))
  obtain ⟨mT, mS, mP, mK, mX, mG, mR⟩ := id hM1
  refine g_aload_n d_La_law_510 rfl ?_
  refine g_aload_n d_La_law_511 rfl ?_
  refine g_iload_n d_La_law_512 rfl ?_
  refine N_iconst d_La_law_513 1 rfl ?_
  refine N_iadd d_La_law_514 ?_
  refine L_sald d_La_law_515 (by omega) hL ?_
  refine C_V1 d_La_law_516 k_La_71 rfl (Nat.le_of_ble_eq_true rfl) (by decide) (Nat.le_of_ble_eq_true rfl) ?_
  refine c_Md_keep hw mS hW.v mK hkv (fun mI2 k2 hF2 hG2 => ?_)
  have hM2 : IM T N (sKe kp N.1 (xS X (i + 1))).1 t L G S mI2 := ⟨mT.to (congrFun (hF2 139 (by omega) (by omega)) 3) (congrFun (hF2 139 (by omega) (by omega)) 7) (fun r z1 z2 => (hF2 r (by omega) (by omega))), mS.to hw hW.v (fun j z1 z2 => hG2 j (by omega)), mP.to hw hlv (congrFun (hF2 139 (by omega) (by omega)) 1) (fun j z1 => hG2 j (by omega)), k2, mX.to (congrFun (hF2 139 (by omega) (by omega)) 14) (hF2 150 (by omega) (by omega)), mG.to (congrFun (hF2 139 (by omega) (by omega)) 36) (fun r z1 z2 => (hF2 r (by omega) (by omega))), mR.to (fun r z1 z2 => (hF2 r (by omega) (by omega)))⟩
  have hC2 := hC1.to (fun q hq => hF2 q (by omega) (by omega))
  refine P_icmp_eq d_La_law_519 1250 (by decide) (fun _ => ?_) (fun z => absurd rfl z)
  exact k dl mI2 dr ⟨T, N, (sKe kp N.1 (xS X (i + 1))).1, t, L, G, S, ⟨hw, hN, KWf_ke hW hy hk _, hg⟩, hC2, hM2⟩ GY.rf
theorem lw_write {X : CX} {dl : List (Nat × Nat)} {mI : Nat → Nat → Int32} {dr : Nat → Nat → Nat} {Q : Option Value → AH → Prop} {i : Nat} (hI : Inv dl dr mI) (hi : i + 5 < xL X) (hL : xL X ≤ 3072) (k : ∀ dl' mI' dr', Inv dl' dr' mI' → GY dl dl' → EW X m_law 1250 [.ref 1, .ref 32, .ref 139, .int (nI i)] [] (hp X dl' mI' dr') Q) : EW X m_law 192 [.ref 1, .ref 32, .ref 139, .int (nI i)] [] (hp X dl mI dr) Q := by
  obtain ⟨T, N, kp, t, L, G, S, hWf, hC, hM⟩ := id hI
  obtain ⟨hw, hN, hk, hg⟩ := id hWf
  obtain ⟨hW, hy, hl⟩ := id hN
  obtain ⟨cT, cS, cP_, cK, cX, cG, cR⟩ := id hC
  have hw2 := hw.2.1
  have hlv : ∀ τ ∈ N.2, SV T τ := fun τ h => (hl τ h).1.v
  have hkv : ∀ u τ, u < 2 → kp u = some τ → SV T τ := fun u τ h1 h2 => (hk u τ h1 h2).1.v
  refine g_aload_n d_La_law_192 rfl ?_
  refine g_aload_n d_La_law_193 rfl ?_
  refine g_iload_n d_La_law_194 rfl ?_
  refine N_iconst d_La_law_195 1 rfl ?_
  refine N_iadd d_La_law_196 ?_
  refine L_sald d_La_law_197 (by omega) hL ?_
  refine C_V1 d_La_law_198 k_La_13 rfl (Nat.le_of_ble_eq_true rfl) (by decide) (Nat.le_of_ble_eq_true rfl) ?_
  refine c_Pn_write cX (fun mI1 x1 hF1 => ?_)
  have hC1 : IC T N kp (sWr t L (xS X (i + 1))).1.1 (sWr t L (xS X (i + 1))).1.2 G S dl dr mI1 := ⟨cT.to (fun r z1 z2 => (hF1 r (by omega))), SR.to cS (fun r z1 z2 => (hF1 r (by omega))), cP_.to (fun r z1 z2 => (hF1 r (by omega))), cK.to (fun r z => (hF1 r (by omega))), x1, cG.to (fun r z1 z2 => (hF1 r (by omega))), cR.to (fun r z => (hF1 r (by omega)))⟩
  have hM1 := hM.to hWf (fun q z1 z2 => hF1 q (by omega))
  obtain ⟨mT, mS, mP, mK, mX, mG, mR⟩ := id hM1
  refine g_aload_n d_La_law_201 rfl ?_
  refine g_aload_n d_La_law_202 rfl ?_
  refine g_iload_n d_La_law_203 rfl ?_
  refine N_iconst d_La_law_204 1 rfl ?_
  refine N_iadd d_La_law_205 ?_
  refine L_sald d_La_law_206 (by omega) hL ?_
  refine C_V1 d_La_law_207 k_La_17 rfl (Nat.le_of_ble_eq_true rfl) (by decide) (Nat.le_of_ble_eq_true rfl) ?_
  refine c_Md_write mX (fun mI2 x2 hF2 hG2 => ?_)
  have hM2 : IM T N kp (sWr t L (xS X (i + 1))).1.1 (sWr t L (xS X (i + 1))).1.2 G S mI2 := ⟨mT.to (hG2 3 (by omega)) (hG2 7 (by omega)) (fun r z1 z2 => (hF2 r (by omega) (by omega))), mS.to hw hW.v (fun j z1 z2 => congrFun (hF2 140 (by omega) (by omega)) j), mP.to hw hlv (hG2 1 (by omega)) (fun j z1 => congrFun (hF2 140 (by omega) (by omega)) j), mK.to hw hkv (hF2 141 (by omega) (by omega)) (fun j z1 z2 => congrFun (hF2 140 (by omega) (by omega)) j), x2, mG.to (hG2 36 (by omega)) (fun r z1 z2 => (hF2 r (by omega) (by omega))), mR.to (fun r z1 z2 => (hF2 r (by omega) (by omega)))⟩
  have hC2 := hC1.to (fun q hq => hF2 q (by omega) (by omega))
  refine P_icmp_eq d_La_law_210 1250 (by decide) (fun _ => ?_) (fun z => absurd rfl z)
  exact k dl mI2 dr ⟨T, N, kp, (sWr t L (xS X (i + 1))).1.1, (sWr t L (xS X (i + 1))).1.2, G, S, hWf, hC2, hM2⟩ GY.rf
theorem lw_erase {X : CX} {dl : List (Nat × Nat)} {mI : Nat → Nat → Int32} {dr : Nat → Nat → Nat} {Q : Option Value → AH → Prop} {i : Nat} (hI : Inv dl dr mI) (hi : i + 5 < xL X) (hL : xL X ≤ 3072) (k : ∀ dl' mI' dr', Inv dl' dr' mI' → GY dl dl' → EW X m_law 1250 [.ref 1, .ref 32, .ref 139, .int (nI i)] [] (hp X dl' mI' dr') Q) : EW X m_law 215 [.ref 1, .ref 32, .ref 139, .int (nI i)] [] (hp X dl mI dr) Q := by
  obtain ⟨T, N, kp, t, L, G, S, hWf, hC, hM⟩ := id hI
  obtain ⟨hw, hN, hk, hg⟩ := id hWf
  obtain ⟨hW, hy, hl⟩ := id hN
  obtain ⟨cT, cS, cP_, cK, cX, cG, cR⟩ := id hC
  have hw2 := hw.2.1
  have hlv : ∀ τ ∈ N.2, SV T τ := fun τ h => (hl τ h).1.v
  have hkv : ∀ u τ, u < 2 → kp u = some τ → SV T τ := fun u τ h1 h2 => (hk u τ h1 h2).1.v
  refine g_aload_n d_La_law_215 rfl ?_
  refine C_V0 d_La_law_216 k_La_18 rfl (Nat.le_of_ble_eq_true rfl) (by decide) (Nat.le_of_ble_eq_true rfl) ?_
  refine c_Pn_erase cX (fun mI1 x1 hF1 => ?_)
  have hC1 : IC T N kp t 0 G S dl dr mI1 := ⟨cT.to (fun r z1 z2 => (hF1 r (by omega))), SR.to cS (fun r z1 z2 => (hF1 r (by omega))), cP_.to (fun r z1 z2 => (hF1 r (by omega))), cK.to (fun r z => (hF1 r (by omega))), x1, cG.to (fun r z1 z2 => (hF1 r (by omega))), cR.to (fun r z => (hF1 r (by omega)))⟩
  have hM1 := hM.to hWf (fun q z1 z2 => hF1 q (by omega))
  obtain ⟨mT, mS, mP, mK, mX, mG, mR⟩ := id hM1
  refine g_aload_n d_La_law_219 rfl ?_
  refine C_V0 d_La_law_220 k_La_22 rfl (Nat.le_of_ble_eq_true rfl) (by decide) (Nat.le_of_ble_eq_true rfl) ?_
  refine c_Md_erase mX (fun mI2 x2 hF2 hG2 => ?_)
  have hM2 : IM T N kp t 0 G S mI2 := ⟨mT.to (hG2 3 (by omega)) (hG2 7 (by omega)) (fun r z1 z2 => (hF2 r (by omega))), mS.to hw hW.v (fun j z1 z2 => congrFun (hF2 140 (by omega)) j), mP.to hw hlv (hG2 1 (by omega)) (fun j z1 => congrFun (hF2 140 (by omega)) j), mK.to hw hkv (hF2 141 (by omega)) (fun j z1 z2 => congrFun (hF2 140 (by omega)) j), x2, mG.to (hG2 36 (by omega)) (fun r z1 z2 => (hF2 r (by omega))), mR.to (fun r z1 z2 => (hF2 r (by omega)))⟩
  have hC2 := hC1.to (fun q hq => hF2 q (by omega))
  refine P_icmp_eq d_La_law_223 1250 (by decide) (fun _ => ?_) (fun z => absurd rfl z)
  exact k dl mI2 dr ⟨T, N, kp, t, 0, G, S, hWf, hC2, hM2⟩ GY.rf
theorem lw_fault {X : CX} {dl : List (Nat × Nat)} {mI : Nat → Nat → Int32} {dr : Nat → Nat → Nat} {Q : Option Value → AH → Prop} {i : Nat} (hI : Inv dl dr mI) (hi : i + 5 < xL X) (hL : xL X ≤ 3072) (k : ∀ dl' mI' dr', Inv dl' dr' mI' → GY dl dl' → EW X m_law 1250 [.ref 1, .ref 32, .ref 139, .int (nI i)] [] (hp X dl' mI' dr') Q) : EW X m_law 228 [.ref 1, .ref 32, .ref 139, .int (nI i)] [] (hp X dl mI dr) Q := by
  obtain ⟨T, N, kp, t, L, G, S, hWf, hC, hM⟩ := id hI
  obtain ⟨hw, hN, hk, hg⟩ := id hWf
  obtain ⟨hW, hy, hl⟩ := id hN
  obtain ⟨cT, cS, cP_, cK, cX, cG, cR⟩ := id hC
  have hw2 := hw.2.1
  have hlv : ∀ τ ∈ N.2, SV T τ := fun τ h => (hl τ h).1.v
  have hkv : ∀ u τ, u < 2 → kp u = some τ → SV T τ := fun u τ h1 h2 => (hk u τ h1 h2).1.v
  refine g_aload_n d_La_law_228 rfl ?_
  refine C_V0 d_La_law_229 k_La_23 rfl (Nat.le_of_ble_eq_true rfl) (by decide) (Nat.le_of_ble_eq_true rfl) ?_
  refine c_Pn_fault hw cT cX (fun mI1 x1 hF1 => ?_)
  have hC1 : IC T N kp t L G S dl dr mI1 := ⟨cT.to (fun r z1 z2 => (hF1 r (by omega))), SR.to cS (fun r z1 z2 => (hF1 r (by omega))), cP_.to (fun r z1 z2 => (hF1 r (by omega))), cK.to (fun r z => (hF1 r (by omega))), x1, cG.to (fun r z1 z2 => (hF1 r (by omega))), cR.to (fun r z => (hF1 r (by omega)))⟩
  have hM1 := hM.to hWf (fun q z1 z2 => hF1 q (by omega))
  obtain ⟨mT, mS, mP, mK, mX, mG, mR⟩ := id hM1
  refine g_aload_n d_La_law_232 rfl ?_
  refine C_V0 d_La_law_233 k_La_26 rfl (Nat.le_of_ble_eq_true rfl) (by decide) (Nat.le_of_ble_eq_true rfl) ?_
  refine c_Md_fault hw mT mX (fun mI2 x2 hF2 => ?_)
  have hM2 : IM T N kp t L G S mI2 := ⟨mT.f8 hF2 (by decide), mS.to hw hW.v (fun j z1 z2 => congrFun (hF2.1 140 (by omega) (by omega)) j), mP.to hw hlv (hF2.2 1 (by decide)) (fun j z1 => congrFun (hF2.1 140 (by omega) (by omega)) j), mK.to hw hkv (hF2.1 141 (by omega) (by omega)) (fun j z1 z2 => congrFun (hF2.1 140 (by omega) (by omega)) j), x2, mG.to (hF2.2 36 (by decide)) (fun r z1 z2 => (hF2.1 r (by omega) (by omega))), mR.to (fun r z1 z2 => (hF2.1 r (by omega) (by omega)))⟩
  have hC2 := hC1.to (fun q hq => hF2.1 q (by omega) (by omega))
  refine P_icmp_eq d_La_law_236 1250 (by decide) (fun _ => ?_) (fun z => absurd rfl z)
  exact k dl mI2 dr ⟨T, N, kp, t, L, G, S, hWf, hC2, hM2⟩ GY.rf
theorem lw_seen {X : CX} {dl : List (Nat × Nat)} {mI : Nat → Nat → Int32} {dr : Nat → Nat → Nat} {Q : Option Value → AH → Prop} {i : Nat} (hI : Inv dl dr mI) (hi : i + 5 < xL X) (hL : xL X ≤ 3072) (k : ∀ dl' mI' dr', Inv dl' dr' mI' → GY dl dl' → EW X m_law 1250 [.ref 1, .ref 32, .ref 139, .int (nI i)] [] (hp X dl' mI' dr') Q) : EW X m_law 791 [.ref 1, .ref 32, .ref 139, .int (nI i)] [] (hp X dl mI dr) Q := by
  obtain ⟨T, N, kp, t, L, G, S, hWf, hC, hM⟩ := id hI
  obtain ⟨hw, hN, hk, hg⟩ := id hWf
  obtain ⟨hW, hy, hl⟩ := id hN
  obtain ⟨cT, cS, cP_, cK, cX, cG, cR⟩ := id hC
  have hw2 := hw.2.1
  have hlv : ∀ τ ∈ N.2, SV T τ := fun τ h => (hl τ h).1.v
  have hkv : ∀ u τ, u < 2 → kp u = some τ → SV T τ := fun u τ h1 h2 => (hk u τ h1 h2).1.v
  refine g_aload_n d_La_law_791 rfl ?_
  refine g_aload_n d_La_law_792 rfl ?_
  refine g_iload_n d_La_law_793 rfl ?_
  refine N_iconst d_La_law_794 1 rfl ?_
  refine N_iadd d_La_law_795 ?_
  refine L_sald d_La_law_796 (by omega) hL ?_
  refine g_aload_n d_La_law_797 rfl ?_
  refine g_iload_n d_La_law_798 rfl ?_
  refine N_iconst d_La_law_799 2 rfl ?_
  refine N_iadd d_La_law_800 ?_
  refine L_sald d_La_law_801 (by omega) hL ?_
  refine g_aload_n d_La_law_802 rfl ?_
  refine g_iload_n d_La_law_803 rfl ?_
  refine N_iconst d_La_law_804 3 rfl ?_
  refine N_iadd d_La_law_805 ?_
  refine L_sald d_La_law_806 (by omega) hL ?_
  refine C_V3 d_La_law_807 k_La_110 rfl (Nat.le_of_ble_eq_true rfl) (by decide) (Nat.le_of_ble_eq_true rfl) ?_
  refine c_Pn_seen cG hg (fun mI1 g1 hF1 => ?_)
  have hC1 : IC T N kp t L (sSe G (xS X (i + 1)) (xS X (i + 2)) (xS X (i + 3))).1 S dl dr mI1 := ⟨cT.to (fun r z1 z2 => (hF1 r (by omega))), SR.to cS (fun r z1 z2 => (hF1 r (by omega))), cP_.to (fun r z1 z2 => (hF1 r (by omega))), cK.to (fun r z => (hF1 r (by omega))), cX.fx (congrFun (hF1 51 (by omega)) 1) (hF1 52 (by omega)), g1, cR.to (fun r z => (hF1 r (by omega)))⟩
  have hM1 := hM.to hWf (fun q z1 z2 => hF1 q (by omega))
  obtain ⟨mT, mS, mP, mK, mX, mG, mR⟩ := id hM1
  refine g_aload_n d_La_law_810 rfl ?_
  refine g_aload_n d_La_law_811 rfl ?_
  refine g_iload_n d_La_law_812 rfl ?_
  refine N_iconst d_La_law_813 1 rfl ?_
  refine N_iadd d_La_law_814 ?_
  refine L_sald d_La_law_815 (by omega) hL ?_
  refine g_aload_n d_La_law_816 rfl ?_
  refine g_iload_n d_La_law_817 rfl ?_
  refine N_iconst d_La_law_818 2 rfl ?_
  refine N_iadd d_La_law_819 ?_
  refine L_sald d_La_law_820 (by omega) hL ?_
  refine g_aload_n d_La_law_821 rfl ?_
  refine g_iload_n d_La_law_822 rfl ?_
  refine N_iconst d_La_law_823 3 rfl ?_
  refine N_iadd d_La_law_824 ?_
  refine L_sald d_La_law_825 (by omega) hL ?_
  refine C_V3 d_La_law_826 k_La_113 rfl (Nat.le_of_ble_eq_true rfl) (by decide) (Nat.le_of_ble_eq_true rfl) ?_
  refine c_Md_seen mG hg (fun mI2 g2 hF2 hG2 => ?_)
  have hM2 : IM T N kp t L (sSe G (xS X (i + 1)) (xS X (i + 2)) (xS X (i + 3))).1 S mI2 := ⟨mT.to (hG2 3 (by omega)) (hG2 7 (by omega)) (fun r z1 z2 => (hF2 r (by omega))), mS.to hw hW.v (fun j z1 z2 => congrFun (hF2 140 (by omega)) j), mP.to hw hlv (hG2 1 (by omega)) (fun j z1 => congrFun (hF2 140 (by omega)) j), mK.to hw hkv (hF2 141 (by omega)) (fun j z1 z2 => congrFun (hF2 140 (by omega)) j), mX.to (hG2 14 (by omega)) (hF2 150 (by omega)), g2, mR.to (fun r z1 z2 => (hF2 r (by omega)))⟩
  have hC2 := hC1.to (fun q hq => hF2 q (by omega))
  refine P_icmp_eq d_La_law_829 1250 (by decide) (fun _ => ?_) (fun z => absurd rfl z)
  exact k dl mI2 dr ⟨T, N, kp, t, L, (sSe G (xS X (i + 1)) (xS X (i + 2)) (xS X (i + 3))).1, S, ⟨hw, hN, hk, GW_se hg _ _ _⟩, hC2, hM2⟩ GY.rf
theorem lw_forget {X : CX} {dl : List (Nat × Nat)} {mI : Nat → Nat → Int32} {dr : Nat → Nat → Nat} {Q : Option Value → AH → Prop} {i : Nat} (hI : Inv dl dr mI) (hi : i + 5 < xL X) (hL : xL X ≤ 3072) (k : ∀ dl' mI' dr', Inv dl' dr' mI' → GY dl dl' → EW X m_law 1250 [.ref 1, .ref 32, .ref 139, .int (nI i)] [] (hp X dl' mI' dr') Q) : EW X m_law 834 [.ref 1, .ref 32, .ref 139, .int (nI i)] [] (hp X dl mI dr) Q := by
  obtain ⟨T, N, kp, t, L, G, S, hWf, hC, hM⟩ := id hI
  obtain ⟨hw, hN, hk, hg⟩ := id hWf
  obtain ⟨hW, hy, hl⟩ := id hN
  obtain ⟨cT, cS, cP_, cK, cX, cG, cR⟩ := id hC
  have hw2 := hw.2.1
  have hlv : ∀ τ ∈ N.2, SV T τ := fun τ h => (hl τ h).1.v
  have hkv : ∀ u τ, u < 2 → kp u = some τ → SV T τ := fun u τ h1 h2 => (hk u τ h1 h2).1.v
  refine g_aload_n d_La_law_834 rfl ?_
  refine C_V0 d_La_law_835 k_La_114 rfl (Nat.le_of_ble_eq_true rfl) (by decide) (Nat.le_of_ble_eq_true rfl) ?_
  refine c_Pn_forget cG (fun mI1 g1 hF1 => ?_)
  have hC1 : IC T N kp t L (0, G.2) S dl dr mI1 := ⟨cT.to (fun r z1 z2 => (hF1 r (by omega))), SR.to cS (fun r z1 z2 => (hF1 r (by omega))), cP_.to (fun r z1 z2 => (hF1 r (by omega))), cK.to (fun r z => (hF1 r (by omega))), cX.fx (congrFun (hF1 51 (by omega)) 1) (hF1 52 (by omega)), g1, cR.to (fun r z => (hF1 r (by omega)))⟩
  have hM1 := hM.to hWf (fun q z1 z2 => hF1 q (by omega))
  obtain ⟨mT, mS, mP, mK, mX, mG, mR⟩ := id hM1
  refine g_aload_n d_La_law_838 rfl ?_
  refine C_V0 d_La_law_839 k_La_117 rfl (Nat.le_of_ble_eq_true rfl) (by decide) (Nat.le_of_ble_eq_true rfl) ?_
  refine c_Md_forget mG (fun mI2 g2 hF2 hG2 => ?_)
  have hM2 : IM T N kp t L (0, G.2) S mI2 := ⟨mT.to (hG2 3 (by omega)) (hG2 7 (by omega)) (fun r z1 z2 => (hF2 r (by omega))), mS.to hw hW.v (fun j z1 z2 => congrFun (hF2 140 (by omega)) j), mP.to hw hlv (hG2 1 (by omega)) (fun j z1 => congrFun (hF2 140 (by omega)) j), mK.to hw hkv (hF2 141 (by omega)) (fun j z1 z2 => congrFun (hF2 140 (by omega)) j), mX.to (hG2 14 (by omega)) (hF2 150 (by omega)), g2, mR.to (fun r z1 z2 => (hF2 r (by omega)))⟩
  have hC2 := hC1.to (fun q hq => hF2 q (by omega))
  refine P_icmp_eq d_La_law_842 1250 (by decide) (fun _ => ?_) (fun z => absurd rfl z)
  exact k dl mI2 dr ⟨T, N, kp, t, L, (0, G.2), S, ⟨hw, hN, hk, ⟨Nat.zero_le _, fun j hj => absurd hj (Nat.not_lt_zero _)⟩⟩, hC2, hM2⟩ GY.rf
theorem lw_register {X : CX} {dl : List (Nat × Nat)} {mI : Nat → Nat → Int32} {dr : Nat → Nat → Nat} {Q : Option Value → AH → Prop} {i : Nat} (hI : Inv dl dr mI) (hi : i + 5 < xL X) (hL : xL X ≤ 3072) (k : ∀ dl' mI' dr', Inv dl' dr' mI' → GY dl dl' → EW X m_law 1250 [.ref 1, .ref 32, .ref 139, .int (nI i)] [] (hp X dl' mI' dr') Q) : EW X m_law 873 [.ref 1, .ref 32, .ref 139, .int (nI i)] [] (hp X dl mI dr) Q := by
  obtain ⟨T, N, kp, t, L, G, S, hWf, hC, hM⟩ := id hI
  obtain ⟨hw, hN, hk, hg⟩ := id hWf
  obtain ⟨hW, hy, hl⟩ := id hN
  obtain ⟨cT, cS, cP_, cK, cX, cG, cR⟩ := id hC
  have hw2 := hw.2.1
  have hlv : ∀ τ ∈ N.2, SV T τ := fun τ h => (hl τ h).1.v
  have hkv : ∀ u τ, u < 2 → kp u = some τ → SV T τ := fun u τ h1 h2 => (hk u τ h1 h2).1.v
  refine g_aload_n d_La_law_873 rfl ?_
  refine g_aload_n d_La_law_874 rfl ?_
  refine g_iload_n d_La_law_875 rfl ?_
  refine N_iconst d_La_law_876 1 rfl ?_
  refine N_iadd d_La_law_877 ?_
  refine L_sald d_La_law_878 (by omega) hL ?_
  refine g_aload_n d_La_law_879 rfl ?_
  refine g_iload_n d_La_law_880 rfl ?_
  refine N_iconst d_La_law_881 2 rfl ?_
  refine N_iadd d_La_law_882 ?_
  refine L_sald d_La_law_883 (by omega) hL ?_
  refine C_V2 d_La_law_884 k_La_126 rfl (Nat.le_of_ble_eq_true rfl) (by decide) (Nat.le_of_ble_eq_true rfl) ?_
  refine c_Pn_register cR (fun dl1 mI1 dr1 r1 hF1 => ?_)
  have hC1 : IC T N kp t L G (oReg S (xS X (i + 1)) (xS X (i + 2))).1 dl1 dr1 mI1 := ⟨cT.to (fun r z1 z2 => (hF1.1 r (by omega))), SR.to cS (fun r z1 z2 => (hF1.1 r (by omega))), cP_.to (fun r z1 z2 => (hF1.1 r (by omega))), cK.to (fun r z => (hF1.1 r (by omega))), cX.fx (congrFun (hF1.1 51 (by omega)) 1) (hF1.1 52 (by omega)), cG.to (fun r z1 z2 => (hF1.1 r (by omega))), r1⟩
  have hM1 := hM.to hWf (fun q z1 z2 => hF1.1 q (by omega))
  obtain ⟨mT, mS, mP, mK, mX, mG, mR⟩ := id hM1
  refine g_aload_n d_La_law_887 rfl ?_
  refine g_aload_n d_La_law_888 rfl ?_
  refine g_iload_n d_La_law_889 rfl ?_
  refine N_iconst d_La_law_890 1 rfl ?_
  refine N_iadd d_La_law_891 ?_
  refine L_sald d_La_law_892 (by omega) hL ?_
  refine g_aload_n d_La_law_893 rfl ?_
  refine g_iload_n d_La_law_894 rfl ?_
  refine N_iconst d_La_law_895 2 rfl ?_
  refine N_iadd d_La_law_896 ?_
  refine L_sald d_La_law_897 (by omega) hL ?_
  refine C_V2 d_La_law_898 k_La_129 rfl (Nat.le_of_ble_eq_true rfl) (by decide) (Nat.le_of_ble_eq_true rfl) ?_
  refine c_Md_register mR (fun mI2 r2 hF2 => ?_)
  have hM2 : IM T N kp t L G (oReg S (xS X (i + 1)) (xS X (i + 2))).1 mI2 := ⟨mT.to (congrFun (hF2 139 (by omega)) 3) (congrFun (hF2 139 (by omega)) 7) (fun r z1 z2 => (hF2 r (by omega))), mS.to hw hW.v (fun j z1 z2 => congrFun (hF2 140 (by omega)) j), mP.to hw hlv (congrFun (hF2 139 (by omega)) 1) (fun j z1 => congrFun (hF2 140 (by omega)) j), mK.to hw hkv (hF2 141 (by omega)) (fun j z1 z2 => congrFun (hF2 140 (by omega)) j), mX.to (congrFun (hF2 139 (by omega)) 14) (hF2 150 (by omega)), mG.to (congrFun (hF2 139 (by omega)) 36) (fun r z1 z2 => (hF2 r (by omega))), r2⟩
  have hC2 := hC1.to (fun q hq => hF2 q (by omega))
  refine P_icmp_eq d_La_law_901 1250 (by decide) (fun _ => ?_) (fun z => absurd rfl z)
  exact k dl1 mI2 dr1 ⟨T, N, kp, t, L, G, (oReg S (xS X (i + 1)) (xS X (i + 2))).1, hWf, hC2, hM2⟩ hF1.2
theorem lw_page {X : CX} {dl : List (Nat × Nat)} {mI : Nat → Nat → Int32} {dr : Nat → Nat → Nat} {Q : Option Value → AH → Prop} {i : Nat} (hI : Inv dl dr mI) (hi : i + 5 < xL X) (hL : xL X ≤ 3072) (k : ∀ dl' mI' dr', Inv dl' dr' mI' → GY dl dl' → EW X m_law 1250 [.ref 1, .ref 32, .ref 139, .int (nI i)] [] (hp X dl' mI' dr') Q) : EW X m_law 906 [.ref 1, .ref 32, .ref 139, .int (nI i)] [] (hp X dl mI dr) Q := by
  obtain ⟨T, N, kp, t, L, G, S, hWf, hC, hM⟩ := id hI
  obtain ⟨hw, hN, hk, hg⟩ := id hWf
  obtain ⟨hW, hy, hl⟩ := id hN
  obtain ⟨cT, cS, cP_, cK, cX, cG, cR⟩ := id hC
  have hw2 := hw.2.1
  have hlv : ∀ τ ∈ N.2, SV T τ := fun τ h => (hl τ h).1.v
  have hkv : ∀ u τ, u < 2 → kp u = some τ → SV T τ := fun u τ h1 h2 => (hk u τ h1 h2).1.v
  refine g_aload_n d_La_law_906 rfl ?_
  refine g_aload_n d_La_law_907 rfl ?_
  refine g_iload_n d_La_law_908 rfl ?_
  refine N_iconst d_La_law_909 1 rfl ?_
  refine N_iadd d_La_law_910 ?_
  refine L_sald d_La_law_911 (by omega) hL ?_
  refine g_aload_n d_La_law_912 rfl ?_
  refine g_iload_n d_La_law_913 rfl ?_
  refine N_iconst d_La_law_914 2 rfl ?_
  refine N_iadd d_La_law_915 ?_
  refine L_sald d_La_law_916 (by omega) hL ?_
  refine g_aload_n d_La_law_917 rfl ?_
  refine g_iload_n d_La_law_918 rfl ?_
  refine N_iconst d_La_law_919 3 rfl ?_
  refine N_iadd d_La_law_920 ?_
  refine L_sald d_La_law_921 (by omega) hL ?_
  refine C_V3 d_La_law_922 k_La_130 rfl (Nat.le_of_ble_eq_true rfl) (by decide) (Nat.le_of_ble_eq_true rfl) ?_
  refine c_Pn_page cR (fun dl1 mI1 dr1 r1 hF1 => ?_)
  have hC1 : IC T N kp t L G (oPag S (172 + dl.length) (xS X (i + 1)) (xS X (i + 2)) (xS X (i + 3))).1 dl1 dr1 mI1 := ⟨cT.to (fun r z1 z2 => (hF1.1 r (by omega))), SR.to cS (fun r z1 z2 => (hF1.1 r (by omega))), cP_.to (fun r z1 z2 => (hF1.1 r (by omega))), cK.to (fun r z => (hF1.1 r (by omega))), cX.fx (congrFun (hF1.1 51 (by omega)) 1) (hF1.1 52 (by omega)), cG.to (fun r z1 z2 => (hF1.1 r (by omega))), r1⟩
  have hM1 := hM.to hWf (fun q z1 z2 => hF1.1 q (by omega))
  obtain ⟨mT, mS, mP, mK, mX, mG, mR⟩ := id hM1
  refine g_aload_n d_La_law_925 rfl ?_
  refine g_aload_n d_La_law_926 rfl ?_
  refine g_iload_n d_La_law_927 rfl ?_
  refine N_iconst d_La_law_928 1 rfl ?_
  refine N_iadd d_La_law_929 ?_
  refine L_sald d_La_law_930 (by omega) hL ?_
  refine g_aload_n d_La_law_931 rfl ?_
  refine g_iload_n d_La_law_932 rfl ?_
  refine N_iconst d_La_law_933 2 rfl ?_
  refine N_iadd d_La_law_934 ?_
  refine L_sald d_La_law_935 (by omega) hL ?_
  refine g_aload_n d_La_law_936 rfl ?_
  refine g_iload_n d_La_law_937 rfl ?_
  refine N_iconst d_La_law_938 3 rfl ?_
  refine N_iadd d_La_law_939 ?_
  refine L_sald d_La_law_940 (by omega) hL ?_
  refine C_V3 d_La_law_941 k_La_133 rfl (Nat.le_of_ble_eq_true rfl) (by decide) (Nat.le_of_ble_eq_true rfl) ?_
  refine c_Md_page mR (a := 172 + dl.length) (by omega) (bd_fresh cR) (fun mI2 r2 hF2 => ?_)
  have hM2 : IM T N kp t L G (oPag S (172 + dl.length) (xS X (i + 1)) (xS X (i + 2)) (xS X (i + 3))).1 mI2 := ⟨mT.to (congrFun (hF2 139 (by omega)) 3) (congrFun (hF2 139 (by omega)) 7) (fun r z1 z2 => (hF2 r (by omega))), mS.to hw hW.v (fun j z1 z2 => congrFun (hF2 140 (by omega)) j), mP.to hw hlv (congrFun (hF2 139 (by omega)) 1) (fun j z1 => congrFun (hF2 140 (by omega)) j), mK.to hw hkv (hF2 141 (by omega)) (fun j z1 z2 => congrFun (hF2 140 (by omega)) j), mX.to (congrFun (hF2 139 (by omega)) 14) (hF2 150 (by omega)), mG.to (congrFun (hF2 139 (by omega)) 36) (fun r z1 z2 => (hF2 r (by omega))), r2⟩
  have hC2 := hC1.to (fun q hq => hF2 q (by omega))
  refine P_icmp_eq d_La_law_944 1250 (by decide) (fun _ => ?_) (fun z => absurd rfl z)
  exact k dl1 mI2 dr1 ⟨T, N, kp, t, L, G, (oPag S (172 + dl.length) (xS X (i + 1)) (xS X (i + 2)) (xS X (i + 3))).1, hWf, hC2, hM2⟩ hF1.2
theorem lw_bind {X : CX} {dl : List (Nat × Nat)} {mI : Nat → Nat → Int32} {dr : Nat → Nat → Nat} {Q : Option Value → AH → Prop} {i : Nat} (hI : Inv dl dr mI) (hi : i + 5 < xL X) (hL : xL X ≤ 3072) (k : ∀ dl' mI' dr', Inv dl' dr' mI' → GY dl dl' → EW X m_law 1250 [.ref 1, .ref 32, .ref 139, .int (nI i)] [] (hp X dl' mI' dr') Q) : EW X m_law 949 [.ref 1, .ref 32, .ref 139, .int (nI i)] [] (hp X dl mI dr) Q := by
  obtain ⟨T, N, kp, t, L, G, S, hWf, hC, hM⟩ := id hI
  obtain ⟨hw, hN, hk, hg⟩ := id hWf
  obtain ⟨hW, hy, hl⟩ := id hN
  obtain ⟨cT, cS, cP_, cK, cX, cG, cR⟩ := id hC
  have hw2 := hw.2.1
  have hlv : ∀ τ ∈ N.2, SV T τ := fun τ h => (hl τ h).1.v
  have hkv : ∀ u τ, u < 2 → kp u = some τ → SV T τ := fun u τ h1 h2 => (hk u τ h1 h2).1.v
  refine g_aload_n d_La_law_949 rfl ?_
  refine g_aload_n d_La_law_950 rfl ?_
  refine g_iload_n d_La_law_951 rfl ?_
  refine N_iconst d_La_law_952 1 rfl ?_
  refine N_iadd d_La_law_953 ?_
  refine L_sald d_La_law_954 (by omega) hL ?_
  refine g_aload_n d_La_law_955 rfl ?_
  refine g_iload_n d_La_law_956 rfl ?_
  refine N_iconst d_La_law_957 2 rfl ?_
  refine N_iadd d_La_law_958 ?_
  refine L_sald d_La_law_959 (by omega) hL ?_
  refine g_aload_n d_La_law_960 rfl ?_
  refine g_iload_n d_La_law_961 rfl ?_
  refine N_iconst d_La_law_962 3 rfl ?_
  refine N_iadd d_La_law_963 ?_
  refine L_sald d_La_law_964 (by omega) hL ?_
  refine g_aload_n d_La_law_965 rfl ?_
  refine g_iload_n d_La_law_966 rfl ?_
  refine N_iconst d_La_law_967 4 rfl ?_
  refine N_iadd d_La_law_968 ?_
  refine L_sald d_La_law_969 (by omega) hL ?_
  refine C_V4 d_La_law_970 k_La_134 rfl (Nat.le_of_ble_eq_true rfl) (by decide) (Nat.le_of_ble_eq_true rfl) ?_
  refine c_Pn_bind cR (fun dl1 mI1 dr1 r1 hF1 => ?_)
  have hC1 : IC T N kp t L G (oBin S (xS X (i + 1)) (xS X (i + 2)) (xS X (i + 3)) (xS X (i + 4))).1 dl1 dr1 mI1 := ⟨cT.to (fun r z1 z2 => (hF1.1 r (by omega))), SR.to cS (fun r z1 z2 => (hF1.1 r (by omega))), cP_.to (fun r z1 z2 => (hF1.1 r (by omega))), cK.to (fun r z => (hF1.1 r (by omega))), cX.fx (congrFun (hF1.1 51 (by omega)) 1) (hF1.1 52 (by omega)), cG.to (fun r z1 z2 => (hF1.1 r (by omega))), r1⟩
  have hM1 := hM.to hWf (fun q z1 z2 => hF1.1 q (by omega))
  obtain ⟨mT, mS, mP, mK, mX, mG, mR⟩ := id hM1
  refine g_aload_n d_La_law_973 rfl ?_
  refine g_aload_n d_La_law_974 rfl ?_
  refine g_iload_n d_La_law_975 rfl ?_
  refine N_iconst d_La_law_976 1 rfl ?_
  refine N_iadd d_La_law_977 ?_
  refine L_sald d_La_law_978 (by omega) hL ?_
  refine g_aload_n d_La_law_979 rfl ?_
  refine g_iload_n d_La_law_980 rfl ?_
  refine N_iconst d_La_law_981 2 rfl ?_
  refine N_iadd d_La_law_982 ?_
  refine L_sald d_La_law_983 (by omega) hL ?_
  refine g_aload_n d_La_law_984 rfl ?_
  refine g_iload_n d_La_law_985 rfl ?_
  refine N_iconst d_La_law_986 3 rfl ?_
  refine N_iadd d_La_law_987 ?_
  refine L_sald d_La_law_988 (by omega) hL ?_
  refine g_aload_n d_La_law_989 rfl ?_
  refine g_iload_n d_La_law_990 rfl ?_
  refine N_iconst d_La_law_991 4 rfl ?_
  refine N_iadd d_La_law_992 ?_
  refine L_sald d_La_law_993 (by omega) hL ?_
  refine C_V4 d_La_law_994 k_La_137 rfl (Nat.le_of_ble_eq_true rfl) (by decide) (Nat.le_of_ble_eq_true rfl) ?_
  refine c_Md_bind mR (fun mI2 r2 hF2 => ?_)
  have hM2 : IM T N kp t L G (oBin S (xS X (i + 1)) (xS X (i + 2)) (xS X (i + 3)) (xS X (i + 4))).1 mI2 := ⟨mT.to (congrFun (hF2 139 (by omega)) 3) (congrFun (hF2 139 (by omega)) 7) (fun r z1 z2 => (hF2 r (by omega))), mS.to hw hW.v (fun j z1 z2 => congrFun (hF2 140 (by omega)) j), mP.to hw hlv (congrFun (hF2 139 (by omega)) 1) (fun j z1 => congrFun (hF2 140 (by omega)) j), mK.to hw hkv (hF2 141 (by omega)) (fun j z1 z2 => congrFun (hF2 140 (by omega)) j), mX.to (congrFun (hF2 139 (by omega)) 14) (hF2 150 (by omega)), mG.to (congrFun (hF2 139 (by omega)) 36) (fun r z1 z2 => (hF2 r (by omega))), r2⟩
  have hC2 := hC1.to (fun q hq => hF2 q (by omega))
  refine P_icmp_eq d_La_law_997 1250 (by decide) (fun _ => ?_) (fun z => absurd rfl z)
  exact k dl1 mI2 dr1 ⟨T, N, kp, t, L, G, (oBin S (xS X (i + 1)) (xS X (i + 2)) (xS X (i + 3)) (xS X (i + 4))).1, hWf, hC2, hM2⟩ hF1.2
theorem lw_enter {X : CX} {dl : List (Nat × Nat)} {mI : Nat → Nat → Int32} {dr : Nat → Nat → Nat} {Q : Option Value → AH → Prop} {i : Nat} (hI : Inv dl dr mI) (hi : i + 5 < xL X) (hL : xL X ≤ 3072) (k : ∀ dl' mI' dr', Inv dl' dr' mI' → GY dl dl' → EW X m_law 1250 [.ref 1, .ref 32, .ref 139, .int (nI i)] [] (hp X dl' mI' dr') Q) : EW X m_law 1055 [.ref 1, .ref 32, .ref 139, .int (nI i)] [] (hp X dl mI dr) Q := by
  obtain ⟨T, N, kp, t, L, G, S, hWf, hC, hM⟩ := id hI
  obtain ⟨hw, hN, hk, hg⟩ := id hWf
  obtain ⟨hW, hy, hl⟩ := id hN
  obtain ⟨cT, cS, cP_, cK, cX, cG, cR⟩ := id hC
  have hw2 := hw.2.1
  have hlv : ∀ τ ∈ N.2, SV T τ := fun τ h => (hl τ h).1.v
  have hkv : ∀ u τ, u < 2 → kp u = some τ → SV T τ := fun u τ h1 h2 => (hk u τ h1 h2).1.v
  refine g_aload_n d_La_law_1055 rfl ?_
  refine g_aload_n d_La_law_1056 rfl ?_
  refine g_iload_n d_La_law_1057 rfl ?_
  refine N_iconst d_La_law_1058 1 rfl ?_
  refine N_iadd d_La_law_1059 ?_
  refine L_sald d_La_law_1060 (by omega) hL ?_
  refine g_aload_n d_La_law_1061 rfl ?_
  refine g_iload_n d_La_law_1062 rfl ?_
  refine N_iconst d_La_law_1063 2 rfl ?_
  refine N_iadd d_La_law_1064 ?_
  refine L_sald d_La_law_1065 (by omega) hL ?_
  refine g_aload_n d_La_law_1066 rfl ?_
  refine g_iload_n d_La_law_1067 rfl ?_
  refine N_iconst d_La_law_1068 3 rfl ?_
  refine N_iadd d_La_law_1069 ?_
  refine L_sald d_La_law_1070 (by omega) hL ?_
  refine g_aload_n d_La_law_1071 rfl ?_
  refine g_iload_n d_La_law_1072 rfl ?_
  refine N_iconst d_La_law_1073 4 rfl ?_
  refine N_iadd d_La_law_1074 ?_
  refine L_sald d_La_law_1075 (by omega) hL ?_
  refine g_aload_n d_La_law_1076 rfl ?_
  refine g_iload_n d_La_law_1077 rfl ?_
  refine N_iconst d_La_law_1078 5 rfl ?_
  refine N_iadd d_La_law_1079 ?_
  refine L_sald d_La_law_1080 (by omega) hL ?_
  refine C_V5 d_La_law_1081 k_La_142 rfl (Nat.le_of_ble_eq_true rfl) (by decide) (Nat.le_of_ble_eq_true rfl) ?_
  refine c_Pn_enter cR (P := tP T) cT.2.1 (by omega) (fun dl1 mI1 dr1 r1 hF1 => ?_)
  have hC1 : IC T N kp t L G (oEnt S (tP T) (xS X (i + 1)) (xS X (i + 2)) (xS X (i + 3)) (xS X (i + 4)) (xS X (i + 5))).1 dl1 dr1 mI1 := ⟨cT.to (fun r z1 z2 => (hF1.1 r (by omega))), SR.to cS (fun r z1 z2 => (hF1.1 r (by omega))), cP_.to (fun r z1 z2 => (hF1.1 r (by omega))), cK.to (fun r z => (hF1.1 r (by omega))), cX.fx (congrFun (hF1.1 51 (by omega)) 1) (hF1.1 52 (by omega)), cG.to (fun r z1 z2 => (hF1.1 r (by omega))), r1⟩
  have hM1 := hM.to hWf (fun q z1 z2 => hF1.1 q (by omega))
  obtain ⟨mT, mS, mP, mK, mX, mG, mR⟩ := id hM1
  refine g_aload_n d_La_law_1084 rfl ?_
  refine g_aload_n d_La_law_1085 rfl ?_
  refine g_iload_n d_La_law_1086 rfl ?_
  refine N_iconst d_La_law_1087 1 rfl ?_
  refine N_iadd d_La_law_1088 ?_
  refine L_sald d_La_law_1089 (by omega) hL ?_
  refine g_aload_n d_La_law_1090 rfl ?_
  refine g_iload_n d_La_law_1091 rfl ?_
  refine N_iconst d_La_law_1092 2 rfl ?_
  refine N_iadd d_La_law_1093 ?_
  refine L_sald d_La_law_1094 (by omega) hL ?_
  refine g_aload_n d_La_law_1095 rfl ?_
  refine g_iload_n d_La_law_1096 rfl ?_
  refine N_iconst d_La_law_1097 3 rfl ?_
  refine N_iadd d_La_law_1098 ?_
  refine L_sald d_La_law_1099 (by omega) hL ?_
  refine g_aload_n d_La_law_1100 rfl ?_
  refine g_iload_n d_La_law_1101 rfl ?_
  refine N_iconst d_La_law_1102 4 rfl ?_
  refine N_iadd d_La_law_1103 ?_
  refine L_sald d_La_law_1104 (by omega) hL ?_
  refine g_aload_n d_La_law_1105 rfl ?_
  refine g_iload_n d_La_law_1106 rfl ?_
  refine N_iconst d_La_law_1107 5 rfl ?_
  refine N_iadd d_La_law_1108 ?_
  refine L_sald d_La_law_1109 (by omega) hL ?_
  refine C_V5 d_La_law_1110 k_La_146 rfl (Nat.le_of_ble_eq_true rfl) (by decide) (Nat.le_of_ble_eq_true rfl) ?_
  refine c_Md_enter mR (P := tP T) mT.2.1 (by omega) (fun mI2 r2 hF2 => ?_)
  have hM2 : IM T N kp t L G (oEnt S (tP T) (xS X (i + 1)) (xS X (i + 2)) (xS X (i + 3)) (xS X (i + 4)) (xS X (i + 5))).1 mI2 := ⟨mT.to (congrFun (hF2 139 (by omega)) 3) (congrFun (hF2 139 (by omega)) 7) (fun r z1 z2 => (hF2 r (by omega))), mS.to hw hW.v (fun j z1 z2 => congrFun (hF2 140 (by omega)) j), mP.to hw hlv (congrFun (hF2 139 (by omega)) 1) (fun j z1 => congrFun (hF2 140 (by omega)) j), mK.to hw hkv (hF2 141 (by omega)) (fun j z1 z2 => congrFun (hF2 140 (by omega)) j), mX.to (congrFun (hF2 139 (by omega)) 14) (hF2 150 (by omega)), mG.to (congrFun (hF2 139 (by omega)) 36) (fun r z1 z2 => (hF2 r (by omega))), r2⟩
  have hC2 := hC1.to (fun q hq => hF2 q (by omega))
  refine P_icmp_eq d_La_law_1113 1250 (by decide) (fun _ => ?_) (fun z => absurd rfl z)
  exact k dl1 mI2 dr1 ⟨T, N, kp, t, L, G, (oEnt S (tP T) (xS X (i + 1)) (xS X (i + 2)) (xS X (i + 3)) (xS X (i + 4)) (xS X (i + 5))).1, hWf, hC2, hM2⟩ hF1.2
theorem lw_drop {X : CX} {dl : List (Nat × Nat)} {mI : Nat → Nat → Int32} {dr : Nat → Nat → Nat} {Q : Option Value → AH → Prop} {i : Nat} (hI : Inv dl dr mI) (hi : i + 5 < xL X) (hL : xL X ≤ 3072) (k : ∀ dl' mI' dr', Inv dl' dr' mI' → GY dl dl' → EW X m_law 1250 [.ref 1, .ref 32, .ref 139, .int (nI i)] [] (hp X dl' mI' dr') Q) : EW X m_law 1204 [.ref 1, .ref 32, .ref 139, .int (nI i)] [] (hp X dl mI dr) Q := by
  obtain ⟨T, N, kp, t, L, G, S, hWf, hC, hM⟩ := id hI
  obtain ⟨hw, hN, hk, hg⟩ := id hWf
  obtain ⟨hW, hy, hl⟩ := id hN
  obtain ⟨cT, cS, cP_, cK, cX, cG, cR⟩ := id hC
  have hw2 := hw.2.1
  have hlv : ∀ τ ∈ N.2, SV T τ := fun τ h => (hl τ h).1.v
  have hkv : ∀ u τ, u < 2 → kp u = some τ → SV T τ := fun u τ h1 h2 => (hk u τ h1 h2).1.v
  refine g_aload_n d_La_law_1204 rfl ?_
  refine g_aload_n d_La_law_1205 rfl ?_
  refine g_iload_n d_La_law_1206 rfl ?_
  refine N_iconst d_La_law_1207 1 rfl ?_
  refine N_iadd d_La_law_1208 ?_
  refine L_sald d_La_law_1209 (by omega) hL ?_
  refine C_V1 d_La_law_1210 k_La_155 rfl (Nat.le_of_ble_eq_true rfl) (by decide) (Nat.le_of_ble_eq_true rfl) ?_
  refine c_Pn_drop cR (fun dl1 mI1 dr1 r1 hF1 => ?_)
  have hC1 : IC T N kp t L G (oDro S (xS X (i + 1))).1 dl1 dr1 mI1 := ⟨cT.to (fun r z1 z2 => (hF1.1 r (by omega))), SR.to cS (fun r z1 z2 => (hF1.1 r (by omega))), cP_.to (fun r z1 z2 => (hF1.1 r (by omega))), cK.to (fun r z => (hF1.1 r (by omega))), cX.fx (congrFun (hF1.1 51 (by omega)) 1) (hF1.1 52 (by omega)), cG.to (fun r z1 z2 => (hF1.1 r (by omega))), r1⟩
  have hM1 := hM.to hWf (fun q z1 z2 => hF1.1 q (by omega))
  obtain ⟨mT, mS, mP, mK, mX, mG, mR⟩ := id hM1
  refine g_aload_n d_La_law_1213 rfl ?_
  refine g_aload_n d_La_law_1214 rfl ?_
  refine g_iload_n d_La_law_1215 rfl ?_
  refine N_iconst d_La_law_1216 1 rfl ?_
  refine N_iadd d_La_law_1217 ?_
  refine L_sald d_La_law_1218 (by omega) hL ?_
  refine C_V1 d_La_law_1219 k_La_158 rfl (Nat.le_of_ble_eq_true rfl) (by decide) (Nat.le_of_ble_eq_true rfl) ?_
  refine c_Md_drop mR (fun mI2 r2 hF2 => ?_)
  have hM2 : IM T N kp t L G (oDro S (xS X (i + 1))).1 mI2 := ⟨mT.to (congrFun (hF2 139 (by omega)) 3) (congrFun (hF2 139 (by omega)) 7) (fun r z1 z2 => (hF2 r (by omega))), mS.to hw hW.v (fun j z1 z2 => congrFun (hF2 140 (by omega)) j), mP.to hw hlv (congrFun (hF2 139 (by omega)) 1) (fun j z1 => congrFun (hF2 140 (by omega)) j), mK.to hw hkv (hF2 141 (by omega)) (fun j z1 z2 => congrFun (hF2 140 (by omega)) j), mX.to (congrFun (hF2 139 (by omega)) 14) (hF2 150 (by omega)), mG.to (congrFun (hF2 139 (by omega)) 36) (fun r z1 z2 => (hF2 r (by omega))), r2⟩
  have hC2 := hC1.to (fun q hq => hF2 q (by omega))
  refine P_icmp_eq d_La_law_1222 1250 (by decide) (fun _ => ?_) (fun z => absurd rfl z)
  exact k dl1 mI2 dr1 ⟨T, N, kp, t, L, G, (oDro S (xS X (i + 1))).1, hWf, hC2, hM2⟩ hF1.2
theorem lw_parish {X : CX} {dl : List (Nat × Nat)} {mI : Nat → Nat → Int32} {dr : Nat → Nat → Nat} {Q : Option Value → AH → Prop} {i : Nat} (hI : Inv dl dr mI) (hi : i + 5 < xL X) (hL : xL X ≤ 3072) (k : ∀ dl' mI' dr', Inv dl' dr' mI' → GY dl dl' → EW X m_law 1250 [.ref 1, .ref 32, .ref 139, .int (nI i)] [] (hp X dl' mI' dr') Q) : EW X m_law 241 [.ref 1, .ref 32, .ref 139, .int (nI i)] [] (hp X dl mI dr) Q := by
  obtain ⟨T, N, kp, t, L, G, S, hWf, hC, hM⟩ := id hI
  obtain ⟨hw, hN, hk, hg⟩ := id hWf
  obtain ⟨hW, hy, hl⟩ := id hN
  obtain ⟨cT, cS, cP_, cK, cX, cG, cR⟩ := id hC
  have hw2 := hw.2.1
  have hlv : ∀ τ ∈ N.2, SV T τ := fun τ h => (hl τ h).1.v
  have hkv : ∀ u τ, u < 2 → kp u = some τ → SV T τ := fun u τ h1 h2 => (hk u τ h1 h2).1.v
  refine g_aload_n d_La_law_241 rfl ?_
  refine C_V0 d_La_law_242 k_La_27 rfl (Nat.le_of_ble_eq_true rfl) (by decide) (Nat.le_of_ble_eq_true rfl) ?_
  refine c_Pn_parish (G := G) (S := S) hw cT cX cP_ (fun mI1 hn x1 hF1 => ?_) (fun mI1 dr1 hn hw1 t1 x1 s1 p1 k1 g1 r1 hF1 => ?_)
  · have hC1 : IC T N kp t L G S dl dr mI1 := ⟨cT.to (fun r z1 z2 => (hF1 r (by omega))), SR.to cS (fun r z1 z2 => (hF1 r (by omega))), cP_.to (fun r z1 z2 => (hF1 r (by omega))), cK.to (fun r z => (hF1 r (by omega))), x1, cG.to (fun r z1 z2 => (hF1 r (by omega))), cR.to (fun r z => (hF1 r (by omega)))⟩
    have hM1 := hM.to hWf (fun q z1 z2 => hF1 q (by omega))
    obtain ⟨mT, mS, mP, mK, mX, mG, mR⟩ := id hM1
    refine g_aload_n d_La_law_245 rfl ?_
    refine C_V0 d_La_law_246 k_La_30 rfl (Nat.le_of_ble_eq_true rfl) (by decide) (Nat.le_of_ble_eq_true rfl) ?_
    refine c_Md_parish (G := G) (S := S) hw mT mX (fun mI2 hn2 x2 hF2 => ?_) (fun mI2 hn2 => absurd hn2 hn)
    have hM2 : IM T N kp t L G S mI2 := ⟨mT.f8 hF2 (by decide), mS.to hw hW.v (fun j z1 z2 => congrFun (hF2.1 140 (by omega) (by omega)) j), mP.to hw hlv (hF2.2 1 (by decide)) (fun j z1 => congrFun (hF2.1 140 (by omega) (by omega)) j), mK.to hw hkv (hF2.1 141 (by omega) (by omega)) (fun j z1 z2 => congrFun (hF2.1 140 (by omega) (by omega)) j), x2, mG.to (hF2.2 36 (by decide)) (fun r z1 z2 => (hF2.1 r (by omega) (by omega))), mR.to (fun r z1 z2 => (hF2.1 r (by omega) (by omega)))⟩
    have hC2 := hC1.to (fun q hq => hF2.1 q (by omega) (by omega))
    refine P_icmp_eq d_La_law_249 1250 (by decide) (fun _ => ?_) (fun z => absurd rfl z)
    exact k dl mI2 dr ⟨T, N, kp, t, L, G, S, hWf, hC2, hM2⟩ GY.rf
  · have hC1 : IC (rdN t L 24 0 T 0).2.1 (s0 (rdN t L 24 0 T 0).2.1, []) (fun _ => none) t 0 (0, G.2) (fun _ => none, S.2) dl dr1 mI1 := ⟨t1, s1, p1, k1, x1, g1, r1⟩
    have hM1 := hM.to hWf (fun q z1 z2 => hF1 q (by omega))
    obtain ⟨mT, mS, mP, mK, mX, mG, mR⟩ := id hM1
    refine g_aload_n d_La_law_245 rfl ?_
    refine C_V0 d_La_law_246 k_La_30 rfl (Nat.le_of_ble_eq_true rfl) (by decide) (Nat.le_of_ble_eq_true rfl) ?_
    refine c_Md_parish (G := G) (S := S) hw mT mX (fun mI2 hn2 => absurd hn hn2) (fun mI2 hn2 hw2 t2 x2 s2 p2 k2 g2 r2 hlo hhi => ?_)
    have hM2 : IM (rdN t L 24 0 T 0).2.1 (s0 (rdN t L 24 0 T 0).2.1, []) (fun _ => none) t 0 (0, G.2) (fun _ => none, S.2) mI2 := ⟨t2, s2, p2, k2, x2, g2, r2⟩
    have hC2 := hC1.to (fun q hq => by
      rcases Nat.lt_or_ge q 139 with z | z
      · exact hlo q z
      · exact hhi q (by omega))
    refine P_icmp_eq d_La_law_249 1250 (by decide) (fun _ => ?_) (fun z => absurd rfl z)
    exact k dl mI2 dr1 ⟨(rdN t L 24 0 T 0).2.1, (s0 (rdN t L 24 0 T 0).2.1, []), fun _ => none, t, 0, (0, G.2), (fun _ => none, S.2), ⟨hw1, ⟨SW_s0 hw1, Nat.zero_le _, fun x hx => nomatch hx⟩, (fun u τ _ e => nomatch e), ⟨Nat.zero_le _, fun j hj => absurd hj (Nat.not_lt_zero _)⟩⟩, hC2, hM2⟩ GY.rf
