/-! WHAT HOLDS BETWEEN TWO CALLS -/
def NWf (T : TD) (N : NP) : Prop := SW T N.1 ∧ aY N.1 ≤ 999 ∧ ∀ τ ∈ N.2, SW T τ ∧ aY τ ≤ 999
def IW (T : TD) (N : NP) (kp : KP) (G : GD) : Prop := TW T ∧ NWf T N ∧ (∀ u τ, u < 2 → kp u = some τ → SW T τ ∧ aY τ ≤ 999) ∧ GW G
def IC (T : TD) (N : NP) (kp : KP) (t : Nat → Int32) (L : Nat) (G : GD) (S : RS) (dl : List (Nat × Nat)) (dr : Nat → Nat → Nat) (mI : Nat → Nat → Int32) : Prop := TR 33 T mI ∧ SC 53 T N.1 mI ∧ PR T N.2 mI ∧ KR T kp mI ∧ XR t L mI ∧ GR G mI ∧ CG S dl dr mI
def IM (T : TD) (N : NP) (kp : KP) (t : Nat → Int32) (L : Nat) (G : GD) (S : RS) (mI : Nat → Nat → Int32) : Prop := TM 3 7 142 T mI ∧ SM 0 T N.1 (KO T N.1) mI ∧ PM T N.2 mI ∧ KM T kp mI ∧ XM t L mI ∧ GM G mI ∧ RM S mI
def Inv (dl : List (Nat × Nat)) (dr : Nat → Nat → Nat) (mI : Nat → Nat → Int32) : Prop := ∃ T N kp t L G S, IW T N kp G ∧ IC T N kp t L G S dl dr mI ∧ IM T N kp t L G S mI
def GY (dl dl' : List (Nat × Nat)) : Prop := ∃ ext, dl' = dl ++ ext ∧ ext.length ≤ 3 ∧ (ext.map (fun q => q.2)).sum ≤ 20
theorem GY.rf {dl : List (Nat × Nat)} : GY dl dl := ⟨[], by simp, by simp, by simp⟩
theorem KR.to {T : TD} {kp : KP} {mI mI' : Nat → Nat → Int32} (h : KR T kp mI) (hf : ∀ r, r = 110 ∨ (127 ≤ r ∧ r ≤ 138) → mI' r = mI r) : KR T kp mI' := fun u hu => ⟨by rw [hf 110 (by omega)]; exact (h u hu).1, fun σ hσ => SR.to ((h u hu).2 σ hσ) (fun r z1 z2 => hf r (by omega))⟩
theorem GR.to {G : GD} {mI mI' : Nat → Nat → Int32} (h : GR G mI) (hf : ∀ r, 121 ≤ r → r ≤ 124 → mI' r = mI r) : GR G mI' := ⟨by rw [hf 121 (by omega) (by omega)]; exact h.1, fun i hi => by rw [hf 122 (by omega) (by omega), hf 123 (by omega) (by omega), hf 124 (by omega) (by omega)]; exact h.2 i hi⟩
theorem GM.to {G : GD} {mI mI' : Nat → Nat → Int32} (h : GM G mI) (h1 : mI' 139 36 = mI 139 36) (hf : ∀ r, 164 ≤ r → r ≤ 166 → mI' r = mI r) : GM G mI' := ⟨h1.trans h.1, fun i hi => by rw [hf 164 (by omega) (by omega), hf 165 (by omega) (by omega), hf 166 (by omega) (by omega)]; exact h.2 i hi⟩
theorem XM.to {t : Nat → Int32} {L : Nat} {mI mI' : Nat → Nat → Int32} (h : XM t L mI) (h1 : mI' 139 14 = mI 139 14) (h2 : mI' 150 = mI 150) : XM t L mI' := ⟨h.1, h1.trans h.2.1, fun i hi => by rw [h2]; exact h.2.2 i hi⟩
theorem KM.to {T : TD} {kp : KP} {mI mI' : Nat → Nat → Int32} (h : KM T kp mI) (hw : TW T) (hk : ∀ u τ, u < 2 → kp u = some τ → SV T τ) (h1 : mI' 141 = mI 141) (hf : ∀ j, 186 ≤ j → j < 372 → mI' 140 j = mI 140 j) : KM T kp mI' := fun u hu => ⟨by rw [h1]; exact (h u hu).1, fun σ hσ => ((h u hu).2 σ hσ).to hw (hk u σ hu hσ) (fun j z1 z2 => hf j (by omega) (by omega))⟩
section IV
variable {T : TD} {N : NP} {kp : KP} {t : Nat → Int32} {L : Nat} {G : GD} {S : RS} {dl : List (Nat × Nat)} {dr : Nat → Nat → Nat} {mI mI' : Nat → Nat → Int32}
theorem IC.to (h : IC T N kp t L G S dl dr mI) (hf : ∀ q, (33 ≤ q ∧ q ≤ 41) ∨ (51 ≤ q ∧ q ≤ 110) ∨ (121 ≤ q ∧ q ≤ 124) ∨ (127 ≤ q ∧ q ≤ 138) ∨ 172 ≤ q → mI' q = mI q) : IC T N kp t L G S dl dr mI' := by
  obtain ⟨h1, h2, h3, h4, h5, h6, h7⟩ := h
  exact ⟨h1.to (fun r z1 z2 => hf r (by omega)), SR.to h2 (fun r z1 z2 => hf r (by omega)), h3.to (fun r z1 z2 => hf r (by omega)), h4.to (fun r z => hf r (by omega)), h5.fx (congrFun (hf 51 (by omega)) 1) (hf 52 (by omega)), h6.to (fun r z1 z2 => hf r (by omega)), h7.to (fun r z => hf r (by omega))⟩
theorem IM.to (h : IM T N kp t L G S mI) (hW : IW T N kp G) (hf : ∀ q, 139 ≤ q → q ≤ 171 → mI' q = mI q) : IM T N kp t L G S mI' := by
  obtain ⟨h1, h2, h3, h4, h5, h6, h7⟩ := h
  obtain ⟨w1, ⟨w2, w3, w4⟩, w5, w6⟩ := hW
  refine ⟨h1.to (congrFun (hf 139 (by omega) (by omega)) 3) (congrFun (hf 139 (by omega) (by omega)) 7) (fun r z1 z2 => hf r (by omega) (by omega)), h2.to w1 w2.v (fun j _ _ => congrFun (hf 140 (by omega) (by omega)) j), h3.to w1 (fun τ hτ => (w4 τ hτ).1.v) (congrFun (hf 139 (by omega) (by omega)) 1) (fun j _ => congrFun (hf 140 (by omega) (by omega)) j), h4.to w1 (fun u τ hu hτ => (w5 u τ hu hτ).1.v) (hf 141 (by omega) (by omega)) (fun j _ _ => congrFun (hf 140 (by omega) (by omega)) j), h5.to (congrFun (hf 139 (by omega) (by omega)) 14) (hf 150 (by omega) (by omega)), h6.to (congrFun (hf 139 (by omega) (by omega)) 36) (fun r z1 z2 => hf r (by omega) (by omega)), h7.to (fun q z1 z2 => hf q (by omega) (by omega))⟩
end IV
theorem psh_mem {l : List AS} {σ τ : AS} (h : τ ∈ psh l σ) : τ = σ ∨ τ ∈ l := by
  have := List.mem_of_mem_take h
  exact List.mem_cons.mp this
theorem tN_lt {x : Int32} {n : Nat} (h : inN x n) (hn : n < 2 ^ 31) : tN x < n := by
  obtain ⟨j, hj, rfl⟩ := inN_of h hn
  rw [tN_nI (by omega)]; exact hj
theorem SW_s0 {T : TD} (hw : TW T) : SW T (s0 T) := by
  have hv := SV_s0 hw
  refine ⟨hv.1, fun p hp1 => ⟨(hv.2.1 p hp1).1, fun z => ⟨(hv.2.1 p hp1).2.1 z, ?_⟩, (hv.2.1 p hp1).2.2⟩, hv.2.2⟩
  have h1 := (hw.2.2.2 p hp1).2.2.2.2.1
  have h2 := (hw.2.2.1 _ h1).2.2.1
  exact h2
theorem SW_uW {T : TD} {σ : AS} (h : SW T σ) {p v : Nat} (hp1 : p < tP T) (h1 : aD σ p ≤ v) (h2 : v ≤ 40) : SW T (uW σ p v) := by
  refine ⟨h.1, fun q hq => ⟨(h.2.1 q hq).1, (h.2.1 q hq).2.1, ?_⟩, h.2.2⟩
  show aD σ q ≤ va_up (aW σ) p v q ∧ va_up (aW σ) p v q ≤ 40
  by_cases z : q = p
  · rw [z, va_up_s]; exact ⟨h1, h2⟩
  · rw [va_up_n _ _ z]; exact (h.2.1 q hq).2.2
theorem SW_front {T : TD} {σ : AS} (h : SW T σ) {p : Nat} (hp1 : p < tP T) : SW T (front σ p) := by
  have hp2 := SV_front h.v hp1
  exact ⟨⟨hp2.length_eq.trans h.1.1, hp2.nodup_iff.mpr h.1.2.1, fun q hq => h.1.2.2 q (hp2.mem_iff.mp hq)⟩, h.2.1, h.2.2⟩
section NV
variable {T : TD} {N : NP} (hw : TW T) (h : NWf T N)
theorem NWf_psh {σ : AS} (h : NWf T N) (h1 : SW T σ) (h2 : aY σ ≤ 999) : NWf T (σ, psh N.2 N.1) := ⟨h1, h2, fun τ hτ => (psh_mem hτ).elim (fun z => by rw [z]; exact ⟨h.1, h.2.1⟩) (fun z => h.2.2 τ z)⟩
theorem NWf_yr (hw : TW T) (h : NWf T N) (n : Int32) : NWf T (sYr T N n).1 := by
  unfold sYr
  split
  · exact h
  · split
    · exact h
    · have := SW_yrN hw (tN n) N.1 h.1
      exact NWf_psh h this.1 (by rw [this.2]; omega)
theorem NWf_gi (hw : TW T) (h : NWf T N) (p m : Int32) : NWf T (sGi T N p m).1 := by
  have hw1 := hw.1
  have hw2 := hw.2.1
  unfold sGi
  split
  · exact h
  · rename_i c1
    split
    · exact h
    · rename_i c2
      have hp1 : inN p (tP T) := Classical.byContradiction (fun z => c1 (Or.inl z))
      have hlt := tN_lt hp1 (by omega)
      refine NWf_psh h (SW_hand h.1 (h.1.v.mem hlt) ?_) h.2.1
      unfold whoN at c2 ⊢
      by_cases z : m = -1
      · rw [if_pos z]; exact Or.inl rfl
      · rw [if_neg z] at c2 ⊢
        have hm : inN m (tn T) := Classical.byContradiction (fun y => c1 (Or.inr ⟨z, y⟩))
        have hml := tN_lt hm (by omega)
        refine Or.inr ⟨hml, by omega, Nat.pos_of_ne_zero (fun y => c2 (Or.inr (Or.inr ⟨by omega, y⟩)))⟩
theorem NWf_sh (hw : TW T) (h : NWf T N) (p : Int32) : NWf T (sSh T N p).1 := by
  have hw2 := hw.2.1
  unfold sSh
  split
  · exact h
  · rename_i c1
    split
    · exact h
    · have hp1 : inN p (tP T) := Classical.byContradiction (fun z => c1 z)
      have hlt := tN_lt hp1 (by omega)
      have := (h.1.2.1 _ hlt).2.2
      exact NWf_psh h (SW_uW h.1 hlt (by omega) (by omega)) h.2.1
theorem NWf_ah (hw : TW T) (h : NWf T N) (p : Int32) : NWf T (sAh T N p).1 := by
  have hw2 := hw.2.1
  unfold sAh
  split
  · exact h
  · rename_i c1
    split
    · exact h
    · have hp1 : inN p (tP T) := Classical.byContradiction (fun z => c1 z)
      exact NWf_psh h (SW_front h.1 (tN_lt hp1 (by omega))) h.2.1
theorem NWf_un (h : NWf T N) : NWf T (sUn N).1 := by
  unfold sUn
  split
  · exact h
  · rename_i τ l e
    exact ⟨(h.2.2 τ (by rw [e]; exact List.mem_cons_self ..)).1, (h.2.2 τ (by rw [e]; exact List.mem_cons_self ..)).2, fun x hx => h.2.2 x (by rw [e]; exact List.mem_cons_of_mem _ hx)⟩
theorem NWf_ba {kp : KP} (h : NWf T N) (hk : ∀ u τ, u < 2 → kp u = some τ → SW T τ ∧ aY τ ≤ 999) (k : Int32) : NWf T (sBa kp N k).1 := by
  unfold sBa
  split
  · exact h
  · rename_i c1
    split
    · exact h
    · rename_i τ e
      have hin : inN k 2 := Classical.byContradiction (fun z => c1 z)
      have := hk _ τ (tN_lt hin (by decide)) e
      exact ⟨this.1, this.2, fun x hx => nomatch hx⟩
theorem KWf_ke {kp : KP} {σ : AS} (h1 : SW T σ) (h2 : aY σ ≤ 999) (hk : ∀ u τ, u < 2 → kp u = some τ → SW T τ ∧ aY τ ≤ 999) (k : Int32) : ∀ u τ, u < 2 → (sKe kp σ k).1 u = some τ → SW T τ ∧ aY τ ≤ 999 := by
  unfold sKe
  split
  · exact hk
  · intro u τ hu e
    have e : va_up kp (tN k) (some σ) u = some τ := e
    by_cases z : u = tN k
    · rw [z, va_up_s] at e
      injection e with e
      subst e
      exact ⟨h1, h2⟩
    · rw [va_up_n _ _ z] at e; exact hk u τ hu e
theorem GW_se {G : GD} (hg : GW G) (s n d : Int32) : GW (sSe G s n d).1 := by
  unfold sSe
  split
  · exact hg
  · rename_i c1
    split
    · exact hg
    · rename_i c2
      have hs : 1 ≤ s.toInt ∧ s.toInt ≤ 9 := Classical.byContradiction (fun z => c1 (Or.inl z))
      have hn : 1 ≤ n.toInt ∧ n.toInt ≤ 9 := Classical.byContradiction (fun z => c1 (Or.inr (Or.inl z)))
      have hd : inN d 201 := Classical.byContradiction (fun z => c1 (Or.inr (Or.inr z)))
      have hd2 := tN_lt hd (by decide)
      have h6 := hg.1
      refine GW_add hg (by omega) ?_ ?_ (by omega)
      · unfold tN; omega
      · unfold tN; omega
end NV
/-- what the room is -/
theorem sub6 {L i : Nat} (hL : L < 2 ^ 20) (hi : i < 2 ^ 20) : nI L - nI 6 < nI i ↔ L < i + 6 := by
  have h1 : (nI L - nI 6).toInt = (L : Int) - 6 := by
    rw [Int32.toInt_sub, nI_toInt (by omega), nI_toInt (by decide)]
    show ((L : Int) - ((6 : Nat) : Int)).bmod _ = _
    rw [Int.bmod_eq_of_le (by omega) (by omega)]; rfl
  rw [Int32.lt_iff_toInt_lt, h1, nI_toInt (by omega)]; omega
theorem and63 (x : Int32) : ∃ c, c < 64 ∧ x &&& nI 63 = nI c := by
  have h : x.toBitVec.toNat &&& 63 < 64 := Nat.lt_of_le_of_lt Nat.and_le_right (by decide)
  refine ⟨x.toBitVec.toNat &&& 63, h, Int32.toBitVec_inj.mp (BitVec.eq_of_toNat_eq ?_)⟩
  show (x.toBitVec &&& (nI 63).toBitVec).toNat = (BitVec.ofNat 32 (x.toBitVec.toNat &&& 63)).toNat
  rw [BitVec.toNat_and, BitVec.toNat_ofNat, Nat.mod_eq_of_lt (by omega)]; rfl
theorem vp_s {j n : Nat} (h : j < n) (hn : n ≤ 3072) : vp_in (nI j) n := vp_in_nI h (by omega)
