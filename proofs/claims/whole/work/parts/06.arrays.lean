section Rules4
variable {X : CX} {M : MD} {pc : Nat} {ls rest : List Value} {h : AH} {Q : Option Value → AH → Prop}
theorem P_iald {i : Int32} {r n : Nat} (hd : decode M.2.1 pc = .ok (.iaload, 1)) (hl : h.1[r]? = some (20, n)) (hin : vp_in i n) (k : EW X M (pc + 1) ls (.int (h.2.1 r i.toNatClampNeg) :: rest) h Q) : EW X M pc ls (.int i :: .ref r :: rest) h Q :=
  k.lift fun _ _ => AW.go fun p e s m args below meth cd R Q F H locs cells slots la S L w => by
    have hr := exO_big S.1.2.2.2 hl (show (20 : Nat) < 30 by decide)
    have hat := S.1.at hl hr
    rw [ce_int] at hat
    simp only [List.map_cons] at w ⊢
    rw [rv_big hr]
    have hP : va_P (xD X) cls [(am X r, .inl (xA X 20, n, .inl (h.2.1 r)))] H := fun k q hk => by
      cases k with
      | zero => cases hk; exact hat
      | succ k => simp at hk
    exact va_iald F.1 F.2.1 F.2.2.2.2.2.1.1 hP 0 0 rfl rfl hin hd w
theorem P_zald {i : Int32} {r n : Nat} (hd : decode M.2.1 pc = .ok (.baload, 1)) (hl : h.1[r]? = some (21, n)) (hin : vp_in i n) (k : EW X M (pc + 1) ls (.int (h.2.1 r i.toNatClampNeg) :: rest) h Q) : EW X M pc ls (.int i :: .ref r :: rest) h Q :=
  k.lift fun _ _ => AW.go fun p e s m args below meth cd R Q F H locs cells slots la S L w => by
    have hr := exO_big S.1.2.2.2 hl (show (21 : Nat) < 30 by decide)
    have hat := S.1.at hl hr
    rw [ce_bool] at hat
    simp only [List.map_cons] at w ⊢
    rw [rv_big hr]
    have hP : va_P (xD X) cls [(am X r, .inl (xA X 21, n, .inl (h.2.1 r)))] H := fun k q hk => by
      cases k with
      | zero => cases hk; exact hat
      | succ k => simp at hk
    exact va_zald F.1 F.2.1 F.2.2.2.2.2.1.1 hP 0 1 rfl rfl hin hd w
/-- which arrays of references there are -/
def RT (t : Nat) (C : String) : Prop := (t = 22 ∧ C = R_St) ∨ (t = 23 ∧ C = R_Rg) ∨ (t = 24 ∧ C = R_Pg)
theorem RT.big {t : Nat} {C : String} (h : RT t C) : 22 ≤ t ∧ t < 30 := by rcases h with ⟨rfl, -⟩ | ⟨rfl, -⟩ | ⟨rfl, -⟩ <;> decide
theorem RT.ty {t : Nat} {C : String} (h : RT t C) : (tysX X)[t - 20]? = some (xA X t, .object C) := by rcases h with ⟨rfl, rfl⟩ | ⟨rfl, rfl⟩ | ⟨rfl, rfl⟩ <;> rfl
theorem P_aald {i : Int32} {r n t : Nat} {C : String} (hd : decode M.2.1 pc = .ok (.aaload, 1)) (hC : RT t C) (hl : h.1[r]? = some (t, n)) (hin : vp_in i n) (k : EW X M (pc + 1) ls (.ref (h.2.2 r i.toNatClampNeg) :: rest) h Q) : EW X M pc ls (.int i :: .ref r :: rest) h Q :=
  k.lift fun _ _ => AW.go fun p e s m args below meth cd R Q F H locs cells slots la S L w => by
    have hr := exO_big S.1.2.2.2 hl hC.big.2
    have hat := S.1.at hl hr
    rw [ce_ref hC.big.1] at hat
    simp only [List.map_cons] at w ⊢
    rw [rv_big hr]
    have hP : va_P (xD X) cls [(am X r, .inl (xA X t, n, .inr (.inr (.inr (.inr (fun j => rO X (h.2.2 r j)))))))] H := fun k q hk => by
      cases k with
      | zero => cases hk; exact hat
      | succ k => simp at hk
    exact va_aldq F.1 F.2.1 F.2.2.2.2.2.1.1 hP 0 (t - 20) rfl hC.ty hin hd w
theorem P_alen {r n t : Nat} (hd : decode M.2.1 pc = .ok (.arraylength, 1)) (ht : 20 ≤ t ∧ t < 25) (hl : h.1[r]? = some (t, n)) (k : EW X M (pc + 1) ls (.int (nI n) :: rest) h Q) : EW X M pc ls (.ref r :: rest) h Q :=
  k.lift fun _ _ => AW.go fun p e s m args below meth cd R Q F H locs cells slots la S L w => by
    have hr := exO_big S.1.2.2.2 hl (show t < 30 by omega)
    have hat := S.1.at hl hr
    simp only [List.map_cons] at w ⊢
    rw [rv_big hr]
    have hP : va_P (xD X) cls [(am X r, ce X h r (t, n))] H := fun k q hk => by
      cases k with
      | zero => cases hk; exact hat
      | succ k => simp at hk
    by_cases h1 : t < 22
    · have e1 : ce X h r (t, n) = .inl (xA X t, n, .inl (h.2.1 r)) := by
        have : ¬ t < 20 := by omega
        simp [ce, h1, this]
      rw [e1] at hP
      rcases (show t = 20 ∨ t = 21 by omega) with rfl | rfl
      · exact va_alen F.1 F.2.1 F.2.2.2.2.2.1.1 hP 0 0 rfl rfl rfl hd w
      · exact va_alen F.1 F.2.1 F.2.2.2.2.2.1.1 hP 0 1 rfl rfl rfl hd w
    · rw [ce_ref (by omega)] at hP
      rcases (show t = 22 ∨ t = 23 ∨ t = 24 by omega) with rfl | rfl | rfl
      · exact va_alen F.1 F.2.1 F.2.2.2.2.2.1.1 hP 0 2 rfl rfl rfl hd w
      · exact va_alen F.1 F.2.1 F.2.2.2.2.2.1.1 hP 0 3 rfl rfl rfl hd w
      · exact va_alen F.1 F.2.1 F.2.2.2.2.2.1.1 hP 0 4 rfl rfl rfl hd w
theorem vp_lt {i : Int32} {n : Nat} (h : vp_in i n) : i.toNatClampNeg < n := Nat.not_le.mp fun q => h (Or.inr q)
theorem P_iast {i x : Int32} {r n : Nat} (hd : decode M.2.1 pc = .ok (.iastore, 1)) (hl : h.1[r]? = some (20, n)) (hin : vp_in i n) (k : EW X M (pc + 1) ls rest (wI h r i.toNatClampNeg x) Q) : EW X M pc ls (.int x :: .int i :: .ref r :: rest) h Q :=
  k.lift fun _ _ => AW.wr (h2 := wI h r i.toNatClampNeg x) rfl fun p e s m args below meth cd R Q F H locs cells slots la S L w => by
    have hr := exO_big S.1.2.2.2 hl (show (20 : Nat) < 30 by decide)
    have hat := S.1.at hl hr
    rw [ce_int] at hat
    simp only [List.map_cons] at w ⊢
    rw [rv_big hr]
    refine W.iast F.1 F.2.1 hat ((F.2.2.2.2.2.1.1.2 0 _ rfl).1 n (fun j => .int (h.2.1 r j))) (fun q => by cases q) (by show ¬ (i < 0 ∨ (arrV _ _ _).slots.size ≤ _); rw [arrV_size]; exact hin) rfl rfl hd fun H1 e1 z oq => ?_
    refine w H1 _ ⟨S.1.up hl hr rfl (fun a ha => ⟨va_up_n _ _ ha, rfl⟩) z oq ?_, Sw.put S.2 hr z oq⟩
    rw [ce_int]
    show H1[am X r]? = some (vp_cell _ _)
    rw [e1, vp_cell_i, vp_cell_i, arrV_store]
    congr 2
    funext j
    simp only [wI, va_up_s, updV, upd]
    split <;> rfl
theorem P_zast {i x : Int32} {r n : Nat} (hd : decode M.2.1 pc = .ok (.bastore, 1)) (hl : h.1[r]? = some (21, n)) (hin : vp_in i n) (hx : x = 0 ∨ x = 1) (k : EW X M (pc + 1) ls rest (wI h r i.toNatClampNeg x) Q) : EW X M pc ls (.int x :: .int i :: .ref r :: rest) h Q :=
  k.lift fun _ _ => AW.wr (h2 := wI h r i.toNatClampNeg x) rfl fun p e s m args below meth cd R Q F H locs cells slots la S L w => by
    have hr := exO_big S.1.2.2.2 hl (show (21 : Nat) < 30 by decide)
    have hat := S.1.at hl hr
    rw [ce_bool] at hat
    simp only [List.map_cons] at w ⊢
    rw [rv_big hr]
    refine W.zast F.1 F.2.1 hat ((F.2.2.2.2.2.1.1.2 1 _ rfl).1 n (fun j => .int (h.2.1 r j))) (fun q => by cases q) (by show ¬ (i < 0 ∨ (arrV _ _ _).slots.size ≤ _); rw [arrV_size]; exact hin) rfl rfl hd fun H1 e1 z oq => ?_
    refine w H1 _ ⟨S.1.up hl hr rfl (fun a ha => ⟨va_up_n _ _ ha, rfl⟩) z oq ?_, Sw.put S.2 hr z oq⟩
    rw [ce_bool]
    show H1[am X r]? = some (vp_cell _ _)
    have hx2 : narrow .boolean (.int x) = .int x := by rcases hx with rfl | rfl <;> rfl
    rw [e1, hx2, vp_cell_i, vp_cell_i, arrV_store]
    congr 2
    funext j
    simp only [wI, va_up_s, updV, upd]
    split <;> rfl
/-- a reference is stored: null, or an object of the array's class -/
theorem P_aastN {i : Int32} {r n t : Nat} {C : String} (hd : decode M.2.1 pc = .ok (.aastore, 1)) (hC : RT t C) (hl : h.1[r]? = some (t, n)) (hin : vp_in i n) (k : EW X M (pc + 1) ls rest (wR h r i.toNatClampNeg 0) Q) : EW X M pc ls (.ref 0 :: .int i :: .ref r :: rest) h Q :=
  k.lift fun _ _ => AW.wr (h2 := wR h r i.toNatClampNeg 0) rfl fun p e s m args below meth cd R Q F H locs cells slots la S L w => by
    have hr := exO_big S.1.2.2.2 hl hC.big.2
    have hat := S.1.at hl hr
    rw [ce_ref hC.big.1] at hat
    simp only [List.map_cons] at w ⊢
    rw [rv_big hr]
    refine va_WaastN (C := C) F.1 F.2.1 hat ((F.2.2.2.2.2.1.1.2 (t - 20) _ hC.ty).1 n (fun j => va_rf (rO X (h.2.2 r j)))) (fun q => by cases q) (by show ¬ (i < 0 ∨ (arrV _ _ _).slots.size ≤ _); rw [arrV_size]; exact hin) rfl rfl hd fun H1 e1 z oq => ?_
    refine w H1 _ ⟨S.1.up hl hr rfl (fun a ha => ⟨rfl, va_up_n _ _ ha⟩) z oq ?_, Sw.put S.2 hr z oq⟩
    rw [ce_ref hC.big.1]
    show H1[am X r]? = some (vp_cell _ _)
    rw [e1, vp_cell_q, vp_cell_q, arrV_store]
    congr 2
    funext j
    simp only [wR, va_up_s, updV]
    by_cases hj : j = i.toNatClampNeg
    · simp [hj, va_up_s, rO, va_rf]
    · simp [hj, va_up_n]
theorem P_aast {i : Int32} {r n t v c N : Nat} {C : String} {T : u_T} {N2 : Nat} {ty : Nat → FieldType} (hd : decode M.2.1 pc = .ok (.aastore, 1)) (hC : RT t C) (hl : h.1[r]? = some (t, n)) (hin : vp_in i n) (hv : h.1[v]? = some (c, N)) (hc : Cl c C T N2 ty) (k : EW X M (pc + 1) ls rest (wR h r i.toNatClampNeg v) Q) : EW X M pc ls (.ref v :: .int i :: .ref r :: rest) h Q :=
  k.lift fun _ _ => AW.wr (h2 := wR h r i.toNatClampNeg v) rfl fun p e s m args below meth cd R Q F H locs cells slots la S L w => by
    have hr := exO_big S.1.2.2.2 hl hC.big.2
    have hrv := exO_big S.1.2.2.2 hv (show c < 30 by have := hc.2.2.2.2.2; omega)
    have hat := S.1.at hl hr
    have hatv := S.1.at hv hrv
    rw [ce_ref hC.big.1] at hat
    rw [ce_obj hc.2.2.2.2.2] at hatv
    simp only [List.map_cons] at w ⊢
    rw [rv_big hr, rv_big hrv]
    have hK := F.2.2.2.2.2.1.1
    obtain ⟨r', hr', cellV, g1, g2, g3, -⟩ := hatv
    have hcls := (hK.1 c _ hc.1).2
    obtain ⟨kA, comp, k1, k2, k3, -⟩ := (hK.2 (t - 20) _ hC.ty).2
    have hcomp : comp = (xD X).1 c := Option.some.inj (k3.symm.trans hcls.1)
    subst hcomp
    obtain ⟨kC, hkC, -⟩ := hcls.2
    refine W.aast F.1 F.2.1 hat (fun q h => by cases h) (fun h => by cases h) k1 k2 rfl hkC ⟨fun q => hin (Or.inl q), by show _ < (arrV _ _ _).slots.size; rw [arrV_size]; exact vp_lt hin⟩ g1 (fun q h => by rw [g3] at h; cases h) (by rw [g2]; exact hkC) (by rw [g2]; exact va_assign hcls) rfl rfl hd fun H1 e1 z oq => ?_
    refine w H1 _ ⟨S.1.up hl hr rfl (fun a ha => ⟨rfl, va_up_n _ _ ha⟩) z oq ?_, Sw.put S.2 hr z oq⟩
    rw [ce_ref hC.big.1]
    show H1[am X r]? = some (vp_cell _ _)
    rw [e1, vp_cell_q, vp_cell_q, arrV_store]
    congr 2
    funext j
    simp only [wR, va_up_s, updV]
    by_cases hj : j = i.toNatClampNeg
    · have : v ≠ 0 := by omega
      simp [hj, va_up_s, rO, va_rf, this]
    · simp [hj, va_up_n]
/-! what comes -/
def nw (h : AH) (t n : Nat) : AH := (h.1 ++ [(t, n)], va_up h.2.1 h.1.length (fun _ => 0), va_up h.2.2 h.1.length (fun _ => 0))
theorem nw_row {t n : Nat} : ∀ a, a < h.1.length → (nw h t n).2.1 a = h.2.1 a ∧ (nw h t n).2.2 a = h.2.2 a := fun a ha => ⟨va_up_n _ _ (by omega), va_up_n _ _ (by omega)⟩
theorem P_newa {i : Int32} {at_ : ArrayType} {t n : Nat} (hd : decode M.2.1 pc = .ok (.newarray at_, 2)) (ha : (at_ = .int ∧ t = 20) ∨ (at_ = .boolean ∧ t = 21)) (hi : ¬ i < 0) (hn : i.toNatClampNeg = n) (hs : n < 65536) (k : EW X M (pc + 2) ls (.ref h.1.length :: rest) (nw h t n) Q) : EW X M pc ls (.int i :: rest) h Q :=
  k.lift fun _ _ => AW.mk (h2 := nw h t n) rfl fun p e s m args below meth cd R Q F H locs cells slots la hc1 hc2 S L w => by
    have hK := F.2.2.2.2.2.1.1
    have hk : (Cond.arrayClass (newarray.typeOf at_)).before args s = true := F.2.2.2.2.1 _ (tbG_of (by rcases ha with ⟨rfl, -⟩ | ⟨rfl, -⟩ <;> decide +kernel) rfl)
    refine va_newaK F.1 F.2.1 hk (g := F0 m pc la ((.int i :: rest).map (rv X))) rfl hd rfl hi hn (by rcases ha with ⟨rfl, -⟩ | ⟨rfl, -⟩ <;> (simp [newarray.typeOf, componentBytes]; omega)) hc1 hc2 rfl fun H1 cA e1 z oq hA hN => ?_
    have hN2 : cA = xA X t := by
      rcases ha with ⟨rfl, rfl⟩ | ⟨rfl, rfl⟩
      · have := (hK.2 0 _ rfl).2
        exact Option.some.inj (hN.symm.trans this)
      · have := (hK.2 1 _ rfl).2
        exact Option.some.inj (hN.symm.trans this)
    have hw := w H1 ⟨S.1.new rfl nw_row z oq ?_, Sw.grow S.2 z oq⟩
    · simp only [List.map_cons] at hw
      rw [rv_big S.1.2.2.1, S.1.new_at] at hw
      exact hw
    · rw [S.1.new_at]
      have e2 : ce X (nw h t n) h.1.length (t, n) = .inl (xA X t, n, .inl (fun _ => 0)) := by
        rcases ha with ⟨-, rfl⟩ | ⟨-, rfl⟩ <;> simp [ce, nw, va_up_s]
      rw [e2]
      show H1[H.size]? = some (vp_cell _ _)
      rw [e1, hN2, vp_cell_i]
      rcases ha with ⟨rfl, -⟩ | ⟨rfl, -⟩ <;> rfl
theorem P_anew {i : Int32} {t n idx : Nat} {C : String} (hd : decode M.2.1 pc = .ok (.anewarray idx, 3)) (hC : RT t C) (hlk : Cond.classLink M.1.cls idx C ∈ tbG) (hi : ¬ i < 0) (hn : i.toNatClampNeg = n) (hs : n < 65536) (k : EW X M (pc + 3) ls (.ref h.1.length :: rest) (nw h t n) Q) : EW X M pc ls (.int i :: rest) h Q :=
  k.lift fun _ _ => AW.mk (h2 := nw h t n) rfl fun p e s m args below meth cd R Q F H locs cells slots la hc1 hc2 S L w => by
    have hK := F.2.2.2.2.2.1.1
    have hAO : va_AO C s := by
      have := F.2.2.2.2.2.1.2.1
      rcases hC with ⟨-, rfl⟩ | ⟨-, rfl⟩ | ⟨-, rfl⟩
      · exact this.1
      · exact this.2.1
      · exact this.2.2
    subst hn
    refine W.anew F.1 F.2.1 F.2.2.2.1 (F.2.2.2.2.1 _ hlk) (va_AO.use hAO) (g := F0 m pc la ((.int i :: rest).map (rv X))) rfl hd rfl hi (by omega) hc1 hc2 fun cA kA comp f1 f2 f3 f4 => ?_
    have hN2 : cA = xA X t := by
      obtain ⟨_, _, _, _, _, hq⟩ := (hK.2 (t - 20) _ hC.ty).2
      exact Option.some.inj (f1.symm.trans hq)
    subst hN2
    have oq : ∀ x, x < H.size → (H.push { cls := xA X t, slots := Array.replicate i.toNatClampNeg .null, vm := .none })[x]? = H[x]? := fun q hq => by rw [Array.getElem?_push, if_neg (Nat.ne_of_lt hq)]
    have hw := w _ ⟨S.1.new (H1 := H.push { cls := xA X t, slots := Array.replicate i.toNatClampNeg .null, vm := .none }) rfl nw_row (by simp) oq ?_, Sw.grow S.2 (by simp) oq⟩
    · simp only [List.map_cons] at hw
      rw [rv_big S.1.2.2.1, S.1.new_at] at hw
      exact hw
    · rw [S.1.new_at, ce_ref hC.big.1]
      show _ = some (vp_cell _ _)
      rw [Array.getElem?_push_size, vp_cell_q, arrV_new]
      congr 2
      funext j
      simp [nw, va_up_s, rO, va_rf]
/-- a class that can be made: its number, its fields -/
def NL (own : String) (idx c n : Nat) : Prop := ∃ C T ty, Cl c C T n ty ∧ Cond.classLink own idx C ∈ tbG ∧ Cond.instantiable C n ∈ tbG ∧ Cond.initialized C ∈ tbG
theorem P_new {c n idx : Nat} (hd : decode M.2.1 pc = .ok (.new idx, 3)) (hN : NL M.1.cls idx c n) (k : EW X M (pc + 3) ls (.ref h.1.length :: rest) (nw h c n) Q) : EW X M pc ls rest h Q :=
  k.lift fun _ _ => AW.mk (h2 := nw h c n) rfl fun p e s m args below meth cd R Q F H locs cells slots la hc1 hc2 S L w => by
    obtain ⟨C, T, ty, ⟨hc, hin, hty, hnm, hrt, hc20⟩, h1, h2, h3⟩ := hN
    have hK := F.2.2.2.2.2.1.1
    have hts := F.2.2.2.2.1
    have hKn := hK.1 c _ hc
    refine W.newcK F.1 F.2.1 F.2.2.2.1 (hts _ h1) (hts _ h2) (hts _ h3) (g := F0 m pc la (rest.map (rv X))) rfl hd hc1 hc2 hKn.2.1 rfl fun H1 kC hkC e1 z oq => ?_
    have hw := w H1 ⟨S.1.new rfl nw_row z oq ?_, Sw.grow S.2 z oq⟩
    · simp only [List.map_cons] at hw
      rw [rv_big S.1.2.2.1, S.1.new_at] at hw
      exact hw
    · rw [S.1.new_at, ce_obj hc20]
      refine ⟨_, hc, (u_born ty hts hin hKn hkC e1 hty).to (fun j hj => ?_)⟩
      simp only [vp_V, List.getD_eq_getElem?_getD, fs_at (X := X) (h := nw h c n) (c := c) (r := h.1.length) hj, Option.getD_some]
      unfold fv
      cases hb : rf c j with
      | false => rw [(hrt j hj).1 hb]; simp [nw, va_up_s]; rfl
      | true =>
        have e3 : rv X (.ref ((nw h c n).2.2 h.1.length j)) = .null := by simp [nw, va_up_s, rv, rO, va_rf]
        simp only [if_true]
        rw [e3]
        rcases (hrt j hj).2 hb with ⟨_, q⟩ | ⟨_, q⟩ <;> rw [q] <;> rfl
theorem P_objInit {idx r : Nat} (hd : decode M.2.1 pc = .ok (.invokespecial idx, 3)) (hlk : Cond.methodLink M.1.cls idx Lib.objectInit ∈ tbG) (hr : r ≠ 0) (hm : 1 ≤ M.2.2.2.2) (hsum : (rest.map fun v => v.category).sum ≤ 8) (k : EW X M (pc + 3) ls rest h Q) : EW X M pc ls (.ref r :: rest) h Q :=
  k.lift fun _ _ => AW.go fun p e s m args below meth cd R Q F H locs cells slots la S L w => by
    have hts := F.2.2.2.2.1
    simp only [List.map_cons]
    rcases rv_ref X r with ⟨q, -⟩ | ⟨-, q⟩
    · exact absurd q hr
    rw [q]
    have hs2 : ((rest.map (rv X)).map fun v => v.category).sum ≤ 8 := by
      rw [List.map_map]
      have : ((fun v : Value => v.category) ∘ rv X) = fun v => v.category := funext fun v => rv_category X v
      rw [this]; exact hsum
    have hf := F.2.2.2.2.2.2.2
    exact W.objInit F.1 F.2.1 F.2.2.2.1 (hts _ hlk) (hts (.instanceMethod Lib.objectInit) (tbG_of (by decide +kernel) rfl)) (hts (.code Lib.objectInit ⟨#[0xb1]⟩ 1 none) (tbG_of (by decide +kernel) rfl)) (g := F0 m pc la (.ref (am X r) :: rest.map (rv X))) rfl (by rw [F.2.2.1]; exact L.1) rfl hd (by omega) (by show 2 * 0 + _ + 12 ≤ _; omega) w
theorem P_ldc {idx : Nat} (hd : decode M.2.1 pc = .ok (.ldc idx, 2)) (v : Int32) (hlk : Cond.constant M.1.cls idx v ∈ tbG) (k : EW X M (pc + 2) ls (.int v :: rest) h Q) : EW X M pc ls rest h Q :=
  k.lift fun _ _ => AW.go fun _ _ _ _ _ _ _ _ _ _ F _ _ _ _ _ _ _ w => lv_ldc F.1 F.2.1 F.2.2.2.1 (F.2.2.2.2.1 _ hlk) hd w
theorem P_ldcw {idx : Nat} (hd : decode M.2.1 pc = .ok (.ldc_w idx, 3)) (v : Int32) (hlk : Cond.constant M.1.cls idx v ∈ tbG) (k : EW X M (pc + 3) ls (.int v :: rest) h Q) : EW X M pc ls rest h Q :=
  k.lift fun _ _ => AW.go fun _ _ _ _ _ _ _ _ _ _ F _ _ _ _ _ _ _ w => lv_ldcw F.1 F.2.1 F.2.2.2.1 (F.2.2.2.2.1 _ hlk) hd w
theorem P_ldc2 {idx : Nat} (hd : decode M.2.1 pc = .ok (.ldc2_w idx, 3)) (v : Int64) (hlk : Cond.constantLong M.1.cls idx v ∈ tbG) (k : EW X M (pc + 3) ls (.long v :: rest) h Q) : EW X M pc ls rest h Q :=
  k.lift fun _ _ => AW.go fun _ _ _ _ _ _ _ _ _ _ F _ _ _ _ _ _ _ w => lv_ldc2 F.1 F.2.1 F.2.2.2.1 (F.2.2.2.2.1 _ hlk) hd w
/-- the script -/
theorem P_sald {i : Int32} {n : Nat} (hd : decode M.2.1 pc = .ok (.iaload, 1)) (hl : n = xL X) (hin : vp_in i n) (k : EW X M (pc + 1) ls (.int (xS X i.toNatClampNeg) :: rest) h Q) : EW X M pc ls (.int i :: .ref 1 :: rest) h Q :=
  k.lift fun _ _ => AW.go fun p e s m args below meth cd R Q F H locs cells slots la S L w => by
    have hX := F.2.2.2.2.2.1.2.2
    have hbA : ¬ xF X (xE X 1) := Nat.not_le.mpr hX.1.2
    have e1 : rv X (.ref 1) = .ref (xE X 1) := rfl
    simp only [List.map_cons] at w ⊢
    rw [e1]
    subst hl
    exact va_sld F.1 F.2.1 hX.1.1 (Nat.lt_of_lt_of_le hX.1.2 hX.2.1) hbA S.2 hin hd w
theorem P_salen (hd : decode M.2.1 pc = .ok (.arraylength, 1)) (k : EW X M (pc + 1) ls (.int (nI (xL X)) :: rest) h Q) : EW X M pc ls (.ref 1 :: rest) h Q :=
  k.lift fun _ _ => AW.go fun p e s m args below meth cd R Q F H locs cells slots la S L w => by
    have hX := F.2.2.2.2.2.1.2.2
    have hbA : ¬ xF X (xE X 1) := Nat.not_le.mpr hX.1.2
    have e1 : rv X (.ref 1) = .ref (xE X 1) := rfl
    simp only [List.map_cons] at w ⊢
    rw [e1]
    exact va_slen F.1 F.2.1 hX.1.1 (Nat.lt_of_lt_of_le hX.1.2 hX.2.1) hbA S.2 hd w
end Rules4
