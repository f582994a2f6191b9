/-- int arrays: a stretch is copied -/
def cpH (h : AH) (sr d : Nat) (sp dp n : Int32) : AH := (h.1, va_up h.2.1 d (va_cpy (h.2.1 sr) (h.2.1 d) sp.toNatClampNeg dp.toNatClampNeg n.toNatClampNeg), h.2.2)
section CopyRule
variable {X : CX} {M : MD} {pc : Nat} {ls rest : List Value} {h : AH} {Q : Option Value → AH → Prop}
theorem nn_clamp {z : Int32} (hz : ¬ z < 0) : z.toInt = (z.toNatClampNeg : Int) := by
  have hz0 : (0 : Int) ≤ z.toInt := by
    have := Int32.not_lt.mp hz
    simpa using Int32.le_iff_toInt_le.mp this
  show z.toInt = ((z.toInt.toNat : Nat) : Int)
  omega
theorem P_copy {idx sr d n0 n1 : Nat} {sp dp n : Int32} (hd : decode M.2.1 pc = .ok (.invokestatic idx, 3)) (hlk : Cond.methodLink M.1.cls idx arraycopyName ∈ tbG) (hm : 1 ≤ M.2.2.2.2) (hsum : (rest.map fun v => v.category).sum ≤ 8) (hl0 : h.1[sr]? = some (20, n0)) (hl1 : h.1[d]? = some (20, n1))
    (h1 : ¬ sp < 0) (h2 : ¬ dp < 0) (h3 : ¬ n < 0) (h4 : sp.toNatClampNeg + n.toNatClampNeg ≤ n0) (h5 : dp.toNatClampNeg + n.toNatClampNeg ≤ n1) (k : EW X M (pc + 3) ls rest (cpH h sr d sp dp n) Q) : EW X M pc ls (.int n :: .int dp :: .ref d :: .int sp :: .ref sr :: rest) h Q :=
  k.lift fun _ _ => AW.wr (h2 := cpH h sr d sp dp n) rfl fun p e s m args below meth cd R Q F H locs cells slots la S L w => by
    have hts := F.2.2.2.2.1
    have hK := F.2.2.2.2.2.1.1
    have hr0 := exO_big S.1.2.2.2 hl0 (show (20 : Nat) < 30 by decide)
    have hr1 := exO_big S.1.2.2.2 hl1 (show (20 : Nat) < 30 by decide)
    have hat0 := S.1.at hl0 hr0
    have hat1 := S.1.at hl1 hr1
    rw [ce_int] at hat0 hat1
    have hc0 : H[am X sr]? = some (vp_cell (xA X 20) (n0, .inl (h.2.1 sr))) := hat0
    have hc1 : H[am X d]? = some (vp_cell (xA X 20) (n1, .inl (h.2.1 d))) := hat1
    simp only [List.map_cons]
    rw [rv_big hr0, rv_big hr1]
    have hf := F.2.2.2.2.2.2.2
    have hsum2 := sum_rv X rest
    intro T hT Y
    obtain ⟨-, k0, hk0, cm0, hkk0⟩ := (hK.2 0 _ rfl).1 n0 (fun j => .int (h.2.1 sr j))
    obtain ⟨-, k1, hk1, cm1, hkk1⟩ := (hK.2 0 _ rfl).1 n1 (fun j => .int (h.2.1 d j))
    obtain ⟨vm', Y', step⟩ := Y.arraycopy F.1 F.2.2.2.1 (hts _ hlk) (hts (.native arraycopyName) (tbG_of (by decide +kernel) rfl)) (hts (.static arraycopyName) (tbG_of (by decide +kernel) rfl)) (hts (.initialized "java/lang/System") (tbG_of (by decide +kernel) rfl)) (src := am X sr) (dst := am X d) (cs := vp_cell (xA X 20) (n0, .inl (h.2.1 sr))) (cd := vp_cell (xA X 20) (n1, .inl (h.2.1 d))) (srcPos := sp) (destPos := dp) (n := n) (by rw [hT]; exact hc0) (by rw [hT]; exact hc1)
      (fun _ h => by cases h) (fun _ h => by cases h) (fun h => by cases h) (fun h => by cases h) hk0 hk1 hkk0 hkk1 (by simp [show refKind .int = false from rfl]) h1 h2 h3
      (by rw [nn_clamp h1, nn_clamp h3]; show ¬ _ > ((arrV _ n0 (fun j => .int (h.2.1 sr j))).slots.size : Int); rw [arrV_size]; omega)
      (by rw [nn_clamp h2, nn_clamp h3]; show ¬ _ > ((arrV _ n1 (fun j => .int (h.2.1 d j))).slots.size : Int); rw [arrV_size]; omega)
      (fun vm₁ _ i hi => by
        have e : (vp_cell (xA X 20) (n0, .inl (h.2.1 sr))).slots.getD (sp.toNatClampNeg + i) .null = .int (h.2.1 sr (sp.toNatClampNeg + i)) := by
          show (arrV _ n0 (fun j => .int (h.2.1 sr j))).slots.getD _ _ = _
          rw [Array.getD_eq_getD_getElem?, arrV_read _ _ (by omega)]
          rfl
        refine ⟨?_, ?_⟩
        · rw [e]; rfl
        · rw [e]; exact trivial)
      (g := F0 m pc la (.int n :: .int dp :: .ref (am X d) :: .int sp :: .ref (am X sr) :: rest.map (rv X))) rfl (by rw [F.2.2.1]; exact L.1) (rest := rest.map (rv X)) rfl (by rw [F.2.1]; exact hd) (by omega) (by show 2 * 0 + _ + (7 + 11) ≤ _; omega)
    have e1 : copied (vp_cell (xA X 20) (n0, .inl (h.2.1 sr))) (vp_cell (xA X 20) (n1, .inl (h.2.1 d))) sp dp n = vp_cell (xA X 20) (n1, .inl (va_cpy (h.2.1 sr) (h.2.1 d) sp.toNatClampNeg dp.toNatClampNeg n.toNatClampNeg)) := va_copied (fun z => .int z) _ _ (h.2.1 sr) (h.2.1 d) h4
    rw [e1] at Y' step
    generalize hcell : vp_cell (xA X 20) (n1, .inl (va_cpy (h.2.1 sr) (h.2.1 d) sp.toNatClampNeg dp.toNatClampNeg n.toNatClampNeg)) = cell2 at Y' step
    have hl : am X d < H.size := (Array.getElem?_eq_some_iff.mp hc1).1
    have hheap : ((T.setVm vm').setCell (am X d) cell2).heap = H.setIfInBounds (am X d) cell2 := by rw [← hT]; rfl
    have oq : ∀ q : Nat, q ≠ am X d → (H.setIfInBounds (am X d) cell2)[q]? = H[q]? := fun q hq => by simp [Array.getElem?_setIfInBounds, Ne.symm hq]
    obtain ⟨t, a1, b1⟩ := w (H.setIfInBounds (am X d) cell2) _ ⟨S.1.up hl1 hr1 rfl (fun a ha => ⟨va_up_n _ _ ha, rfl⟩) (by simp) oq (by
        rw [ce_int]
        show _ = some (vp_cell _ _)
        have e2 : (cpH h sr d sp dp n).2.1 d = va_cpy (h.2.1 sr) (h.2.1 d) sp.toNatClampNeg dp.toNatClampNeg n.toNatClampNeg := va_up_s _ _ _
        rw [e2, hcell]
        simp [Array.getElem?_setIfInBounds, hl]), ⟨by simp; exact S.2.1, fun q g1 g2 => by
        rw [oq q (fun e => g2 (by rw [e]; show xN X ≤ am X d; rw [am_big hr1]; omega))]
        exact S.2.2.1 q g1 g2, fun q hq => by
        rcases List.mem_append.mp hq with h | h
        · exact S.2.2.2 q h
        · obtain ⟨z, -, hz⟩ := List.mem_map.mp h
          rw [← hz]
          show xN X ≤ am X d
          rw [am_big hr1]; omega⟩⟩ _ hheap Y'
    exact ⟨t, step t a1, b1⟩
theorem P_mmax {idx : Nat} {x y : Int32} (hd : decode M.2.1 pc = .ok (.invokestatic idx, 3)) (hlk : Cond.methodLink M.1.cls idx Lib.Math.max.name ∈ tbG) (hm : 1 ≤ M.2.2.2.2) (hsum : (rest.map fun v => v.category).sum ≤ 8) (k : EW X M (pc + 3) ls (.int (if x < y then y else x) :: rest) h Q) : EW X M pc ls (.int y :: .int x :: rest) h Q := by
  refine k.lift fun r h' kk => ⟨kk.1, fun p e s m args below meth c R Q mc ms F hR hf H locs cells slots la hc hS hl => ?_⟩
  have hts := F.2.2.2.2.1
  have hff := F.2.2.2.2.2.2.2
  have hsum2 := sum_rv X rest
  have k1 := kk.1
  exact va_mmax F.1 F.2.1 (by rw [F.2.2.1]; exact hl.1.symm) F.2.2.2.1 (hts _ hlk) (hts (.static Lib.Math.max.name) (tbG_of (by decide +kernel) rfl)) (hts (.initialized "java/lang/Math") (tbG_of (by decide +kernel) rfl)) (hts (.code Lib.Math.max.name Lib.Math.max.code 2 (some .int)) (tbG_of (by decide +kernel) rfl)) (by omega) (by omega) (by omega) (by omega) hd (kk.2 p e s m args below meth c R Q mc ms F hR hf H locs cells slots la hc hS hl)
theorem P_mmin {idx : Nat} {x y : Int32} (hd : decode M.2.1 pc = .ok (.invokestatic idx, 3)) (hlk : Cond.methodLink M.1.cls idx Lib.Math.min.name ∈ tbG) (hm : 1 ≤ M.2.2.2.2) (hsum : (rest.map fun v => v.category).sum ≤ 8) (k : EW X M (pc + 3) ls (.int (if y < x then y else x) :: rest) h Q) : EW X M pc ls (.int y :: .int x :: rest) h Q := by
  refine k.lift fun r h' kk => ⟨kk.1, fun p e s m args below meth c R Q mc ms F hR hf H locs cells slots la hc hS hl => ?_⟩
  have hts := F.2.2.2.2.1
  have hff := F.2.2.2.2.2.2.2
  have hsum2 := sum_rv X rest
  have k1 := kk.1
  exact va_mmin F.1 F.2.1 (by rw [F.2.2.1]; exact hl.1.symm) F.2.2.2.1 (hts _ hlk) (hts (.static Lib.Math.min.name) (tbG_of (by decide +kernel) rfl)) (hts (.initialized "java/lang/Math") (tbG_of (by decide +kernel) rfl)) (hts (.code Lib.Math.min.name Lib.Math.min.code 2 (some .int)) (tbG_of (by decide +kernel) rfl)) (by omega) (by omega) (by omega) (by omega) hd (kk.2 p e s m args below meth c R Q mc ms F hR hf H locs cells slots la hc hS hl)
end CopyRule
/-! the classes by number -/
theorem cl_Pn : Cl 0 R_Pn F_Pn 10 t_Pn := by
  refine ⟨rfl, u_ws_good i_Pn, t_Pn_ok, n_Pn, fun f hf => ?_, by decide⟩
  have hz : ∀ f, f < 10 → (rf 0 f = false → t_Pn f = .int) ∧ (rf 0 f = true → (match t_Pn f with | .object _ => true | .array _ => true | _ => false) = true) := by decide +kernel
  refine ⟨(hz f hf).1, fun q => ?_⟩
  have := (hz f hf).2 q
  split at this
  · exact Or.inl ⟨_, by assumption⟩
  · exact Or.inr ⟨_, by assumption⟩
  · cases this
theorem cl_Tl : Cl 1 R_Tl F_Tl 10 t_Tl := by
  refine ⟨rfl, u_ws_good i_Tl, t_Tl_ok, n_Tl, fun f hf => ?_, by decide⟩
  have hz : ∀ f, f < 10 → (rf 1 f = false → t_Tl f = .int) ∧ (rf 1 f = true → (match t_Tl f with | .object _ => true | .array _ => true | _ => false) = true) := by decide +kernel
  refine ⟨(hz f hf).1, fun q => ?_⟩
  have := (hz f hf).2 q
  split at this
  · exact Or.inl ⟨_, by assumption⟩
  · exact Or.inr ⟨_, by assumption⟩
  · cases this
theorem cl_Rd : Cl 2 R_Rd F_Rd 6 t_Rd := by
  refine ⟨rfl, u_ws_good i_Rd, t_Rd_ok, n_Rd, fun f hf => ?_, by decide⟩
  have hz : ∀ f, f < 6 → (rf 2 f = false → t_Rd f = .int) ∧ (rf 2 f = true → (match t_Rd f with | .object _ => true | .array _ => true | _ => false) = true) := by decide +kernel
  refine ⟨(hz f hf).1, fun q => ?_⟩
  have := (hz f hf).2 q
  split at this
  · exact Or.inl ⟨_, by assumption⟩
  · exact Or.inr ⟨_, by assumption⟩
  · cases this
theorem cl_St : Cl 3 R_St F_St 8 t_St := by
  refine ⟨rfl, u_ws_good i_St, t_St_ok, n_St, fun f hf => ?_, by decide⟩
  have hz : ∀ f, f < 8 → (rf 3 f = false → t_St f = .int) ∧ (rf 3 f = true → (match t_St f with | .object _ => true | .array _ => true | _ => false) = true) := by decide +kernel
  refine ⟨(hz f hf).1, fun q => ?_⟩
  have := (hz f hf).2 q
  split at this
  · exact Or.inl ⟨_, by assumption⟩
  · exact Or.inr ⟨_, by assumption⟩
  · cases this
theorem cl_Ps : Cl 4 R_Ps F_Ps 3 t_Ps := by
  refine ⟨rfl, u_ws_good i_Ps, t_Ps_ok, n_Ps, fun f hf => ?_, by decide⟩
  have hz : ∀ f, f < 3 → (rf 4 f = false → t_Ps f = .int) ∧ (rf 4 f = true → (match t_Ps f with | .object _ => true | .array _ => true | _ => false) = true) := by decide +kernel
  refine ⟨(hz f hf).1, fun q => ?_⟩
  have := (hz f hf).2 q
  split at this
  · exact Or.inl ⟨_, by assumption⟩
  · exact Or.inr ⟨_, by assumption⟩
  · cases this
theorem cl_Fo : Cl 5 R_Fo F_Fo 7 t_Fo := by
  refine ⟨rfl, u_ws_good i_Fo, t_Fo_ok, n_Fo, fun f hf => ?_, by decide⟩
  have hz : ∀ f, f < 7 → (rf 5 f = false → t_Fo f = .int) ∧ (rf 5 f = true → (match t_Fo f with | .object _ => true | .array _ => true | _ => false) = true) := by decide +kernel
  refine ⟨(hz f hf).1, fun q => ?_⟩
  have := (hz f hf).2 q
  split at this
  · exact Or.inl ⟨_, by assumption⟩
  · exact Or.inr ⟨_, by assumption⟩
  · cases this
theorem cl_Sg : Cl 6 R_Sg F_Sg 4 t_Sg := by
  refine ⟨rfl, u_ws_good i_Sg, t_Sg_ok, n_Sg, fun f hf => ?_, by decide⟩
  have hz : ∀ f, f < 4 → (rf 6 f = false → t_Sg f = .int) ∧ (rf 6 f = true → (match t_Sg f with | .object _ => true | .array _ => true | _ => false) = true) := by decide +kernel
  refine ⟨(hz f hf).1, fun q => ?_⟩
  have := (hz f hf).2 q
  split at this
  · exact Or.inl ⟨_, by assumption⟩
  · exact Or.inr ⟨_, by assumption⟩
  · cases this
theorem cl_Sh : Cl 7 R_Sh F_Sh 1 t_Sh := by
  refine ⟨rfl, u_ws_good i_Sh, t_Sh_ok, n_Sh, fun f hf => ?_, by decide⟩
  have hz : ∀ f, f < 1 → (rf 7 f = false → t_Sh f = .int) ∧ (rf 7 f = true → (match t_Sh f with | .object _ => true | .array _ => true | _ => false) = true) := by decide +kernel
  refine ⟨(hz f hf).1, fun q => ?_⟩
  have := (hz f hf).2 q
  split at this
  · exact Or.inl ⟨_, by assumption⟩
  · exact Or.inr ⟨_, by assumption⟩
  · cases this
theorem cl_Rg : Cl 8 R_Rg F_Rg 1 t_Rg := by
  refine ⟨rfl, u_ws_good i_Rg, t_Rg_ok, n_Rg, fun f hf => ?_, by decide⟩
  have hz : ∀ f, f < 1 → (rf 8 f = false → t_Rg f = .int) ∧ (rf 8 f = true → (match t_Rg f with | .object _ => true | .array _ => true | _ => false) = true) := by decide +kernel
  refine ⟨(hz f hf).1, fun q => ?_⟩
  have := (hz f hf).2 q
  split at this
  · exact Or.inl ⟨_, by assumption⟩
  · exact Or.inr ⟨_, by assumption⟩
  · cases this
theorem cl_Pg : Cl 9 R_Pg F_Pg 2 t_Pg := by
  refine ⟨rfl, u_ws_good i_Pg, t_Pg_ok, n_Pg, fun f hf => ?_, by decide⟩
  have hz : ∀ f, f < 2 → (rf 9 f = false → t_Pg f = .int) ∧ (rf 9 f = true → (match t_Pg f with | .object _ => true | .array _ => true | _ => false) = true) := by decide +kernel
  refine ⟨(hz f hf).1, fun q => ?_⟩
  have := (hz f hf).2 q
  split at this
  · exact Or.inl ⟨_, by assumption⟩
  · exact Or.inr ⟨_, by assumption⟩
  · cases this
theorem cl_Md : Cl 10 R_Md F_Md 45 t_Md := by
  refine ⟨rfl, u_ws_good i_Md, t_Md_ok, n_Md, fun f hf => ?_, by decide⟩
  have hz : ∀ f, f < 45 → (rf 10 f = false → t_Md f = .int) ∧ (rf 10 f = true → (match t_Md f with | .object _ => true | .array _ => true | _ => false) = true) := by decide +kernel
  refine ⟨(hz f hf).1, fun q => ?_⟩
  have := (hz f hf).2 q
  split at this
  · exact Or.inl ⟨_, by assumption⟩
  · exact Or.inr ⟨_, by assumption⟩
  · cases this
