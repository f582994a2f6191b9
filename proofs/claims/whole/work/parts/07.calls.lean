section Moves
variable {X : CX} {s U : State}
theorem Kw.to (h : Kw X s) (hW : s.WarmedH U.vm) (hz : s.heap.size ≤ U.heap.size) (hq : ∀ q : Nat, q < s.heap.size → ¬ xF X q → U.heap[q]? = s.heap[q]?) : Kw X U := by
  obtain ⟨h1, ⟨h2, h3, h4⟩, ⟨h5, h6⟩, h7, ⟨h8, h9⟩, ⟨h10, h11⟩, h12⟩ := h
  refine ⟨h1.moved hW.alike, ⟨h2.moved hW.alike, h3.moved hW.alike, h4.moved hW.alike⟩, ⟨(h5.moved hW.alike).kept (hq _ (by omega) (Nat.not_le.mpr h6)), h6⟩, by omega, ⟨(h8.moved hW.alike).kept hq, fun q hq => (h9 q hq).warm hW⟩, ⟨(h10.moved hW.alike).kept hq, (h11.moved hW.alike).kept hq⟩, fun q hq => (h12 q hq).warmM hW⟩
theorem Kw.blind (h : Kw X U) (g : JFrame) (mk : MethodId) (a : Array Value) : Kw X (U.calling g mk a) := by
  obtain ⟨h1, ⟨h2, h3, h4⟩, ⟨h5, h6⟩, h7, ⟨h8, h9⟩, ⟨h10, h11⟩, h12⟩ := h
  have hv : U.vm.Alike (U.calling g mk a).vm := Vm.Alike.refl U.vm
  exact ⟨h1.moved hv, ⟨h2.moved hv, h3.moved hv, h4.moved hv⟩, ⟨h5.moved hv, h6⟩, h7, ⟨h8.moved hv, fun q hq => (h9 q hq).same rfl⟩, ⟨h10.moved hv, h11.moved hv⟩, fun q hq => (h12 q hq).same rfl rfl⟩
end Moves
/-! a method's contract out of its walk -/
def wsM (M : MD) : List Cond := .code M.1 M.2.1 M.2.2.1 M.2.2.2.1 :: tbG
def rmM (M : MD) (mc ms : Nat) : Room := { frames := M.2.2.2.2, cells := mc, slots := ms, locals := 34 * M.2.2.2.2 }
def PcM (X : CX) (as : List Value) (h : AH) : Array Value → State → Prop := va_Pc (as.map (rv X)) (fun U => Wd X h U.heap ∧ Kw X U)
def QcM (X : CX) (r : Option Value) (h' : AH) : Array Value → State → Outcome → State → Prop := fun _ st o t => o = .returned (r.map (rv X)) ∧ Wd X h' t.heap ∧ va_F (xF X) st t
def MOk (M : MD) : Prop := plainName M.1.cls = true ∧ Cond.code M.1 M.2.1 M.2.2.1 M.2.2.2.1 ∈ tbG ∧ Cond.initialized M.1.cls ∈ tbG ∧ M.1.cls ≠ "java/lang/invoke/MethodHandle" ∧ M.1.cls ≠ "java/lang/invoke/VarHandle" ∧ M.2.2.1 ≤ 15
def enX (as : List Value) : List Value := as.flatMap fun v => if v.category = 2 then [v, jk] else [v]
def enL (n : Nat) (as : List Value) : List Value := enX as ++ List.replicate (n - (enX as).length) jk
theorem enX_len (X : CX) : ∀ as : List Value, (lg_sl (as.map (rv X))).length = (enX as).length
  | [] => rfl
  | v :: as => by
    have ih := enX_len X as
    unfold lg_sl enX at *
    simp only [List.map_cons, List.flatMap_cons, List.length_append, ih, rv_category]
    split <;> rfl
theorem enX_at (X : CX) : ∀ (as : List Value) (o i : Nat) (v : Value), (enX as)[i]? = some v → rl v = true → (o + i, rv X v) ∈ lv_args o (as.map (rv X))
  | [], _, _, _, h, _ => by simp [enX] at h
  | a :: as, o, i, v, h, hr => by
    have ih := enX_at X as
    simp only [List.map_cons, lv_args, rv_category]
    simp only [enX, List.flatMap_cons] at h
    by_cases hc : a.category = 2
    · rw [if_pos hc] at h ⊢
      match i, h with
      | 0, h => simp at h; subst h; exact List.mem_cons_self
      | 1, h => simp at h; subst h; simp [rl] at hr
      | i + 2, h =>
        have h2 : (enX as)[i]? = some v := by simpa [enX] using h
        have := ih (o + 2) i v h2 hr
        rw [show o + (i + 2) = o + 2 + i by omega]
        exact List.mem_cons_of_mem _ this
    · rw [if_neg hc] at h ⊢
      match i, h with
      | 0, h => simp at h; subst h; exact List.mem_cons_self
      | i + 1, h =>
        have h2 : (enX as)[i]? = some v := by simpa [enX] using h
        have := ih (o + 1) i v h2 hr
        rw [show o + (i + 1) = o + 1 + i by omega]
        exact List.mem_cons_of_mem _ this
theorem LR.entry {X : CX} {n : Nat} {as : List Value} (hn : (enX as).length ≤ n) : LR X n (enL n as) ((lg_sl (as.map (rv X)) ++ List.replicate (n - (lg_sl (as.map (rv X))).length) Slot.unset).toArray) := by
  have hl := lv_entry (as.map (rv X)) (n := n) (by rw [enX_len]; exact hn)
  refine ⟨hl.1, by simp [enL]; omega, hl.2.1, fun i v hi hr => ?_⟩
  unfold enL at hi
  by_cases hlt : i < (enX as).length
  · rw [List.getElem?_append_left hlt] at hi
    have := enX_at X as 0 i v hi hr
    rw [Nat.zero_add] at this
    exact hl.2.2 _ this
  · rw [List.getElem?_append_right (by omega)] at hi
    have := List.mem_of_getElem? hi
    rw [List.mem_replicate] at this
    rw [this.2] at hr
    simp [rl] at hr
theorem AW.met {X : CX} {M : MD} {as : List Value} {h h' : AH} {r : Option Value} (hM : MOk M) (hlen : (enX as).length ≤ M.2.2.1) (k : AW X M 0 (enL M.2.2.1 as) [] h r h') :
    Met (xl X) M.1 (wsM M) (rmM M (h'.1.length - h.1.length) (sz h' - sz h)) (PcM X as h) (QcM X r h') (h'.1.length - h.1.length) (sz h' - sz h) (xF X) := by
  refine Met.ofW (cc := M.2.1) (maxL := M.2.2.1) (ret := M.2.2.2.1) hM.1 rfl ?_
  intro p e s m args below meth c s₁ B hml hv
  obtain ⟨rfl, hWd, hKw⟩ := hv
  have hr := B.returns
  have hlocks := B.notSynchronized
  have F : Fr X M p s m ((as.map (rv X)).toArray) meth c (headSpec (wsM M) (rmM M (h'.1.length - h.1.length) (sz h' - sz h))).room :=
    ⟨B.exec, B.bytes, hml, findClass_of_methodNamed B.named, fun w hw => atoms_spec (ws := wsM M) B.pre w (List.mem_cons_of_mem _ hw), hKw, (name_of_methodNamed B.named B.method).1, Nat.le_refl _, Nat.le_refl _⟩
  rw [lg_entry_eq]
  refine k.2 p e s m _ below meth c _ _ (h'.1.length - h.1.length) (sz h' - sz h) F ⟨Nat.le_refl _, Nat.le_refl _⟩ ?_ s.heap [] 0 0 _ (by have := k.1; omega) ⟨hWd, va_S.rf⟩ (LR.entry hlen)
  intro pc' st' la' H' locs' hret hS'
  rcases hret with ⟨v, ty, hd, rfl, rfl, ht, hn⟩ | ⟨v, hd, rfl, rfl, ht⟩ | ⟨a, n, hd, rfl, rfl, ht⟩ | ⟨hd, rfl, rfl, ht⟩
  · exact W.zret B.exec B.bytes (hr.trans ht) hn (fun t ht2 hW => ⟨rfl, by rw [ht2]; exact hS'.1, hS'.2.F ht2⟩) hS'.2.2.2 hd
  · exact W.lret B.exec B.bytes (hr.trans ht) (fun t ht2 hW => ⟨rfl, by rw [ht2]; exact hS'.1, hS'.2.F ht2⟩) hS'.2.2.2 hd
  · exact W.aret B.exec B.bytes (hr.trans ht) (Or.inl ⟨n, rfl⟩) (by rcases rv_ref X a with ⟨-, q⟩ | ⟨-, q⟩ <;> rw [q]; exact Or.inl rfl; exact Or.inr ⟨_, rfl⟩) (fun t ht2 hW => ⟨rfl, by rw [ht2]; exact hS'.1, hS'.2.F ht2⟩) hS'.2.2.2 hd
  · exact W.vret B.exec B.bytes (hr.trans ht) (fun t ht2 hW => ⟨rfl, by rw [ht2]; exact hS'.1, hS'.2.F ht2⟩) hS'.2.2.2 hd
/-- behind a call -/
theorem run_go {X : CX} {h1 : AH} {r : Option Value} {p : Program} {e : Env} {R : Room} {s : State} {m : MethodId} {args : Array Value} {below : List Frame} {meth : Method} {c : Code} {H : Heap} {locs : List Loc} {cells slots mc ms pc : Nat} {Q : State → Prop} {la : Array Slot} {st0 rest : List Value} {aa : Array Value}
    (hr : va_Run p (xl X) e R s m args below meth c H locs cells slots mc ms (F0 m pc la st0) rest (QcM X r h1 aa) (xF X)) (S : va_S (xF X) s.heap H locs)
    (kk : ∀ (H1 : Heap) (locs1 : List Loc), Sw X h1 s H1 locs1 → W p (xl X) e R s m args below meth c H1 locs1 (cells + mc) (slots + ms) Q (F0 m (pc + 3) la ((r.map (rv X)).toList ++ rest))) : W p (xl X) e R s m args below meth c H locs cells slots Q (F0 m pc la st0) := by
  intro T hT Y
  obtain ⟨v, st₀, t, T', L, h0, Y', hL, e1, e2, ⟨hv, hwd, hF⟩, st⟩ := hr T hT Y
  have hv2 : v = r.map (rv X) := Outcome.returned.inj hv
  subst hv2
  obtain ⟨hz, hk⟩ := hF
  rw [h0] at hz hk
  obtain ⟨t2, a1, b1⟩ := kk T'.heap (locs ++ L) ⟨by rw [e1]; exact hwd, by rw [e1]; exact Nat.le_trans S.1 hz, fun q g1 g2 => by rw [e1, hk q (Nat.lt_of_lt_of_le g1 S.1) g2]; exact S.2.1 q g1 g2, fun q hq => by
      rcases List.mem_append.mp hq with h | h
      · exact S.2.2 q h
      · exact hL q h⟩ T' rfl Y'
  exact ⟨t2, st t2 a1, b1⟩
theorem tbG_in {M : MD} (hM : MOk M) : GoodIn tbG (wsM M) := fun w hw => by
  rcases List.mem_cons.mp hw with rfl | hw
  · exact ⟨hM.2.1, tbG_good hM.2.1⟩
  · exact ⟨hw, tbG_good hw⟩
theorem sum_rv (X : CX) (rest : List Value) : (((rest.map (rv X)).map fun v => v.category).sum) = (rest.map fun v => v.category).sum := by
  rw [List.map_map]
  congr 1
  exact List.map_congr_left fun v _ => rv_category X v
theorem Pc_blind {X : CX} {as : List Value} {h : AH} : FrameBlind (PcM X as h) := fun a U g mk q => ⟨q.1, q.2.1, q.2.2.blind g mk a⟩
theorem Pc_here {X : CX} {as : List Value} {h : AH} {s : State} {H : Heap} {locs : List Loc} (hK : Kw X s) (S : Sw X h s H locs) : ∀ U : State, U.heap = H → s.WarmedH U.vm → PcM X as h (as.map (rv X)).toArray U :=
  fun U hU hW => ⟨rfl, by rw [hU]; exact S.1, hK.to hW (by rw [hU]; exact S.2.1) (fun q h1 h2 => by rw [hU]; exact S.2.2.1 q h1 h2)⟩
/-! links of calls -/
def CS (own : String) (idx : Nat) (M : MD) (np : Nat) : Prop := MOk M ∧ (Cond.methodLink own idx M.1 ∈ tbG ∨ (own, idx, M.1) ∈ nestL) ∧ Cond.static M.1 ∈ tbG ∧ (parseMethodDescriptor M.1.desc).map (fun d => d.parameters.length) = some np
def CV (own : String) (idx : Nat) (M : MD) (np c : Nat) : Prop := MOk M ∧ Cond.methodLink own idx M.1 ∈ tbG ∧ Cond.instanceMethod M.1 ∈ tbG ∧ Cond.selects M.1.cls M.1 M.1 ∈ tbG ∧ (parseMethodDescriptor M.1.desc).map (fun d => d.parameters.length) = some np ∧ ∃ T N ty, Cl c M.1.cls T N ty
def CI (own : String) (idx : Nat) (M : MD) (np : Nat) : Prop := MOk M ∧ (Cond.methodLink own idx M.1 ∈ tbG ∨ (own, idx, M.1) ∈ nestL) ∧ Cond.instanceMethod M.1 ∈ tbG ∧ M.1.name = "<init>" ∧ (parseMethodDescriptor M.1.desc).map (fun d => d.parameters.length) = some np ∧ M.2.2.2.1 = none
theorem np_of {d : String} {n : Nat} (h : (parseMethodDescriptor d).map (fun d => d.parameters.length) = some n) : ∀ sig, parseMethodDescriptor d = some sig → n = sig.parameters.length := fun sig hs => by
  rw [hs] at h
  exact (Option.some.inj h).symm
theorem AW.call {X : CX} {M M2 : MD} {pc : Nat} {ls st rest as : List Value} {h h1 : AH} {r r1 : Option Value} {h' : AH} (hM : MOk M2) (hlen : (enX as).length ≤ M2.2.2.1) (hdep : M2.2.2.2.2 + 1 ≤ M.2.2.2.2)
    (hgo : ∀ (p : Program) (e : Env) (s : State) (m : MethodId) (args : Array Value) (below : List Frame) (meth : Method) (c : Code) (R : Room), Fr X M p s m args meth c R → ∀ (H : Heap) (locs : List Loc) (cells slots : Nat) (la : Array Slot), Sw X h s H locs → LR X M.2.2.1 ls la →
      ∀ mc ms, Met (xl X) M2.1 (wsM M2) (rmM M2 mc ms) (PcM X as h) (QcM X r1 h1) mc ms (xF X) → (rmM M2 mc ms).frames + 1 ≤ R.frames ∧ 8 + (M2.2.2.1 + 11) + (rmM M2 mc ms).locals ≤ R.locals → cells + mc ≤ R.cells ∧ slots + ms ≤ R.slots → ∃ aa, va_Run p (xl X) e R s m args below meth c H locs cells slots mc ms (F0 m pc la (st.map (rv X))) (rest.map (rv X)) (QcM X r1 h1 aa) (xF X))
    (k1 : AW X M2 0 (enL M2.2.2.1 as) [] h r1 h1) (k : AW X M (pc + 3) ls (r1.toList ++ rest) h1 r h') : AW X M pc ls st h r h' := by
  have g1 := k1.1
  have g2 := k.1
  refine ⟨⟨by omega, by omega⟩, fun p e s m args below meth c R Q mc ms F hR hf H locs cells slots la hc hS hl => ?_⟩
  have hf8 := F.2.2.2.2.2.2.2
  have hm15 := hM.2.2.2.2.2
  obtain ⟨aa, hrun⟩ := hgo p e s m args below meth c R F H locs cells slots la hS hl _ _ (k1.met hM hlen) ⟨by show M2.2.2.2.2 + 1 ≤ _; omega, by show 8 + _ + 34 * M2.2.2.2.2 ≤ _; omega⟩ ⟨by omega, by omega⟩
  refine run_go hrun hS.2 (fun H1 locs1 hS1 => ?_)
  have e1 : (r1.map (rv X)).toList ++ rest.map (rv X) = (r1.toList ++ rest).map (rv X) := by cases r1 <;> simp
  rw [e1]
  exact k.2 p e s m args below meth c R Q mc ms F hR hf H1 locs1 _ _ la (by omega) hS1 hl
section CallRules
variable {X : CX} {M M2 : MD} {pc : Nat} {ls rest : List Value} {h : AH} {Q : Option Value → AH → Prop}
theorem P_callS {idx np : Nat} (as : List Value) (hd : decode M.2.1 pc = .ok (.invokestatic idx, 3)) (hL : CS M.1.cls idx M2 np) (hn : as.length = np) (hlen : (enX as).length ≤ M2.2.2.1) (hdep : M2.2.2.2.2 + 1 ≤ M.2.2.2.2) (hsum : (rest.map fun v => v.category).sum ≤ 8)
    (k : EW X M2 0 (enL M2.2.2.1 as) [] h (fun r h1 => EW X M (pc + 3) ls (r.toList ++ rest) h1 Q)) : EW X M pc ls (as.reverse ++ rest) h Q := by
  obtain ⟨r1, h1, ⟨r, h', q, w⟩, w1⟩ := k
  obtain ⟨hM, hlk, hst, hnp⟩ := hL
  refine ⟨r, h', q, AW.call hM hlen hdep ?_ w1 w⟩
  intro p e s m args below meth c R F H locs cells slots la S L mc ms hMet hR hcs
  have hts := F.2.2.2.2.1
  refine ⟨(as.map (rv X)).toArray, ?_⟩
  rcases hlk with hlk | hlk
  · exact va_runS (As := as.map (rv X)) ⟨F.1, F.2.1, F.2.2.1, F.2.2.2.1, hts⟩ hMet ⟨callB_of np hts (tbG_in hM) rfl rfl rfl (hts _ hM.2.2.1) (hts _ hlk) ⟨hM.2.2.2.1, hM.2.2.2.2.1, hnp⟩ hR, hts _ hst⟩ ⟨Pc_blind, Pc_here F.2.2.2.2.2.1 S⟩ rfl (by simp [hn]) L.1 (by simp) (lv_room (by rw [sum_rv]; exact hsum)) hd hcs
  · exact va_runSN (As := as.map (rv X)) ⟨F.1, F.2.1, F.2.2.1, F.2.2.2.1, hts⟩ hMet ⟨va_cnB np hts (tbG_in hM) rfl rfl rfl (F.2.2.2.2.2.1.2.2.2.2.2.2 _ hlk) (hts _ hM.2.2.1) ⟨hM.2.2.2.1, hM.2.2.2.2.1, hnp⟩ hR, hts _ hst, trivial⟩ ⟨Pc_blind, Pc_here F.2.2.2.2.2.1 S⟩ rfl (by simp [hn]) L.1 (by simp) (lv_room (by rw [sum_rv]; exact hsum)) hd hcs
theorem P_callV {idx np r0 c n : Nat} (as : List Value) (hd : decode M.2.1 pc = .ok (.invokevirtual idx, 3)) (hL : CV M.1.cls idx M2 np c) (hl : h.1[r0]? = some (c, n)) (hn : as.length = np) (hlen : (enX (.ref r0 :: as)).length ≤ M2.2.2.1) (hdep : M2.2.2.2.2 + 1 ≤ M.2.2.2.2) (hsum : (rest.map fun v => v.category).sum ≤ 8)
    (k : EW X M2 0 (enL M2.2.2.1 (.ref r0 :: as)) [] h (fun r h1 => EW X M (pc + 3) ls (r.toList ++ rest) h1 Q)) : EW X M pc ls (as.reverse ++ .ref r0 :: rest) h Q := by
  obtain ⟨r1, h1, ⟨r, h', q, w⟩, w1⟩ := k
  obtain ⟨hM, hlk, hins, hse, hnp, T, N, ty, hC⟩ := hL
  refine ⟨r, h', q, AW.call hM hlen hdep ?_ w1 w⟩
  intro p e s m args below meth cd R F H locs cells slots la S L mc ms hMet hR hcs
  have hts := F.2.2.2.2.1
  have hr := exO_big S.1.2.2.2 hl (show c < 30 by have := hC.2.2.2.2.2; omega)
  have hat := S.1.at hl hr
  rw [ce_obj hC.2.2.2.2.2] at hat
  obtain ⟨rr, g1, cell, q1, q2, q3, -⟩ := hat
  have hrr := Option.some.inj (g1.symm.trans hC.1)
  subst hrr
  refine ⟨((.ref r0 :: as).map (rv X)).toArray, ?_⟩
  have e1 : (as.reverse ++ .ref r0 :: rest).map (rv X) = (as.map (rv X)).reverse ++ .ref (am X r0) :: rest.map (rv X) := by simp [rv_big hr]
  rw [e1]
  have e2 : (Value.ref r0 :: as).map (rv X) = .ref (am X r0) :: as.map (rv X) := by simp [rv_big hr]
  rw [e2]
  refine va_runV (C := M2.1.cls) (b := am X r0) (As := as.map (rv X)) (Ts := tbG) ⟨F.1, F.2.1, F.2.2.1, F.2.2.2.1, hts⟩ hMet ⟨callB_of np hts (tbG_in hM) rfl rfl rfl (hts _ hM.2.2.1) (hts _ hlk) ⟨hM.2.2.2.1, hM.2.2.2.2.1, hnp⟩ hR, hts _ hins, hts _ hse⟩ ⟨Pc_blind, ⟨cell, q1, by rw [q3]; rfl, by rw [q2]; exact (F.2.2.2.2.2.1.1.1 c _ hC.1).2.1⟩, ?_⟩ rfl (by simp [hn]) L.1 rfl (lv_room (by rw [sum_rv]; exact hsum)) hd hcs
  rw [← e2]
  exact Pc_here F.2.2.2.2.2.1 S
theorem P_callI {idx np r0 : Nat} (as : List Value) (hd : decode M.2.1 pc = .ok (.invokespecial idx, 3)) (hL : CI M.1.cls idx M2 np) (hr0 : r0 ≠ 0) (hn : as.length = np) (hlen : (enX (.ref r0 :: as)).length ≤ M2.2.2.1) (hdep : M2.2.2.2.2 + 1 ≤ M.2.2.2.2) (hsum : (rest.map fun v => v.category).sum ≤ 8)
    (k : EW X M2 0 (enL M2.2.2.1 (.ref r0 :: as)) [] h (fun r h1 => EW X M (pc + 3) ls (r.toList ++ rest) h1 Q)) : EW X M pc ls (as.reverse ++ .ref r0 :: rest) h Q := by
  obtain ⟨r1, h1, ⟨r, h', q, w⟩, w1⟩ := k
  obtain ⟨hM, hlk, hins, hnm, hnp, hret⟩ := hL
  refine ⟨r, h', q, AW.call hM hlen hdep ?_ w1 w⟩
  intro p e s m args below meth cd R F H locs cells slots la S L mc ms hMet hR hcs
  have hts := F.2.2.2.2.1
  have er : rv X (.ref r0) = .ref (am X r0) := by
    rcases rv_ref X r0 with ⟨q, -⟩ | ⟨-, q⟩
    · exact absurd q hr0
    · exact q
  refine ⟨((.ref r0 :: as).map (rv X)).toArray, ?_⟩
  have e1 : (as.reverse ++ .ref r0 :: rest).map (rv X) = (as.map (rv X)).reverse ++ .ref (am X r0) :: rest.map (rv X) := by simp [er]
  rw [e1]
  have e2 : (Value.ref r0 :: as).map (rv X) = .ref (am X r0) :: as.map (rv X) := by simp [er]
  rw [e2]
  have hw : wsM M2 = Cond.code M2.1 M2.2.1 M2.2.2.1 none :: tbG := by unfold wsM; rw [hret]
  rcases hlk with hlk | hlk
  · refine va_runI (b := am X r0) (As := as.map (rv X)) (Ts := tbG) ⟨F.1, F.2.1, F.2.2.1, F.2.2.2.1, hts⟩ hMet ⟨callB_of np hts (tbG_in hM) hw rfl rfl (hts _ hM.2.2.1) (hts _ hlk) ⟨hM.2.2.2.1, hM.2.2.2.2.1, hnp⟩ hR, hnm, hts _ hins⟩ ⟨Pc_blind, ?_⟩ rfl (by simp [hn]) L.1 rfl (lv_room (by rw [sum_rv]; exact hsum)) hd hcs
    rw [← e2]
    exact Pc_here F.2.2.2.2.2.1 S
  · refine va_runIN (b := am X r0) (As := as.map (rv X)) (Ts := tbG) ⟨F.1, F.2.1, F.2.2.1, F.2.2.2.1, hts⟩ hMet ⟨va_cnB np hts (tbG_in hM) hw rfl rfl (F.2.2.2.2.2.1.2.2.2.2.2.2 _ hlk) (hts _ hM.2.2.1) ⟨hM.2.2.2.1, hM.2.2.2.2.1, hnp⟩ hR, hnm, hts _ hins⟩ ⟨Pc_blind, ?_⟩ rfl (by simp [hn]) L.1 rfl (lv_room (by rw [sum_rv]; exact hsum)) hd hcs
    rw [← e2]
    exact Pc_here F.2.2.2.2.2.1 S
end CallRules
