section HeapLemmas
variable {X : CX} {h h2 : AH} {H H1 : Heap} {r : Nat} {q : Nat × Nat}
theorem am_big (hr : 32 ≤ r) : am X r = xN X + (r - 32) := by simp [am, Nat.not_lt.mpr hr]
theorem rv_big (hr : 32 ≤ r) : rv X (.ref r) = .ref (am X r) := by
  rcases rv_ref X r with ⟨h0, -⟩ | ⟨-, e⟩
  · omega
  · exact e
theorem lay0_k (L : Nat) : ∀ (r : Nat) (q : Nat × Nat), (lay0 L)[r]? = some q → 30 ≤ q.1 := by
  intro r q hq
  have hm := List.mem_of_getElem? hq
  simp [lay0, lenS, List.range, List.range.loop] at hm
  rcases hm with rfl | rfl | rfl | rfl | rfl | rfl | rfl | rfl | rfl | rfl | rfl <;> simp
theorem exO_big (he : exO X h) (h1 : h.1[r]? = some q) (hq : q.1 < 30) : 32 ≤ r := by
  rcases Nat.lt_or_ge r 32 with hr | hr
  · have h2 : (h.1.take 32)[r]? = some q := by rw [List.getElem?_take_of_lt hr]; exact h1
    rw [he.1] at h2
    have := lay0_k _ _ _ h2
    omega
  · exact hr
theorem ce_congr (h1 : h2.2.1 r = h.2.1 r) (h3 : h2.2.2 r = h.2.2 r) : ce X h2 r q = ce X h r q := by
  unfold ce fv
  rw [h1, h3]
theorem wo_at (h1 : h.1[r]? = some q) (hr : 32 ≤ r) : (wo X h)[r - 32]? = some (am X r, ce X h r q) := by
  have hl := (List.getElem?_eq_some_iff.mp h1).1
  unfold wo
  rw [List.getElem?_map, List.getElem?_range (by omega)]
  simp only [Option.map_some]
  rw [show r - 32 + 32 = r by omega, List.getD_eq_getElem?_getD, h1, am_big hr]
  rfl
theorem wo_inv {k : Nat} {x : Nat × va_E} (hk : (wo X h)[k]? = some x) : ∃ q, h.1[k + 32]? = some q ∧ x = (am X (k + 32), ce X h (k + 32) q) := by
  unfold wo at hk
  rw [List.getElem?_map] at hk
  by_cases hl : k < h.1.length - 32
  · rw [List.getElem?_range hl] at hk
    simp only [Option.map_some] at hk
    have h3 : h.1[k + 32]? = some (h.1[k + 32]'(by omega)) := List.getElem?_eq_getElem (by omega)
    refine ⟨_, h3, ?_⟩
    rw [List.getD_eq_getElem?_getD, h3] at hk
    rw [am_big (by omega), show k + 32 - 32 = k by omega]
    exact (Option.some.inj hk).symm
  · rw [List.getElem?_eq_none (by simp; omega)] at hk
    cases hk
theorem Wd.at (w : Wd X h H) (h1 : h.1[r]? = some q) (hr : 32 ≤ r) : va_at (xD X) cls (am X r, ce X h r q) H := w.1 _ _ (wo_at h1 hr)
/-- a cell is written -/
theorem Wd.up (w : Wd X h H) (h1 : h.1[r]? = some q) (hr : 32 ≤ r) (hl : h2.1 = h.1) (hrow : ∀ a, a ≠ r → h2.2.1 a = h.2.1 a ∧ h2.2.2 a = h.2.2 a) (z : H1.size = H.size) (oq : ∀ x, x ≠ am X r → H1[x]? = H[x]?) (he : va_at (xD X) cls (am X r, ce X h2 r q) H1) : Wd X h2 H1 := by
  refine ⟨fun k x hk => ?_, by rw [z, hl]; exact w.2.1, by rw [hl]; exact w.2.2.1, by rw [hl]; exact w.2.2.2.1, fun a ha => ?_⟩
  · obtain ⟨q', h3, rfl⟩ := wo_inv hk
    rw [hl] at h3
    by_cases hk2 : k + 32 = r
    · rw [hk2] at h3 ⊢
      rw [h1] at h3
      cases h3
      exact he
    · rw [ce_congr (hrow _ hk2).1 (hrow _ hk2).2]
      refine (w.at h3 (by omega)).kept (oq _ ?_)
      show am X (k + 32) ≠ am X r
      rw [am_big (by omega), am_big hr]
      omega
  · have := hrow a (by omega)
    rw [this.1, this.2]
    exact w.2.2.2.2 a ha
/-- a cell comes -/
theorem Wd.new (w : Wd X h H) (hl : h2.1 = h.1 ++ [q]) (hrow : ∀ a, a < h.1.length → h2.2.1 a = h.2.1 a ∧ h2.2.2 a = h.2.2 a) (z : H1.size = H.size + 1) (oq : ∀ x, x < H.size → H1[x]? = H[x]?) (he : va_at (xD X) cls (am X h.1.length, ce X h2 h.1.length q) H1) : Wd X h2 H1 := by
  have hn := w.2.2.1
  refine ⟨fun k x hk => ?_, by rw [z, hl]; have := w.2.1; simp; omega, by rw [hl]; simp; omega, by rw [hl, List.take_append_of_le_length hn]; exact w.2.2.2.1, fun a ha => ?_⟩
  · obtain ⟨q', h3, rfl⟩ := wo_inv hk
    rw [hl] at h3
    by_cases hk2 : k + 32 < h.1.length
    · rw [List.getElem?_append_left hk2] at h3
      rw [ce_congr (hrow _ hk2).1 (hrow _ hk2).2]
      have h4 := w.at h3 (by omega)
      exact h4.kept (oq _ h4.lt)
    · rw [List.getElem?_append_right (by omega)] at h3
      have hz : k + 32 - h.1.length < 1 := (List.getElem?_eq_some_iff.mp h3).1
      have hk3 : k + 32 = h.1.length := by omega
      rw [hk3] at h3 ⊢
      simp at h3
      subst h3
      exact he
  · have := hrow a (by omega)
    rw [this.1, this.2]
    exact w.2.2.2.2 a ha
theorem ce_obj {c n : Nat} (hc : c < 20) : ce X h r (c, n) = .inr (c, (List.range n).map (fun f => fv X c f h r)) := by simp [ce, hc]
theorem ce_int {n : Nat} : ce X h r (20, n) = .inl (xA X 20, n, .inl (h.2.1 r)) := by simp [ce]
theorem ce_bool {n : Nat} : ce X h r (21, n) = .inl (xA X 21, n, .inl (h.2.1 r)) := by simp [ce]
theorem ce_ref {t n : Nat} (ht : 22 ≤ t) : ce X h r (t, n) = .inl (xA X t, n, .inr (.inr (.inr (.inr (fun j => rO X (h.2.2 r j)))))) := by
  have h1 : ¬ t < 20 := by omega
  have h3 : ¬ t < 22 := by omega
  simp [ce, h1, h3]
theorem Wd.new_at (w : Wd X h H) : am X h.1.length = H.size := by
  have h1 := w.2.1
  have h3 := w.2.2.1
  rw [am_big h3]
  omega
theorem Sw.put {s : State} {locs : List Loc} {i : Nat} (S : va_S (xF X) s.heap H locs) (hr : 32 ≤ r) (z : H1.size = H.size) (oq : ∀ x, x ≠ am X r → H1[x]? = H[x]?) : va_S (xF X) s.heap H1 (locs ++ [⟨am X r, i⟩]) := S.put z oq (show xN X ≤ am X r by rw [am_big hr]; omega)
theorem Sw.grow {s : State} {locs : List Loc} (S : va_S (xF X) s.heap H locs) (z : H1.size = H.size + 1) (oq : ∀ x, x < H.size → H1[x]? = H[x]?) : va_S (xF X) s.heap H1 locs := ⟨by have := S.1; omega, fun x h1 h3 => (oq x (Nat.lt_of_lt_of_le h1 S.1)).trans (S.2.1 x h1 h3), S.2.2⟩
end HeapLemmas
/-- an instruction that writes one cell, or none -/
theorem AW.wr {X : CX} {M : MD} {pc pc2 : Nat} {ls st st2 : List Value} {h h2 : AH} {r : Option Value} {h' : AH} (hl2 : h2.1 = h.1)
    (hw : ∀ (p : Program) (e : Env) (s : State) (m : MethodId) (args : Array Value) (below : List Frame) (meth : Method) (c : Code) (R : Room) (Q : State → Prop), Fr X M p s m args meth c R → ∀ (H : Heap) (locs : List Loc) (cells slots : Nat) (la : Array Slot), Sw X h s H locs → LR X M.2.2.1 ls la →
      (∀ H2 locs2, Sw X h2 s H2 locs2 → W p (xl X) e R s m args below meth c H2 locs2 cells slots Q (F0 m pc2 la (st2.map (rv X)))) → W p (xl X) e R s m args below meth c H locs cells slots Q (F0 m pc la (st.map (rv X))))
    (k : AW X M pc2 ls st2 h2 r h') : AW X M pc ls st h r h' := by
  have hz : sz h2 = sz h := by unfold sz; rw [hl2]
  refine ⟨by rw [← hl2, ← hz]; exact k.1, fun p e s m args below meth c R Q mc ms F hR hf H locs cells slots la hc hS hl => hw p e s m args below meth c R Q F H locs cells slots la hS hl (fun H2 locs2 hS2 => k.2 p e s m args below meth c R Q mc ms F hR hf H2 locs2 cells slots la (by rw [hl2, hz]; exact hc) hS2 hl)⟩
/-- an instruction that makes one cell of n slots -/
theorem AW.mk {X : CX} {M : MD} {pc pc2 : Nat} {ls st st2 : List Value} {h h2 : AH} {r : Option Value} {h' : AH} {t n : Nat} (hl2 : h2.1 = h.1 ++ [(t, n)])
    (hw : ∀ (p : Program) (e : Env) (s : State) (m : MethodId) (args : Array Value) (below : List Frame) (meth : Method) (c : Code) (R : Room) (Q : State → Prop), Fr X M p s m args meth c R → ∀ (H : Heap) (locs : List Loc) (cells slots : Nat) (la : Array Slot), cells + 1 ≤ R.cells → slots + n ≤ R.slots → Sw X h s H locs → LR X M.2.2.1 ls la →
      (∀ H2, Sw X h2 s H2 locs → W p (xl X) e R s m args below meth c H2 locs (cells + 1) (slots + n) Q (F0 m pc2 la (st2.map (rv X)))) → W p (xl X) e R s m args below meth c H locs cells slots Q (F0 m pc la (st.map (rv X))))
    (k : AW X M pc2 ls st2 h2 r h') : AW X M pc ls st h r h' := by
  have hz : sz h2 = sz h + n := by unfold sz; rw [hl2]; simp
  have hz2 : h2.1.length = h.1.length + 1 := by rw [hl2]; simp
  have h1 := k.1
  rw [hz, hz2] at h1
  refine ⟨⟨by omega, by omega⟩, fun p e s m args below meth c R Q mc ms F hR hf H locs cells slots la hc hS hl => hw p e s m args below meth c R Q F H locs cells slots la (by omega) (by omega) hS hl (fun H2 hS2 => k.2 p e s m args below meth c R Q mc ms F hR hf H2 locs (cells + 1) (slots + n) la (by rw [hz2, hz]; omega) hS2 hl)⟩
/-! the classes -/
def Cl (c : Nat) (C : String) (T : u_T) (N : Nat) (ty : Nat → FieldType) : Prop :=
  cls[c]? = some (C, T, N) ∧ (∀ w ∈ u_ws C T N, w ∈ tbG) ∧ (∀ k, k < N → parseFieldDescriptor (T k).2.2.1 = some (ty k)) ∧ (∀ a, a < N → ∀ b, b < N → a ≠ b → (T a).2.1 ≠ (T b).2.1) ∧
  (∀ f, f < N → (rf c f = false → ty f = .int) ∧ (rf c f = true → (∃ n, ty f = .object n) ∨ ∃ t, ty f = .array t)) ∧ c < 20
theorem u_ws_good {C : String} {T : u_T} {N : Nat} (h : ∀ w ∈ u_ws C T N, w ∈ lw_tbl) : ∀ w ∈ u_ws C T N, w ∈ tbG := fun w hw => tbG_of (h w hw) (by
  obtain ⟨k, -, rfl⟩ := List.mem_map.mp hw
  unfold u_lay
  split <;> rfl)
/-- a field by its link: class number, field number, final -/
def FL (own : String) (idx c f : Nat) (fin : Bool) : Prop := ∃ C T N ty, Cl c C T N ty ∧ f < N ∧ Cond.fieldLink own idx (T f).1 (T f).2.1 (T f).2.2.1 ∈ tbG ∧ (T f).2.2.2 = fin ∧ (fin = true → (T f).1 = own)
/-- a field that is read -/
def FG (own : String) (idx c f : Nat) : Prop := ∃ C T N ty, Cl c C T N ty ∧ f < N ∧ Cond.fieldLink own idx (T f).1 (T f).2.1 (T f).2.2.1 ∈ tbG
theorem FL.g {own : String} {idx c f : Nat} {fin : Bool} (h : FL own idx c f fin) : FG own idx c f := by
  obtain ⟨C, T, N, ty, h1, h2, h3, -⟩ := h
  exact ⟨C, T, N, ty, h1, h2, h3⟩
section Rules3
variable {X : CX} {M : MD} {pc : Nat} {ls rest : List Value} {h : AH} {Q : Option Value → AH → Prop}
theorem fs_at {c n f r : Nat} (hf : f < n) : ((List.range n).map (fun f => fv X c f h r))[f]? = some (fv X c f h r) := by
  rw [List.getElem?_map, List.getElem?_range hf]; rfl
theorem P_get {idx c f n r : Nat} {v : Value} (hd : decode M.2.1 pc = .ok (.getfield idx, 3)) (hF : FG M.1.cls idx c f) (hl : h.1[r]? = some (c, n)) (hn : f < n) (hv : fv X c f h r = rv X v) (k : EW X M (pc + 3) ls (v :: rest) h Q) : EW X M pc ls (.ref r :: rest) h Q :=
  k.lift fun _ _ => AW.go fun p e s m args below meth cd R Q F H locs cells slots la S L w => by
    obtain ⟨C, T, N, ty, hC, hfN, hlk⟩ := hF
    have hr := exO_big S.1.2.2.2 hl (show c < 30 by have := hC.2.2.2.2.2; omega)
    simp only [List.map_cons] at w ⊢
    rw [← hv] at w
    rw [rv_big hr]
    have hat := S.1.at hl hr
    rw [ce_obj hC.2.2.2.2.2] at hat
    have hP : va_P (xD X) cls [(am X r, .inr (c, (List.range n).map (fun f => fv X c f h r)))] H := fun k q hk => by
      cases k with
      | zero => cases hk; exact hat
      | succ k => simp at hk
    exact va_get (ref := (T f).1) F.1 F.2.1 F.2.2.2.2.1 hC.2.1 F.2.2.2.1 F.2.2.2.2.2.1.1 hP 0 rfl hC.1 f hfN (F.2.2.2.2.1 _ hlk) (fun _ z => z) (fs_at hn) hd w
theorem P_getI {idx c f n r : Nat} (hd : decode M.2.1 pc = .ok (.getfield idx, 3)) (hF : FG M.1.cls idx c f) (hb : rf c f = false) (hl : h.1[r]? = some (c, n)) (hn : f < n) (k : EW X M (pc + 3) ls (.int (h.2.1 r f) :: rest) h Q) : EW X M pc ls (.ref r :: rest) h Q :=
  P_get hd hF hl hn (by simp [fv, hb, rv]) k
theorem P_getR {idx c f n r : Nat} (hd : decode M.2.1 pc = .ok (.getfield idx, 3)) (hF : FG M.1.cls idx c f) (hb : rf c f = true) (hl : h.1[r]? = some (c, n)) (hn : f < n) (k : EW X M (pc + 3) ls (.ref (h.2.2 r f) :: rest) h Q) : EW X M pc ls (.ref r :: rest) h Q :=
  P_get hd hF hl hn (by simp [fv, hb]) k
/-- a field is written -/
theorem P_put {idx c f n r : Nat} {fin : Bool} {v : Value} {h2 : AH} (hd : decode M.2.1 pc = .ok (.putfield idx, 3)) (hF : FL M.1.cls idx c f fin) (hfi : fin = true → M.1.name = "<init>") (hl : h.1[r]? = some (c, n)) (hn : f < n) (hl2 : h2.1 = h.1) (hrow : ∀ a, a ≠ r → h2.2.1 a = h.2.1 a ∧ h2.2.2 a = h.2.2 a)
    (hnew : ∀ g, fv X c g h2 r = if g = f then rv X v else fv X c g h r) (hfit : ∀ ty : FieldType, (rf c f = false → ty = .int) ∧ (rf c f = true → (∃ n, ty = .object n) ∨ ∃ t, ty = .array t) → narrow ty (rv X v) = rv X v ∧ fits ty (rv X v) = true) (k : EW X M (pc + 3) ls rest h2 Q) : EW X M pc ls (v :: .ref r :: rest) h Q :=
  k.lift fun _ _ => AW.wr hl2 fun p e s m args below meth cd R Q F H locs cells slots la S L w => by
    obtain ⟨C, T, N, ty, hC, hfN, hlk, hfn, hown⟩ := hF
    obtain ⟨hc, hin, hty, hnm, hrt, hc20⟩ := hC
    have hr := exO_big S.1.2.2.2 hl (show c < 30 by omega)
    simp only [List.map_cons]
    rw [rv_big hr]
    have hat := S.1.at hl hr
    rw [ce_obj hc20] at hat
    have hK := F.2.2.2.2.2.1.1
    have hts := F.2.2.2.2.1
    obtain ⟨rr, g1, cell, q1, q2, q3, q4⟩ := hat
    have hrr : rr = (C, T, N) := Option.some.inj (g1.symm.trans hc)
    subst hrr
    have hap := va_apart (own := M.1.cls) hts hin ty hty hnm hK hc
    obtain ⟨hS, hfc, kC, hkC, hkind⟩ := hK.1 c _ hc
    obtain ⟨cf, kf, fi, fd, hi, hsl⟩ := hS f hfN
    have hlay := hts _ (hin _ (u_in_lay hfN))
    unfold u_lay at hlay
    have hst := (u_facts hfc hkC (u_lays hts hin hfN) hi).1
    have hft := hfit (ty f) (hrt f hfN)
    have key : ∀ H' : Heap, H'[am X r]? = some (cell.setSlot fd.slot (rv X v)) → H'.size = H.size → (∀ x, x ≠ am X r → H'[x]? = H[x]?) → W p (xl X) e R s m args below meth cd H' (locs ++ [⟨am X r, fd.slot⟩]) cells slots Q (F0 m (pc + 3) la (rest.map (rv X))) := by
      intro H' e1 e2 e3
      refine w H' _ ⟨S.1.up hl hr hl2 hrow e2 e3 ?_, Sw.put S.2 hr e2 e3⟩
      rw [ce_obj hc20]
      rw [hsl] at e1
      refine ⟨_, hc, t_OB.to (V := updV (vp_V ((List.range n).map (fun g => fv X c g h r))) f (rv X v)) ⟨_, e1, q2, q3, t_set q4 hap hfN (rv X v)⟩ (fun j hj => ?_)⟩
      by_cases hjn : j < n
      · simp only [updV, vp_V, List.getD_eq_getElem?_getD, fs_at (X := X) (h := h2) (c := c) (r := r) hjn, fs_at (X := X) (h := h) (c := c) (r := r) hjn, Option.getD_some, hnew j]
      · have hjf : j ≠ f := by omega
        simp [updV, vp_V, List.getD_eq_getElem?_getD, hjf, List.getElem?_eq_none, hjn]
    cases fin with
    | false =>
      rw [if_neg (by rw [hfn]; decide)] at hlay
      have h6 := u_store hfc hkC hkind hlay hi (hty f hfN) hft.1 hft.2
      exact W.putK (own := M.1.cls) (ref := (T f).1) F.1 F.2.1 (f := fd) ⟨F.2.2.2.1, hts _ hlk, ⟨_, _, _, hi⟩, hst⟩ (by rw [q2]; exact h6) q1 q3 (by rw [hsl]; exact k2_hasslot (q4 f hfN)) rfl rfl hd key
    | true =>
      rw [if_pos hfn] at hlay
      have hcf : m.cls = cf := by
        obtain ⟨_, _, c', _, _, _, -, -, hf', -, -, -, hown2, -⟩ := Cond.laysFinal_spec hlay
        have e1 : c' = cf := by have := hi.symm.trans hf'; simp at this; exact this.1.symm
        rw [hown rfl] at hown2
        rw [← e1]; exact Option.some.inj (F.2.2.2.1.symm.trans hown2)
      have h6 := u_fits hfc hkC hkind (Or.inr hlay) hi (hty f hfN) hft.1 hft.2
      exact W.putFinK (own := M.1.cls) (ref := (T f).1) F.1 F.2.1 F.2.2.2.1 (hts _ hlk) hi hst hcf (F.2.2.2.2.2.2.1.trans (hfi rfl)) (by rw [q2]; exact h6) q1 q3 (by rw [hsl]; exact k2_hasslot (q4 f hfN)) rfl rfl hd key
/-- the heap with an int written, with a reference written -/
def wI (h : AH) (r f : Nat) (x : Int32) : AH := (h.1, va_up h.2.1 r (upd (h.2.1 r) f x), h.2.2)
def wR (h : AH) (r f : Nat) (x : Nat) : AH := (h.1, h.2.1, va_up h.2.2 r (va_up (h.2.2 r) f x))
theorem va_up_s {α : Type} (f : Nat → α) (k : Nat) (v : α) : va_up f k v k = v := by simp [va_up]
theorem va_up_n {α : Type} (f : Nat → α) {k j : Nat} (v : α) (hj : j ≠ k) : va_up f k v j = f j := by simp [va_up, hj]
theorem P_putI {idx c f n r : Nat} {fin : Bool} {x : Int32} (hd : decode M.2.1 pc = .ok (.putfield idx, 3)) (hF : FL M.1.cls idx c f fin) (hfi : fin = true → M.1.name = "<init>") (hb : rf c f = false) (hl : h.1[r]? = some (c, n)) (hn : f < n) (k : EW X M (pc + 3) ls rest (wI h r f x) Q) : EW X M pc ls (.int x :: .ref r :: rest) h Q :=
  P_put hd hF hfi hl hn (h2 := wI h r f x) rfl (fun a ha => ⟨va_up_n _ _ ha, rfl⟩) (fun g => by
    unfold fv wI
    by_cases hg : g = f
    · subst hg; simp [hb, rv, va_up_s, upd]
    · simp [va_up_s, upd, hg]) (fun ty ht => by rw [ht.1 hb]; exact ⟨rfl, rfl⟩) k
theorem P_putR {idx c f n r x : Nat} {fin : Bool} (hd : decode M.2.1 pc = .ok (.putfield idx, 3)) (hF : FL M.1.cls idx c f fin) (hfi : fin = true → M.1.name = "<init>") (hb : rf c f = true) (hl : h.1[r]? = some (c, n)) (hn : f < n) (k : EW X M (pc + 3) ls rest (wR h r f x) Q) : EW X M pc ls (.ref x :: .ref r :: rest) h Q :=
  P_put hd hF hfi hl hn (h2 := wR h r f x) rfl (fun a ha => ⟨rfl, va_up_n _ _ ha⟩) (fun g => by
    unfold fv wR
    by_cases hg : g = f
    · subst hg; simp [hb, va_up_s]
    · simp [va_up_s, va_up_n _ _ hg, hg]) (fun ty ht => by
      rcases rv_ref X x with ⟨-, e⟩ | ⟨-, e⟩ <;> rw [e] <;> rcases ht.2 hb with ⟨_, rfl⟩ | ⟨_, rfl⟩ <;> exact ⟨rfl, rfl⟩) k
end Rules3
