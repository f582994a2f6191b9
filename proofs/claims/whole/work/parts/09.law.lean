/-! THE CLAIM OUT OF ONE WALK OF THE LAW'S BODY (the skeleton's rows) -/
def R_law : String := "PromiseNamesLaw"
def lw_At (p : Program) (s : State) (m : MethodId) (meth : Method) (c : Code) (b L : Nat) (xs : Nat → Int32) : Prop :=
  p.tables.exec = Jvm.exec ∧ c.code = code ∧ meth.sig.returnType = ret ∧ c.maxLocals = 4 ∧ s.vm.findClass R_law = some m.cls ∧ (∀ w ∈ lw_tbl, w.before #[Value.ref b] s = true) ∧ va_X b L xs s s.heap ∧ b < s.heap.size ∧ meth.locks = false ∧ (Jvm.Cond.and given_1 narrow_1).before #[Value.ref b] s = true
def strI : List Nat := [42, 53, 58, 71, 75, 77, 79, 81]
def strT (i : Nat) : Term := .string R_Rd (strI.getD i 0)
theorem str_ex : ∀ i, i < 8 → Cond.exactly (strT i) "java/lang/String" ∈ flatC (Jvm.Cond.and given_1 narrow_1) := by decide +kernel
theorem str_co : ∀ i, i < 8 → Cond.eq (.field (strT i) "java/lang/String" "coder" "B") (.int 0) ∈ flatC (Jvm.Cond.and given_1 narrow_1) := by decide +kernel
theorem str_ar : ∀ i, i < 8 → Cond.arrayOf (.field (strT i) "java/lang/String" "value" "[B") .byte ∈ flatC (Jvm.Cond.and given_1 narrow_1) := by decide +kernel
theorem str_le : ∀ i, i < 8 → Cond.eq (.length (.field (strT i) "java/lang/String" "value" "[B")) (.int (Int32.ofNat (lenS.getD i 0))) ∈ flatC (Jvm.Cond.and given_1 narrow_1) := by decide +kernel
theorem str_el : ∀ i, i < 8 → ∀ j, j < lenS.getD i 0 → Cond.eq (.elem (.field (strT i) "java/lang/String" "value" "[B") (.int (Int32.ofNat j))) (.int ((bytS.getD i []).getD j 0)) ∈ flatC (Jvm.Cond.and given_1 narrow_1) := by decide +kernel
theorem str_ne : ∀ i, i < 8 → ∀ j, j < 8 → i ≠ j → Cond.not (.eq (strT i) (strT j)) ∈ flatC (Jvm.Cond.and given_1 narrow_1) ∨ Cond.not (.eq (strT j) (strT i)) ∈ flatC (Jvm.Cond.and given_1 narrow_1) := by decide +kernel
theorem str_rf : ∀ q ∈ [(0, 42, "parish"), (1, 53, "man"), (2, 58, "strife"), (3, 71, "will"), (4, 75, "pay"), (5, 77, "short"), (6, 79, "shun"), (7, 81, "ever")], Cond.stringRef R_Rd q.2.1 q.2.2 ∈ lw_tbl ∧ q.1 < 8 ∧ strI.getD q.1 0 = q.2.1 := by decide +kernel
theorem nest_in : ∀ q ∈ nestL, Cond.methodLinkNest q.1 q.2.1 q.2.2 "PromiseNames" ∈ lw_tbl := by decide +kernel
theorem inst_in : ∀ q ∈ cls, Cond.instantiable q.1 q.2.2 ∈ lw_tbl := by decide +kernel
theorem lays_in : ∀ q ∈ cls, ∀ w ∈ u_ws q.1 q.2.1 q.2.2, w ∈ lw_tbl := by decide +kernel
theorem va_K_start {s : State} {args : Array Value} (hts : ∀ w ∈ lw_tbl, w.before args s = true) : ∃ (dC : Nat → ClassId) (dI : Nat → Nat → Nat) (cA : Nat → ClassId), va_K (dC, dI) cls [(cA 20, .int), (cA 21, .boolean), (cA 22, .object R_St), (cA 23, .object R_Rg), (cA 24, .object R_Pg)] s := by
  have h0 : ∀ k : Nat, ∃ q : ClassId × (Nat → Nat), ∀ r : vw_C, cls[k]? = some r → u_Kn s r.1 r.2.1 r.2.2 q.1 q.2 := by
    intro k
    cases hk : cls[k]? with
    | none => exact ⟨(0, fun _ => 0), fun r h => by cases h⟩
    | some r =>
      have hm := List.mem_of_getElem? hk
      obtain ⟨cC, iS, h⟩ := u_known (C := r.1) (T := r.2.1) (N := r.2.2) (n := r.2.2) hts (lays_in r hm) (hts _ (inst_in r hm))
      exact ⟨(cC, iS), fun r' h' => by cases h'; exact h⟩
  obtain ⟨g, hg⟩ := Classical.axiomOfChoice h0
  obtain ⟨c1, k1, m1, a1, b1, d1⟩ := Cond.arrayClass_spec (hts (.arrayClass .int) (by decide +kernel))
  obtain ⟨c2, k2, m2, a2, b2, d2⟩ := Cond.arrayClass_spec (hts (.arrayClass .boolean) (by decide +kernel))
  obtain ⟨m3, c3, k3, e3, -, b3, d3, a3⟩ := Cond.arrayOver_spec (hts (.arrayOver (.object R_St)) (by decide +kernel))
  obtain ⟨m4, c4, k4, e4, -, b4, d4, a4⟩ := Cond.arrayOver_spec (hts (.arrayOver (.object R_Rg)) (by decide +kernel))
  obtain ⟨m5, c5, k5, e5, -, b5, d5, a5⟩ := Cond.arrayOver_spec (hts (.arrayOver (.object R_Pg)) (by decide +kernel))
  refine ⟨fun k => (g k).1, fun k => (g k).2, fun t => if t = 20 then c1 else if t = 21 then c2 else if t = 22 then c3 else if t = 23 then c4 else c5, fun c q hq => hg c q hq, fun k q hk => ?_⟩
  match k, hk with
  | 0, hk => cases hk; exact ⟨fun n z => ⟨fun _ h => (by cases h), k1, b1, m1, d1⟩, a1⟩
  | 1, hk => cases hk; exact ⟨fun n z => ⟨fun _ h => (by cases h), k2, b2, m2, d2⟩, a2⟩
  | 2, hk => cases hk; exact ⟨fun n z => ⟨fun _ h => (by cases h), k3, b3, m3, d3⟩, k3, m3, b3, d3, e3, a3⟩
  | 3, hk => cases hk; exact ⟨fun n z => ⟨fun _ h => (by cases h), k4, b4, m4, d4⟩, k4, m4, b4, d4, e4, a4⟩
  | 4, hk => cases hk; exact ⟨fun n z => ⟨fun _ h => (by cases h), k5, b5, m5, d5⟩, k5, m5, b5, d5, e5, a5⟩
  | k + 5, hk => simp at hk
theorem start_X {p : Program} {s : State} {m : MethodId} {meth : Method} {c : Code} {b L : Nat} {xs : Nat → Int32} (l : Launch) (C0 : lw_At p s m meth c b L xs) : ∃ X : CX, xl X = l ∧ xN X = s.heap.size ∧ xE X 1 = b ∧ xL X = L ∧ xS X = xs ∧ Kw X s := by
  obtain ⟨hx, hb, hr, hml, hown, hts, hX, hbl, hlocks, hgv⟩ := C0
  obtain ⟨dC, dI, cA, hK⟩ := va_K_start hts
  have hf := flat_of_before _ hgv
  have hA : ∀ a : Nat, a < s.heap.size → ¬ (fun q : Nat => s.heap.size ≤ q) a := fun a h => Nat.not_le.mpr h
  obtain ⟨adK, adV, hS, hE⟩ := vk_Sof (args := #[Value.ref b]) (s := s) (N := 8) (tm := strT) (len := lenS) (byt := bytS) (A := fun q : Nat => s.heap.size ≤ q) (by decide +kernel) (fun i hi => hf _ (str_ex i hi)) (fun i hi => hf _ (str_co i hi)) (fun i hi => hf _ (str_ar i hi)) (fun i hi => hf _ (str_le i hi)) (fun i hi j hj => hf _ (str_el i hi j hj)) (fun i j hi hj hne => (str_ne i hi j hj hne).imp (fun h => hf _ h) (fun h => hf _ h)) hA
  have hz1 : va_Z "java/lang/String" "COMPACT_STRINGS" "Z" (.int 1) (fun q : Nat => s.heap.size ≤ q) s s.heap := va_Zof (hts (.laysStatic "java/lang/String" "COMPACT_STRINGS" "Z") (by decide +kernel)) (hts (.initialized "java/lang/String") (by decide +kernel)) (va_eqt (hf (.eq (.static "java/lang/String" "COMPACT_STRINGS" "Z") (.int 1)) (by decide +kernel))) hA
  have hz2 : va_Z "jdk/internal/util/Preconditions" "SIOOBE_FORMATTER" "Ljava/util/function/BiFunction;" .null (fun q : Nat => s.heap.size ≤ q) s s.heap ∨ ∃ t, va_Z "jdk/internal/util/Preconditions" "SIOOBE_FORMATTER" "Ljava/util/function/BiFunction;" (.ref t) (fun q : Nat => s.heap.size ≤ q) s s.heap :=
    va_Zqof (hts (.laysStatic "jdk/internal/util/Preconditions" "SIOOBE_FORMATTER" "Ljava/util/function/BiFunction;") (by decide +kernel)) (hts (.initialized "jdk/internal/util/Preconditions") (by decide +kernel)) (hf (.isRef (.static "jdk/internal/util/Preconditions" "SIOOBE_FORMATTER" "Ljava/util/function/BiFunction;")) (by decide +kernel)) hA
  obtain ⟨z, hz, hzz⟩ : ∃ z : Nat × Nat, (z.2 = 0 → va_Z "jdk/internal/util/Preconditions" "SIOOBE_FORMATTER" "Ljava/util/function/BiFunction;" .null (fun q : Nat => s.heap.size ≤ q) s s.heap) ∧ (z.2 ≠ 0 → va_Z "jdk/internal/util/Preconditions" "SIOOBE_FORMATTER" "Ljava/util/function/BiFunction;" (.ref z.1) (fun q : Nat => s.heap.size ≤ q) s s.heap) := by
    rcases hz2 with h | ⟨t, h⟩
    · exact ⟨(0, 0), fun _ => h, fun h => absurd rfl h⟩
    · exact ⟨(t, 1), fun h => (by cases h), fun _ => h⟩
  refine ⟨(l, dC, dI, cA, s.heap.size, fun r => if r = 1 then b else if r < 10 then adK (r - 2) else if r < 18 then adV (r - 10) else if r = 18 then z.1 else z.2, L, xs), rfl, rfl, rfl, rfl, rfl, hK, ⟨hts (.arrayOver (.object R_St)) (by decide +kernel), hts (.arrayOver (.object R_Rg)) (by decide +kernel), hts (.arrayOver (.object R_Pg)) (by decide +kernel)⟩, ⟨hX, hbl⟩, Nat.le_refl _, ⟨⟨fun i hi => ?_, fun i j hi hj => ?_⟩, fun q hq => ?_⟩, ⟨hz1, ?_⟩, fun q hq => va_Nw.of rfl (hts _ (nest_in q hq))⟩
  · have h1 := hS.1 i hi
    have e1 : (if 2 + i = 1 then b else if 2 + i < 10 then adK (2 + i - 2) else if 2 + i < 18 then adV (2 + i - 10) else if 2 + i = 18 then z.1 else z.2) = adK i := by
      rw [if_neg (by omega), if_pos (by omega), show 2 + i - 2 = i by omega]
    have e2 : (if 10 + i = 1 then b else if 10 + i < 10 then adK (10 + i - 2) else if 10 + i < 18 then adV (10 + i - 10) else if 10 + i = 18 then z.1 else z.2) = adV i := by
      rw [if_neg (by omega), if_neg (by omega), if_pos (by omega), show 10 + i - 10 = i by omega]
    dsimp only [xE]
    rw [e1, e2]
    exact h1
  · dsimp only [xE]
    rw [if_neg (by omega), if_pos (by omega), if_neg (by omega), if_pos (by omega), show 2 + i - 2 = i by omega, show 2 + j - 2 = j by omega]
    exact hS.2 i j hi hj
  · obtain ⟨h1, h2, h3⟩ := str_rf q hq
    dsimp only [xE]
    rw [if_neg (by omega), if_pos (by omega), show 2 + q.1 - 2 = q.1 by omega]
    refine vk_R.of (hts _ h1) ?_
    have h4 := hE q.1 h2
    unfold strT at h4
    rw [h3] at h4
    exact h4
  · unfold zX
    dsimp only [xE]
    simp only [show ¬ (19 : Nat) = 1 by decide, show ¬ (19 : Nat) < 10 by decide, show ¬ (19 : Nat) < 18 by decide, show ¬ (19 : Nat) = 18 by decide, if_false]
    by_cases h : z.2 = 0
    · rw [if_pos h]; exact hz h
    · rw [if_neg h]; exact hzz h
def lw_Q (_ : Array Value) (s : State) (o : Outcome) (t : State) : Prop := o = .returned (some (.int 1)) ∧ Framed s o t [] 600000 7302250
def lw_Z (below : List Frame) (a : Array Value) (s : State) : State → Prop := fun t => ∃ o, t.status = .running ∧ Ended t below o ∧ lw_Q a s o t
/-- the law's own end, with 1 on the stack, nothing written that was there before, its room as the claim has it -/
theorem lw_ret {p : Program} {l : Launch} {e : Env} {s : State} {m : MethodId} {below : List Frame} {meth : Method} {c : Code} {b : Nat} (hx : p.tables.exec = Jvm.exec) (hb : c.code = code) (hr : meth.sig.returnType = ret) (hlocks : meth.locks = false) {pc : Nat} {H : Heap} {ls : Array Slot} (hdg : decode code pc = .ok (.ireturn, 1)) : W p l e room_1 s m #[Value.ref b] below meth c H [] 600000 7302250 (lw_Z below #[Value.ref b] s) (F0 m pc ls [.int 1]) := by
  intro T hT X
  obtain ⟨fs, hret, hrun, hended, hW, hframe⟩ := X.leave (v := some (.int 1)) (hlocks := hlocks) (fun h => by rw [hr] at h; cases h)
  have hmeth' : T.vm.method? m = some meth := X.method'
  refine ⟨T.setFrames fs, ?_, .returned (some (.int 1)), hrun, hended, rfl, ⟨_, rfl⟩, hW, hframe⟩
  jvm_step X.here [X.here.top, hx, hb, hdg, hmeth', hr, ret, narrow_b1]
  (try refine ⟨rfl, ?_⟩); (try refine ⟨rfl, ?_⟩)
  first | (intro acts; rw [hret _ acts rfl rfl rfl]) | rw [hret _ _ rfl rfl rfl]
  exact Steps.refl _
def m_law : MD := (x, code, 4, some .boolean, 11)
/-- the heap at the start -/
def h0 (X : CX) : AH := (lay0 (xL X), mI0 X, mR0)
/-- what the law owes, over the abstract heap alone -/
def lawOwes : Prop := ∀ X : CX, xL X ≤ 3072 → EW X m_law 0 [.ref 1, jk, jk, jk] [] (h0 X) (fun r h' => r = some (.int 1) ∧ h'.1.length ≤ 600032 ∧ sz h' ≤ sz (h0 X) + 7302250)
theorem law_start (hO : lawOwes) {p : Program} {e : Env} {s : State} {m : MethodId} {below : List Frame} {meth : Method} {c : Code} (l : Launch) {b L : Nat} {xs : Nat → Int32} (hL : L ≤ 3072) (C0 : lw_At p s m meth c b L xs) (hn : meth.name = x.name) : W p l e room_1 s m #[Value.ref b] below meth c s.heap [] 0 0 (lw_Z below #[Value.ref b] s) (entryFrame m ([Value.ref b] : List Value).toArray 4) := by
  obtain ⟨X, rfl, hN, rfl, rfl, rfl, hKw⟩ := start_X l C0
  obtain ⟨r, h', ⟨rfl, q1, q2⟩, hw⟩ := hO X hL
  obtain ⟨hx, hb, hr, hml, hown, hts, hX, hbl, hlocks, hgv⟩ := id C0
  rw [lg_entry_eq]
  have hlen : (h0 X).1.length = 32 := by simp [h0, lay0, lenS]
  have F : Fr X m_law p s m #[Value.ref (xE X 1)] meth c room_1 := ⟨hx, hb, hml, hown, fun w hw => hts w (List.mem_filter.mp hw).1, hKw, hn, by decide, by decide⟩
  have hWd : Wd X (h0 X) s.heap := by
    refine ⟨fun k q hk => ?_, by rw [hlen, hN], by rw [hlen]; exact Nat.le_refl _, ?_, fun r hr => ⟨rfl, rfl⟩⟩
    · have : wo X (h0 X) = [] := by unfold wo; rw [hlen]; rfl
      rw [this] at hk
      simp at hk
    · have : (lay0 (xL X)).length = 32 := hlen
      exact List.take_of_length_le (by omega)
  refine hw.2 p e s m _ below meth c room_1 _ 600000 7302250 F ⟨Nat.le_refl _, Nat.le_refl _⟩ ?_ s.heap [] 0 0 _ (by rw [hlen]; omega) ⟨hWd, va_S.rf⟩ (LR.entry (X := X) (as := [.ref 1]) (n := 4) (by decide))
  intro pc' st' la' H' locs' hret hS'
  rcases hret with ⟨v, ty, hd, rfl, hv, ht, -⟩ | ⟨v, hd, rfl, hv, ht⟩ | ⟨a, n, hd, rfl, hv, ht⟩ | ⟨hd, rfl, hv, ht⟩
  · cases hv
    refine va_forget (fun q hq => ?_) (lw_ret hx hb hr hlocks hd)
    have := hS'.2.2.2 q hq
    unfold xF at this
    omega
  · cases hv
  · cases hv
  · cases hv
