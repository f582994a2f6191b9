theorem rv_category (X : CX) (v : Value) : (rv X v).category = v.category := by
  cases v with
  | ref r => rw [rv_cat]; rfl
  | _ => rfl
/-- what is known of the locals, as a row -/
def rlL (X : CX) (ls : List Value) : List (Nat × Value) := (List.range ls.length).filterMap (fun j => match ls[j]? with
  | some v => if rl v = true then some (j, rv X v) else none
  | none => none)
theorem rlL_mem {X : CX} {ls : List Value} {q : Nat × Value} (h : q ∈ rlL X ls) : ∃ v, ls[q.1]? = some v ∧ rl v = true ∧ q.2 = rv X v := by
  obtain ⟨j, -, hj⟩ := List.mem_filterMap.mp h
  cases hv : ls[j]? with
  | none => rw [hv] at hj; simp at hj
  | some v =>
    rw [hv] at hj
    by_cases hr : rl v = true
    · simp [hr] at hj
      subst hj
      exact ⟨v, hv, hr, rfl⟩
    · simp [hr] at hj
theorem rlL_of {X : CX} {ls : List Value} {j : Nat} {v : Value} (h : ls[j]? = some v) (hr : rl v = true) : (j, rv X v) ∈ rlL X ls := by
  refine List.mem_filterMap.mpr ⟨j, List.mem_range.mpr (List.getElem?_eq_some_iff.mp h).1, ?_⟩
  rw [h]
  simp [hr]
theorem LR.has {X : CX} {n : Nat} {ls : List Value} {la : Array Slot} (h : LR X n ls la) : lv_has la n (rlL X ls) := by
  refine ⟨h.1, h.2.2.1, fun q hq => ?_⟩
  obtain ⟨v, h1, h2, h3⟩ := rlL_mem hq
  rw [h3]
  exact h.2.2.2 _ _ h1 h2
/-- a value of one word is stored -/
def st1 (ls : List Value) (i : Nat) (v : Value) : List Value := (match i with
  | 0 => ls
  | j + 1 => if (ls.getD j jk).category = 2 then ls.set j jk else ls).set i v
/-- a value of two words is stored -/
def st2 (ls : List Value) (i : Nat) (v : Value) : List Value := (st1 ls i v).set (i + 1) jk
theorem st1_len (ls : List Value) (i : Nat) (v : Value) : (st1 ls i v).length = ls.length := by
  unfold st1
  cases i with
  | zero => simp
  | succ j => simp only [List.length_set]; split <;> simp
theorem st1_at {ls : List Value} {i j : Nat} {v w : Value} (h : (st1 ls i v)[j]? = some w) (hr : rl w = true) : (j = i ∧ w = v) ∨ (j ≠ i ∧ ls[j]? = some w ∧ ¬ (j + 1 = i ∧ w.category = 2)) := by
  unfold st1 at h
  by_cases hj : j = i
  · subst hj
    left
    refine ⟨rfl, ?_⟩
    rw [List.getElem?_set] at h
    simp at h
    exact h.2.symm
  · right
    rw [List.getElem?_set_ne (Ne.symm hj)] at h
    cases i with
    | zero => exact ⟨hj, h, fun q => by omega⟩
    | succ i =>
      dsimp only at h
      split at h
      · rename_i hc
        by_cases h2 : j = i
        · subst h2
          rw [List.getElem?_set] at h
          simp at h
          rw [← h.2] at hr
          simp [rl] at hr
        · rw [List.getElem?_set_ne (Ne.symm h2)] at h
          exact ⟨hj, h, fun q => h2 (by omega)⟩
      · rename_i hc
        refine ⟨hj, h, fun q => hc ?_⟩
        have : i = j := by omega
        subst this
        rw [List.getD_eq_getElem?_getD, h]
        exact q.2
theorem LR_st1 {X : CX} {n i : Nat} {ls : List Value} {la la' : Array Slot} {v : Value} (hl : LR X n ls la) (h' : lv_has la' n ((i, rv X v) :: (rlL X ls).filter (fun q => !(q.1 == i) && !(q.1 + 1 == i && q.2.category == 2)))) : LR X n (st1 ls i v) la' := by
  refine ⟨h'.1, by rw [st1_len]; exact hl.2.1, h'.2.1, fun j w hj hr => ?_⟩
  rcases st1_at hj hr with ⟨rfl, rfl⟩ | ⟨h1, h2, h3⟩
  · exact h'.2.2 _ List.mem_cons_self
  · refine h'.2.2 (j, rv X w) (List.mem_cons_of_mem _ (List.mem_filter.mpr ⟨rlL_of h2 hr, ?_⟩))
    simp only [rv_category]
    by_cases hji : j + 1 = i
    · have : ¬ w.category = 2 := fun q => h3 ⟨hji, q⟩
      simp [h1, this]
    · simp [h1, hji]
theorem LR_st2 {X : CX} {n i : Nat} {ls : List Value} {la la' : Array Slot} {v : Value} (hl : LR X n ls la) (h' : lv_has la' n ((i, rv X v) :: (rlL X ls).filter (fun q => !(q.1 == i) && (!(q.1 == i + 1) && !(q.1 + 1 == i && q.2.category == 2))))) : LR X n (st2 ls i v) la' := by
  refine ⟨h'.1, by unfold st2; rw [List.length_set, st1_len]; exact hl.2.1, h'.2.1, fun j w hj hr => ?_⟩
  unfold st2 at hj
  by_cases hi : j = i + 1
  · subst hi
    rw [List.getElem?_set] at hj
    simp at hj
    rw [← hj.2] at hr
    simp [rl] at hr
  rw [List.getElem?_set_ne (Ne.symm hi)] at hj
  rcases st1_at hj hr with ⟨rfl, rfl⟩ | ⟨h1, h2, h3⟩
  · exact h'.2.2 _ List.mem_cons_self
  · refine h'.2.2 (j, rv X w) (List.mem_cons_of_mem _ (List.mem_filter.mpr ⟨rlL_of h2 hr, ?_⟩))
    simp only [rv_category]
    by_cases hji : j + 1 = i
    · have : ¬ w.category = 2 := fun q => h3 ⟨hji, q⟩
      simp [h1, hi, this]
    · simp [h1, hi, hji]
/-- an instruction that leaves the heap -/
theorem AW.go2 {X : CX} {M : MD} {pc pc2 : Nat} {ls ls2 st st2 : List Value} {h : AH} {r : Option Value} {h' : AH}
    (hw : ∀ (p : Program) (e : Env) (s : State) (m : MethodId) (args : Array Value) (below : List Frame) (meth : Method) (c : Code) (R : Room) (Q : State → Prop), Fr X M p s m args meth c R → ∀ (H : Heap) (locs : List Loc) (cells slots : Nat) (la : Array Slot), Sw X h s H locs → LR X M.2.2.1 ls la →
      (∀ la2, LR X M.2.2.1 ls2 la2 → W p (xl X) e R s m args below meth c H locs cells slots Q (F0 m pc2 la2 (st2.map (rv X)))) → W p (xl X) e R s m args below meth c H locs cells slots Q (F0 m pc la (st.map (rv X))))
    (k : AW X M pc2 ls2 st2 h r h') : AW X M pc ls st h r h' :=
  ⟨k.1, fun p e s m args below meth c R Q mc ms F hR hf H locs cells slots la hc hS hl => hw p e s m args below meth c R Q F H locs cells slots la hS hl (fun la2 hl2 => k.2 p e s m args below meth c R Q mc ms F hR hf H locs cells slots la2 hc hS hl2)⟩
section Rules2
variable {X : CX} {M : MD} {pc : Nat} {ls rest : List Value} {h : AH} {Q : Option Value → AH → Prop}
theorem g_iload {i : Nat} {x : Int32} (hd : decode M.2.1 pc = .ok (.iload i, 2)) (hv : ls[i]? = some (.int x)) (k : EW X M (pc + 2) ls (.int x :: rest) h Q) : EW X M pc ls rest h Q :=
  k.lift fun _ _ => AW.go fun _ _ _ _ _ _ _ _ _ _ F _ _ _ _ _ _ hl w => lv_iload F.1 F.2.1 hd (hl.2.2.2 _ _ hv rfl) w
theorem g_iload_n {i : Fin 4} {x : Int32} (hd : decode M.2.1 pc = .ok (.iload_n i, 1)) (hv : ls[i.val]? = some (.int x)) (k : EW X M (pc + 1) ls (.int x :: rest) h Q) : EW X M pc ls rest h Q :=
  k.lift fun _ _ => AW.go fun _ _ _ _ _ _ _ _ _ _ F _ _ _ _ _ _ hl w => lv_iload_n F.1 F.2.1 hd rfl (hl.2.2.2 _ _ hv rfl) w
theorem g_lload {i : Nat} {x : Int64} (hd : decode M.2.1 pc = .ok (.lload i, 2)) (hv : ls[i]? = some (.long x)) (k : EW X M (pc + 2) ls (.long x :: rest) h Q) : EW X M pc ls rest h Q :=
  k.lift fun _ _ => AW.go fun _ _ _ _ _ _ _ _ _ _ F _ _ _ _ _ _ hl w => lv_lload F.1 F.2.1 hd (hl.2.2.2 _ _ hv rfl) w
theorem g_lload_n {i : Fin 4} {x : Int64} (hd : decode M.2.1 pc = .ok (.lload_n i, 1)) (hv : ls[i.val]? = some (.long x)) (k : EW X M (pc + 1) ls (.long x :: rest) h Q) : EW X M pc ls rest h Q :=
  k.lift fun _ _ => AW.go fun _ _ _ _ _ _ _ _ _ _ F _ _ _ _ _ _ hl w => lv_lload_n F.1 F.2.1 hd rfl (hl.2.2.2 _ _ hv rfl) w
theorem rv_ref (X : CX) (r : Nat) : (r = 0 ∧ rv X (.ref r) = .null) ∨ (r ≠ 0 ∧ rv X (.ref r) = .ref (am X r)) := by
  by_cases hr : r = 0
  · left; exact ⟨hr, by simp [rv, rO, hr, va_rf]⟩
  · right; exact ⟨hr, by simp [rv, rO, hr, va_rf]⟩
theorem g_aload {i : Nat} {x : Nat} (hd : decode M.2.1 pc = .ok (.aload i, 2)) (hv : ls[i]? = some (.ref x)) (k : EW X M (pc + 2) ls (.ref x :: rest) h Q) : EW X M pc ls rest h Q :=
  k.lift fun _ _ => AW.go fun _ _ _ _ _ _ _ _ _ _ F _ _ _ _ _ _ hl w => by
    have hq := hl.2.2.2 _ _ hv rfl
    simp only [List.map_cons] at w
    rcases rv_ref X x with ⟨-, e⟩ | ⟨-, e⟩ <;> rw [e] at hq w
    · exact lv_aloadN F.1 F.2.1 hd hq w
    · exact lv_aload F.1 F.2.1 hd hq w
theorem g_aload_n {i : Fin 4} {x : Nat} (hd : decode M.2.1 pc = .ok (.aload_n i, 1)) (hv : ls[i.val]? = some (.ref x)) (k : EW X M (pc + 1) ls (.ref x :: rest) h Q) : EW X M pc ls rest h Q :=
  k.lift fun _ _ => AW.go fun _ _ _ _ _ _ _ _ _ _ F _ _ _ _ _ _ hl w => by
    have hq := hl.2.2.2 _ _ hv rfl
    simp only [List.map_cons] at w
    rcases rv_ref X x with ⟨-, e⟩ | ⟨-, e⟩ <;> rw [e] at hq w
    · exact lv_aload_nN F.1 F.2.1 hd rfl hq w
    · exact lv_aload_n F.1 F.2.1 hd rfl hq w
theorem g_istore {i : Nat} {x : Int32} {ls2 : List Value} (hd : decode M.2.1 pc = .ok (.istore i, 2)) (hi : i < M.2.2.1) (hl2 : st1 ls i (.int x) = ls2) (k : EW X M (pc + 2) ls2 rest h Q) : EW X M pc ls (.int x :: rest) h Q :=
  k.lift fun _ _ => AW.go2 fun _ _ _ _ _ _ _ _ _ _ F _ _ _ _ _ _ hl w => lv_istore F.1 F.2.1 hd hl.has hi rfl (fun la2 h2 => w la2 (hl2 ▸ LR_st1 hl h2))
theorem g_istore_n {i : Fin 4} {x : Int32} {ls2 : List Value} (hd : decode M.2.1 pc = .ok (.istore_n i, 1)) (hi : i.val < M.2.2.1) (hl2 : st1 ls i.val (.int x) = ls2) (k : EW X M (pc + 1) ls2 rest h Q) : EW X M pc ls (.int x :: rest) h Q :=
  k.lift fun _ _ => AW.go2 fun _ _ _ _ _ _ _ _ _ _ F _ _ _ _ _ _ hl w => lv_istore_n F.1 F.2.1 hd rfl hl.has hi rfl (fun la2 h2 => w la2 (hl2 ▸ LR_st1 hl h2))
theorem g_lstore {i : Nat} {x : Int64} {ls2 : List Value} (hd : decode M.2.1 pc = .ok (.lstore i, 2)) (hi : i + 1 < M.2.2.1) (hl2 : st2 ls i (.long x) = ls2) (k : EW X M (pc + 2) ls2 rest h Q) : EW X M pc ls (.long x :: rest) h Q :=
  k.lift fun _ _ => AW.go2 fun _ _ _ _ _ _ _ _ _ _ F _ _ _ _ _ _ hl w => lv_lstore F.1 F.2.1 hd hl.has hi rfl (fun la2 h2 => w la2 (hl2 ▸ LR_st2 hl h2))
theorem g_lstore_n {i : Fin 4} {x : Int64} {ls2 : List Value} (hd : decode M.2.1 pc = .ok (.lstore_n i, 1)) (hi : i.val + 1 < M.2.2.1) (hl2 : st2 ls i.val (.long x) = ls2) (k : EW X M (pc + 1) ls2 rest h Q) : EW X M pc ls (.long x :: rest) h Q :=
  k.lift fun _ _ => AW.go2 fun _ _ _ _ _ _ _ _ _ _ F _ _ _ _ _ _ hl w => lv_lstore_n F.1 F.2.1 hd rfl hl.has hi rfl (fun la2 h2 => w la2 (hl2 ▸ LR_st2 hl h2))
theorem g_astore {i : Nat} {x : Nat} {ls2 : List Value} (hd : decode M.2.1 pc = .ok (.astore i, 2)) (hi : i < M.2.2.1) (hl2 : st1 ls i (.ref x) = ls2) (k : EW X M (pc + 2) ls2 rest h Q) : EW X M pc ls (.ref x :: rest) h Q :=
  k.lift fun _ _ => AW.go2 fun _ _ _ _ _ _ _ _ _ _ F _ _ _ _ _ _ hl w => by
    simp only [List.map_cons]
    rcases rv_ref X x with ⟨-, e⟩ | ⟨-, e⟩ <;> rw [e]
    · exact lv_astoreN F.1 F.2.1 hd hl.has hi rfl (fun la2 h2 => w la2 (hl2 ▸ LR_st1 hl (by rw [e]; exact h2)))
    · exact lv_astore F.1 F.2.1 hd hl.has hi rfl (fun la2 h2 => w la2 (hl2 ▸ LR_st1 hl (by rw [e]; exact h2)))
theorem g_astore_n {i : Fin 4} {x : Nat} {ls2 : List Value} (hd : decode M.2.1 pc = .ok (.astore_n i, 1)) (hi : i.val < M.2.2.1) (hl2 : st1 ls i.val (.ref x) = ls2) (k : EW X M (pc + 1) ls2 rest h Q) : EW X M pc ls (.ref x :: rest) h Q :=
  k.lift fun _ _ => AW.go2 fun _ _ _ _ _ _ _ _ _ _ F _ _ _ _ _ _ hl w => by
    simp only [List.map_cons]
    rcases rv_ref X x with ⟨-, e⟩ | ⟨-, e⟩ <;> rw [e]
    · exact lv_astore_nN F.1 F.2.1 hd rfl hl.has hi rfl (fun la2 h2 => w la2 (hl2 ▸ LR_st1 hl (by rw [e]; exact h2)))
    · exact lv_astore_n F.1 F.2.1 hd rfl hl.has hi rfl (fun la2 h2 => w la2 (hl2 ▸ LR_st1 hl (by rw [e]; exact h2)))
theorem g_iinc {i : Nat} {n : Int} {x c : Int32} {ls2 : List Value} (hd : decode M.2.1 pc = .ok (.iinc i n, 3)) (hi : i < M.2.2.1) (hv : ls[i]? = some (.int x)) (hc : Int32.ofInt n = c) (hl2 : st1 ls i (.int (x + c)) = ls2) (k : EW X M (pc + 3) ls2 rest h Q) : EW X M pc ls rest h Q :=
  k.lift fun _ _ => AW.go2 fun _ _ _ _ _ _ _ _ _ _ F _ _ _ _ _ _ hl w => by
    obtain ⟨kk, hk⟩ := List.getElem?_of_mem (rlL_of (X := X) hv rfl)
    exact lv_iinc F.1 F.2.1 hd hl.has hk (by rw [hc]) hi rfl (fun la2 h2 => w la2 (hl2 ▸ LR_st1 hl h2))
theorem P_if_eq {x : Int32} {off : Int} (hd : decode M.2.1 pc = .ok (.ifCond .eq off, 3)) (tgt : Nat) (ht : (pc : Int) + off = (tgt : Int)) (kt : x = 0 → EW X M tgt ls rest h Q) (kf : ¬ x = 0 → EW X M (pc + 3) ls rest h Q) : EW X M pc ls (.int x :: rest) h Q := by
  by_cases q : x = 0
  · exact (kt q).lift fun _ _ => AW.go fun _ _ _ _ _ _ _ _ _ _ F _ _ _ _ _ _ _ w => lv_if_eq F.1 F.2.1 hd ht (fun _ => w) (fun q2 => absurd q (by first | exact q2 | exact fun z => z q2))
  · exact (kf (by first | exact q | exact Classical.not_not.mp q)).lift fun _ _ => AW.go fun _ _ _ _ _ _ _ _ _ _ F _ _ _ _ _ _ _ w => lv_if_eq F.1 F.2.1 hd ht (fun q2 => absurd q2 q) (fun _ => w)
theorem P_if_ne {x : Int32} {off : Int} (hd : decode M.2.1 pc = .ok (.ifCond .ne off, 3)) (tgt : Nat) (ht : (pc : Int) + off = (tgt : Int)) (kt : ¬ x = 0 → EW X M tgt ls rest h Q) (kf : x = 0 → EW X M (pc + 3) ls rest h Q) : EW X M pc ls (.int x :: rest) h Q := by
  by_cases q : ¬ x = 0
  · exact (kt q).lift fun _ _ => AW.go fun _ _ _ _ _ _ _ _ _ _ F _ _ _ _ _ _ _ w => lv_if_ne F.1 F.2.1 hd ht (fun _ => w) (fun q2 => absurd q (by first | exact q2 | exact fun z => z q2))
  · exact (kf (by first | exact q | exact Classical.not_not.mp q)).lift fun _ _ => AW.go fun _ _ _ _ _ _ _ _ _ _ F _ _ _ _ _ _ _ w => lv_if_ne F.1 F.2.1 hd ht (fun q2 => absurd q2 q) (fun _ => w)
theorem P_if_lt {x : Int32} {off : Int} (hd : decode M.2.1 pc = .ok (.ifCond .lt off, 3)) (tgt : Nat) (ht : (pc : Int) + off = (tgt : Int)) (kt : x < 0 → EW X M tgt ls rest h Q) (kf : ¬ x < 0 → EW X M (pc + 3) ls rest h Q) : EW X M pc ls (.int x :: rest) h Q := by
  by_cases q : x < 0
  · exact (kt q).lift fun _ _ => AW.go fun _ _ _ _ _ _ _ _ _ _ F _ _ _ _ _ _ _ w => lv_if_lt F.1 F.2.1 hd ht (fun _ => w) (fun q2 => absurd q (by first | exact q2 | exact fun z => z q2))
  · exact (kf (by first | exact q | exact Classical.not_not.mp q)).lift fun _ _ => AW.go fun _ _ _ _ _ _ _ _ _ _ F _ _ _ _ _ _ _ w => lv_if_lt F.1 F.2.1 hd ht (fun q2 => absurd q2 q) (fun _ => w)
theorem P_if_ge {x : Int32} {off : Int} (hd : decode M.2.1 pc = .ok (.ifCond .ge off, 3)) (tgt : Nat) (ht : (pc : Int) + off = (tgt : Int)) (kt : 0 ≤ x → EW X M tgt ls rest h Q) (kf : ¬ 0 ≤ x → EW X M (pc + 3) ls rest h Q) : EW X M pc ls (.int x :: rest) h Q := by
  by_cases q : 0 ≤ x
  · exact (kt q).lift fun _ _ => AW.go fun _ _ _ _ _ _ _ _ _ _ F _ _ _ _ _ _ _ w => lv_if_ge F.1 F.2.1 hd ht (fun _ => w) (fun q2 => absurd q (by first | exact q2 | exact fun z => z q2))
  · exact (kf (by first | exact q | exact Classical.not_not.mp q)).lift fun _ _ => AW.go fun _ _ _ _ _ _ _ _ _ _ F _ _ _ _ _ _ _ w => lv_if_ge F.1 F.2.1 hd ht (fun q2 => absurd q2 q) (fun _ => w)
theorem P_if_gt {x : Int32} {off : Int} (hd : decode M.2.1 pc = .ok (.ifCond .gt off, 3)) (tgt : Nat) (ht : (pc : Int) + off = (tgt : Int)) (kt : 0 < x → EW X M tgt ls rest h Q) (kf : ¬ 0 < x → EW X M (pc + 3) ls rest h Q) : EW X M pc ls (.int x :: rest) h Q := by
  by_cases q : 0 < x
  · exact (kt q).lift fun _ _ => AW.go fun _ _ _ _ _ _ _ _ _ _ F _ _ _ _ _ _ _ w => lv_if_gt F.1 F.2.1 hd ht (fun _ => w) (fun q2 => absurd q (by first | exact q2 | exact fun z => z q2))
  · exact (kf (by first | exact q | exact Classical.not_not.mp q)).lift fun _ _ => AW.go fun _ _ _ _ _ _ _ _ _ _ F _ _ _ _ _ _ _ w => lv_if_gt F.1 F.2.1 hd ht (fun q2 => absurd q2 q) (fun _ => w)
theorem P_if_le {x : Int32} {off : Int} (hd : decode M.2.1 pc = .ok (.ifCond .le off, 3)) (tgt : Nat) (ht : (pc : Int) + off = (tgt : Int)) (kt : x ≤ 0 → EW X M tgt ls rest h Q) (kf : ¬ x ≤ 0 → EW X M (pc + 3) ls rest h Q) : EW X M pc ls (.int x :: rest) h Q := by
  by_cases q : x ≤ 0
  · exact (kt q).lift fun _ _ => AW.go fun _ _ _ _ _ _ _ _ _ _ F _ _ _ _ _ _ _ w => lv_if_le F.1 F.2.1 hd ht (fun _ => w) (fun q2 => absurd q (by first | exact q2 | exact fun z => z q2))
  · exact (kf (by first | exact q | exact Classical.not_not.mp q)).lift fun _ _ => AW.go fun _ _ _ _ _ _ _ _ _ _ F _ _ _ _ _ _ _ w => lv_if_le F.1 F.2.1 hd ht (fun q2 => absurd q2 q) (fun _ => w)
theorem P_icmp_eq {x y : Int32} {off : Int} (hd : decode M.2.1 pc = .ok (.if_icmp .eq off, 3)) (tgt : Nat) (ht : (pc : Int) + off = (tgt : Int)) (kt : x = y → EW X M tgt ls rest h Q) (kf : ¬ x = y → EW X M (pc + 3) ls rest h Q) : EW X M pc ls (.int y :: .int x :: rest) h Q := by
  by_cases q : x = y
  · exact (kt q).lift fun _ _ => AW.go fun _ _ _ _ _ _ _ _ _ _ F _ _ _ _ _ _ _ w => lv_icmp_eq F.1 F.2.1 hd ht (fun _ => w) (fun q2 => absurd q (by first | exact q2 | exact fun z => z q2))
  · exact (kf (by first | exact q | exact Classical.not_not.mp q)).lift fun _ _ => AW.go fun _ _ _ _ _ _ _ _ _ _ F _ _ _ _ _ _ _ w => lv_icmp_eq F.1 F.2.1 hd ht (fun q2 => absurd q2 q) (fun _ => w)
theorem P_icmp_ne {x y : Int32} {off : Int} (hd : decode M.2.1 pc = .ok (.if_icmp .ne off, 3)) (tgt : Nat) (ht : (pc : Int) + off = (tgt : Int)) (kt : ¬ x = y → EW X M tgt ls rest h Q) (kf : x = y → EW X M (pc + 3) ls rest h Q) : EW X M pc ls (.int y :: .int x :: rest) h Q := by
  by_cases q : ¬ x = y
  · exact (kt q).lift fun _ _ => AW.go fun _ _ _ _ _ _ _ _ _ _ F _ _ _ _ _ _ _ w => lv_icmp_ne F.1 F.2.1 hd ht (fun _ => w) (fun q2 => absurd q (by first | exact q2 | exact fun z => z q2))
  · exact (kf (by first | exact q | exact Classical.not_not.mp q)).lift fun _ _ => AW.go fun _ _ _ _ _ _ _ _ _ _ F _ _ _ _ _ _ _ w => lv_icmp_ne F.1 F.2.1 hd ht (fun q2 => absurd q2 q) (fun _ => w)
theorem P_icmp_lt {x y : Int32} {off : Int} (hd : decode M.2.1 pc = .ok (.if_icmp .lt off, 3)) (tgt : Nat) (ht : (pc : Int) + off = (tgt : Int)) (kt : x < y → EW X M tgt ls rest h Q) (kf : ¬ x < y → EW X M (pc + 3) ls rest h Q) : EW X M pc ls (.int y :: .int x :: rest) h Q := by
  by_cases q : x < y
  · exact (kt q).lift fun _ _ => AW.go fun _ _ _ _ _ _ _ _ _ _ F _ _ _ _ _ _ _ w => lv_icmp_lt F.1 F.2.1 hd ht (fun _ => w) (fun q2 => absurd q (by first | exact q2 | exact fun z => z q2))
  · exact (kf (by first | exact q | exact Classical.not_not.mp q)).lift fun _ _ => AW.go fun _ _ _ _ _ _ _ _ _ _ F _ _ _ _ _ _ _ w => lv_icmp_lt F.1 F.2.1 hd ht (fun q2 => absurd q2 q) (fun _ => w)
theorem P_icmp_ge {x y : Int32} {off : Int} (hd : decode M.2.1 pc = .ok (.if_icmp .ge off, 3)) (tgt : Nat) (ht : (pc : Int) + off = (tgt : Int)) (kt : y ≤ x → EW X M tgt ls rest h Q) (kf : ¬ y ≤ x → EW X M (pc + 3) ls rest h Q) : EW X M pc ls (.int y :: .int x :: rest) h Q := by
  by_cases q : y ≤ x
  · exact (kt q).lift fun _ _ => AW.go fun _ _ _ _ _ _ _ _ _ _ F _ _ _ _ _ _ _ w => lv_icmp_ge F.1 F.2.1 hd ht (fun _ => w) (fun q2 => absurd q (by first | exact q2 | exact fun z => z q2))
  · exact (kf (by first | exact q | exact Classical.not_not.mp q)).lift fun _ _ => AW.go fun _ _ _ _ _ _ _ _ _ _ F _ _ _ _ _ _ _ w => lv_icmp_ge F.1 F.2.1 hd ht (fun q2 => absurd q2 q) (fun _ => w)
theorem P_icmp_gt {x y : Int32} {off : Int} (hd : decode M.2.1 pc = .ok (.if_icmp .gt off, 3)) (tgt : Nat) (ht : (pc : Int) + off = (tgt : Int)) (kt : y < x → EW X M tgt ls rest h Q) (kf : ¬ y < x → EW X M (pc + 3) ls rest h Q) : EW X M pc ls (.int y :: .int x :: rest) h Q := by
  by_cases q : y < x
  · exact (kt q).lift fun _ _ => AW.go fun _ _ _ _ _ _ _ _ _ _ F _ _ _ _ _ _ _ w => lv_icmp_gt F.1 F.2.1 hd ht (fun _ => w) (fun q2 => absurd q (by first | exact q2 | exact fun z => z q2))
  · exact (kf (by first | exact q | exact Classical.not_not.mp q)).lift fun _ _ => AW.go fun _ _ _ _ _ _ _ _ _ _ F _ _ _ _ _ _ _ w => lv_icmp_gt F.1 F.2.1 hd ht (fun q2 => absurd q2 q) (fun _ => w)
theorem P_icmp_le {x y : Int32} {off : Int} (hd : decode M.2.1 pc = .ok (.if_icmp .le off, 3)) (tgt : Nat) (ht : (pc : Int) + off = (tgt : Int)) (kt : x ≤ y → EW X M tgt ls rest h Q) (kf : ¬ x ≤ y → EW X M (pc + 3) ls rest h Q) : EW X M pc ls (.int y :: .int x :: rest) h Q := by
  by_cases q : x ≤ y
  · exact (kt q).lift fun _ _ => AW.go fun _ _ _ _ _ _ _ _ _ _ F _ _ _ _ _ _ _ w => lv_icmp_le F.1 F.2.1 hd ht (fun _ => w) (fun q2 => absurd q (by first | exact q2 | exact fun z => z q2))
  · exact (kf (by first | exact q | exact Classical.not_not.mp q)).lift fun _ _ => AW.go fun _ _ _ _ _ _ _ _ _ _ F _ _ _ _ _ _ _ w => lv_icmp_le F.1 F.2.1 hd ht (fun q2 => absurd q2 q) (fun _ => w)
theorem P_ifnull {x : Nat} {off : Int} (hd : decode M.2.1 pc = .ok (.ifnull off, 3)) (tgt : Nat) (ht : (pc : Int) + off = (tgt : Int)) (kt : x = 0 → EW X M tgt ls rest h Q) (kf : ¬ x = 0 → EW X M (pc + 3) ls rest h Q) : EW X M pc ls (.ref x :: rest) h Q := by
  rcases rv_ref X x with ⟨q, e⟩ | ⟨q, e⟩
  · exact (kt q).lift fun _ _ => AW.go fun _ _ _ _ _ _ _ _ _ _ F _ _ _ _ _ _ _ w => by
      simp only [List.map_cons]; rw [e]; exact lv_ifnullN F.1 F.2.1 hd ht w
  · exact (kf q).lift fun _ _ => AW.go fun _ _ _ _ _ _ _ _ _ _ F _ _ _ _ _ _ _ w => by
      simp only [List.map_cons]; rw [e]; exact lv_ifnull F.1 F.2.1 hd w
theorem P_ifnonnull {x : Nat} {off : Int} (hd : decode M.2.1 pc = .ok (.ifnonnull off, 3)) (tgt : Nat) (ht : (pc : Int) + off = (tgt : Int)) (kt : ¬ x = 0 → EW X M tgt ls rest h Q) (kf : x = 0 → EW X M (pc + 3) ls rest h Q) : EW X M pc ls (.ref x :: rest) h Q := by
  rcases rv_ref X x with ⟨q, e⟩ | ⟨q, e⟩
  · exact (kf q).lift fun _ _ => AW.go fun _ _ _ _ _ _ _ _ _ _ F _ _ _ _ _ _ _ w => by
      simp only [List.map_cons]; rw [e]; exact lv_ifnonnullN F.1 F.2.1 hd w
  · exact (kt q).lift fun _ _ => AW.go fun _ _ _ _ _ _ _ _ _ _ F _ _ _ _ _ _ _ w => by
      simp only [List.map_cons]; rw [e]; exact lv_ifnonnull F.1 F.2.1 hd ht w
theorem rO_inj {X : CX} {a b : Nat} (ha : a = 0 ∨ 32 ≤ a) (hb : b = 0 ∨ 32 ≤ b) : rO X a = rO X b ↔ a = b := by
  constructor
  · intro e
    by_cases h1 : a = 0
    · by_cases h2 : b = 0
      · omega
      · simp [rO, h1, h2] at e
    · by_cases h2 : b = 0
      · simp [rO, h1, h2] at e
      · have h3 : ¬ a < 32 := by omega
        have h4 : ¬ b < 32 := by omega
        simp [rO, am, h1, h2, h3, h4] at e
        omega
  · rintro rfl; rfl
theorem P_acmp_ne {x y : Nat} {off : Int} (hd : decode M.2.1 pc = .ok (.if_acmp .ne off, 3)) (tgt : Nat) (ht : (pc : Int) + off = (tgt : Int)) (hx : x = 0 ∨ 32 ≤ x) (hy : y = 0 ∨ 32 ≤ y) (kt : ¬ x = y → EW X M tgt ls rest h Q) (kf : x = y → EW X M (pc + 3) ls rest h Q) : EW X M pc ls (.ref y :: .ref x :: rest) h Q := by
  by_cases q : x = y
  · exact (kf q).lift fun _ _ => AW.go fun _ _ _ _ _ _ _ _ _ _ F _ _ _ _ _ _ _ w => lv_acmp_ne F.1 F.2.1 hd ht (fun q2 => absurd ((rO_inj hx hy).mpr q) (by first | exact q2 | exact fun z => q2 z)) (fun _ => w)
  · exact (kt q).lift fun _ _ => AW.go fun _ _ _ _ _ _ _ _ _ _ F _ _ _ _ _ _ _ w => lv_acmp_ne F.1 F.2.1 hd ht (fun _ => w) (fun q2 => absurd ((rO_inj hx hy).mp q2) q)
theorem P_tableOut {dflt lo hi : Int} {offs : Array Int} {len : Nat} {x : Int32} (hd : decode M.2.1 pc = .ok (.tableswitch dflt lo hi offs, len)) (tgt : Nat) (ht : (pc : Int) + dflt = (tgt : Int)) (hx : x.toInt < lo ∨ hi < x.toInt) (k : EW X M tgt ls rest h Q) : EW X M pc ls (.int x :: rest) h Q :=
  k.lift fun _ _ => AW.go fun _ _ _ _ _ _ _ _ _ _ F _ _ _ _ _ _ _ w => lv_tableOut F.1 F.2.1 hd hx ht w
theorem P_tableIn {dflt lo hi : Int} {offs : Array Int} {len : Nat} {x : Int32} (hd : decode M.2.1 pc = .ok (.tableswitch dflt lo hi offs, len)) (off : Int) (tgt : Nat) (h1 : ¬ x.toInt < lo) (h2 : ¬ hi < x.toInt) (ho : offs[(x.toInt - lo).toNat]? = some off) (ht : (pc : Int) + off = (tgt : Int)) (k : EW X M tgt ls rest h Q) : EW X M pc ls (.int x :: rest) h Q :=
  k.lift fun _ _ => AW.go fun _ _ _ _ _ _ _ _ _ _ F _ _ _ _ _ _ _ w => lv_tableIn F.1 F.2.1 hd h1 h2 ho ht w
/-! returns -/
theorem P_ret {st : List Value} {r : Option Value} (hr : retI M pc st r) (hq : Q r h) : EW X M pc ls st h Q :=
  ⟨r, h, hq, ⟨⟨Nat.le_refl _, Nat.le_refl _⟩, fun _ _ _ _ _ _ _ _ _ _ _ _ _ _ hf _ _ _ _ _ hc hS _ => W.widen (by omega) (by omega) (hf _ _ _ _ _ hr hS)⟩⟩
theorem P_iret {v : Int32} (hd : decode M.2.1 pc = .ok (.ireturn, 1)) (ht : M.2.2.2.1 = some .int) (hq : Q (some (.int v)) h) : EW X M pc ls [.int v] h Q := P_ret (Or.inl ⟨v, .int, hd, rfl, rfl, ht, rfl⟩) hq
theorem P_zret {v : Int32} (hd : decode M.2.1 pc = .ok (.ireturn, 1)) (ht : M.2.2.2.1 = some .boolean) (hv : v = 0 ∨ v = 1) (hq : Q (some (.int v)) h) : EW X M pc ls [.int v] h Q := P_ret (Or.inl ⟨v, .boolean, hd, rfl, rfl, ht, by rcases hv with rfl | rfl <;> rfl⟩) hq
theorem P_lret {v : Int64} (hd : decode M.2.1 pc = .ok (.lreturn, 1)) (ht : M.2.2.2.1 = some .long) (hq : Q (some (.long v)) h) : EW X M pc ls [.long v] h Q := P_ret (Or.inr (Or.inl ⟨v, hd, rfl, rfl, ht⟩)) hq
theorem P_aret {v : Nat} {n : String} (hd : decode M.2.1 pc = .ok (.areturn, 1)) (ht : M.2.2.2.1 = some (.object n)) (hq : Q (some (.ref v)) h) : EW X M pc ls [.ref v] h Q := P_ret (Or.inr (Or.inr (Or.inl ⟨v, n, hd, rfl, rfl, ht⟩))) hq
theorem P_vret (hd : decode M.2.1 pc = .ok (.return_, 1)) (ht : M.2.2.2.1 = none) (hq : Q none h) : EW X M pc ls [] h Q := P_ret (Or.inr (Or.inr (Or.inr ⟨hd, rfl, rfl, ht⟩))) hq
end Rules2
