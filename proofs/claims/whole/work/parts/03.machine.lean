/-! THE ABSTRACT HEAP. A heap is a row of kinds and sizes by number (0: null, 1 .. 31: what was there before the law), the ints by number and place, the references by number and place. -/
abbrev AH : Type := List (Nat × Nat) × (Nat → Nat → Int32) × (Nat → Nat → Nat)
/-- a method: its name, its bytes, its locals, what it returns, how deep it calls -/
abbrev MD : Type := MethodName × ByteArray × Nat × Option FieldType × Nat
/-- launch, class numbers, slots, array classes, where the new cells begin, the old cells, the script's length and ints -/
abbrev CX : Type := Launch × (Nat → ClassId) × (Nat → Nat → Nat) × (Nat → ClassId) × Nat × (Nat → Nat) × Nat × (Nat → Int32)
abbrev xl (X : CX) : Launch := X.1
abbrev xD (X : CX) : va_G := (X.2.1, X.2.2.1)
abbrev xA (X : CX) : Nat → ClassId := X.2.2.2.1
abbrev xN (X : CX) : Nat := X.2.2.2.2.1
abbrev xE (X : CX) : Nat → Nat := X.2.2.2.2.2.1
abbrev xL (X : CX) : Nat := X.2.2.2.2.2.2.1
abbrev xS (X : CX) : Nat → Int32 := X.2.2.2.2.2.2.2
def xF (X : CX) : Nat → Prop := fun q => xN X ≤ q
def tbG : List Cond := lw_tbl.filter goodWord
theorem tbG_of {w : Cond} (h : w ∈ lw_tbl) (g : goodWord w = true) : w ∈ tbG := List.mem_filter.mpr ⟨h, g⟩
theorem tbG_good {w : Cond} (h : w ∈ tbG) : (w.onTables && w.keeps) = true ∨ ∃ ty, w = .arrayClass ty := good_of_word (List.mem_filter.mp h).2
def am (X : CX) (r : Nat) : Nat := if r < 32 then xE X r else xN X + (r - 32)
def rO (X : CX) (r : Nat) : Option Nat := if r = 0 then none else some (am X r)
def rv (X : CX) (v : Value) : Value := match v with
  | .ref r => va_rf (rO X r)
  | w => w
def fv (X : CX) (c f : Nat) (h : AH) (r : Nat) : Value := if rf c f = true then rv X (.ref (h.2.2 r f)) else .int (h.2.1 r f)
def ce (X : CX) (h : AH) (r : Nat) (q : Nat × Nat) : va_E :=
  if q.1 < 20 then .inr (q.1, (List.range q.2).map (fun f => fv X q.1 f h r))
  else if q.1 < 22 then .inl (xA X q.1, q.2, .inl (h.2.1 r))
  else .inl (xA X q.1, q.2, .inr (.inr (.inr (.inr (fun j => rO X (h.2.2 r j))))))
def wo (X : CX) (h : AH) : va_W := (List.range (h.1.length - 32)).map (fun i => (xN X + i, ce X h (i + 32) (h.1.getD (i + 32) (0, 0))))
def sz (h : AH) : Nat := (h.1.map (fun q => q.2)).sum
def tysX (X : CX) : List (ClassId × FieldType) := [(xA X 20, .int), (xA X 21, .boolean), (xA X 22, .object R_St), (xA X 23, .object R_Rg), (xA X 24, .object R_Pg)]
/-! the old cells: the script, the String constants and their bytes -/
def lenS : List Nat := [6, 3, 6, 4, 3, 5, 4, 4]
def bytS : List (List Int32) := [[112, 97, 114, 105, 115, 104], [109, 97, 110], [115, 116, 114, 105, 102, 101], [119, 105, 108, 108], [112, 97, 121], [115, 104, 111, 114, 116], [115, 104, 117, 110], [101, 118, 101, 114]]
def lay0 (L : Nat) : List (Nat × Nat) := [(33, 0), (30, L)] ++ (List.range 8).map (fun _ => (31, 2)) ++ lenS.map (fun n => (32, n)) ++ (List.range 14).map (fun _ => (33, 0))
def mI0 (X : CX) (r : Nat) : Nat → Int32 := if r = 1 then xS X else if 10 ≤ r ∧ r < 18 then (fun j => (bytS.getD (r - 10) []).getD j 0) else fun _ => 0
def mR0 (r : Nat) : Nat → Nat := fun j => if 2 ≤ r ∧ r < 10 ∧ j = 0 then r + 8 else 0
def exO (X : CX) (h : AH) : Prop := h.1.take 32 = lay0 (xL X) ∧ ∀ r, r < 32 → h.2.1 r = mI0 X r ∧ h.2.2 r = mR0 r
def Wd (X : CX) (h : AH) (H : Heap) : Prop := va_P (xD X) cls (wo X h) H ∧ H.size + 32 = xN X + h.1.length ∧ 32 ≤ h.1.length ∧ exO X h
def Sw (X : CX) (h : AH) (s : State) (H : Heap) (locs : List Loc) : Prop := Wd X h H ∧ va_S (xF X) s.heap H locs
/-- calls of a nest mate's own -/
def nestL : List (String × Nat × MethodName) := [(R_Pn, 9, ⟨R_Tl, "<init>", "()V"⟩), (R_Pn, 21, ⟨R_Rd, "<init>", "()V"⟩), (R_Pn, 59, ⟨R_Sg, "<init>", "()V"⟩), (R_Pn, 66, ⟨R_Sh, "<init>", "()V"⟩), (R_Rd, 131, ⟨R_Pn, "isWithin", "(III)Z"⟩), (R_St, 70, ⟨R_Pn, "isWithin", "(III)Z"⟩), (R_Fo, 59, ⟨R_Pn, "isWithin", "(III)Z"⟩), (R_Rg, 21, ⟨R_Pn, "isWithin", "(III)Z"⟩), (R_Sh, 35, ⟨R_Pn, "isWithin", "(III)Z"⟩)]
def zX (X : CX) : Nat := if xE X 19 = 0 then 0 else 18
def Kw (X : CX) (s : State) : Prop := va_K (xD X) cls (tysX X) s ∧ (va_AO R_St s ∧ va_AO R_Rg s ∧ va_AO R_Pg s) ∧ (va_X (xE X 1) (xL X) (xS X) s s.heap ∧ xE X 1 < xN X) ∧ xN X ≤ s.heap.size ∧
  (vk_S 8 lenS bytS (fun i => xE X (2 + i)) (fun i => xE X (10 + i)) (xF X) s s.heap ∧ (∀ q ∈ [(0, 42, "parish"), (1, 53, "man"), (2, 58, "strife"), (3, 71, "will"), (4, 75, "pay"), (5, 77, "short"), (6, 79, "shun"), (7, 81, "ever")], vk_R R_Rd q.2.1 q.2.2 (xE X (2 + q.1)) s)) ∧
  (va_Z "java/lang/String" "COMPACT_STRINGS" "Z" (.int 1) (xF X) s s.heap ∧ va_Z "jdk/internal/util/Preconditions" "SIOOBE_FORMATTER" "Ljava/util/function/BiFunction;" (rv X (.ref (zX X))) (xF X) s s.heap) ∧ (∀ q ∈ nestL, va_Nw (.methodLinkNest q.1 q.2.1 q.2.2 "PromiseNames") s)
def rl (v : Value) : Bool := match v with
  | .retAddr _ => false
  | _ => true
abbrev jk : Value := .retAddr 0
def LR (X : CX) (n : Nat) (ls : List Value) (la : Array Slot) : Prop := la.size = n ∧ ls.length = n ∧ lv_wf la ∧ ∀ (i : Nat) (v : Value), ls[i]? = some v → rl v = true → la[i]? = some (.val (rv X v))
def Fr (X : CX) (M : MD) (p : Program) (s : State) (m : MethodId) (args : Array Value) (meth : Method) (c : Code) (R : Room) : Prop :=
  p.tables.exec = Jvm.exec ∧ c.code = M.2.1 ∧ c.maxLocals = M.2.2.1 ∧ s.vm.findClass M.1.cls = some m.cls ∧ (∀ w ∈ tbG, w.before args s = true) ∧ Kw X s ∧ meth.name = M.1.name ∧ M.2.2.2.2 ≤ R.frames ∧ 34 * M.2.2.2.2 ≤ R.locals
/-- a return: the instruction, the stack, the answer -/
def retI (M : MD) (pc : Nat) (st : List Value) (r : Option Value) : Prop :=
  (∃ (v : Int32) (ty : FieldType), decode M.2.1 pc = .ok (.ireturn, 1) ∧ st = [.int v] ∧ r = some (.int v) ∧ M.2.2.2.1 = some ty ∧ narrow ty (.int v) = .int v) ∨
  (∃ v : Int64, decode M.2.1 pc = .ok (.lreturn, 1) ∧ st = [.long v] ∧ r = some (.long v) ∧ M.2.2.2.1 = some .long) ∨
  (∃ (a : Nat) (n : String), decode M.2.1 pc = .ok (.areturn, 1) ∧ st = [.ref a] ∧ r = some (.ref a) ∧ M.2.2.2.1 = some (.object n)) ∨
  (decode M.2.1 pc = .ok (.return_, 1) ∧ st = [] ∧ r = none ∧ M.2.2.2.1 = none)
/-- from here the method M comes to its return with r and the heap h' -/
def AW (X : CX) (M : MD) (pc : Nat) (ls st : List Value) (h : AH) (r : Option Value) (h' : AH) : Prop :=
  (h.1.length ≤ h'.1.length ∧ sz h ≤ sz h') ∧
  ∀ (p : Program) (e : Env) (s : State) (m : MethodId) (args : Array Value) (below : List Frame) (meth : Method) (c : Code) (R : Room) (Q : State → Prop) (mc ms : Nat), Fr X M p s m args meth c R → mc ≤ R.cells ∧ ms ≤ R.slots →
    (∀ (pc' : Nat) (st' : List Value) (la' : Array Slot) (H' : Heap) (locs' : List Loc), retI M pc' st' r → Sw X h' s H' locs' → W p (xl X) e R s m args below meth c H' locs' mc ms Q (F0 m pc' la' (st'.map (rv X)))) →
    ∀ (H : Heap) (locs : List Loc) (cells slots : Nat) (la : Array Slot), cells + h'.1.length ≤ mc + h.1.length ∧ slots + sz h' ≤ ms + sz h → Sw X h s H locs → LR X M.2.2.1 ls la →
      W p (xl X) e R s m args below meth c H locs cells slots Q (F0 m pc la (st.map (rv X)))
def EW (X : CX) (M : MD) (pc : Nat) (ls st : List Value) (h : AH) (Q : Option Value → AH → Prop) : Prop := ∃ r h', Q r h' ∧ AW X M pc ls st h r h'
theorem EW.mono {X : CX} {M : MD} {pc : Nat} {ls st : List Value} {h : AH} {Q Q' : Option Value → AH → Prop} (k : EW X M pc ls st h Q) (hq : ∀ r h', Q r h' → Q' r h') : EW X M pc ls st h Q' := by
  obtain ⟨r, h', q, w⟩ := k
  exact ⟨r, h', hq _ _ q, w⟩
theorem EW.lift {X : CX} {M : MD} {pc pc2 : Nat} {ls st ls2 st2 : List Value} {h h2 : AH} {Q : Option Value → AH → Prop} (k : EW X M pc2 ls2 st2 h2 Q) (hw : ∀ r h', AW X M pc2 ls2 st2 h2 r h' → AW X M pc ls st h r h') : EW X M pc ls st h Q := by
  obtain ⟨r, h', q, w⟩ := k
  exact ⟨r, h', q, hw _ _ w⟩
/-- an instruction that leaves heap and locals -/
theorem AW.go {X : CX} {M : MD} {pc pc2 : Nat} {ls st st2 : List Value} {h : AH} {r : Option Value} {h' : AH}
    (hw : ∀ (p : Program) (e : Env) (s : State) (m : MethodId) (args : Array Value) (below : List Frame) (meth : Method) (c : Code) (R : Room) (Q : State → Prop), Fr X M p s m args meth c R → ∀ (H : Heap) (locs : List Loc) (cells slots : Nat) (la : Array Slot), Sw X h s H locs → LR X M.2.2.1 ls la →
      W p (xl X) e R s m args below meth c H locs cells slots Q (F0 m pc2 la (st2.map (rv X))) → W p (xl X) e R s m args below meth c H locs cells slots Q (F0 m pc la (st.map (rv X))))
    (k : AW X M pc2 ls st2 h r h') : AW X M pc ls st h r h' :=
  ⟨k.1, fun p e s m args below meth c R Q mc ms F hR hf H locs cells slots la hc hS hl => hw p e s m args below meth c R Q F H locs cells slots la hS hl (k.2 p e s m args below meth c R Q mc ms F hR hf H locs cells slots la hc hS hl)⟩
section Rules1
variable {X : CX} {M : MD} {pc : Nat} {ls rest : List Value} {h : AH} {Q : Option Value → AH → Prop}
theorem P_iconst {n : Int} (hd : decode M.2.1 pc = .ok (.iconst n, 1)) (v : Int32) (hv : Int32.ofInt n = v) (k : EW X M (pc + 1) ls (.int v :: rest) h Q) : EW X M pc ls rest h Q :=
  k.lift fun _ _ => AW.go fun _ _ _ _ _ _ _ _ _ _ F _ _ _ _ _ _ _ w => lv_iconst F.1 F.2.1 hd hv w
theorem P_bipush {n : Int} (hd : decode M.2.1 pc = .ok (.bipush n, 2)) (v : Int32) (hv : (Int8.ofInt n).toInt32 = v) (k : EW X M (pc + 2) ls (.int v :: rest) h Q) : EW X M pc ls rest h Q :=
  k.lift fun _ _ => AW.go fun _ _ _ _ _ _ _ _ _ _ F _ _ _ _ _ _ _ w => lv_bipush F.1 F.2.1 hd hv w
theorem P_sipush {n : Int} (hd : decode M.2.1 pc = .ok (.sipush n, 3)) (v : Int32) (hv : (Int16.ofInt n).toInt32 = v) (k : EW X M (pc + 3) ls (.int v :: rest) h Q) : EW X M pc ls rest h Q :=
  k.lift fun _ _ => AW.go fun _ _ _ _ _ _ _ _ _ _ F _ _ _ _ _ _ _ w => lv_sipush F.1 F.2.1 hd hv w
theorem P_lconst {n : Fin 2} (hd : decode M.2.1 pc = .ok (.lconst n, 1)) (v : Int64) (hv : Int64.ofNat (n : Nat) = v) (k : EW X M (pc + 1) ls (.long v :: rest) h Q) : EW X M pc ls rest h Q :=
  k.lift fun _ _ => AW.go fun _ _ _ _ _ _ _ _ _ _ F _ _ _ _ _ _ _ w => lv_lconst F.1 F.2.1 hd hv w
theorem P_iadd {x y : Int32} (hd : decode M.2.1 pc = .ok (.iadd, 1)) (k : EW X M (pc + 1) ls (.int (x + y) :: rest) h Q) : EW X M pc ls (.int y :: .int x :: rest) h Q :=
  k.lift fun _ _ => AW.go fun _ _ _ _ _ _ _ _ _ _ F _ _ _ _ _ _ _ w => lv_iadd F.1 F.2.1 hd w
theorem P_isub {x y : Int32} (hd : decode M.2.1 pc = .ok (.isub, 1)) (k : EW X M (pc + 1) ls (.int (x - y) :: rest) h Q) : EW X M pc ls (.int y :: .int x :: rest) h Q :=
  k.lift fun _ _ => AW.go fun _ _ _ _ _ _ _ _ _ _ F _ _ _ _ _ _ _ w => lv_isub F.1 F.2.1 hd w
theorem P_imul {x y : Int32} (hd : decode M.2.1 pc = .ok (.imul, 1)) (k : EW X M (pc + 1) ls (.int (x * y) :: rest) h Q) : EW X M pc ls (.int y :: .int x :: rest) h Q :=
  k.lift fun _ _ => AW.go fun _ _ _ _ _ _ _ _ _ _ F _ _ _ _ _ _ _ w => lv_imul F.1 F.2.1 hd w
theorem P_iand {x y : Int32} (hd : decode M.2.1 pc = .ok (.iand, 1)) (k : EW X M (pc + 1) ls (.int (x &&& y) :: rest) h Q) : EW X M pc ls (.int y :: .int x :: rest) h Q :=
  k.lift fun _ _ => AW.go fun _ _ _ _ _ _ _ _ _ _ F _ _ _ _ _ _ _ w => lv_iand F.1 F.2.1 hd w
theorem P_ior {x y : Int32} (hd : decode M.2.1 pc = .ok (.ior, 1)) (k : EW X M (pc + 1) ls (.int (x ||| y) :: rest) h Q) : EW X M pc ls (.int y :: .int x :: rest) h Q :=
  k.lift fun _ _ => AW.go fun _ _ _ _ _ _ _ _ _ _ F _ _ _ _ _ _ _ w => lv_ior F.1 F.2.1 hd w
theorem P_ixor {x y : Int32} (hd : decode M.2.1 pc = .ok (.ixor, 1)) (k : EW X M (pc + 1) ls (.int (x ^^^ y) :: rest) h Q) : EW X M pc ls (.int y :: .int x :: rest) h Q :=
  k.lift fun _ _ => AW.go fun _ _ _ _ _ _ _ _ _ _ F _ _ _ _ _ _ _ w => lv_ixor F.1 F.2.1 hd w
theorem P_ishl {x y : Int32} (hd : decode M.2.1 pc = .ok (.ishl, 1)) (k : EW X M (pc + 1) ls (.int (x <<< (y &&& 31)) :: rest) h Q) : EW X M pc ls (.int y :: .int x :: rest) h Q :=
  k.lift fun _ _ => AW.go fun _ _ _ _ _ _ _ _ _ _ F _ _ _ _ _ _ _ w => lv_ishl F.1 F.2.1 hd w
theorem P_ishr {x y : Int32} (hd : decode M.2.1 pc = .ok (.ishr, 1)) (k : EW X M (pc + 1) ls (.int (x >>> (y &&& 31)) :: rest) h Q) : EW X M pc ls (.int y :: .int x :: rest) h Q :=
  k.lift fun _ _ => AW.go fun _ _ _ _ _ _ _ _ _ _ F _ _ _ _ _ _ _ w => lv_ishr F.1 F.2.1 hd w
theorem P_iushr {x y : Int32} (hd : decode M.2.1 pc = .ok (.iushr, 1)) (k : EW X M (pc + 1) ls (.int ((x.toUInt32 >>> (y.toUInt32 &&& Int32.toUInt32 31)).toInt32) :: rest) h Q) : EW X M pc ls (.int y :: .int x :: rest) h Q :=
  k.lift fun _ _ => AW.go fun _ _ _ _ _ _ _ _ _ _ F _ _ _ _ _ _ _ w => lv_iushr F.1 F.2.1 hd rfl w
theorem P_idiv {x y : Int32} (hd : decode M.2.1 pc = .ok (.idiv, 1)) (hne : ¬ y = 0) (k : EW X M (pc + 1) ls (.int (x / y) :: rest) h Q) : EW X M pc ls (.int y :: .int x :: rest) h Q :=
  k.lift fun _ _ => AW.go fun _ _ _ _ _ _ _ _ _ _ F _ _ _ _ _ _ _ w => lv_idiv F.1 F.2.1 hd hne w
theorem P_irem {x y : Int32} (hd : decode M.2.1 pc = .ok (.irem, 1)) (hne : ¬ y = 0) (k : EW X M (pc + 1) ls (.int (x - x / y * y) :: rest) h Q) : EW X M pc ls (.int y :: .int x :: rest) h Q :=
  k.lift fun _ _ => AW.go fun _ _ _ _ _ _ _ _ _ _ F _ _ _ _ _ _ _ w => lv_irem F.1 F.2.1 hd hne w
theorem P_ladd {x y : Int64} (hd : decode M.2.1 pc = .ok (.ladd, 1)) (k : EW X M (pc + 1) ls (.long (x + y) :: rest) h Q) : EW X M pc ls (.long y :: .long x :: rest) h Q :=
  k.lift fun _ _ => AW.go fun _ _ _ _ _ _ _ _ _ _ F _ _ _ _ _ _ _ w => lv_ladd F.1 F.2.1 hd w
theorem P_lmul {x y : Int64} (hd : decode M.2.1 pc = .ok (.lmul, 1)) (k : EW X M (pc + 1) ls (.long (x * y) :: rest) h Q) : EW X M pc ls (.long y :: .long x :: rest) h Q :=
  k.lift fun _ _ => AW.go fun _ _ _ _ _ _ _ _ _ _ F _ _ _ _ _ _ _ w => lv_lmul F.1 F.2.1 hd w
theorem P_land {x y : Int64} (hd : decode M.2.1 pc = .ok (.land, 1)) (k : EW X M (pc + 1) ls (.long (x &&& y) :: rest) h Q) : EW X M pc ls (.long y :: .long x :: rest) h Q :=
  k.lift fun _ _ => AW.go fun _ _ _ _ _ _ _ _ _ _ F _ _ _ _ _ _ _ w => lv_land F.1 F.2.1 hd w
theorem P_ldiv {x y : Int64} (hd : decode M.2.1 pc = .ok (.ldiv, 1)) (hne : ¬ y = 0) (k : EW X M (pc + 1) ls (.long (x / y) :: rest) h Q) : EW X M pc ls (.long y :: .long x :: rest) h Q :=
  k.lift fun _ _ => AW.go fun _ _ _ _ _ _ _ _ _ _ F _ _ _ _ _ _ _ w => lv_ldiv F.1 F.2.1 hd hne w
theorem P_lrem {x y : Int64} (hd : decode M.2.1 pc = .ok (.lrem, 1)) (hne : ¬ y = 0) (k : EW X M (pc + 1) ls (.long (x - x / y * y) :: rest) h Q) : EW X M pc ls (.long y :: .long x :: rest) h Q :=
  k.lift fun _ _ => AW.go fun _ _ _ _ _ _ _ _ _ _ F _ _ _ _ _ _ _ w => lv_lrem F.1 F.2.1 hd hne w
theorem P_lshr {x : Int64} {y : Int32} (hd : decode M.2.1 pc = .ok (.lshr, 1)) (k : EW X M (pc + 1) ls (.long (x >>> (y.toInt64 &&& 63)) :: rest) h Q) : EW X M pc ls (.int y :: .long x :: rest) h Q :=
  k.lift fun _ _ => AW.go fun _ _ _ _ _ _ _ _ _ _ F _ _ _ _ _ _ _ w => lv_lshr F.1 F.2.1 hd rfl w
theorem P_i2l {x : Int32} (hd : decode M.2.1 pc = .ok (.i2l, 1)) (k : EW X M (pc + 1) ls (.long x.toInt64 :: rest) h Q) : EW X M pc ls (.int x :: rest) h Q :=
  k.lift fun _ _ => AW.go fun _ _ _ _ _ _ _ _ _ _ F _ _ _ _ _ _ _ w => lv_i2l F.1 F.2.1 hd rfl w
theorem P_l2i {x : Int64} (hd : decode M.2.1 pc = .ok (.l2i, 1)) (k : EW X M (pc + 1) ls (.int x.toInt32 :: rest) h Q) : EW X M pc ls (.long x :: rest) h Q :=
  k.lift fun _ _ => AW.go fun _ _ _ _ _ _ _ _ _ _ F _ _ _ _ _ _ _ w => lv_l2i F.1 F.2.1 hd rfl w
theorem P_lcmp {x y : Int64} (hd : decode M.2.1 pc = .ok (.lcmp, 1)) (k : EW X M (pc + 1) ls (.int (lg_cmp x y) :: rest) h Q) : EW X M pc ls (.long y :: .long x :: rest) h Q :=
  k.lift fun _ _ => AW.go fun _ _ _ _ _ _ _ _ _ _ F _ _ _ _ _ _ _ w => W.lcmp F.1 F.2.1 hd w
theorem P_dupI {x : Int32} (hd : decode M.2.1 pc = .ok (.dup, 1)) (k : EW X M (pc + 1) ls (.int x :: .int x :: rest) h Q) : EW X M pc ls (.int x :: rest) h Q :=
  k.lift fun _ _ => AW.go fun _ _ _ _ _ _ _ _ _ _ F _ _ _ _ _ _ _ w => lv_dup F.1 F.2.1 hd rfl w
theorem rv_cat (X : CX) (r : Nat) : (rv X (.ref r)).category = 1 := by
  simp only [rv, rO]; split <;> rfl
theorem P_dupA {x : Nat} (hd : decode M.2.1 pc = .ok (.dup, 1)) (k : EW X M (pc + 1) ls (.ref x :: .ref x :: rest) h Q) : EW X M pc ls (.ref x :: rest) h Q :=
  k.lift fun _ _ => AW.go fun _ _ _ _ _ _ _ _ _ _ F _ _ _ _ _ _ _ w => lv_dup F.1 F.2.1 hd (rv_cat X x) w
theorem P_dup2 {x : Int32} {a : Nat} (hd : decode M.2.1 pc = .ok (.dup2, 1)) (k : EW X M (pc + 1) ls (.int x :: .ref a :: .int x :: .ref a :: rest) h Q) : EW X M pc ls (.int x :: .ref a :: rest) h Q :=
  k.lift fun _ _ => AW.go fun _ _ _ _ _ _ _ _ _ _ F _ _ _ _ _ _ _ w => lv_dup2_11 F.1 F.2.1 hd rfl (rv_cat X a) w
theorem P_null (hd : decode M.2.1 pc = .ok (.aconst_null, 1)) (k : EW X M (pc + 1) ls (.ref 0 :: rest) h Q) : EW X M pc ls rest h Q :=
  k.lift fun _ _ => AW.go fun _ _ _ _ _ _ _ _ _ _ F _ _ _ _ _ _ _ w => lv_null F.1 F.2.1 hd w
theorem P_goto {off : Int} (hd : decode M.2.1 pc = .ok (.goto off, 3)) (tgt : Nat) (ht : (pc : Int) + off = (tgt : Int)) (k : EW X M tgt ls rest h Q) : EW X M pc ls rest h Q :=
  k.lift fun _ _ => AW.go fun _ _ _ _ _ _ _ _ _ _ F _ _ _ _ _ _ _ w => lv_goto F.1 F.2.1 hd ht w
end Rules1
