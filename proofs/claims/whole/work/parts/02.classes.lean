def R_Pn : String := "PromiseNames"
def F_Pn : u_T := fun k => match k with
  | 0 => ("PromiseNames", "told", "LPromiseNames$Told;", true)
  | 1 => ("PromiseNames", "draft", "LPromiseNames$Told;", true)
  | 2 => ("PromiseNames", "reader", "LPromiseNames$Reader;", true)
  | 3 => ("PromiseNames", "now", "LPromiseNames$State;", true)
  | 4 => ("PromiseNames", "past", "LPromiseNames$Past;", true)
  | 5 => ("PromiseNames", "kept", "[LPromiseNames$State;", true)
  | 6 => ("PromiseNames", "isSlotKept", "[Z", true)
  | 7 => ("PromiseNames", "foretelling", "LPromiseNames$Foretelling;", true)
  | 8 => ("PromiseNames", "sightings", "LPromiseNames$Sightings;", true)
  | _ => ("PromiseNames", "shelf", "LPromiseNames$Shelf;", true)
def t_Pn : Nat → FieldType := fun k => match k with
  | 0 => .object "PromiseNames$Told"
  | 1 => .object "PromiseNames$Told"
  | 2 => .object "PromiseNames$Reader"
  | 3 => .object "PromiseNames$State"
  | 4 => .object "PromiseNames$Past"
  | 5 => .array (.object "PromiseNames$State")
  | 6 => .array .boolean
  | 7 => .object "PromiseNames$Foretelling"
  | 8 => .object "PromiseNames$Sightings"
  | _ => .object "PromiseNames$Shelf"
theorem n_Pn : ∀ a, a < 10 → ∀ b, b < 10 → a ≠ b → (F_Pn a).2.1 ≠ (F_Pn b).2.1 := by decide +kernel
theorem t_Pn_ok : ∀ k, k < 10 → parseFieldDescriptor (F_Pn k).2.2.1 = some (t_Pn k) := by decide +kernel
theorem i_Pn : ∀ w ∈ u_ws R_Pn F_Pn 10, w ∈ lw_tbl := by decide +kernel
def R_Tl : String := "PromiseNames$Told"
def F_Tl : u_T := fun k => match k with
  | 0 => ("PromiseNames$Told", "people", "I", false)
  | 1 => ("PromiseNames$Told", "promises", "I", false)
  | 2 => ("PromiseNames$Told", "strength", "[I", true)
  | 3 => ("PromiseNames$Told", "span", "[I", true)
  | 4 => ("PromiseNames$Told", "heir", "[I", true)
  | 5 => ("PromiseNames$Told", "kind", "[I", true)
  | 6 => ("PromiseNames$Told", "work", "[I", true)
  | 7 => ("PromiseNames$Told", "needs", "[I", true)
  | 8 => ("PromiseNames$Told", "holder", "[I", true)
  | _ => ("PromiseNames$Told", "foes", "[I", true)
def t_Tl : Nat → FieldType := fun k => match k with
  | 0 => .int
  | 1 => .int
  | 2 => .array .int
  | 3 => .array .int
  | 4 => .array .int
  | 5 => .array .int
  | 6 => .array .int
  | 7 => .array .int
  | 8 => .array .int
  | _ => .array .int
theorem n_Tl : ∀ a, a < 10 → ∀ b, b < 10 → a ≠ b → (F_Tl a).2.1 ≠ (F_Tl b).2.1 := by decide +kernel
theorem t_Tl_ok : ∀ k, k < 10 → parseFieldDescriptor (F_Tl k).2.2.1 = some (t_Tl k) := by decide +kernel
theorem i_Tl : ∀ w ∈ u_ws R_Tl F_Tl 10, w ∈ lw_tbl := by decide +kernel
def R_Rd : String := "PromiseNames$Reader"
def F_Rd : u_T := fun k => match k with
  | 0 => ("PromiseNames$Reader", "letters", "[I", true)
  | 1 => ("PromiseNames$Reader", "length", "I", false)
  | 2 => ("PromiseNames$Reader", "clauses", "I", false)
  | 3 => ("PromiseNames$Reader", "sort", "I", false)
  | 4 => ("PromiseNames$Reader", "start", "I", false)
  | _ => ("PromiseNames$Reader", "end", "I", false)
def t_Rd : Nat → FieldType := fun k => match k with
  | 0 => .array .int
  | 1 => .int
  | 2 => .int
  | 3 => .int
  | 4 => .int
  | _ => .int
theorem n_Rd : ∀ a, a < 6 → ∀ b, b < 6 → a ≠ b → (F_Rd a).2.1 ≠ (F_Rd b).2.1 := by decide +kernel
theorem t_Rd_ok : ∀ k, k < 6 → parseFieldDescriptor (F_Rd k).2.2.1 = some (t_Rd k) := by decide +kernel
theorem i_Rd : ∀ w ∈ u_ws R_Rd F_Rd 6, w ∈ lw_tbl := by decide +kernel
def R_St : String := "PromiseNames$State"
def F_St : u_T := fun k => match k with
  | 0 => ("PromiseNames$State", "told", "LPromiseNames$Told;", true)
  | 1 => ("PromiseNames$State", "span", "[I", true)
  | 2 => ("PromiseNames$State", "work", "[I", true)
  | 3 => ("PromiseNames$State", "done", "[I", true)
  | 4 => ("PromiseNames$State", "holder", "[I", true)
  | 5 => ("PromiseNames$State", "row", "[I", true)
  | 6 => ("PromiseNames$State", "year", "I", false)
  | _ => ("PromiseNames$State", "keptOnes", "I", false)
def t_St : Nat → FieldType := fun k => match k with
  | 0 => .object "PromiseNames$Told"
  | 1 => .array .int
  | 2 => .array .int
  | 3 => .array .int
  | 4 => .array .int
  | 5 => .array .int
  | 6 => .int
  | _ => .int
theorem n_St : ∀ a, a < 8 → ∀ b, b < 8 → a ≠ b → (F_St a).2.1 ≠ (F_St b).2.1 := by decide +kernel
theorem t_St_ok : ∀ k, k < 8 → parseFieldDescriptor (F_St k).2.2.1 = some (t_St k) := by decide +kernel
theorem i_St : ∀ w ∈ u_ws R_St F_St 8, w ∈ lw_tbl := by decide +kernel
def R_Ps : String := "PromiseNames$Past"
def F_Ps : u_T := fun k => match k with
  | 0 => ("PromiseNames$Past", "ring", "[LPromiseNames$State;", true)
  | 1 => ("PromiseNames$Past", "next", "I", false)
  | _ => ("PromiseNames$Past", "size", "I", false)
def t_Ps : Nat → FieldType := fun k => match k with
  | 0 => .array (.object "PromiseNames$State")
  | 1 => .int
  | _ => .int
theorem n_Ps : ∀ a, a < 3 → ∀ b, b < 3 → a ≠ b → (F_Ps a).2.1 ≠ (F_Ps b).2.1 := by decide +kernel
theorem t_Ps_ok : ∀ k, k < 3 → parseFieldDescriptor (F_Ps k).2.2.1 = some (t_Ps k) := by decide +kernel
theorem i_Ps : ∀ w ∈ u_ws R_Ps F_Ps 3, w ∈ lw_tbl := by decide +kernel
def R_Fo : String := "PromiseNames$Foretelling"
def F_Fo : u_T := fun k => match k with
  | 0 => ("PromiseNames$Foretelling", "told", "LPromiseNames$Told;", true)
  | 1 => ("PromiseNames$Foretelling", "trial", "LPromiseNames$State;", true)
  | 2 => ("PromiseNames$Foretelling", "places", "[I", true)
  | 3 => ("PromiseNames$Foretelling", "tried", "[I", true)
  | 4 => ("PromiseNames$Foretelling", "best", "[I", true)
  | 5 => ("PromiseNames$Foretelling", "size", "I", false)
  | _ => ("PromiseNames$Foretelling", "mostKept", "I", false)
def t_Fo : Nat → FieldType := fun k => match k with
  | 0 => .object "PromiseNames$Told"
  | 1 => .object "PromiseNames$State"
  | 2 => .array .int
  | 3 => .array .int
  | 4 => .array .int
  | 5 => .int
  | _ => .int
theorem n_Fo : ∀ a, a < 7 → ∀ b, b < 7 → a ≠ b → (F_Fo a).2.1 ≠ (F_Fo b).2.1 := by decide +kernel
theorem t_Fo_ok : ∀ k, k < 7 → parseFieldDescriptor (F_Fo k).2.2.1 = some (t_Fo k) := by decide +kernel
theorem i_Fo : ∀ w ∈ u_ws R_Fo F_Fo 7, w ∈ lw_tbl := by decide +kernel
def R_Sg : String := "PromiseNames$Sightings"
def F_Sg : u_T := fun k => match k with
  | 0 => ("PromiseNames$Sightings", "strength", "[I", true)
  | 1 => ("PromiseNames$Sightings", "years", "[I", true)
  | 2 => ("PromiseNames$Sightings", "much", "[I", true)
  | _ => ("PromiseNames$Sightings", "size", "I", false)
def t_Sg : Nat → FieldType := fun k => match k with
  | 0 => .array .int
  | 1 => .array .int
  | 2 => .array .int
  | _ => .int
theorem n_Sg : ∀ a, a < 4 → ∀ b, b < 4 → a ≠ b → (F_Sg a).2.1 ≠ (F_Sg b).2.1 := by decide +kernel
theorem t_Sg_ok : ∀ k, k < 4 → parseFieldDescriptor (F_Sg k).2.2.1 = some (t_Sg k) := by decide +kernel
theorem i_Sg : ∀ w ∈ u_ws R_Sg F_Sg 4, w ∈ lw_tbl := by decide +kernel
def R_Sh : String := "PromiseNames$Shelf"
def F_Sh : u_T := fun k => match k with
  | _ => ("PromiseNames$Shelf", "registers", "[LPromiseNames$Register;", true)
def t_Sh : Nat → FieldType := fun k => match k with
  | _ => .array (.object "PromiseNames$Register")
theorem n_Sh : ∀ a, a < 1 → ∀ b, b < 1 → a ≠ b → (F_Sh a).2.1 ≠ (F_Sh b).2.1 := by decide +kernel
theorem t_Sh_ok : ∀ k, k < 1 → parseFieldDescriptor (F_Sh k).2.2.1 = some (t_Sh k) := by decide +kernel
theorem i_Sh : ∀ w ∈ u_ws R_Sh F_Sh 1, w ∈ lw_tbl := by decide +kernel
def R_Rg : String := "PromiseNames$Register"
def F_Rg : u_T := fun k => match k with
  | _ => ("PromiseNames$Register", "leaves", "[LPromiseNames$Page;", true)
def t_Rg : Nat → FieldType := fun k => match k with
  | _ => .array (.object "PromiseNames$Page")
theorem n_Rg : ∀ a, a < 1 → ∀ b, b < 1 → a ≠ b → (F_Rg a).2.1 ≠ (F_Rg b).2.1 := by decide +kernel
theorem t_Rg_ok : ∀ k, k < 1 → parseFieldDescriptor (F_Rg k).2.2.1 = some (t_Rg k) := by decide +kernel
theorem i_Rg : ∀ w ∈ u_ws R_Rg F_Rg 1, w ∈ lw_tbl := by decide +kernel
def R_Pg : String := "PromiseNames$Page"
def F_Pg : u_T := fun k => match k with
  | 0 => ("PromiseNames$Page", "sort", "[I", true)
  | _ => ("PromiseNames$Page", "value", "[I", true)
def t_Pg : Nat → FieldType := fun k => match k with
  | 0 => .array .int
  | _ => .array .int
theorem n_Pg : ∀ a, a < 2 → ∀ b, b < 2 → a ≠ b → (F_Pg a).2.1 ≠ (F_Pg b).2.1 := by decide +kernel
theorem t_Pg_ok : ∀ k, k < 2 → parseFieldDescriptor (F_Pg k).2.2.1 = some (t_Pg k) := by decide +kernel
theorem i_Pg : ∀ w ∈ u_ws R_Pg F_Pg 2, w ∈ lw_tbl := by decide +kernel
def R_Md : String := "PromiseNamesModel"
def F_Md : u_T := fun k => match k with
  | 0 => ("PromiseNamesModel", "w", "[I", true)
  | 1 => ("PromiseNamesModel", "undoes", "I", false)
  | 2 => ("PromiseNamesModel", "isImage", "[Z", true)
  | 3 => ("PromiseNamesModel", "people", "I", false)
  | 4 => ("PromiseNamesModel", "strength", "[I", true)
  | 5 => ("PromiseNamesModel", "span", "[I", true)
  | 6 => ("PromiseNamesModel", "heir", "[I", true)
  | 7 => ("PromiseNamesModel", "promises", "I", false)
  | 8 => ("PromiseNamesModel", "kind", "[I", true)
  | 9 => ("PromiseNamesModel", "work", "[I", true)
  | 10 => ("PromiseNamesModel", "needs", "[I", true)
  | 11 => ("PromiseNamesModel", "holder", "[I", true)
  | 12 => ("PromiseNamesModel", "strife", "[I", true)
  | 13 => ("PromiseNamesModel", "text", "[I", true)
  | 14 => ("PromiseNamesModel", "texted", "I", false)
  | 15 => ("PromiseNamesModel", "at", "I", false)
  | 16 => ("PromiseNamesModel", "start", "I", false)
  | 17 => ("PromiseNamesModel", "end", "I", false)
  | 18 => ("PromiseNamesModel", "sort", "I", false)
  | 19 => ("PromiseNamesModel", "tPeople", "I", false)
  | 20 => ("PromiseNamesModel", "tStrength", "[I", true)
  | 21 => ("PromiseNamesModel", "tSpan", "[I", true)
  | 22 => ("PromiseNamesModel", "tHeir", "[I", true)
  | 23 => ("PromiseNamesModel", "tPromises", "I", false)
  | 24 => ("PromiseNamesModel", "tKind", "[I", true)
  | 25 => ("PromiseNamesModel", "tWork", "[I", true)
  | 26 => ("PromiseNamesModel", "tNeeds", "[I", true)
  | 27 => ("PromiseNamesModel", "tHolder", "[I", true)
  | 28 => ("PromiseNamesModel", "tStrife", "[I", true)
  | 29 => ("PromiseNamesModel", "clauses", "I", false)
  | 30 => ("PromiseNamesModel", "number", "I", false)
  | 31 => ("PromiseNamesModel", "worksAt", "[I", true)
  | 32 => ("PromiseNamesModel", "trial", "[I", true)
  | 33 => ("PromiseNamesModel", "best", "[I", true)
  | 34 => ("PromiseNamesModel", "given", "[I", true)
  | 35 => ("PromiseNamesModel", "bestGiven", "[I", true)
  | 36 => ("PromiseNamesModel", "seens", "I", false)
  | 37 => ("PromiseNamesModel", "seenS", "[I", true)
  | 38 => ("PromiseNamesModel", "seenN", "[I", true)
  | 39 => ("PromiseNamesModel", "seenD", "[I", true)
  | 40 => ("PromiseNamesModel", "pages", "[I", true)
  | 41 => ("PromiseNamesModel", "bound", "[I", true)
  | 42 => ("PromiseNamesModel", "lines", "[I", true)
  | 43 => ("PromiseNamesModel", "entry", "[I", true)
  | _ => ("PromiseNamesModel", "value", "[I", true)
def t_Md : Nat → FieldType := fun k => match k with
  | 0 => .array .int
  | 1 => .int
  | 2 => .array .boolean
  | 3 => .int
  | 4 => .array .int
  | 5 => .array .int
  | 6 => .array .int
  | 7 => .int
  | 8 => .array .int
  | 9 => .array .int
  | 10 => .array .int
  | 11 => .array .int
  | 12 => .array .int
  | 13 => .array .int
  | 14 => .int
  | 15 => .int
  | 16 => .int
  | 17 => .int
  | 18 => .int
  | 19 => .int
  | 20 => .array .int
  | 21 => .array .int
  | 22 => .array .int
  | 23 => .int
  | 24 => .array .int
  | 25 => .array .int
  | 26 => .array .int
  | 27 => .array .int
  | 28 => .array .int
  | 29 => .int
  | 30 => .int
  | 31 => .array .int
  | 32 => .array .int
  | 33 => .array .int
  | 34 => .array .int
  | 35 => .array .int
  | 36 => .int
  | 37 => .array .int
  | 38 => .array .int
  | 39 => .array .int
  | 40 => .array .int
  | 41 => .array .int
  | 42 => .array .int
  | 43 => .array .int
  | _ => .array .int
theorem n_Md : ∀ a, a < 45 → ∀ b, b < 45 → a ≠ b → (F_Md a).2.1 ≠ (F_Md b).2.1 := by decide +kernel
theorem t_Md_ok : ∀ k, k < 45 → parseFieldDescriptor (F_Md k).2.2.1 = some (t_Md k) := by decide +kernel
theorem i_Md : ∀ w ∈ u_ws R_Md F_Md 45, w ∈ lw_tbl := by decide +kernel
def cls : List vw_C := [(R_Pn, F_Pn, 10), (R_Tl, F_Tl, 10), (R_Rd, F_Rd, 6), (R_St, F_St, 8), (R_Ps, F_Ps, 3), (R_Fo, F_Fo, 7), (R_Sg, F_Sg, 4), (R_Sh, F_Sh, 1), (R_Rg, F_Rg, 1), (R_Pg, F_Pg, 2), (R_Md, F_Md, 45)]
/-- the field is a reference -/
def rf (c f : Nat) : Bool := match c with
  | 0 => Nat.testBit 1023 f
  | 1 => Nat.testBit 1020 f
  | 2 => Nat.testBit 1 f
  | 3 => Nat.testBit 63 f
  | 4 => Nat.testBit 1 f
  | 5 => Nat.testBit 31 f
  | 6 => Nat.testBit 7 f
  | 7 => Nat.testBit 1 f
  | 8 => Nat.testBit 1 f
  | 9 => Nat.testBit 3 f
  | 10 => Nat.testBit 35114032578421 f
  | _ => false
