/-! THE STATE: the cells of the class and of the model -/
def FX : u_T := fun k => match k with
  | 0 => ("GroupRows", "width", "I", false)
  | 1 => ("GroupRows", "measures", "I", false)
  | 2 => ("GroupRows", "rowCount", "I", false)
  | 3 => ("GroupRows", "factKey", "[I", true)
  | 4 => ("GroupRows", "factAmounts", "[J", true)
  | 5 => ("GroupRows", "slots", "[I", true)
  | 6 => ("GroupRows", "keys", "[I", true)
  | 7 => ("GroupRows", "counts", "[J", true)
  | 8 => ("GroupRows", "sums", "[J", true)
  | 9 => ("GroupRows", "leasts", "[J", true)
  | _ => ("GroupRows", "greatests", "[J", true)
def tX : Nat → FieldType := fun k => match k with
  | 0 => .int
  | 1 => .int
  | 2 => .int
  | 3 => .array .int
  | 4 => .array .long
  | 5 => .array .int
  | 6 => .array .int
  | 7 => .array .long
  | 8 => .array .long
  | 9 => .array .long
  | _ => .array .long
theorem nX : ∀ a, a < 11 → ∀ b, b < 11 → a ≠ b → (FX a).2.1 ≠ (FX b).2.1 := by decide +kernel
theorem tXok : ∀ k, k < 11 → parseFieldDescriptor (FX k).2.2.1 = some (tX k) := by decide +kernel
theorem inX : ∀ w ∈ u_ws "GroupRows" FX 11, w ∈ wAll := by decide +kernel
def FM : u_T := fun k => match k with
  | 0 => ("GroupRowsModel", "code", "I", false)
  | 1 => ("GroupRowsModel", "width", "I", false)
  | 2 => ("GroupRowsModel", "measures", "I", false)
  | 3 => ("GroupRowsModel", "rows", "I", false)
  | 4 => ("GroupRowsModel", "keys", "[I", true)
  | 5 => ("GroupRowsModel", "counts", "[J", true)
  | 6 => ("GroupRowsModel", "sums", "[J", true)
  | 7 => ("GroupRowsModel", "leasts", "[J", true)
  | 8 => ("GroupRowsModel", "greatests", "[J", true)
  | 9 => ("GroupRowsModel", "key", "[I", true)
  | _ => ("GroupRowsModel", "amount", "[J", true)
def tM : Nat → FieldType := fun k => match k with
  | 0 => .int
  | 1 => .int
  | 2 => .int
  | 3 => .int
  | 4 => .array .int
  | 5 => .array .long
  | 6 => .array .long
  | 7 => .array .long
  | 8 => .array .long
  | 9 => .array .int
  | _ => .array .long
theorem nM : ∀ a, a < 11 → ∀ b, b < 11 → a ≠ b → (FM a).2.1 ≠ (FM b).2.1 := by decide +kernel
theorem tMok : ∀ k, k < 11 → parseFieldDescriptor (FM k).2.2.1 = some (tM k) := by decide +kernel
theorem inM : ∀ w ∈ u_ws "GroupRowsModel" FM 11, w ∈ wAll := by decide +kernel
abbrev classes : List vw_C := [("GroupRows", FX, 11), ("GroupRowsModel", FM, 11)]
abbrev wX (a : Nat → Nat) (k : Nat → ClassId) (w ms n : Int32) (fk : Nat → Int32) (fa : Nat → Int64) (sl ks : Nat → Int32) (ct sm le gr : Nat → Int64) : va_W := [(a 0, .inr (0, [.int w, .int ms, .int n, .ref (a 1), .ref (a 2), .ref (a 3), .ref (a 4), .ref (a 5), .ref (a 6), .ref (a 7), .ref (a 8)])), (a 1, .inl (k 1, 8, .inl fk)), (a 2, .inl (k 2, 8, .inr (.inl fa))), (a 3, .inl (k 3, 1000, .inl sl)), (a 4, .inl (k 4, 8000, .inl ks)), (a 5, .inl (k 5, 1000, .inr (.inl ct))), (a 6, .inl (k 6, 8000, .inr (.inl sm))), (a 7, .inl (k 7, 8000, .inr (.inl le))), (a 8, .inl (k 8, 8000, .inr (.inl gr)))]
abbrev kX (k : Nat → ClassId) : List (ClassId × FieldType) := [(k 1, .int), (k 2, .long), (k 3, .int), (k 4, .int), (k 5, .long), (k 6, .long), (k 7, .long), (k 8, .long)]
abbrev wM (b : Nat → Nat) (d : Nat → ClassId) (cd w2 ms2 n2 : Int32) (ks2 : Nat → Int32) (ct2 sm2 le2 gr2 : Nat → Int64) (fk2 : Nat → Int32) (fa2 : Nat → Int64) : va_W := [(b 0, .inr (1, [.int cd, .int w2, .int ms2, .int n2, .ref (b 1), .ref (b 2), .ref (b 3), .ref (b 4), .ref (b 5), .ref (b 6), .ref (b 7)])), (b 1, .inl (d 1, 8000, .inl ks2)), (b 2, .inl (d 2, 1000, .inr (.inl ct2))), (b 3, .inl (d 3, 8000, .inr (.inl sm2))), (b 4, .inl (d 4, 8000, .inr (.inl le2))), (b 5, .inl (d 5, 8000, .inr (.inl gr2))), (b 6, .inl (d 6, 8, .inl fk2)), (b 7, .inl (d 7, 8, .inr (.inl fa2)))]
abbrev kM (d : Nat → ClassId) : List (ClassId × FieldType) := [(d 1, .int), (d 2, .long), (d 3, .long), (d 4, .long), (d 5, .long), (d 6, .int), (d 7, .long)]
