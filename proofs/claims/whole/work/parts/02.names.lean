/-! names, fields, layout (printed by wip/gen) -/
def R_Ch : String := "ColoursApart$Chooser"
def R_Ey : String := "ColoursApart$Eyes"
def R_Gr : String := "ColoursApart$Grid"
def R_Gp : String := "ColoursApart$Groups"
def R_Ho : String := "ColoursApart$House"
def R_Ke : String := "ColoursApart$Kept"
def R_Mv : String := "ColoursApart$Mover"
def R_Ra : String := "ColoursApart$Ramp"
def R_Rg : String := "ColoursApart$Rgb"
def R_Sh : String := "ColoursApart$Sheet"
def R_CA : String := "ColoursApart"
def R_Mo : String := "ColoursApartModel"
def R_Ma : String := "java/lang/Math"
def T_Ch : u_T := fun k => match k with
  | 0 => ("ColoursApart$Chooser", "views", "[I", true)
  | 1 => ("ColoursApart$Chooser", "fixedView", "[I", true)
  | 2 => ("ColoursApart$Chooser", "fromFixed", "[I", true)
  | 3 => ("ColoursApart$Chooser", "between", "[I", true)
  | 4 => ("ColoursApart$Chooser", "trial", "[I", true)
  | 5 => ("ColoursApart$Chooser", "latest", "[I", true)
  | 6 => ("ColoursApart$Chooser", "wanted", "I", false)
  | 7 => ("ColoursApart$Chooser", "places", "I", false)
  | _ => ("ColoursApart$Chooser", "greatest", "I", false)
def ty_Ch : Nat → FieldType := fun k => match k with
  | 0 => .array (.int)
  | 1 => .array (.int)
  | 2 => .array (.int)
  | 3 => .array (.int)
  | 4 => .array (.int)
  | 5 => .array (.int)
  | 6 => .int
  | 7 => .int
  | _ => .int
theorem nm_Ch : ∀ a, a < 9 → ∀ b, b < 9 → a ≠ b → (T_Ch a).2.1 ≠ (T_Ch b).2.1 := by decide +kernel
theorem tyok_Ch : ∀ k, k < 9 → parseFieldDescriptor (T_Ch k).2.2.1 = some (ty_Ch k) := by decide +kernel
def T_Ey : u_T := fun k => match k with
  | 0 => ("ColoursApart$Eyes", "weakNumbers", "[I", true)
  | 1 => ("ColoursApart$Eyes", "printLevels", "I", false)
  | 2 => ("ColoursApart$Eyes", "redWeight", "I", false)
  | 3 => ("ColoursApart$Eyes", "greenWeight", "I", false)
  | 4 => ("ColoursApart$Eyes", "blueWeight", "I", false)
  | _ => ("ColoursApart$Eyes", "counting", "I", false)
def ty_Ey : Nat → FieldType := fun k => match k with
  | 0 => .array (.int)
  | 1 => .int
  | 2 => .int
  | 3 => .int
  | 4 => .int
  | _ => .int
theorem nm_Ey : ∀ a, a < 6 → ∀ b, b < 6 → a ≠ b → (T_Ey a).2.1 ≠ (T_Ey b).2.1 := by decide +kernel
theorem tyok_Ey : ∀ k, k < 6 → parseFieldDescriptor (T_Ey k).2.2.1 = some (ty_Ey k) := by decide +kernel
def T_Gr : u_T := fun k => match k with
  | _ => ("ColoursApart$Grid", "perChannel", "I", false)
def ty_Gr : Nat → FieldType := fun k => match k with
  | _ => .int
theorem nm_Gr : ∀ a, a < 1 → ∀ b, b < 1 → a ≠ b → (T_Gr a).2.1 ≠ (T_Gr b).2.1 := by decide +kernel
theorem tyok_Gr : ∀ k, k < 1 → parseFieldDescriptor (T_Gr k).2.2.1 = some (ty_Gr k) := by decide +kernel
def T_Gp : u_T := fun k => match k with
  | 0 => ("ColoursApart$Groups", "views", "[I", true)
  | 1 => ("ColoursApart$Groups", "reached", "[Z", true)
  | _ => ("ColoursApart$Groups", "members", "[I", true)
def ty_Gp : Nat → FieldType := fun k => match k with
  | 0 => .array (.int)
  | 1 => .array (.boolean)
  | _ => .array (.int)
theorem nm_Gp : ∀ a, a < 3 → ∀ b, b < 3 → a ≠ b → (T_Gp a).2.1 ≠ (T_Gp b).2.1 := by decide +kernel
theorem tyok_Gp : ∀ k, k < 3 → parseFieldDescriptor (T_Gp k).2.2.1 = some (ty_Gp k) := by decide +kernel
def T_Ho : u_T := fun k => match k with
  | 0 => ("ColoursApart$House", "size", "I", false)
  | 1 => ("ColoursApart$House", "colours", "[I", true)
  | 2 => ("ColoursApart$House", "fixed", "[Z", true)
  | 3 => ("ColoursApart$House", "names", "[I", true)
  | 4 => ("ColoursApart$House", "boxFrom", "[I", true)
  | 5 => ("ColoursApart$House", "boxTo", "[I", true)
  | 6 => ("ColoursApart$House", "pairs", "I", false)
  | 7 => ("ColoursApart$House", "pairLower", "[I", true)
  | 8 => ("ColoursApart$House", "pairHigher", "[I", true)
  | _ => ("ColoursApart$House", "pairTenths", "[I", true)
def ty_Ho : Nat → FieldType := fun k => match k with
  | 0 => .int
  | 1 => .array (.int)
  | 2 => .array (.boolean)
  | 3 => .array (.int)
  | 4 => .array (.int)
  | 5 => .array (.int)
  | 6 => .int
  | 7 => .array (.int)
  | 8 => .array (.int)
  | _ => .array (.int)
theorem nm_Ho : ∀ a, a < 10 → ∀ b, b < 10 → a ≠ b → (T_Ho a).2.1 ≠ (T_Ho b).2.1 := by decide +kernel
theorem tyok_Ho : ∀ k, k < 10 → parseFieldDescriptor (T_Ho k).2.2.1 = some (ty_Ho k) := by decide +kernel
def T_Ke : u_T := fun k => match k with
  | 0 => ("ColoursApart$Kept", "eyes", "LColoursApart$Eyes;", true)
  | 1 => ("ColoursApart$Kept", "house", "LColoursApart$House;", true)
  | _ => ("ColoursApart$Kept", "mesh", "LColoursApart$Grid;", true)
def ty_Ke : Nat → FieldType := fun k => match k with
  | 0 => .object "ColoursApart$Eyes"
  | 1 => .object "ColoursApart$House"
  | _ => .object "ColoursApart$Grid"
theorem nm_Ke : ∀ a, a < 3 → ∀ b, b < 3 → a ≠ b → (T_Ke a).2.1 ≠ (T_Ke b).2.1 := by decide +kernel
theorem tyok_Ke : ∀ k, k < 3 → parseFieldDescriptor (T_Ke k).2.2.1 = some (ty_Ke k) := by decide +kernel
def T_Mv : u_T := fun k => match k with
  | 0 => ("ColoursApart$Mover", "views", "[I", true)
  | 1 => ("ColoursApart$Mover", "trialView", "[I", true)
  | _ => ("ColoursApart$Mover", "endedStuck", "Z", false)
def ty_Mv : Nat → FieldType := fun k => match k with
  | 0 => .array (.int)
  | 1 => .array (.int)
  | _ => .boolean
theorem nm_Mv : ∀ a, a < 3 → ∀ b, b < 3 → a ≠ b → (T_Mv a).2.1 ≠ (T_Mv b).2.1 := by decide +kernel
theorem tyok_Mv : ∀ k, k < 3 → parseFieldDescriptor (T_Mv k).2.2.1 = some (ty_Mv k) := by decide +kernel
def T_Ra : u_T := fun k => match k with
  | 0 => ("ColoursApart$Ramp", "stepColours", "[I", true)
  | _ => ("ColoursApart$Ramp", "steps", "I", false)
def ty_Ra : Nat → FieldType := fun k => match k with
  | 0 => .array (.int)
  | _ => .int
theorem nm_Ra : ∀ a, a < 2 → ∀ b, b < 2 → a ≠ b → (T_Ra a).2.1 ≠ (T_Ra b).2.1 := by decide +kernel
theorem tyok_Ra : ∀ k, k < 2 → parseFieldDescriptor (T_Ra k).2.2.1 = some (ty_Ra k) := by decide +kernel
def T_Sh : u_T := fun k => match k with
  | 0 => ("ColoursApart$Sheet", "numbers", "[I", true)
  | 1 => ("ColoursApart$Sheet", "kind", "I", false)
  | _ => ("ColoursApart$Sheet", "length", "I", false)
def ty_Sh : Nat → FieldType := fun k => match k with
  | 0 => .array (.int)
  | 1 => .int
  | _ => .int
theorem nm_Sh : ∀ a, a < 3 → ∀ b, b < 3 → a ≠ b → (T_Sh a).2.1 ≠ (T_Sh b).2.1 := by decide +kernel
theorem tyok_Sh : ∀ k, k < 3 → parseFieldDescriptor (T_Sh k).2.2.1 = some (ty_Sh k) := by decide +kernel
def T_CA : u_T := fun k => match k with
  | 0 => ("ColoursApart", "now", "LColoursApart$Kept;", true)
  | 1 => ("ColoursApart", "images", "[LColoursApart$Kept;", true)
  | 2 => ("ColoursApart", "imageKept", "[Z", true)
  | 3 => ("ColoursApart", "sheets", "[LColoursApart$Sheet;", true)
  | 4 => ("ColoursApart", "chooser", "LColoursApart$Chooser;", true)
  | 5 => ("ColoursApart", "mover", "LColoursApart$Mover;", true)
  | 6 => ("ColoursApart", "latestRamp", "LColoursApart$Ramp;", true)
  | 7 => ("ColoursApart", "groups", "LColoursApart$Groups;", true)
  | _ => ("ColoursApart", "refusedBy", "I", false)
def ty_CA : Nat → FieldType := fun k => match k with
  | 0 => .object "ColoursApart$Kept"
  | 1 => .array (.object "ColoursApart$Kept")
  | 2 => .array (.boolean)
  | 3 => .array (.object "ColoursApart$Sheet")
  | 4 => .object "ColoursApart$Chooser"
  | 5 => .object "ColoursApart$Mover"
  | 6 => .object "ColoursApart$Ramp"
  | 7 => .object "ColoursApart$Groups"
  | _ => .int
theorem nm_CA : ∀ a, a < 9 → ∀ b, b < 9 → a ≠ b → (T_CA a).2.1 ≠ (T_CA b).2.1 := by decide +kernel
theorem tyok_CA : ∀ k, k < 9 → parseFieldDescriptor (T_CA k).2.2.1 = some (ty_CA k) := by decide +kernel
def T_Mo : u_T := fun k => match k with
  | 0 => ("ColoursApartModel", "status", "I", false)
  | 1 => ("ColoursApartModel", "sheetSort", "[I", true)
  | 2 => ("ColoursApartModel", "sheetSize", "[I", true)
  | 3 => ("ColoursApartModel", "sheetRow", "[I", true)
  | 4 => ("ColoursApartModel", "weak", "[I", true)
  | 5 => ("ColoursApartModel", "levels", "I", false)
  | 6 => ("ColoursApartModel", "counted", "I", false)
  | 7 => ("ColoursApartModel", "side", "I", false)
  | 8 => ("ColoursApartModel", "weights", "[I", true)
  | 9 => ("ColoursApartModel", "colours", "I", false)
  | 10 => ("ColoursApartModel", "pairs", "I", false)
  | 11 => ("ColoursApartModel", "colour", "[I", true)
  | 12 => ("ColoursApartModel", "isFixed", "[Z", true)
  | 13 => ("ColoursApartModel", "named", "[I", true)
  | 14 => ("ColoursApartModel", "boxFrom", "[I", true)
  | 15 => ("ColoursApartModel", "boxTo", "[I", true)
  | 16 => ("ColoursApartModel", "pairOne", "[I", true)
  | 17 => ("ColoursApartModel", "pairOther", "[I", true)
  | 18 => ("ColoursApartModel", "pairLeast", "[I", true)
  | 19 => ("ColoursApartModel", "between", "[I", true)
  | 20 => ("ColoursApartModel", "toFixed", "[I", true)
  | 21 => ("ColoursApartModel", "set", "[I", true)
  | 22 => ("ColoursApartModel", "bestSet", "[I", true)
  | 23 => ("ColoursApartModel", "chosen", "I", false)
  | 24 => ("ColoursApartModel", "stuck", "Z", false)
  | 25 => ("ColoursApartModel", "steps", "I", false)
  | 26 => ("ColoursApartModel", "ramp", "[I", true)
  | 27 => ("ColoursApartModel", "isKept", "[Z", true)
  | 28 => ("ColoursApartModel", "kept", "[I", true)
  | _ => ("ColoursApartModel", "at", "I", false)
def ty_Mo : Nat → FieldType := fun k => match k with
  | 0 => .int
  | 1 => .array (.int)
  | 2 => .array (.int)
  | 3 => .array (.int)
  | 4 => .array (.int)
  | 5 => .int
  | 6 => .int
  | 7 => .int
  | 8 => .array (.int)
  | 9 => .int
  | 10 => .int
  | 11 => .array (.int)
  | 12 => .array (.boolean)
  | 13 => .array (.int)
  | 14 => .array (.int)
  | 15 => .array (.int)
  | 16 => .array (.int)
  | 17 => .array (.int)
  | 18 => .array (.int)
  | 19 => .array (.int)
  | 20 => .array (.int)
  | 21 => .array (.int)
  | 22 => .array (.int)
  | 23 => .int
  | 24 => .boolean
  | 25 => .int
  | 26 => .array (.int)
  | 27 => .array (.boolean)
  | 28 => .array (.int)
  | _ => .int
theorem nm_Mo : ∀ a, a < 30 → ∀ b, b < 30 → a ≠ b → (T_Mo a).2.1 ≠ (T_Mo b).2.1 := by decide +kernel
theorem tyok_Mo : ∀ k, k < 30 → parseFieldDescriptor (T_Mo k).2.2.1 = some (ty_Mo k) := by decide +kernel
abbrev xcl : List vw_C := [(R_Ch, T_Ch, 9), (R_Ey, T_Ey, 6), (R_Gr, T_Gr, 1), (R_Gp, T_Gp, 3), (R_Ho, T_Ho, 10), (R_Ke, T_Ke, 3), (R_Mv, T_Mv, 3), (R_Ra, T_Ra, 2), (R_Sh, T_Sh, 3), (R_CA, T_CA, 9), (R_Mo, T_Mo, 30)]
def xlayK (g : Nat) : Nat → Option ((Nat × List (Option (Nat × Nat))) ⊕ (Nat × (Bool ⊕ Nat))) := fun i => match i with
  | 0 => some (.inl (5, [some (g, 1), some (g, 3), some (g, 12)]))
  | 1 => some (.inl (1, [some (g, 2), none, none, none, none, none]))
  | 2 => some (.inr (27, .inl false))
  | 3 => some (.inl (4, [none, some (g, 4), some (g, 5), some (g, 6), some (g, 7), some (g, 8), none, some (g, 9), some (g, 10), some (g, 11)]))
  | 4 => some (.inr (12, .inl false))
  | 5 => some (.inr (12, .inl true))
  | 6 => some (.inr (12, .inl false))
  | 7 => some (.inr (8, .inl false))
  | 8 => some (.inr (8, .inl false))
  | 9 => some (.inr (20, .inl false))
  | 10 => some (.inr (20, .inl false))
  | 11 => some (.inr (20, .inl false))
  | 12 => some (.inl (2, [none]))
  | _ => none
def xlayS (g : Nat) : Nat → Option ((Nat × List (Option (Nat × Nat))) ⊕ (Nat × (Bool ⊕ Nat))) := fun i => match i with
  | 0 => some (.inl (8, [some (g, 1), none, none]))
  | 1 => some (.inr (60, .inl false))
  | _ => none
def xlayC : Nat → Option ((Nat × List (Option (Nat × Nat))) ⊕ (Nat × (Bool ⊕ Nat))) := fun i => match i with
  | 0 => some (.inl (9, [some (0, 0), some (8, 1), some (8, 2), some (8, 3), some (8, 4), some (8, 11), some (8, 14), some (8, 16), none]))
  | 1 => some (.inr (3, .inr 1))
  | 2 => some (.inr (3, .inl true))
  | 3 => some (.inr (4, .inr 4))
  | 4 => some (.inl (0, [some (8, 5), some (8, 6), some (8, 7), some (8, 8), some (8, 9), some (8, 10), none, none, none]))
  | 5 => some (.inr (384, .inl false))
  | 6 => some (.inr (6, .inl false))
  | 7 => some (.inr (64, .inl false))
  | 8 => some (.inr (4096, .inl false))
  | 9 => some (.inr (5, .inl false))
  | 10 => some (.inr (5, .inl false))
  | 11 => some (.inl (6, [some (8, 12), some (8, 13), none]))
  | 12 => some (.inr (72, .inl false))
  | 13 => some (.inr (6, .inl false))
  | 14 => some (.inl (7, [some (8, 15), none]))
  | 15 => some (.inr (12, .inl false))
  | 16 => some (.inl (3, [some (8, 17), some (8, 18), some (8, 19)]))
  | 17 => some (.inr (12, .inl false))
  | 18 => some (.inr (12, .inl true))
  | 19 => some (.inr (12, .inl false))
  | _ => none
def xlayM : Nat → Option ((Nat × List (Option (Nat × Nat))) ⊕ (Nat × (Bool ⊕ Nat))) := fun i => match i with
  | 0 => some (.inl (10, [none, some (9, 1), some (9, 2), some (9, 3), some (9, 4), none, none, none, some (9, 5), none, none, some (9, 6), some (9, 7), some (9, 8), some (9, 9), some (9, 10), some (9, 11), some (9, 12), some (9, 13), some (9, 14), some (9, 15), some (9, 16), some (9, 17), none, none, none, some (9, 18), some (9, 19), some (9, 20), none]))
  | 1 => some (.inr (4, .inl false))
  | 2 => some (.inr (4, .inl false))
  | 3 => some (.inr (240, .inl false))
  | 4 => some (.inr (27, .inl false))
  | 5 => some (.inr (3, .inl false))
  | 6 => some (.inr (12, .inl false))
  | 7 => some (.inr (12, .inl true))
  | 8 => some (.inr (12, .inl false))
  | 9 => some (.inr (8, .inl false))
  | 10 => some (.inr (8, .inl false))
  | 11 => some (.inr (20, .inl false))
  | 12 => some (.inr (20, .inl false))
  | 13 => some (.inr (20, .inl false))
  | 14 => some (.inr (4096, .inl false))
  | 15 => some (.inr (64, .inl false))
  | 16 => some (.inr (5, .inl false))
  | 17 => some (.inr (5, .inl false))
  | 18 => some (.inr (12, .inl false))
  | 19 => some (.inr (3, .inl true))
  | 20 => some (.inr (600, .inl false))
  | _ => none
def xlay (g i : Nat) : Option ((Nat × List (Option (Nat × Nat))) ⊕ (Nat × (Bool ⊕ Nat))) := if g < 4 then xlayK g i else if g < 8 then xlayS g i else if g = 8 then xlayC i else if g = 9 then xlayM i else none
theorem xg0 : 0 < 4 := by decide
theorem xo_K0 {g : Nat} (hg : g < 4) : xlay g 0 = some (.inl (5, [some (g, 1), some (g, 3), some (g, 12)])) := if_pos hg
theorem xo_K1 {g : Nat} (hg : g < 4) : xlay g 1 = some (.inl (1, [some (g, 2), none, none, none, none, none])) := if_pos hg
theorem xo_K2 {g : Nat} (hg : g < 4) : xlay g 2 = some (.inr (27, .inl false)) := if_pos hg
theorem xo_K3 {g : Nat} (hg : g < 4) : xlay g 3 = some (.inl (4, [none, some (g, 4), some (g, 5), some (g, 6), some (g, 7), some (g, 8), none, some (g, 9), some (g, 10), some (g, 11)])) := if_pos hg
theorem xo_K4 {g : Nat} (hg : g < 4) : xlay g 4 = some (.inr (12, .inl false)) := if_pos hg
theorem xo_K5 {g : Nat} (hg : g < 4) : xlay g 5 = some (.inr (12, .inl true)) := if_pos hg
theorem xo_K6 {g : Nat} (hg : g < 4) : xlay g 6 = some (.inr (12, .inl false)) := if_pos hg
theorem xo_K7 {g : Nat} (hg : g < 4) : xlay g 7 = some (.inr (8, .inl false)) := if_pos hg
theorem xo_K8 {g : Nat} (hg : g < 4) : xlay g 8 = some (.inr (8, .inl false)) := if_pos hg
theorem xo_K9 {g : Nat} (hg : g < 4) : xlay g 9 = some (.inr (20, .inl false)) := if_pos hg
theorem xo_K10 {g : Nat} (hg : g < 4) : xlay g 10 = some (.inr (20, .inl false)) := if_pos hg
theorem xo_K11 {g : Nat} (hg : g < 4) : xlay g 11 = some (.inr (20, .inl false)) := if_pos hg
theorem xo_K12 {g : Nat} (hg : g < 4) : xlay g 12 = some (.inl (2, [none])) := if_pos hg
theorem xo_S0 {g : Nat} (hg : 4 ≤ g ∧ g < 8) : xlay g 0 = some (.inl (8, [some (g, 1), none, none])) := (if_neg (Nat.not_lt.mpr hg.1)).trans (if_pos hg.2)
theorem xo_S1 {g : Nat} (hg : 4 ≤ g ∧ g < 8) : xlay g 1 = some (.inr (60, .inl false)) := (if_neg (Nat.not_lt.mpr hg.1)).trans (if_pos hg.2)
theorem xo_C0 : xlay 8 0 = some (.inl (9, [some (0, 0), some (8, 1), some (8, 2), some (8, 3), some (8, 4), some (8, 11), some (8, 14), some (8, 16), none])) := rfl
theorem xo_C1 : xlay 8 1 = some (.inr (3, .inr 1)) := rfl
theorem xo_C2 : xlay 8 2 = some (.inr (3, .inl true)) := rfl
theorem xo_C3 : xlay 8 3 = some (.inr (4, .inr 4)) := rfl
theorem xo_C4 : xlay 8 4 = some (.inl (0, [some (8, 5), some (8, 6), some (8, 7), some (8, 8), some (8, 9), some (8, 10), none, none, none])) := rfl
theorem xo_C5 : xlay 8 5 = some (.inr (384, .inl false)) := rfl
theorem xo_C6 : xlay 8 6 = some (.inr (6, .inl false)) := rfl
theorem xo_C7 : xlay 8 7 = some (.inr (64, .inl false)) := rfl
theorem xo_C8 : xlay 8 8 = some (.inr (4096, .inl false)) := rfl
theorem xo_C9 : xlay 8 9 = some (.inr (5, .inl false)) := rfl
theorem xo_C10 : xlay 8 10 = some (.inr (5, .inl false)) := rfl
theorem xo_C11 : xlay 8 11 = some (.inl (6, [some (8, 12), some (8, 13), none])) := rfl
theorem xo_C12 : xlay 8 12 = some (.inr (72, .inl false)) := rfl
theorem xo_C13 : xlay 8 13 = some (.inr (6, .inl false)) := rfl
theorem xo_C14 : xlay 8 14 = some (.inl (7, [some (8, 15), none])) := rfl
theorem xo_C15 : xlay 8 15 = some (.inr (12, .inl false)) := rfl
theorem xo_C16 : xlay 8 16 = some (.inl (3, [some (8, 17), some (8, 18), some (8, 19)])) := rfl
theorem xo_C17 : xlay 8 17 = some (.inr (12, .inl false)) := rfl
theorem xo_C18 : xlay 8 18 = some (.inr (12, .inl true)) := rfl
theorem xo_C19 : xlay 8 19 = some (.inr (12, .inl false)) := rfl
theorem xo_M0 : xlay 9 0 = some (.inl (10, [none, some (9, 1), some (9, 2), some (9, 3), some (9, 4), none, none, none, some (9, 5), none, none, some (9, 6), some (9, 7), some (9, 8), some (9, 9), some (9, 10), some (9, 11), some (9, 12), some (9, 13), some (9, 14), some (9, 15), some (9, 16), some (9, 17), none, none, none, some (9, 18), some (9, 19), some (9, 20), none])) := rfl
theorem xo_M1 : xlay 9 1 = some (.inr (4, .inl false)) := rfl
theorem xo_M2 : xlay 9 2 = some (.inr (4, .inl false)) := rfl
theorem xo_M3 : xlay 9 3 = some (.inr (240, .inl false)) := rfl
theorem xo_M4 : xlay 9 4 = some (.inr (27, .inl false)) := rfl
theorem xo_M5 : xlay 9 5 = some (.inr (3, .inl false)) := rfl
theorem xo_M6 : xlay 9 6 = some (.inr (12, .inl false)) := rfl
theorem xo_M7 : xlay 9 7 = some (.inr (12, .inl true)) := rfl
theorem xo_M8 : xlay 9 8 = some (.inr (12, .inl false)) := rfl
theorem xo_M9 : xlay 9 9 = some (.inr (8, .inl false)) := rfl
theorem xo_M10 : xlay 9 10 = some (.inr (8, .inl false)) := rfl
theorem xo_M11 : xlay 9 11 = some (.inr (20, .inl false)) := rfl
theorem xo_M12 : xlay 9 12 = some (.inr (20, .inl false)) := rfl
theorem xo_M13 : xlay 9 13 = some (.inr (20, .inl false)) := rfl
theorem xo_M14 : xlay 9 14 = some (.inr (4096, .inl false)) := rfl
theorem xo_M15 : xlay 9 15 = some (.inr (64, .inl false)) := rfl
theorem xo_M16 : xlay 9 16 = some (.inr (5, .inl false)) := rfl
theorem xo_M17 : xlay 9 17 = some (.inr (5, .inl false)) := rfl
theorem xo_M18 : xlay 9 18 = some (.inr (12, .inl false)) := rfl
theorem xo_M19 : xlay 9 19 = some (.inr (3, .inl true)) := rfl
theorem xo_M20 : xlay 9 20 = some (.inr (600, .inl false)) := rfl
abbrev b_Ch_init : ByteArray := prog_2_method_1_code
def y_Ch_init : MethodName := ⟨R_Ch, "<init>", "()V"⟩
abbrev b_Ch_placeAt : ByteArray := prog_2_method_2_code
def y_Ch_placeAt : MethodName := ⟨R_Ch, "placeAt", "(I)I"⟩
abbrev b_Ch_choose : ByteArray := prog_2_method_3_code
def y_Ch_choose : MethodName := ⟨R_Ch, "choose", "(LColoursApart$Kept;I)I"⟩
abbrev b_Ch_lookAtPlaces : ByteArray := prog_2_method_4_code
def y_Ch_lookAtPlaces : MethodName := ⟨R_Ch, "lookAtPlaces", "(LColoursApart$Kept;)V"⟩
abbrev b_Ch_measureFromFixed : ByteArray := prog_2_method_5_code
def y_Ch_measureFromFixed : MethodName := ⟨R_Ch, "measureFromFixed", "(LColoursApart$Kept;)V"⟩
abbrev b_Ch_measureBetween : ByteArray := prog_2_method_6_code
def y_Ch_measureBetween : MethodName := ⟨R_Ch, "measureBetween", "(LColoursApart$Eyes;)V"⟩
abbrev b_Ch_extend : ByteArray := prog_2_method_7_code
def y_Ch_extend : MethodName := ⟨R_Ch, "extend", "(LColoursApart$Chooser;III)V"⟩
abbrev b_Ch_leastWith : ByteArray := prog_2_method_8_code
def y_Ch_leastWith : MethodName := ⟨R_Ch, "leastWith", "(III)I"⟩
abbrev b_Ch_keepTrial : ByteArray := prog_2_method_9_code
def y_Ch_keepTrial : MethodName := ⟨R_Ch, "keepTrial", "(I)V"⟩
abbrev b_Ey_init : ByteArray := prog_3_method_1_code
def y_Ey_init : MethodName := ⟨R_Ey, "<init>", "()V"⟩
abbrev b_Ey_isWeight : ByteArray := prog_3_method_2_code
def y_Ey_isWeight : MethodName := ⟨R_Ey, "isWeight", "(I)Z"⟩
abbrev b_Ey_areWeakNumbers : ByteArray := prog_3_method_3_code
def y_Ey_areWeakNumbers : MethodName := ⟨R_Ey, "areWeakNumbers", "(LColoursApart$Sheet;I)Z"⟩
abbrev b_Ey_weaken : ByteArray := prog_3_method_4_code
def y_Ey_weaken : MethodName := ⟨R_Ey, "weaken", "(ILColoursApart$Sheet;I)V"⟩
abbrev b_Ey_copyFrom : ByteArray := prog_3_method_5_code
def y_Ey_copyFrom : MethodName := ⟨R_Ey, "copyFrom", "(LColoursApart$Eyes;)V"⟩
abbrev b_Ey_look : ByteArray := prog_3_method_6_code
def y_Ey_look : MethodName := ⟨R_Ey, "look", "(II)I"⟩
abbrev b_Ey_weakened : ByteArray := prog_3_method_7_code
def y_Ey_weakened : MethodName := ⟨R_Ey, "weakened", "(II)I"⟩
abbrev b_Ey_printed : ByteArray := prog_3_method_8_code
def y_Ey_printed : MethodName := ⟨R_Ey, "printed", "(I)I"⟩
abbrev b_Ey_counts : ByteArray := prog_3_method_9_code
def y_Ey_counts : MethodName := ⟨R_Ey, "counts", "(I)Z"⟩
abbrev b_Ey_weighed : ByteArray := prog_3_method_10_code
def y_Ey_weighed : MethodName := ⟨R_Ey, "weighed", "(II)I"⟩
abbrev b_Ey_leastDistance : ByteArray := prog_3_method_11_code
def y_Ey_leastDistance : MethodName := ⟨R_Ey, "leastDistance", "(II)I"⟩
abbrev b_Ey_lookWithAll : ByteArray := prog_3_method_12_code
def y_Ey_lookWithAll : MethodName := ⟨R_Ey, "lookWithAll", "(I[II)V"⟩
abbrev b_Ey_leastOfViews : ByteArray := prog_3_method_13_code
def y_Ey_leastOfViews : MethodName := ⟨R_Ey, "leastOfViews", "([II[II)I"⟩
abbrev b_Gr_init : ByteArray := prog_4_method_1_code
def y_Gr_init : MethodName := ⟨R_Gr, "<init>", "()V"⟩
abbrev b_Gr_places : ByteArray := prog_4_method_2_code
def y_Gr_places : MethodName := ⟨R_Gr, "places", "()I"⟩
abbrev b_Gr_colourAt : ByteArray := prog_4_method_3_code
def y_Gr_colourAt : MethodName := ⟨R_Gr, "colourAt", "(I)I"⟩
abbrev b_Gr_levelValue : ByteArray := prog_4_method_4_code
def y_Gr_levelValue : MethodName := ⟨R_Gr, "levelValue", "(I)I"⟩
abbrev b_Gp_init : ByteArray := prog_5_method_1_code
def y_Gp_init : MethodName := ⟨R_Gp, "<init>", "()V"⟩
abbrev b_Gp_lowestWith : ByteArray := prog_5_method_2_code
def y_Gp_lowestWith : MethodName := ⟨R_Gp, "lowestWith", "(LColoursApart$Kept;III)I"⟩
abbrev b_Gp_reachFrom : ByteArray := prog_5_method_3_code
def y_Gp_reachFrom : MethodName := ⟨R_Gp, "reachFrom", "(LColoursApart$Kept;III)I"⟩
abbrev b_Ho_init : ByteArray := prog_6_method_1_code
def y_Ho_init : MethodName := ⟨R_Ho, "<init>", "()V"⟩
abbrev b_Ho_copyFrom : ByteArray := prog_6_method_2_code
def y_Ho_copyFrom : MethodName := ⟨R_Ho, "copyFrom", "(LColoursApart$House;)V"⟩
abbrev b_Ho_has : ByteArray := prog_6_method_3_code
def y_Ho_has : MethodName := ⟨R_Ho, "has", "(I)Z"⟩
abbrev b_Ho_takeIn : ByteArray := prog_6_method_4_code
def y_Ho_takeIn : MethodName := ⟨R_Ho, "takeIn", "(IZ)I"⟩
abbrev b_Ho_fixedOnes : ByteArray := prog_6_method_5_code
def y_Ho_fixedOnes : MethodName := ⟨R_Ho, "fixedOnes", "()I"⟩
abbrev b_Ho_boxHolds : ByteArray := prog_6_method_6_code
def y_Ho_boxHolds : MethodName := ⟨R_Ho, "boxHolds", "(II)Z"⟩
abbrev b_Ho_nameAllows : ByteArray := prog_6_method_7_code
def y_Ho_nameAllows : MethodName := ⟨R_Ho, "nameAllows", "(II)Z"⟩
abbrev b_Ho_wouldLeaveOut : ByteArray := prog_6_method_8_code
def y_Ho_wouldLeaveOut : MethodName := ⟨R_Ho, "wouldLeaveOut", "(III)Z"⟩
abbrev b_Ho_bind : ByteArray := prog_6_method_9_code
def y_Ho_bind : MethodName := ⟨R_Ho, "bind", "(III)Z"⟩
abbrev b_Ho_isMet : ByteArray := prog_6_method_10_code
def y_Ho_isMet : MethodName := ⟨R_Ho, "isMet", "(I)Z"⟩
abbrev b_Ho_pairsAllow : ByteArray := prog_6_method_11_code
def y_Ho_pairsAllow : MethodName := ⟨R_Ho, "pairsAllow", "(II)Z"⟩
abbrev b_Ho_partnerOf : ByteArray := prog_6_method_12_code
def y_Ho_partnerOf : MethodName := ⟨R_Ho, "partnerOf", "(II)I"⟩
abbrev b_Ke_init : ByteArray := prog_7_method_1_code
def y_Ke_init : MethodName := ⟨R_Ke, "<init>", "()V"⟩
abbrev b_Ke_copyFrom : ByteArray := prog_7_method_2_code
def y_Ke_copyFrom : MethodName := ⟨R_Ke, "copyFrom", "(LColoursApart$Kept;)V"⟩
abbrev b_Ke_leastFromOthers : ByteArray := prog_7_method_3_code
def y_Ke_leastFromOthers : MethodName := ⟨R_Ke, "leastFromOthers", "(I)I"⟩
abbrev b_Mv_init : ByteArray := prog_8_method_1_code
def y_Mv_init : MethodName := ⟨R_Mv, "<init>", "()V"⟩
abbrev b_Mv_moveOne : ByteArray := prog_8_method_2_code
def y_Mv_moveOne : MethodName := ⟨R_Mv, "moveOne", "(LColoursApart$Kept;II)I"⟩
abbrev b_Mv_moveAll : ByteArray := prog_8_method_3_code
def y_Mv_moveAll : MethodName := ⟨R_Mv, "moveAll", "(LColoursApart$Kept;I)I"⟩
abbrev b_Mv_lookAtHouse : ByteArray := prog_8_method_4_code
def y_Mv_lookAtHouse : MethodName := ⟨R_Mv, "lookAtHouse", "(LColoursApart$Kept;)V"⟩
abbrev b_Mv_nearestTwo : ByteArray := prog_8_method_5_code
def y_Mv_nearestTwo : MethodName := ⟨R_Mv, "nearestTwo", "(LColoursApart$Kept;I)I"⟩
abbrev b_Mv_laterFree : ByteArray := prog_8_method_6_code
def y_Mv_laterFree : MethodName := ⟨R_Mv, "laterFree", "(LColoursApart$House;II)I"⟩
abbrev b_Mv_shift : ByteArray := prog_8_method_7_code
def y_Mv_shift : MethodName := ⟨R_Mv, "shift", "(LColoursApart$Kept;II)I"⟩
abbrev b_Mv_isFarFromOthers : ByteArray := prog_8_method_8_code
def y_Mv_isFarFromOthers : MethodName := ⟨R_Mv, "isFarFromOthers", "(LColoursApart$Kept;III)Z"⟩
abbrev b_Ra_init : ByteArray := prog_9_method_1_code
def y_Ra_init : MethodName := ⟨R_Ra, "<init>", "()V"⟩
abbrev b_Ra_climb : ByteArray := prog_9_method_2_code
def y_Ra_climb : MethodName := ⟨R_Ra, "climb", "(III)I"⟩
abbrev b_Ra_pointAt : ByteArray := prog_9_method_3_code
def y_Ra_pointAt : MethodName := ⟨R_Ra, "pointAt", "(III)I"⟩
abbrev b_Ra_mixed : ByteArray := prog_9_method_4_code
def y_Ra_mixed : MethodName := ⟨R_Ra, "mixed", "(III)I"⟩
abbrev b_Ra_colourAt : ByteArray := prog_9_method_5_code
def y_Ra_colourAt : MethodName := ⟨R_Ra, "colourAt", "(I)I"⟩
abbrev b_Ra_growsFor : ByteArray := prog_9_method_6_code
def y_Ra_growsFor : MethodName := ⟨R_Ra, "growsFor", "(LColoursApart$Eyes;I)Z"⟩
abbrev b_Rg_isColour : ByteArray := prog_10_method_2_code
def y_Rg_isColour : MethodName := ⟨R_Rg, "isColour", "(I)Z"⟩
abbrev b_Rg_red : ByteArray := prog_10_method_3_code
def y_Rg_red : MethodName := ⟨R_Rg, "red", "(I)I"⟩
abbrev b_Rg_green : ByteArray := prog_10_method_4_code
def y_Rg_green : MethodName := ⟨R_Rg, "green", "(I)I"⟩
abbrev b_Rg_blue : ByteArray := prog_10_method_5_code
def y_Rg_blue : MethodName := ⟨R_Rg, "blue", "(I)I"⟩
abbrev b_Rg_joined : ByteArray := prog_10_method_6_code
def y_Rg_joined : MethodName := ⟨R_Rg, "joined", "(III)I"⟩
abbrev b_Rg_lightOf : ByteArray := prog_10_method_7_code
def y_Rg_lightOf : MethodName := ⟨R_Rg, "lightOf", "(I)I"⟩
abbrev b_Rg_contrastReaches : ByteArray := prog_10_method_8_code
def y_Rg_contrastReaches : MethodName := ⟨R_Rg, "contrastReaches", "(III)Z"⟩
abbrev b_Rg_isBetween : ByteArray := prog_10_method_9_code
def y_Rg_isBetween : MethodName := ⟨R_Rg, "isBetween", "(III)Z"⟩
abbrev b_Sh_init : ByteArray := prog_11_method_1_code
def y_Sh_init : MethodName := ⟨R_Sh, "<init>", "()V"⟩
abbrev b_Sh_layOut : ByteArray := prog_11_method_2_code
def y_Sh_layOut : MethodName := ⟨R_Sh, "layOut", "(II)V"⟩
abbrev b_Sh_takeAway : ByteArray := prog_11_method_3_code
def y_Sh_takeAway : MethodName := ⟨R_Sh, "takeAway", "()V"⟩
abbrev b_Sh_isThere : ByteArray := prog_11_method_4_code
def y_Sh_isThere : MethodName := ⟨R_Sh, "isThere", "()Z"⟩
abbrev b_Sh_has : ByteArray := prog_11_method_5_code
def y_Sh_has : MethodName := ⟨R_Sh, "has", "(I)Z"⟩
abbrev b_Sh_put : ByteArray := prog_11_method_6_code
def y_Sh_put : MethodName := ⟨R_Sh, "put", "(II)V"⟩
abbrev b_Sh_numberOrZero : ByteArray := prog_11_method_7_code
def y_Sh_numberOrZero : MethodName := ⟨R_Sh, "numberOrZero", "(I)I"⟩
abbrev b_CA_init : ByteArray := prog_1_method_1_code
def y_CA_init : MethodName := ⟨R_CA, "<init>", "()V"⟩
abbrev b_CA_sheet : ByteArray := prog_1_method_2_code
def y_CA_sheet : MethodName := ⟨R_CA, "sheet", "(III)I"⟩
abbrev b_CA_write : ByteArray := prog_1_method_3_code
def y_CA_write : MethodName := ⟨R_CA, "write", "(III)I"⟩
abbrev b_CA_weak : ByteArray := prog_1_method_4_code
def y_CA_weak : MethodName := ⟨R_CA, "weak", "(III)I"⟩
abbrev b_CA_levels : ByteArray := prog_1_method_5_code
def y_CA_levels : MethodName := ⟨R_CA, "levels", "(I)I"⟩
abbrev b_CA_weights : ByteArray := prog_1_method_6_code
def y_CA_weights : MethodName := ⟨R_CA, "weights", "(III)I"⟩
abbrev b_CA_sights : ByteArray := prog_1_method_7_code
def y_CA_sights : MethodName := ⟨R_CA, "sights", "(I)I"⟩
abbrev b_CA_grid : ByteArray := prog_1_method_8_code
def y_CA_grid : MethodName := ⟨R_CA, "grid", "(I)I"⟩
abbrev b_CA_place : ByteArray := prog_1_method_9_code
def y_CA_place : MethodName := ⟨R_CA, "place", "(I)I"⟩
abbrev b_CA_seen : ByteArray := prog_1_method_10_code
def y_CA_seen : MethodName := ⟨R_CA, "seen", "(II)I"⟩
abbrev b_CA_light : ByteArray := prog_1_method_11_code
def y_CA_light : MethodName := ⟨R_CA, "light", "(I)I"⟩
abbrev b_CA_distance : ByteArray := prog_1_method_12_code
def y_CA_distance : MethodName := ⟨R_CA, "distance", "(III)I"⟩
abbrev b_CA_apart : ByteArray := prog_1_method_13_code
def y_CA_apart : MethodName := ⟨R_CA, "apart", "(II)I"⟩
abbrev b_CA_add : ByteArray := prog_1_method_14_code
def y_CA_add : MethodName := ⟨R_CA, "add", "(IZ)I"⟩
abbrev b_CA_set : ByteArray := prog_1_method_15_code
def y_CA_set : MethodName := ⟨R_CA, "set", "(II)I"⟩
abbrev b_CA_fix : ByteArray := prog_1_method_16_code
def y_CA_fix : MethodName := ⟨R_CA, "fix", "(IZ)I"⟩
abbrev b_CA_name : ByteArray := prog_1_method_17_code
def y_CA_name : MethodName := ⟨R_CA, "name", "(II)I"⟩
abbrev b_CA_box : ByteArray := prog_1_method_18_code
def y_CA_box : MethodName := ⟨R_CA, "box", "(III)I"⟩
abbrev b_CA_pair : ByteArray := prog_1_method_19_code
def y_CA_pair : MethodName := ⟨R_CA, "pair", "(III)I"⟩
abbrev b_CA_contrast : ByteArray := prog_1_method_20_code
def y_CA_contrast : MethodName := ⟨R_CA, "contrast", "(III)I"⟩
abbrev b_CA_unmet : ByteArray := prog_1_method_21_code
def y_CA_unmet : MethodName := ⟨R_CA, "unmet", "()I"⟩
abbrev b_CA_of : ByteArray := prog_1_method_22_code
def y_CA_of : MethodName := ⟨R_CA, "of", "(II)I"⟩
abbrev b_CA_best : ByteArray := prog_1_method_23_code
def y_CA_best : MethodName := ⟨R_CA, "best", "(I)I"⟩
abbrev b_CA_chosen : ByteArray := prog_1_method_24_code
def y_CA_chosen : MethodName := ⟨R_CA, "chosen", "(I)I"⟩
abbrev b_CA_move : ByteArray := prog_1_method_25_code
def y_CA_move : MethodName := ⟨R_CA, "move", "(II)I"⟩
abbrev b_CA_settle : ByteArray := prog_1_method_26_code
def y_CA_settle : MethodName := ⟨R_CA, "settle", "(I)I"⟩
abbrev b_CA_stuck : ByteArray := prog_1_method_27_code
def y_CA_stuck : MethodName := ⟨R_CA, "stuck", "()I"⟩
abbrev b_CA_ramp : ByteArray := prog_1_method_28_code
def y_CA_ramp : MethodName := ⟨R_CA, "ramp", "(III)I"⟩
abbrev b_CA_step : ByteArray := prog_1_method_29_code
def y_CA_step : MethodName := ⟨R_CA, "step", "(I)I"⟩
abbrev b_CA_rising : ByteArray := prog_1_method_30_code
def y_CA_rising : MethodName := ⟨R_CA, "rising", "(I)I"⟩
abbrev b_CA_group : ByteArray := prog_1_method_31_code
def y_CA_group : MethodName := ⟨R_CA, "group", "(III)I"⟩
abbrev b_CA_image : ByteArray := prog_1_method_32_code
def y_CA_image : MethodName := ⟨R_CA, "image", "(I)I"⟩
abbrev b_CA_back : ByteArray := prog_1_method_33_code
def y_CA_back : MethodName := ⟨R_CA, "back", "(I)I"⟩
abbrev b_CA_count : ByteArray := prog_1_method_34_code
def y_CA_count : MethodName := ⟨R_CA, "count", "(I)I"⟩
abbrev b_CA_status : ByteArray := prog_1_method_35_code
def y_CA_status : MethodName := ⟨R_CA, "status", "()I"⟩
abbrev b_CA_refused : ByteArray := prog_1_method_36_code
def y_CA_refused : MethodName := ⟨R_CA, "refused", "(I)I"⟩
abbrev b_CA_taken : ByteArray := prog_1_method_37_code
def y_CA_taken : MethodName := ⟨R_CA, "taken", "(I)I"⟩
abbrev b_CA_sheetsThere : ByteArray := prog_1_method_38_code
def y_CA_sheetsThere : MethodName := ⟨R_CA, "sheetsThere", "()I"⟩
abbrev b_CA_isSheet : ByteArray := prog_1_method_39_code
def y_CA_isSheet : MethodName := ⟨R_CA, "isSheet", "(I)Z"⟩
abbrev b_CA_isSight : ByteArray := prog_1_method_40_code
def y_CA_isSight : MethodName := ⟨R_CA, "isSight", "(I)Z"⟩
abbrev b_CA_isName : ByteArray := prog_1_method_41_code
def y_CA_isName : MethodName := ⟨R_CA, "isName", "(I)Z"⟩
abbrev b_CA_isImage : ByteArray := prog_1_method_42_code
def y_CA_isImage : MethodName := ⟨R_CA, "isImage", "(I)Z"⟩
abbrev b_CA_isLeastDistance : ByteArray := prog_1_method_43_code
def y_CA_isLeastDistance : MethodName := ⟨R_CA, "isLeastDistance", "(I)Z"⟩
abbrev b_CA_commonDivisor : ByteArray := prog_1_method_44_code
def y_CA_commonDivisor : MethodName := ⟨R_CA, "commonDivisor", "(II)I"⟩
abbrev b_Mo_init : ByteArray := prog_13_method_1_code
def y_Mo_init : MethodName := ⟨R_Mo, "<init>", "()V"⟩
abbrev b_Mo_in : ByteArray := prog_13_method_2_code
def y_Mo_in : MethodName := ⟨R_Mo, "in", "(III)Z"⟩
abbrev b_Mo_ends : ByteArray := prog_13_method_3_code
def y_Mo_ends : MethodName := ⟨R_Mo, "ends", "(I)I"⟩
abbrev b_Mo_sheet : ByteArray := prog_13_method_4_code
def y_Mo_sheet : MethodName := ⟨R_Mo, "sheet", "(III)I"⟩
abbrev b_Mo_write : ByteArray := prog_13_method_5_code
def y_Mo_write : MethodName := ⟨R_Mo, "write", "(III)I"⟩
abbrev b_Mo_weak : ByteArray := prog_13_method_6_code
def y_Mo_weak : MethodName := ⟨R_Mo, "weak", "(III)I"⟩
abbrev b_Mo_stands : ByteArray := prog_13_method_7_code
def y_Mo_stands : MethodName := ⟨R_Mo, "stands", "(III)I"⟩
abbrev b_Mo_levels : ByteArray := prog_13_method_8_code
def y_Mo_levels : MethodName := ⟨R_Mo, "levels", "(I)I"⟩
abbrev b_Mo_weights : ByteArray := prog_13_method_9_code
def y_Mo_weights : MethodName := ⟨R_Mo, "weights", "(III)I"⟩
abbrev b_Mo_sights : ByteArray := prog_13_method_10_code
def y_Mo_sights : MethodName := ⟨R_Mo, "sights", "(I)I"⟩
abbrev b_Mo_grid : ByteArray := prog_13_method_11_code
def y_Mo_grid : MethodName := ⟨R_Mo, "grid", "(I)I"⟩
abbrev b_Mo_isColour : ByteArray := prog_13_method_12_code
def y_Mo_isColour : MethodName := ⟨R_Mo, "isColour", "(I)Z"⟩
abbrev b_Mo_isSight : ByteArray := prog_13_method_13_code
def y_Mo_isSight : MethodName := ⟨R_Mo, "isSight", "(I)Z"⟩
abbrev b_Mo_third : ByteArray := prog_13_method_14_code
def y_Mo_third : MethodName := ⟨R_Mo, "third", "(II)I"⟩
abbrev b_Mo_made : ByteArray := prog_13_method_15_code
def y_Mo_made : MethodName := ⟨R_Mo, "made", "(III)I"⟩
abbrev b_Mo_lightOf : ByteArray := prog_13_method_16_code
def y_Mo_lightOf : MethodName := ⟨R_Mo, "lightOf", "(I)I"⟩
abbrev b_Mo_places : ByteArray := prog_13_method_17_code
def y_Mo_places : MethodName := ⟨R_Mo, "places", "()I"⟩
abbrev b_Mo_gridLevel : ByteArray := prog_13_method_18_code
def y_Mo_gridLevel : MethodName := ⟨R_Mo, "gridLevel", "(I)I"⟩
abbrev b_Mo_placeOf : ByteArray := prog_13_method_19_code
def y_Mo_placeOf : MethodName := ⟨R_Mo, "placeOf", "(I)I"⟩
abbrev b_Mo_place : ByteArray := prog_13_method_20_code
def y_Mo_place : MethodName := ⟨R_Mo, "place", "(I)I"⟩
abbrev b_Mo_weakThird : ByteArray := prog_13_method_21_code
def y_Mo_weakThird : MethodName := ⟨R_Mo, "weakThird", "(III)I"⟩
abbrev b_Mo_printed : ByteArray := prog_13_method_22_code
def y_Mo_printed : MethodName := ⟨R_Mo, "printed", "(I)I"⟩
abbrev b_Mo_far : ByteArray := prog_13_method_23_code
def y_Mo_far : MethodName := ⟨R_Mo, "far", "(II)I"⟩
abbrev b_Mo_seenThird : ByteArray := prog_13_method_24_code
def y_Mo_seenThird : MethodName := ⟨R_Mo, "seenThird", "(III)I"⟩
abbrev b_Mo_seenOf : ByteArray := prog_13_method_25_code
def y_Mo_seenOf : MethodName := ⟨R_Mo, "seenOf", "(II)I"⟩
abbrev b_Mo_seen : ByteArray := prog_13_method_26_code
def y_Mo_seen : MethodName := ⟨R_Mo, "seen", "(II)I"⟩
abbrev b_Mo_light : ByteArray := prog_13_method_27_code
def y_Mo_light : MethodName := ⟨R_Mo, "light", "(I)I"⟩
abbrev b_Mo_distanceOf : ByteArray := prog_13_method_28_code
def y_Mo_distanceOf : MethodName := ⟨R_Mo, "distanceOf", "(III)I"⟩
abbrev b_Mo_distance : ByteArray := prog_13_method_29_code
def y_Mo_distance : MethodName := ⟨R_Mo, "distance", "(III)I"⟩
abbrev b_Mo_apartOf : ByteArray := prog_13_method_30_code
def y_Mo_apartOf : MethodName := ⟨R_Mo, "apartOf", "(II)I"⟩
abbrev b_Mo_apart : ByteArray := prog_13_method_31_code
def y_Mo_apart : MethodName := ⟨R_Mo, "apart", "(II)I"⟩
abbrev b_Mo_isIn : ByteArray := prog_13_method_32_code
def y_Mo_isIn : MethodName := ⟨R_Mo, "isIn", "(I)Z"⟩
abbrev b_Mo_isWithin : ByteArray := prog_13_method_33_code
def y_Mo_isWithin : MethodName := ⟨R_Mo, "isWithin", "(III)Z"⟩
abbrev b_Mo_isNamed : ByteArray := prog_13_method_34_code
def y_Mo_isNamed : MethodName := ⟨R_Mo, "isNamed", "(II)Z"⟩
abbrev b_Mo_add : ByteArray := prog_13_method_35_code
def y_Mo_add : MethodName := ⟨R_Mo, "add", "(IZ)I"⟩
abbrev b_Mo_set : ByteArray := prog_13_method_36_code
def y_Mo_set : MethodName := ⟨R_Mo, "set", "(II)I"⟩
abbrev b_Mo_fix : ByteArray := prog_13_method_37_code
def y_Mo_fix : MethodName := ⟨R_Mo, "fix", "(IZ)I"⟩
abbrev b_Mo_name : ByteArray := prog_13_method_38_code
def y_Mo_name : MethodName := ⟨R_Mo, "name", "(II)I"⟩
abbrev b_Mo_box : ByteArray := prog_13_method_39_code
def y_Mo_box : MethodName := ⟨R_Mo, "box", "(III)I"⟩
abbrev b_Mo_pair : ByteArray := prog_13_method_40_code
def y_Mo_pair : MethodName := ⟨R_Mo, "pair", "(III)I"⟩
abbrev b_Mo_brighter : ByteArray := prog_13_method_41_code
def y_Mo_brighter : MethodName := ⟨R_Mo, "brighter", "(II)I"⟩
abbrev b_Mo_darker : ByteArray := prog_13_method_42_code
def y_Mo_darker : MethodName := ⟨R_Mo, "darker", "(II)I"⟩
abbrev b_Mo_isMet : ByteArray := prog_13_method_43_code
def y_Mo_isMet : MethodName := ⟨R_Mo, "isMet", "(III)Z"⟩
abbrev b_Mo_contrast : ByteArray := prog_13_method_44_code
def y_Mo_contrast : MethodName := ⟨R_Mo, "contrast", "(III)I"⟩
abbrev b_Mo_unmet : ByteArray := prog_13_method_45_code
def y_Mo_unmet : MethodName := ⟨R_Mo, "unmet", "()I"⟩
abbrev b_Mo_of : ByteArray := prog_13_method_46_code
def y_Mo_of : MethodName := ⟨R_Mo, "of", "(II)I"⟩
abbrev b_Mo_measures : ByteArray := prog_13_method_47_code
def y_Mo_measures : MethodName := ⟨R_Mo, "measures", "()V"⟩
abbrev b_Mo_leastOf : ByteArray := prog_13_method_48_code
def y_Mo_leastOf : MethodName := ⟨R_Mo, "leastOf", "(I)I"⟩
abbrev b_Mo_counts : ByteArray := prog_13_method_49_code
def y_Mo_counts : MethodName := ⟨R_Mo, "counts", "(I)Z"⟩
abbrev b_Mo_best : ByteArray := prog_13_method_50_code
def y_Mo_best : MethodName := ⟨R_Mo, "best", "(I)I"⟩
abbrev b_Mo_chosen : ByteArray := prog_13_method_51_code
def y_Mo_chosen : MethodName := ⟨R_Mo, "chosen", "(I)I"⟩
abbrev b_Mo_mayBe : ByteArray := prog_13_method_52_code
def y_Mo_mayBe : MethodName := ⟨R_Mo, "mayBe", "(III)Z"⟩
abbrev b_Mo_moves : ByteArray := prog_13_method_53_code
def y_Mo_moves : MethodName := ⟨R_Mo, "moves", "(II)I"⟩
abbrev b_Mo_move : ByteArray := prog_13_method_54_code
def y_Mo_move : MethodName := ⟨R_Mo, "move", "(II)I"⟩
abbrev b_Mo_nearest : ByteArray := prog_13_method_55_code
def y_Mo_nearest : MethodName := ⟨R_Mo, "nearest", "(I)I"⟩
abbrev b_Mo_settle : ByteArray := prog_13_method_56_code
def y_Mo_settle : MethodName := ⟨R_Mo, "settle", "(I)I"⟩
abbrev b_Mo_stuck : ByteArray := prog_13_method_57_code
def y_Mo_stuck : MethodName := ⟨R_Mo, "stuck", "()I"⟩
abbrev b_Mo_point : ByteArray := prog_13_method_58_code
def y_Mo_point : MethodName := ⟨R_Mo, "point", "(III)I"⟩
abbrev b_Mo_ramp : ByteArray := prog_13_method_59_code
def y_Mo_ramp : MethodName := ⟨R_Mo, "ramp", "(III)I"⟩
abbrev b_Mo_step : ByteArray := prog_13_method_60_code
def y_Mo_step : MethodName := ⟨R_Mo, "step", "(I)I"⟩
abbrev b_Mo_rising : ByteArray := prog_13_method_61_code
def y_Mo_rising : MethodName := ⟨R_Mo, "rising", "(I)I"⟩
abbrev b_Mo_group : ByteArray := prog_13_method_62_code
def y_Mo_group : MethodName := ⟨R_Mo, "group", "(III)I"⟩
abbrev b_Mo_keeps : ByteArray := prog_13_method_63_code
def y_Mo_keeps : MethodName := ⟨R_Mo, "keeps", "([II)V"⟩
abbrev b_Mo_brings : ByteArray := prog_13_method_64_code
def y_Mo_brings : MethodName := ⟨R_Mo, "brings", "([II)V"⟩
abbrev b_Mo_image : ByteArray := prog_13_method_65_code
def y_Mo_image : MethodName := ⟨R_Mo, "image", "(I)I"⟩
abbrev b_Mo_back : ByteArray := prog_13_method_66_code
def y_Mo_back : MethodName := ⟨R_Mo, "back", "(I)I"⟩
abbrev b_Mo_count : ByteArray := prog_13_method_67_code
def y_Mo_count : MethodName := ⟨R_Mo, "count", "(I)I"⟩
abbrev b_Mo_status : ByteArray := prog_13_method_68_code
def y_Mo_status : MethodName := ⟨R_Mo, "status", "()I"⟩
abbrev b_Ma_floorDiv : ByteArray := prog_14_method_47_code
def y_Ma_floorDiv : MethodName := ⟨R_Ma, "floorDiv", "(II)I"⟩
