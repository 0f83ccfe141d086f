theorem arrV_ext {c : ClassId} {n : Nat} {f g : Nat → Value} (h : ∀ j, j < n → f j = g j) : arrV c n f = arrV c n g := by
  unfold arrV
  congr 1
  apply Array.ext
  · simp
  · intro j h1 h2
    simp only [Array.getElem_ofFn]
    exact h j (by simpa using h1)
set_option maxHeartbeats 8000000 in
set_option maxRecDepth 100000 in
theorem x_cells {dC : Nat → ClassId} {dI : Nat → Nat → Nat} {H : Heap} {s : State} (c9 : ClassId) (xq1 xq2 xq3 xq4 xq5 xq6 xq7 xq8 xq9 xq10 xq11 xq12 xq13 xq57 xq58 xq59 xq60 xq61 xq62 xq63 xq64 xq65 xq66 xq67 xq68 xq69 xq79 xq80 xq81 xq82 xq83 xq84 xq85 xq86 xq87 xq88 xq89 xq90 xq91 xq101 xq102 xq103 xq104 xq105 xq106 xq107 xq108 xq109 xq110 xq111 xq112 xq113 xq123 xq124 xq126 xq127 xq129 xq130 xq132 xq133 x0 xq23 xq25 xq27 xq29 xq30 xq31 xq32 xq33 xq34 xq35 xq42 xq43 xq44 xq47 xq48 xq50 xq51 xq52 xq53 y0 yq1 yq3 yq5 yq7 yq9 yq11 yq13 yq15 yq17 yq19 yq21 yq23 yq25 yq27 yq29 yq31 yq33 yq35 yq37 yq39 : Nat) (xc14 xc15 xc16 xc17 xc18 xc19 xc20 xc21 xc22 xc24 xc26 xc28 xc36 xc37 xc38 xc39 xc40 xc41 xc45 xc46 xc49 xc54 xc55 xc56 xc70 xc71 xc72 xc73 xc74 xc75 xc76 xc77 xc78 xc92 xc93 xc94 xc95 xc96 xc97 xc98 xc99 xc100 xc114 xc115 xc116 xc117 xc118 xc119 xc120 xc121 xc122 xc125 xc128 xc131 xc134 yc2 yc4 yc6 yc8 yc10 yc12 yc14 yc16 yc18 yc20 yc22 yc24 yc26 yc28 yc30 yc32 yc34 yc36 yc38 yc40 : ClassId) (hP : va_P (dC, dI) xcl [(xq1, .inr (5, [.ref xq2, .ref xq4, .ref xq13])), (xq2, .inr (1, [.ref xq3, .int (5 : Int32), .int (1 : Int32), .int (1 : Int32), .int (1 : Int32), .int (1 : Int32)])), (xq3, .inl (xc14, 27, .inl (upd (upd (upd (upd (upd (upd (upd (upd (upd (fun _ => 0) 0 (1000 : Int32)) 4 (1000 : Int32)) 8 (1000 : Int32)) 9 (1000 : Int32)) 13 (1000 : Int32)) 17 (1000 : Int32)) 18 (1000 : Int32)) 22 (1000 : Int32)) 26 (1000 : Int32)))), (xq4, .inr (4, [.int (0 : Int32), .ref xq5, .ref xq6, .ref xq7, .ref xq8, .ref xq9, .int (0 : Int32), .ref xq10, .ref xq11, .ref xq12])), (xq5, .inl (xc15, 12, .inl (fun _ => 0))), (xq6, .inl (xc16, 12, .inl (fun _ => 0))), (xq7, .inl (xc17, 12, .inl (fun _ => 0))), (xq8, .inl (xc18, 8, .inl (fun _ => 0))), (xq9, .inl (xc19, 8, .inl (upd (upd (upd (upd (upd (upd (upd (upd (fun _ => 0) 0 (16777215 : Int32)) 1 (16777215 : Int32)) 2 (16777215 : Int32)) 3 (16777215 : Int32)) 4 (16777215 : Int32)) 5 (16777215 : Int32)) 6 (16777215 : Int32)) 7 (16777215 : Int32)))), (xq10, .inl (xc20, 20, .inl (fun _ => 0))), (xq11, .inl (xc21, 20, .inl (fun _ => 0))), (xq12, .inl (xc22, 20, .inl (fun _ => 0))), (xq13, .inr (2, [.int (3 : Int32)])), (xq57, .inr (5, [.ref xq58, .ref xq60, .ref xq69])), (xq58, .inr (1, [.ref xq59, .int (5 : Int32), .int (1 : Int32), .int (1 : Int32), .int (1 : Int32), .int (1 : Int32)])), (xq59, .inl (xc70, 27, .inl (upd (upd (upd (upd (upd (upd (upd (upd (upd (fun _ => 0) 0 (1000 : Int32)) 4 (1000 : Int32)) 8 (1000 : Int32)) 9 (1000 : Int32)) 13 (1000 : Int32)) 17 (1000 : Int32)) 18 (1000 : Int32)) 22 (1000 : Int32)) 26 (1000 : Int32)))), (xq60, .inr (4, [.int (0 : Int32), .ref xq61, .ref xq62, .ref xq63, .ref xq64, .ref xq65, .int (0 : Int32), .ref xq66, .ref xq67, .ref xq68])), (xq61, .inl (xc71, 12, .inl (fun _ => 0))), (xq62, .inl (xc72, 12, .inl (fun _ => 0))), (xq63, .inl (xc73, 12, .inl (fun _ => 0))), (xq64, .inl (xc74, 8, .inl (fun _ => 0))), (xq65, .inl (xc75, 8, .inl (upd (upd (upd (upd (upd (upd (upd (upd (fun _ => 0) 0 (16777215 : Int32)) 1 (16777215 : Int32)) 2 (16777215 : Int32)) 3 (16777215 : Int32)) 4 (16777215 : Int32)) 5 (16777215 : Int32)) 6 (16777215 : Int32)) 7 (16777215 : Int32)))), (xq66, .inl (xc76, 20, .inl (fun _ => 0))), (xq67, .inl (xc77, 20, .inl (fun _ => 0))), (xq68, .inl (xc78, 20, .inl (fun _ => 0))), (xq69, .inr (2, [.int (3 : Int32)])), (xq79, .inr (5, [.ref xq80, .ref xq82, .ref xq91])), (xq80, .inr (1, [.ref xq81, .int (5 : Int32), .int (1 : Int32), .int (1 : Int32), .int (1 : Int32), .int (1 : Int32)])), (xq81, .inl (xc92, 27, .inl (upd (upd (upd (upd (upd (upd (upd (upd (upd (fun _ => 0) 0 (1000 : Int32)) 4 (1000 : Int32)) 8 (1000 : Int32)) 9 (1000 : Int32)) 13 (1000 : Int32)) 17 (1000 : Int32)) 18 (1000 : Int32)) 22 (1000 : Int32)) 26 (1000 : Int32)))), (xq82, .inr (4, [.int (0 : Int32), .ref xq83, .ref xq84, .ref xq85, .ref xq86, .ref xq87, .int (0 : Int32), .ref xq88, .ref xq89, .ref xq90])), (xq83, .inl (xc93, 12, .inl (fun _ => 0))), (xq84, .inl (xc94, 12, .inl (fun _ => 0))), (xq85, .inl (xc95, 12, .inl (fun _ => 0))), (xq86, .inl (xc96, 8, .inl (fun _ => 0))), (xq87, .inl (xc97, 8, .inl (upd (upd (upd (upd (upd (upd (upd (upd (fun _ => 0) 0 (16777215 : Int32)) 1 (16777215 : Int32)) 2 (16777215 : Int32)) 3 (16777215 : Int32)) 4 (16777215 : Int32)) 5 (16777215 : Int32)) 6 (16777215 : Int32)) 7 (16777215 : Int32)))), (xq88, .inl (xc98, 20, .inl (fun _ => 0))), (xq89, .inl (xc99, 20, .inl (fun _ => 0))), (xq90, .inl (xc100, 20, .inl (fun _ => 0))), (xq91, .inr (2, [.int (3 : Int32)])), (xq101, .inr (5, [.ref xq102, .ref xq104, .ref xq113])), (xq102, .inr (1, [.ref xq103, .int (5 : Int32), .int (1 : Int32), .int (1 : Int32), .int (1 : Int32), .int (1 : Int32)])), (xq103, .inl (xc114, 27, .inl (upd (upd (upd (upd (upd (upd (upd (upd (upd (fun _ => 0) 0 (1000 : Int32)) 4 (1000 : Int32)) 8 (1000 : Int32)) 9 (1000 : Int32)) 13 (1000 : Int32)) 17 (1000 : Int32)) 18 (1000 : Int32)) 22 (1000 : Int32)) 26 (1000 : Int32)))), (xq104, .inr (4, [.int (0 : Int32), .ref xq105, .ref xq106, .ref xq107, .ref xq108, .ref xq109, .int (0 : Int32), .ref xq110, .ref xq111, .ref xq112])), (xq105, .inl (xc115, 12, .inl (fun _ => 0))), (xq106, .inl (xc116, 12, .inl (fun _ => 0))), (xq107, .inl (xc117, 12, .inl (fun _ => 0))), (xq108, .inl (xc118, 8, .inl (fun _ => 0))), (xq109, .inl (xc119, 8, .inl (upd (upd (upd (upd (upd (upd (upd (upd (fun _ => 0) 0 (16777215 : Int32)) 1 (16777215 : Int32)) 2 (16777215 : Int32)) 3 (16777215 : Int32)) 4 (16777215 : Int32)) 5 (16777215 : Int32)) 6 (16777215 : Int32)) 7 (16777215 : Int32)))), (xq110, .inl (xc120, 20, .inl (fun _ => 0))), (xq111, .inl (xc121, 20, .inl (fun _ => 0))), (xq112, .inl (xc122, 20, .inl (fun _ => 0))), (xq113, .inr (2, [.int (3 : Int32)])), (xq123, .inr (8, [.ref xq124, .int (2 : Int32), .int (-1 : Int32)])), (xq124, .inl (xc125, 60, .inl (fun _ => 0))), (xq126, .inr (8, [.ref xq127, .int (2 : Int32), .int (-1 : Int32)])), (xq127, .inl (xc128, 60, .inl (fun _ => 0))), (xq129, .inr (8, [.ref xq130, .int (2 : Int32), .int (-1 : Int32)])), (xq130, .inl (xc131, 60, .inl (fun _ => 0))), (xq132, .inr (8, [.ref xq133, .int (2 : Int32), .int (-1 : Int32)])), (xq133, .inl (xc134, 60, .inl (fun _ => 0))), (x0, .inr (9, [.ref xq1, .ref xq23, .ref xq25, .ref xq27, .ref xq29, .ref xq42, .ref xq47, .ref xq50, .int (0 : Int32)])), (xq23, .inl (xc24, 3, .inr (.inr (.inr (.inr (va_up (va_up (va_up (fun _ => none) 0 (some xq57)) 1 (some xq79)) 2 (some xq101))))))), (xq25, .inl (xc26, 3, .inl (fun _ => 0))), (xq27, .inl (xc28, 4, .inr (.inr (.inr (.inr (va_up (va_up (va_up (va_up (fun _ => none) 0 (some xq123)) 1 (some xq126)) 2 (some xq129)) 3 (some xq132))))))), (xq29, .inr (0, [.ref xq30, .ref xq31, .ref xq32, .ref xq33, .ref xq34, .ref xq35, .int (0 : Int32), .int (0 : Int32), .int (-1 : Int32)])), (xq30, .inl (xc36, 384, .inl (fun _ => 0))), (xq31, .inl (xc37, 6, .inl (fun _ => 0))), (xq32, .inl (xc38, 64, .inl (fun _ => 0))), (xq33, .inl (xc39, 4096, .inl (fun _ => 0))), (xq34, .inl (xc40, 5, .inl (fun _ => 0))), (xq35, .inl (xc41, 5, .inl (fun _ => 0))), (xq42, .inr (6, [.ref xq43, .ref xq44, .int (0 : Int32)])), (xq43, .inl (xc45, 72, .inl (fun _ => 0))), (xq44, .inl (xc46, 6, .inl (fun _ => 0))), (xq47, .inr (7, [.ref xq48, .int (0 : Int32)])), (xq48, .inl (xc49, 12, .inl (fun _ => 0))), (xq50, .inr (3, [.ref xq51, .ref xq52, .ref xq53])), (xq51, .inl (xc54, 12, .inl (fun _ => 0))), (xq52, .inl (xc55, 12, .inl (fun _ => 0))), (xq53, .inl (xc56, 12, .inl (fun _ => 0))), (y0, .inr (10, [.int 0, .ref yq1, .ref yq3, .ref yq5, .ref yq7, .int (5 : Int32), .int (1 : Int32), .int (3 : Int32), .ref yq9, .int 0, .int 0, .ref yq11, .ref yq13, .ref yq15, .ref yq17, .ref yq19, .ref yq21, .ref yq23, .ref yq25, .ref yq27, .ref yq29, .ref yq31, .ref yq33, .int 0, .int 0, .int 0, .ref yq35, .ref yq37, .ref yq39, .int 0])), (yq1, .inl (yc2, 4, .inl (fun _ => 0))), (yq3, .inl (yc4, 4, .inl (upd (upd (upd (upd (fun _ => 0) 0 (-1 : Int32)) 1 (-1 : Int32)) 2 (-1 : Int32)) 3 (-1 : Int32)))), (yq5, .inl (yc6, 240, .inl (fun _ => 0))), (yq7, .inl (yc8, 27, .inl (upd (upd (upd (upd (upd (upd (upd (upd (upd (upd (upd (upd (upd (upd (upd (upd (upd (upd (upd (upd (upd (upd (upd (upd (upd (upd (upd (fun _ => 0) 0 (1000 : Int32)) 1 (0 : Int32)) 2 (0 : Int32)) 3 (0 : Int32)) 4 (1000 : Int32)) 5 (0 : Int32)) 6 (0 : Int32)) 7 (0 : Int32)) 8 (1000 : Int32)) 9 (1000 : Int32)) 10 (0 : Int32)) 11 (0 : Int32)) 12 (0 : Int32)) 13 (1000 : Int32)) 14 (0 : Int32)) 15 (0 : Int32)) 16 (0 : Int32)) 17 (1000 : Int32)) 18 (1000 : Int32)) 19 (0 : Int32)) 20 (0 : Int32)) 21 (0 : Int32)) 22 (1000 : Int32)) 23 (0 : Int32)) 24 (0 : Int32)) 25 (0 : Int32)) 26 (1000 : Int32)))), (yq9, .inl (yc10, 3, .inl (upd (upd (upd (fun _ => 0) 0 (1 : Int32)) 1 (1 : Int32)) 2 (1 : Int32)))), (yq11, .inl (yc12, 12, .inl (fun _ => 0))), (yq13, .inl (yc14, 12, .inl (fun _ => 0))), (yq15, .inl (yc16, 12, .inl (fun _ => 0))), (yq17, .inl (yc18, 8, .inl (fun _ => 0))), (yq19, .inl (yc20, 8, .inl (upd (upd (upd (upd (upd (upd (upd (upd (fun _ => 0) 0 (16777215 : Int32)) 1 (16777215 : Int32)) 2 (16777215 : Int32)) 3 (16777215 : Int32)) 4 (16777215 : Int32)) 5 (16777215 : Int32)) 6 (16777215 : Int32)) 7 (16777215 : Int32)))), (yq21, .inl (yc22, 20, .inl (fun _ => 0))), (yq23, .inl (yc24, 20, .inl (fun _ => 0))), (yq25, .inl (yc26, 20, .inl (fun _ => 0))), (yq27, .inl (yc28, 4096, .inl (fun _ => 0))), (yq29, .inl (yc30, 64, .inl (fun _ => 0))), (yq31, .inl (yc32, 5, .inl (fun _ => 0))), (yq33, .inl (yc34, 5, .inl (fun _ => 0))), (yq35, .inl (yc36, 12, .inl (fun _ => 0))), (yq37, .inl (yc38, 3, .inl (fun _ => 0))), (yq39, .inl (yc40, 600, .inl (fun _ => 0)))] H) : xRp (xGof dC dI c9 xq1 xq2 xq3 xq4 xq5 xq6 xq7 xq8 xq9 xq10 xq11 xq12 xq13 xq57 xq58 xq59 xq60 xq61 xq62 xq63 xq64 xq65 xq66 xq67 xq68 xq69 xq79 xq80 xq81 xq82 xq83 xq84 xq85 xq86 xq87 xq88 xq89 xq90 xq91 xq101 xq102 xq103 xq104 xq105 xq106 xq107 xq108 xq109 xq110 xq111 xq112 xq113 xq123 xq124 xq126 xq127 xq129 xq130 xq132 xq133 x0 xq23 xq25 xq27 xq29 xq30 xq31 xq32 xq33 xq34 xq35 xq42 xq43 xq44 xq47 xq48 xq50 xq51 xq52 xq53 y0 yq1 yq3 yq5 yq7 yq9 yq11 yq13 yq15 yq17 yq19 yq21 yq23 yq25 yq27 yq29 yq31 yq33 yq35 yq37 yq39 xc14 xc15 xc16 xc17 xc18 xc19 xc20 xc21 xc22 xc24 xc26 xc28 xc36 xc37 xc38 xc39 xc40 xc41 xc45 xc46 xc49 xc54 xc55 xc56 xc70 xc71 xc72 xc73 xc74 xc75 xc76 xc77 xc78 xc92 xc93 xc94 xc95 xc96 xc97 xc98 xc99 xc100 xc114 xc115 xc116 xc117 xc118 xc119 xc120 xc121 xc122 xc125 xc128 xc131 xc134 yc2 yc4 yc6 yc8 yc10 yc12 yc14 yc16 yc18 yc20 yc22 yc24 yc26 yc28 yc30 yc32 yc34 yc36 yc38 yc40) xM0 H := by
  intro g i L hl
  have hc := xlay_cases hl
  rcases hc with ⟨h1, h2⟩ | ⟨h1, h2, h3⟩ | ⟨rfl, h2⟩ | ⟨rfl, h2⟩
  · rcases (show g = 0 ∨ g = 1 ∨ g = 2 ∨ g = 3 by omega) with rfl | rfl | rfl | rfl
    · rcases (show i = 0 ∨ i = 1 ∨ i = 2 ∨ i = 3 ∨ i = 4 ∨ i = 5 ∨ i = 6 ∨ i = 7 ∨ i = 8 ∨ i = 9 ∨ i = 10 ∨ i = 11 ∨ i = 12 by omega) with rfl | rfl | rfl | rfl | rfl | rfl | rfl | rfl | rfl | rfl | rfl | rfl | rfl
      · cases hl
        obtain ⟨r9, h8, h9⟩ := hP 0 _ rfl
        refine ⟨r9, h8, h9.to fun k hk => ?_⟩
        have e9 : r9 = (R_Ke, T_Ke, 3) := (Option.some.inj h8).symm
        rw [e9] at hk
        have hk : k < 3 := hk
        rcases (show k = 0 ∨ k = 1 ∨ k = 2 by omega) with rfl | rfl | rfl <;> rfl
      · cases hl
        obtain ⟨r9, h8, h9⟩ := hP 1 _ rfl
        refine ⟨r9, h8, h9.to fun k hk => ?_⟩
        have e9 : r9 = (R_Ey, T_Ey, 6) := (Option.some.inj h8).symm
        rw [e9] at hk
        have hk : k < 6 := hk
        rcases (show k = 0 ∨ k = 1 ∨ k = 2 ∨ k = 3 ∨ k = 4 ∨ k = 5 by omega) with rfl | rfl | rfl | rfl | rfl | rfl <;> rfl
      · cases hl; exact hP 2 _ rfl
      · cases hl
        obtain ⟨r9, h8, h9⟩ := hP 3 _ rfl
        refine ⟨r9, h8, h9.to fun k hk => ?_⟩
        have e9 : r9 = (R_Ho, T_Ho, 10) := (Option.some.inj h8).symm
        rw [e9] at hk
        have hk : k < 10 := hk
        rcases (show k = 0 ∨ k = 1 ∨ k = 2 ∨ k = 3 ∨ k = 4 ∨ k = 5 ∨ k = 6 ∨ k = 7 ∨ k = 8 ∨ k = 9 by omega) with rfl | rfl | rfl | rfl | rfl | rfl | rfl | rfl | rfl | rfl <;> rfl
      · cases hl; exact hP 4 _ rfl
      · cases hl; exact hP 5 _ rfl
      · cases hl; exact hP 6 _ rfl
      · cases hl; exact hP 7 _ rfl
      · cases hl; exact hP 8 _ rfl
      · cases hl; exact hP 9 _ rfl
      · cases hl; exact hP 10 _ rfl
      · cases hl; exact hP 11 _ rfl
      · cases hl
        obtain ⟨r9, h8, h9⟩ := hP 12 _ rfl
        refine ⟨r9, h8, h9.to fun k hk => ?_⟩
        have e9 : r9 = (R_Gr, T_Gr, 1) := (Option.some.inj h8).symm
        rw [e9] at hk
        have hk : k < 1 := hk
        rcases (show k = 0 by omega) with rfl <;> rfl
    · rcases (show i = 0 ∨ i = 1 ∨ i = 2 ∨ i = 3 ∨ i = 4 ∨ i = 5 ∨ i = 6 ∨ i = 7 ∨ i = 8 ∨ i = 9 ∨ i = 10 ∨ i = 11 ∨ i = 12 by omega) with rfl | rfl | rfl | rfl | rfl | rfl | rfl | rfl | rfl | rfl | rfl | rfl | rfl
      · cases hl
        obtain ⟨r9, h8, h9⟩ := hP 13 _ rfl
        refine ⟨r9, h8, h9.to fun k hk => ?_⟩
        have e9 : r9 = (R_Ke, T_Ke, 3) := (Option.some.inj h8).symm
        rw [e9] at hk
        have hk : k < 3 := hk
        rcases (show k = 0 ∨ k = 1 ∨ k = 2 by omega) with rfl | rfl | rfl <;> rfl
      · cases hl
        obtain ⟨r9, h8, h9⟩ := hP 14 _ rfl
        refine ⟨r9, h8, h9.to fun k hk => ?_⟩
        have e9 : r9 = (R_Ey, T_Ey, 6) := (Option.some.inj h8).symm
        rw [e9] at hk
        have hk : k < 6 := hk
        rcases (show k = 0 ∨ k = 1 ∨ k = 2 ∨ k = 3 ∨ k = 4 ∨ k = 5 by omega) with rfl | rfl | rfl | rfl | rfl | rfl <;> rfl
      · cases hl; exact hP 15 _ rfl
      · cases hl
        obtain ⟨r9, h8, h9⟩ := hP 16 _ rfl
        refine ⟨r9, h8, h9.to fun k hk => ?_⟩
        have e9 : r9 = (R_Ho, T_Ho, 10) := (Option.some.inj h8).symm
        rw [e9] at hk
        have hk : k < 10 := hk
        rcases (show k = 0 ∨ k = 1 ∨ k = 2 ∨ k = 3 ∨ k = 4 ∨ k = 5 ∨ k = 6 ∨ k = 7 ∨ k = 8 ∨ k = 9 by omega) with rfl | rfl | rfl | rfl | rfl | rfl | rfl | rfl | rfl | rfl <;> rfl
      · cases hl; exact hP 17 _ rfl
      · cases hl; exact hP 18 _ rfl
      · cases hl; exact hP 19 _ rfl
      · cases hl; exact hP 20 _ rfl
      · cases hl; exact hP 21 _ rfl
      · cases hl; exact hP 22 _ rfl
      · cases hl; exact hP 23 _ rfl
      · cases hl; exact hP 24 _ rfl
      · cases hl
        obtain ⟨r9, h8, h9⟩ := hP 25 _ rfl
        refine ⟨r9, h8, h9.to fun k hk => ?_⟩
        have e9 : r9 = (R_Gr, T_Gr, 1) := (Option.some.inj h8).symm
        rw [e9] at hk
        have hk : k < 1 := hk
        rcases (show k = 0 by omega) with rfl <;> rfl
    · rcases (show i = 0 ∨ i = 1 ∨ i = 2 ∨ i = 3 ∨ i = 4 ∨ i = 5 ∨ i = 6 ∨ i = 7 ∨ i = 8 ∨ i = 9 ∨ i = 10 ∨ i = 11 ∨ i = 12 by omega) with rfl | rfl | rfl | rfl | rfl | rfl | rfl | rfl | rfl | rfl | rfl | rfl | rfl
      · cases hl
        obtain ⟨r9, h8, h9⟩ := hP 26 _ rfl
        refine ⟨r9, h8, h9.to fun k hk => ?_⟩
        have e9 : r9 = (R_Ke, T_Ke, 3) := (Option.some.inj h8).symm
        rw [e9] at hk
        have hk : k < 3 := hk
        rcases (show k = 0 ∨ k = 1 ∨ k = 2 by omega) with rfl | rfl | rfl <;> rfl
      · cases hl
        obtain ⟨r9, h8, h9⟩ := hP 27 _ rfl
        refine ⟨r9, h8, h9.to fun k hk => ?_⟩
        have e9 : r9 = (R_Ey, T_Ey, 6) := (Option.some.inj h8).symm
        rw [e9] at hk
        have hk : k < 6 := hk
        rcases (show k = 0 ∨ k = 1 ∨ k = 2 ∨ k = 3 ∨ k = 4 ∨ k = 5 by omega) with rfl | rfl | rfl | rfl | rfl | rfl <;> rfl
      · cases hl; exact hP 28 _ rfl
      · cases hl
        obtain ⟨r9, h8, h9⟩ := hP 29 _ rfl
        refine ⟨r9, h8, h9.to fun k hk => ?_⟩
        have e9 : r9 = (R_Ho, T_Ho, 10) := (Option.some.inj h8).symm
        rw [e9] at hk
        have hk : k < 10 := hk
        rcases (show k = 0 ∨ k = 1 ∨ k = 2 ∨ k = 3 ∨ k = 4 ∨ k = 5 ∨ k = 6 ∨ k = 7 ∨ k = 8 ∨ k = 9 by omega) with rfl | rfl | rfl | rfl | rfl | rfl | rfl | rfl | rfl | rfl <;> rfl
      · cases hl; exact hP 30 _ rfl
      · cases hl; exact hP 31 _ rfl
      · cases hl; exact hP 32 _ rfl
      · cases hl; exact hP 33 _ rfl
      · cases hl; exact hP 34 _ rfl
      · cases hl; exact hP 35 _ rfl
      · cases hl; exact hP 36 _ rfl
      · cases hl; exact hP 37 _ rfl
      · cases hl
        obtain ⟨r9, h8, h9⟩ := hP 38 _ rfl
        refine ⟨r9, h8, h9.to fun k hk => ?_⟩
        have e9 : r9 = (R_Gr, T_Gr, 1) := (Option.some.inj h8).symm
        rw [e9] at hk
        have hk : k < 1 := hk
        rcases (show k = 0 by omega) with rfl <;> rfl
    · rcases (show i = 0 ∨ i = 1 ∨ i = 2 ∨ i = 3 ∨ i = 4 ∨ i = 5 ∨ i = 6 ∨ i = 7 ∨ i = 8 ∨ i = 9 ∨ i = 10 ∨ i = 11 ∨ i = 12 by omega) with rfl | rfl | rfl | rfl | rfl | rfl | rfl | rfl | rfl | rfl | rfl | rfl | rfl
      · cases hl
        obtain ⟨r9, h8, h9⟩ := hP 39 _ rfl
        refine ⟨r9, h8, h9.to fun k hk => ?_⟩
        have e9 : r9 = (R_Ke, T_Ke, 3) := (Option.some.inj h8).symm
        rw [e9] at hk
        have hk : k < 3 := hk
        rcases (show k = 0 ∨ k = 1 ∨ k = 2 by omega) with rfl | rfl | rfl <;> rfl
      · cases hl
        obtain ⟨r9, h8, h9⟩ := hP 40 _ rfl
        refine ⟨r9, h8, h9.to fun k hk => ?_⟩
        have e9 : r9 = (R_Ey, T_Ey, 6) := (Option.some.inj h8).symm
        rw [e9] at hk
        have hk : k < 6 := hk
        rcases (show k = 0 ∨ k = 1 ∨ k = 2 ∨ k = 3 ∨ k = 4 ∨ k = 5 by omega) with rfl | rfl | rfl | rfl | rfl | rfl <;> rfl
      · cases hl; exact hP 41 _ rfl
      · cases hl
        obtain ⟨r9, h8, h9⟩ := hP 42 _ rfl
        refine ⟨r9, h8, h9.to fun k hk => ?_⟩
        have e9 : r9 = (R_Ho, T_Ho, 10) := (Option.some.inj h8).symm
        rw [e9] at hk
        have hk : k < 10 := hk
        rcases (show k = 0 ∨ k = 1 ∨ k = 2 ∨ k = 3 ∨ k = 4 ∨ k = 5 ∨ k = 6 ∨ k = 7 ∨ k = 8 ∨ k = 9 by omega) with rfl | rfl | rfl | rfl | rfl | rfl | rfl | rfl | rfl | rfl <;> rfl
      · cases hl; exact hP 43 _ rfl
      · cases hl; exact hP 44 _ rfl
      · cases hl; exact hP 45 _ rfl
      · cases hl; exact hP 46 _ rfl
      · cases hl; exact hP 47 _ rfl
      · cases hl; exact hP 48 _ rfl
      · cases hl; exact hP 49 _ rfl
      · cases hl; exact hP 50 _ rfl
      · cases hl
        obtain ⟨r9, h8, h9⟩ := hP 51 _ rfl
        refine ⟨r9, h8, h9.to fun k hk => ?_⟩
        have e9 : r9 = (R_Gr, T_Gr, 1) := (Option.some.inj h8).symm
        rw [e9] at hk
        have hk : k < 1 := hk
        rcases (show k = 0 by omega) with rfl <;> rfl
  · rcases (show g = 4 ∨ g = 5 ∨ g = 6 ∨ g = 7 by omega) with rfl | rfl | rfl | rfl
    · rcases (show i = 0 ∨ i = 1 by omega) with rfl | rfl
      · cases hl
        obtain ⟨r9, h8, h9⟩ := hP 52 _ rfl
        refine ⟨r9, h8, h9.to fun k hk => ?_⟩
        have e9 : r9 = (R_Sh, T_Sh, 3) := (Option.some.inj h8).symm
        rw [e9] at hk
        have hk : k < 3 := hk
        rcases (show k = 0 ∨ k = 1 ∨ k = 2 by omega) with rfl | rfl | rfl <;> rfl
      · cases hl; exact hP 53 _ rfl
    · rcases (show i = 0 ∨ i = 1 by omega) with rfl | rfl
      · cases hl
        obtain ⟨r9, h8, h9⟩ := hP 54 _ rfl
        refine ⟨r9, h8, h9.to fun k hk => ?_⟩
        have e9 : r9 = (R_Sh, T_Sh, 3) := (Option.some.inj h8).symm
        rw [e9] at hk
        have hk : k < 3 := hk
        rcases (show k = 0 ∨ k = 1 ∨ k = 2 by omega) with rfl | rfl | rfl <;> rfl
      · cases hl; exact hP 55 _ rfl
    · rcases (show i = 0 ∨ i = 1 by omega) with rfl | rfl
      · cases hl
        obtain ⟨r9, h8, h9⟩ := hP 56 _ rfl
        refine ⟨r9, h8, h9.to fun k hk => ?_⟩
        have e9 : r9 = (R_Sh, T_Sh, 3) := (Option.some.inj h8).symm
        rw [e9] at hk
        have hk : k < 3 := hk
        rcases (show k = 0 ∨ k = 1 ∨ k = 2 by omega) with rfl | rfl | rfl <;> rfl
      · cases hl; exact hP 57 _ rfl
    · rcases (show i = 0 ∨ i = 1 by omega) with rfl | rfl
      · cases hl
        obtain ⟨r9, h8, h9⟩ := hP 58 _ rfl
        refine ⟨r9, h8, h9.to fun k hk => ?_⟩
        have e9 : r9 = (R_Sh, T_Sh, 3) := (Option.some.inj h8).symm
        rw [e9] at hk
        have hk : k < 3 := hk
        rcases (show k = 0 ∨ k = 1 ∨ k = 2 by omega) with rfl | rfl | rfl <;> rfl
      · cases hl; exact hP 59 _ rfl
  · rcases (show i = 0 ∨ i = 1 ∨ i = 2 ∨ i = 3 ∨ i = 4 ∨ i = 5 ∨ i = 6 ∨ i = 7 ∨ i = 8 ∨ i = 9 ∨ i = 10 ∨ i = 11 ∨ i = 12 ∨ i = 13 ∨ i = 14 ∨ i = 15 ∨ i = 16 ∨ i = 17 ∨ i = 18 ∨ i = 19 by omega) with rfl | rfl | rfl | rfl | rfl | rfl | rfl | rfl | rfl | rfl | rfl | rfl | rfl | rfl | rfl | rfl | rfl | rfl | rfl | rfl
    · cases hl
      obtain ⟨r9, h8, h9⟩ := hP 60 _ rfl
      refine ⟨r9, h8, h9.to fun k hk => ?_⟩
      have e9 : r9 = (R_CA, T_CA, 9) := (Option.some.inj h8).symm
      rw [e9] at hk
      have hk : k < 9 := hk
      rcases (show k = 0 ∨ k = 1 ∨ k = 2 ∨ k = 3 ∨ k = 4 ∨ k = 5 ∨ k = 6 ∨ k = 7 ∨ k = 8 by omega) with rfl | rfl | rfl | rfl | rfl | rfl | rfl | rfl | rfl <;> rfl
    · cases hl
      have h9 : H[xq23]? = some (vp_cell xc24 (3, .inr (.inr (.inr (.inr (va_up (va_up (va_up (fun _ => none) 0 (some xq57)) 1 (some xq79)) 2 (some xq101))))))) := hP 61 _ rfl
      show H[xq23]? = some (arrV xc24 3 _)
      rw [h9, vp_cell_q]
      exact congrArg some (arrV_ext (fun j hj => by
        rcases (show j = 0 ∨ j = 1 ∨ j = 2 by omega) with rfl | rfl | rfl <;> rfl))
    · cases hl; exact hP 62 _ rfl
    · cases hl
      have h9 : H[xq27]? = some (vp_cell xc28 (4, .inr (.inr (.inr (.inr (va_up (va_up (va_up (va_up (fun _ => none) 0 (some xq123)) 1 (some xq126)) 2 (some xq129)) 3 (some xq132))))))) := hP 63 _ rfl
      show H[xq27]? = some (arrV xc28 4 _)
      rw [h9, vp_cell_q]
      exact congrArg some (arrV_ext (fun j hj => by
        rcases (show j = 0 ∨ j = 1 ∨ j = 2 ∨ j = 3 by omega) with rfl | rfl | rfl | rfl <;> rfl))
    · cases hl
      obtain ⟨r9, h8, h9⟩ := hP 64 _ rfl
      refine ⟨r9, h8, h9.to fun k hk => ?_⟩
      have e9 : r9 = (R_Ch, T_Ch, 9) := (Option.some.inj h8).symm
      rw [e9] at hk
      have hk : k < 9 := hk
      rcases (show k = 0 ∨ k = 1 ∨ k = 2 ∨ k = 3 ∨ k = 4 ∨ k = 5 ∨ k = 6 ∨ k = 7 ∨ k = 8 by omega) with rfl | rfl | rfl | rfl | rfl | rfl | rfl | rfl | rfl <;> rfl
    · cases hl; exact hP 65 _ rfl
    · cases hl; exact hP 66 _ rfl
    · cases hl; exact hP 67 _ rfl
    · cases hl; exact hP 68 _ rfl
    · cases hl; exact hP 69 _ rfl
    · cases hl; exact hP 70 _ rfl
    · cases hl
      obtain ⟨r9, h8, h9⟩ := hP 71 _ rfl
      refine ⟨r9, h8, h9.to fun k hk => ?_⟩
      have e9 : r9 = (R_Mv, T_Mv, 3) := (Option.some.inj h8).symm
      rw [e9] at hk
      have hk : k < 3 := hk
      rcases (show k = 0 ∨ k = 1 ∨ k = 2 by omega) with rfl | rfl | rfl <;> rfl
    · cases hl; exact hP 72 _ rfl
    · cases hl; exact hP 73 _ rfl
    · cases hl
      obtain ⟨r9, h8, h9⟩ := hP 74 _ rfl
      refine ⟨r9, h8, h9.to fun k hk => ?_⟩
      have e9 : r9 = (R_Ra, T_Ra, 2) := (Option.some.inj h8).symm
      rw [e9] at hk
      have hk : k < 2 := hk
      rcases (show k = 0 ∨ k = 1 by omega) with rfl | rfl <;> rfl
    · cases hl; exact hP 75 _ rfl
    · cases hl
      obtain ⟨r9, h8, h9⟩ := hP 76 _ rfl
      refine ⟨r9, h8, h9.to fun k hk => ?_⟩
      have e9 : r9 = (R_Gp, T_Gp, 3) := (Option.some.inj h8).symm
      rw [e9] at hk
      have hk : k < 3 := hk
      rcases (show k = 0 ∨ k = 1 ∨ k = 2 by omega) with rfl | rfl | rfl <;> rfl
    · cases hl; exact hP 77 _ rfl
    · cases hl; exact hP 78 _ rfl
    · cases hl; exact hP 79 _ rfl
  · rcases (show i = 0 ∨ i = 1 ∨ i = 2 ∨ i = 3 ∨ i = 4 ∨ i = 5 ∨ i = 6 ∨ i = 7 ∨ i = 8 ∨ i = 9 ∨ i = 10 ∨ i = 11 ∨ i = 12 ∨ i = 13 ∨ i = 14 ∨ i = 15 ∨ i = 16 ∨ i = 17 ∨ i = 18 ∨ i = 19 ∨ i = 20 by omega) with rfl | rfl | rfl | rfl | rfl | rfl | rfl | rfl | rfl | rfl | rfl | rfl | rfl | rfl | rfl | rfl | rfl | rfl | rfl | rfl | rfl
    · cases hl
      obtain ⟨r9, h8, h9⟩ := hP 80 _ rfl
      refine ⟨r9, h8, h9.to fun k hk => ?_⟩
      have e9 : r9 = (R_Mo, T_Mo, 30) := (Option.some.inj h8).symm
      rw [e9] at hk
      have hk : k < 30 := hk
      rcases (show k = 0 ∨ k = 1 ∨ k = 2 ∨ k = 3 ∨ k = 4 ∨ k = 5 ∨ k = 6 ∨ k = 7 ∨ k = 8 ∨ k = 9 ∨ k = 10 ∨ k = 11 ∨ k = 12 ∨ k = 13 ∨ k = 14 ∨ k = 15 ∨ k = 16 ∨ k = 17 ∨ k = 18 ∨ k = 19 ∨ k = 20 ∨ k = 21 ∨ k = 22 ∨ k = 23 ∨ k = 24 ∨ k = 25 ∨ k = 26 ∨ k = 27 ∨ k = 28 ∨ k = 29 by omega) with rfl | rfl | rfl | rfl | rfl | rfl | rfl | rfl | rfl | rfl | rfl | rfl | rfl | rfl | rfl | rfl | rfl | rfl | rfl | rfl | rfl | rfl | rfl | rfl | rfl | rfl | rfl | rfl | rfl | rfl <;> rfl
    · cases hl; exact hP 81 _ rfl
    · cases hl; exact hP 82 _ rfl
    · cases hl; exact hP 83 _ rfl
    · cases hl; exact hP 84 _ rfl
    · cases hl; exact hP 85 _ rfl
    · cases hl; exact hP 86 _ rfl
    · cases hl; exact hP 87 _ rfl
    · cases hl; exact hP 88 _ rfl
    · cases hl; exact hP 89 _ rfl
    · cases hl; exact hP 90 _ rfl
    · cases hl; exact hP 91 _ rfl
    · cases hl; exact hP 92 _ rfl
    · cases hl; exact hP 93 _ rfl
    · cases hl; exact hP 94 _ rfl
    · cases hl; exact hP 95 _ rfl
    · cases hl; exact hP 96 _ rfl
    · cases hl; exact hP 97 _ rfl
    · cases hl; exact hP 98 _ rfl
    · cases hl; exact hP 99 _ rfl
    · cases hl; exact hP 100 _ rfl
