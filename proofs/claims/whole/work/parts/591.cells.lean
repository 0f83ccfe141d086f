theorem arrV_ext {c : ClassId} {n : Nat} {f g : Nat → Value} (h : ∀ j, j < n → f j = g j) : arrV c n f = arrV c n g := by
  unfold arrV
  congr 1
  apply Array.ext
  · simp
  · intro j h1 h2
    simp only [Array.getElem_ofFn]
    exact h j (by simpa using h1)
set_option maxHeartbeats 8000000 in
set_option maxRecDepth 100000 in
theorem x_cells {dC : Nat → ClassId} {dI : Nat → Nat → Nat} {H : Heap} {s : State} (c9 : ClassId) (x0 y0 : Nat) (xqf yqf : Nat → Nat) (xcf ycf : Nat → ClassId) (hP : va_P (dC, dI) xcl [((xqf 0), .inr (5, [.ref (xqf 1), .ref (xqf 3), .ref (xqf 12)])), ((xqf 1), .inr (1, [.ref (xqf 2), .int (5 : Int32), .int (1 : Int32), .int (1 : Int32), .int (1 : Int32), .int (1 : Int32)])), ((xqf 2), .inl ((xcf 0), 27, .inl (upd (upd (upd (upd (upd (upd (upd (upd (upd (fun _ => 0) 0 (1000 : Int32)) 4 (1000 : Int32)) 8 (1000 : Int32)) 9 (1000 : Int32)) 13 (1000 : Int32)) 17 (1000 : Int32)) 18 (1000 : Int32)) 22 (1000 : Int32)) 26 (1000 : Int32)))), ((xqf 3), .inr (4, [.int (0 : Int32), .ref (xqf 4), .ref (xqf 5), .ref (xqf 6), .ref (xqf 7), .ref (xqf 8), .int (0 : Int32), .ref (xqf 9), .ref (xqf 10), .ref (xqf 11)])), ((xqf 4), .inl ((xcf 1), 12, .inl (fun _ => 0))), ((xqf 5), .inl ((xcf 2), 12, .inl (fun _ => 0))), ((xqf 6), .inl ((xcf 3), 12, .inl (fun _ => 0))), ((xqf 7), .inl ((xcf 4), 8, .inl (fun _ => 0))), ((xqf 8), .inl ((xcf 5), 8, .inl (upd (upd (upd (upd (upd (upd (upd (upd (fun _ => 0) 0 (16777215 : Int32)) 1 (16777215 : Int32)) 2 (16777215 : Int32)) 3 (16777215 : Int32)) 4 (16777215 : Int32)) 5 (16777215 : Int32)) 6 (16777215 : Int32)) 7 (16777215 : Int32)))), ((xqf 9), .inl ((xcf 6), 20, .inl (fun _ => 0))), ((xqf 10), .inl ((xcf 7), 20, .inl (fun _ => 0))), ((xqf 11), .inl ((xcf 8), 20, .inl (fun _ => 0))), ((xqf 12), .inr (2, [.int (3 : Int32)])), ((xqf 32), .inr (5, [.ref (xqf 33), .ref (xqf 35), .ref (xqf 44)])), ((xqf 33), .inr (1, [.ref (xqf 34), .int (5 : Int32), .int (1 : Int32), .int (1 : Int32), .int (1 : Int32), .int (1 : Int32)])), ((xqf 34), .inl ((xcf 24), 27, .inl (upd (upd (upd (upd (upd (upd (upd (upd (upd (fun _ => 0) 0 (1000 : Int32)) 4 (1000 : Int32)) 8 (1000 : Int32)) 9 (1000 : Int32)) 13 (1000 : Int32)) 17 (1000 : Int32)) 18 (1000 : Int32)) 22 (1000 : Int32)) 26 (1000 : Int32)))), ((xqf 35), .inr (4, [.int (0 : Int32), .ref (xqf 36), .ref (xqf 37), .ref (xqf 38), .ref (xqf 39), .ref (xqf 40), .int (0 : Int32), .ref (xqf 41), .ref (xqf 42), .ref (xqf 43)])), ((xqf 36), .inl ((xcf 25), 12, .inl (fun _ => 0))), ((xqf 37), .inl ((xcf 26), 12, .inl (fun _ => 0))), ((xqf 38), .inl ((xcf 27), 12, .inl (fun _ => 0))), ((xqf 39), .inl ((xcf 28), 8, .inl (fun _ => 0))), ((xqf 40), .inl ((xcf 29), 8, .inl (upd (upd (upd (upd (upd (upd (upd (upd (fun _ => 0) 0 (16777215 : Int32)) 1 (16777215 : Int32)) 2 (16777215 : Int32)) 3 (16777215 : Int32)) 4 (16777215 : Int32)) 5 (16777215 : Int32)) 6 (16777215 : Int32)) 7 (16777215 : Int32)))), ((xqf 41), .inl ((xcf 30), 20, .inl (fun _ => 0))), ((xqf 42), .inl ((xcf 31), 20, .inl (fun _ => 0))), ((xqf 43), .inl ((xcf 32), 20, .inl (fun _ => 0))), ((xqf 44), .inr (2, [.int (3 : Int32)])), ((xqf 45), .inr (5, [.ref (xqf 46), .ref (xqf 48), .ref (xqf 57)])), ((xqf 46), .inr (1, [.ref (xqf 47), .int (5 : Int32), .int (1 : Int32), .int (1 : Int32), .int (1 : Int32), .int (1 : Int32)])), ((xqf 47), .inl ((xcf 33), 27, .inl (upd (upd (upd (upd (upd (upd (upd (upd (upd (fun _ => 0) 0 (1000 : Int32)) 4 (1000 : Int32)) 8 (1000 : Int32)) 9 (1000 : Int32)) 13 (1000 : Int32)) 17 (1000 : Int32)) 18 (1000 : Int32)) 22 (1000 : Int32)) 26 (1000 : Int32)))), ((xqf 48), .inr (4, [.int (0 : Int32), .ref (xqf 49), .ref (xqf 50), .ref (xqf 51), .ref (xqf 52), .ref (xqf 53), .int (0 : Int32), .ref (xqf 54), .ref (xqf 55), .ref (xqf 56)])), ((xqf 49), .inl ((xcf 34), 12, .inl (fun _ => 0))), ((xqf 50), .inl ((xcf 35), 12, .inl (fun _ => 0))), ((xqf 51), .inl ((xcf 36), 12, .inl (fun _ => 0))), ((xqf 52), .inl ((xcf 37), 8, .inl (fun _ => 0))), ((xqf 53), .inl ((xcf 38), 8, .inl (upd (upd (upd (upd (upd (upd (upd (upd (fun _ => 0) 0 (16777215 : Int32)) 1 (16777215 : Int32)) 2 (16777215 : Int32)) 3 (16777215 : Int32)) 4 (16777215 : Int32)) 5 (16777215 : Int32)) 6 (16777215 : Int32)) 7 (16777215 : Int32)))), ((xqf 54), .inl ((xcf 39), 20, .inl (fun _ => 0))), ((xqf 55), .inl ((xcf 40), 20, .inl (fun _ => 0))), ((xqf 56), .inl ((xcf 41), 20, .inl (fun _ => 0))), ((xqf 57), .inr (2, [.int (3 : Int32)])), ((xqf 58), .inr (5, [.ref (xqf 59), .ref (xqf 61), .ref (xqf 70)])), ((xqf 59), .inr (1, [.ref (xqf 60), .int (5 : Int32), .int (1 : Int32), .int (1 : Int32), .int (1 : Int32), .int (1 : Int32)])), ((xqf 60), .inl ((xcf 42), 27, .inl (upd (upd (upd (upd (upd (upd (upd (upd (upd (fun _ => 0) 0 (1000 : Int32)) 4 (1000 : Int32)) 8 (1000 : Int32)) 9 (1000 : Int32)) 13 (1000 : Int32)) 17 (1000 : Int32)) 18 (1000 : Int32)) 22 (1000 : Int32)) 26 (1000 : Int32)))), ((xqf 61), .inr (4, [.int (0 : Int32), .ref (xqf 62), .ref (xqf 63), .ref (xqf 64), .ref (xqf 65), .ref (xqf 66), .int (0 : Int32), .ref (xqf 67), .ref (xqf 68), .ref (xqf 69)])), ((xqf 62), .inl ((xcf 43), 12, .inl (fun _ => 0))), ((xqf 63), .inl ((xcf 44), 12, .inl (fun _ => 0))), ((xqf 64), .inl ((xcf 45), 12, .inl (fun _ => 0))), ((xqf 65), .inl ((xcf 46), 8, .inl (fun _ => 0))), ((xqf 66), .inl ((xcf 47), 8, .inl (upd (upd (upd (upd (upd (upd (upd (upd (fun _ => 0) 0 (16777215 : Int32)) 1 (16777215 : Int32)) 2 (16777215 : Int32)) 3 (16777215 : Int32)) 4 (16777215 : Int32)) 5 (16777215 : Int32)) 6 (16777215 : Int32)) 7 (16777215 : Int32)))), ((xqf 67), .inl ((xcf 48), 20, .inl (fun _ => 0))), ((xqf 68), .inl ((xcf 49), 20, .inl (fun _ => 0))), ((xqf 69), .inl ((xcf 50), 20, .inl (fun _ => 0))), ((xqf 70), .inr (2, [.int (3 : Int32)])), ((xqf 71), .inr (8, [.ref (xqf 72), .int (2 : Int32), .int (-1 : Int32)])), ((xqf 72), .inl ((xcf 51), 60, .inl (fun _ => 0))), ((xqf 73), .inr (8, [.ref (xqf 74), .int (2 : Int32), .int (-1 : Int32)])), ((xqf 74), .inl ((xcf 52), 60, .inl (fun _ => 0))), ((xqf 75), .inr (8, [.ref (xqf 76), .int (2 : Int32), .int (-1 : Int32)])), ((xqf 76), .inl ((xcf 53), 60, .inl (fun _ => 0))), ((xqf 77), .inr (8, [.ref (xqf 78), .int (2 : Int32), .int (-1 : Int32)])), ((xqf 78), .inl ((xcf 54), 60, .inl (fun _ => 0))), (x0, .inr (9, [.ref (xqf 0), .ref (xqf 13), .ref (xqf 14), .ref (xqf 15), .ref (xqf 16), .ref (xqf 23), .ref (xqf 26), .ref (xqf 28), .int (0 : Int32)])), ((xqf 13), .inl ((xcf 9), 3, .inr (.inr (.inr (.inr (va_up (va_up (va_up (fun _ => none) 0 (some (xqf 32))) 1 (some (xqf 45))) 2 (some (xqf 58)))))))), ((xqf 14), .inl ((xcf 10), 3, .inl (fun _ => 0))), ((xqf 15), .inl ((xcf 11), 4, .inr (.inr (.inr (.inr (va_up (va_up (va_up (va_up (fun _ => none) 0 (some (xqf 71))) 1 (some (xqf 73))) 2 (some (xqf 75))) 3 (some (xqf 77)))))))), ((xqf 16), .inr (0, [.ref (xqf 17), .ref (xqf 18), .ref (xqf 19), .ref (xqf 20), .ref (xqf 21), .ref (xqf 22), .int (0 : Int32), .int (0 : Int32), .int (-1 : Int32)])), ((xqf 17), .inl ((xcf 12), 384, .inl (fun _ => 0))), ((xqf 18), .inl ((xcf 13), 6, .inl (fun _ => 0))), ((xqf 19), .inl ((xcf 14), 64, .inl (fun _ => 0))), ((xqf 20), .inl ((xcf 15), 4096, .inl (fun _ => 0))), ((xqf 21), .inl ((xcf 16), 5, .inl (fun _ => 0))), ((xqf 22), .inl ((xcf 17), 5, .inl (fun _ => 0))), ((xqf 23), .inr (6, [.ref (xqf 24), .ref (xqf 25), .int (0 : Int32)])), ((xqf 24), .inl ((xcf 18), 72, .inl (fun _ => 0))), ((xqf 25), .inl ((xcf 19), 6, .inl (fun _ => 0))), ((xqf 26), .inr (7, [.ref (xqf 27), .int (0 : Int32)])), ((xqf 27), .inl ((xcf 20), 12, .inl (fun _ => 0))), ((xqf 28), .inr (3, [.ref (xqf 29), .ref (xqf 30), .ref (xqf 31)])), ((xqf 29), .inl ((xcf 21), 12, .inl (fun _ => 0))), ((xqf 30), .inl ((xcf 22), 12, .inl (fun _ => 0))), ((xqf 31), .inl ((xcf 23), 12, .inl (fun _ => 0))), (y0, .inr (10, [.int 0, .ref (yqf 0), .ref (yqf 1), .ref (yqf 2), .ref (yqf 3), .int (5 : Int32), .int (1 : Int32), .int (3 : Int32), .ref (yqf 4), .int 0, .int 0, .ref (yqf 5), .ref (yqf 6), .ref (yqf 7), .ref (yqf 8), .ref (yqf 9), .ref (yqf 10), .ref (yqf 11), .ref (yqf 12), .ref (yqf 13), .ref (yqf 14), .ref (yqf 15), .ref (yqf 16), .int 0, .int 0, .int 0, .ref (yqf 17), .ref (yqf 18), .ref (yqf 19), .int 0])), ((yqf 0), .inl ((ycf 0), 4, .inl (fun _ => 0))), ((yqf 1), .inl ((ycf 1), 4, .inl (upd (upd (upd (upd (fun _ => 0) 0 (-1 : Int32)) 1 (-1 : Int32)) 2 (-1 : Int32)) 3 (-1 : Int32)))), ((yqf 2), .inl ((ycf 2), 240, .inl (fun _ => 0))), ((yqf 3), .inl ((ycf 3), 27, .inl (upd (upd (upd (upd (upd (upd (upd (upd (upd (upd (upd (upd (upd (upd (upd (upd (upd (upd (upd (upd (upd (upd (upd (upd (upd (upd (upd (fun _ => 0) 0 (1000 : Int32)) 1 (0 : Int32)) 2 (0 : Int32)) 3 (0 : Int32)) 4 (1000 : Int32)) 5 (0 : Int32)) 6 (0 : Int32)) 7 (0 : Int32)) 8 (1000 : Int32)) 9 (1000 : Int32)) 10 (0 : Int32)) 11 (0 : Int32)) 12 (0 : Int32)) 13 (1000 : Int32)) 14 (0 : Int32)) 15 (0 : Int32)) 16 (0 : Int32)) 17 (1000 : Int32)) 18 (1000 : Int32)) 19 (0 : Int32)) 20 (0 : Int32)) 21 (0 : Int32)) 22 (1000 : Int32)) 23 (0 : Int32)) 24 (0 : Int32)) 25 (0 : Int32)) 26 (1000 : Int32)))), ((yqf 4), .inl ((ycf 4), 3, .inl (upd (upd (upd (fun _ => 0) 0 (1 : Int32)) 1 (1 : Int32)) 2 (1 : Int32)))), ((yqf 5), .inl ((ycf 5), 12, .inl (fun _ => 0))), ((yqf 6), .inl ((ycf 6), 12, .inl (fun _ => 0))), ((yqf 7), .inl ((ycf 7), 12, .inl (fun _ => 0))), ((yqf 8), .inl ((ycf 8), 8, .inl (fun _ => 0))), ((yqf 9), .inl ((ycf 9), 8, .inl (upd (upd (upd (upd (upd (upd (upd (upd (fun _ => 0) 0 (16777215 : Int32)) 1 (16777215 : Int32)) 2 (16777215 : Int32)) 3 (16777215 : Int32)) 4 (16777215 : Int32)) 5 (16777215 : Int32)) 6 (16777215 : Int32)) 7 (16777215 : Int32)))), ((yqf 10), .inl ((ycf 10), 20, .inl (fun _ => 0))), ((yqf 11), .inl ((ycf 11), 20, .inl (fun _ => 0))), ((yqf 12), .inl ((ycf 12), 20, .inl (fun _ => 0))), ((yqf 13), .inl ((ycf 13), 4096, .inl (fun _ => 0))), ((yqf 14), .inl ((ycf 14), 64, .inl (fun _ => 0))), ((yqf 15), .inl ((ycf 15), 5, .inl (fun _ => 0))), ((yqf 16), .inl ((ycf 16), 5, .inl (fun _ => 0))), ((yqf 17), .inl ((ycf 17), 12, .inl (fun _ => 0))), ((yqf 18), .inl ((ycf 18), 3, .inl (fun _ => 0))), ((yqf 19), .inl ((ycf 19), 600, .inl (fun _ => 0)))] H) : xRp (xGof dC dI c9 x0 y0 xqf yqf xcf ycf) xM0 H := by
  intro g i L hl
  have hc := xlay_cases hl
  rcases hc with ⟨h1, h2⟩ | ⟨h1, h2, h3⟩ | ⟨rfl, h2⟩ | ⟨rfl, h2⟩
  · rcases (show g = 0 ∨ g = 1 ∨ g = 2 ∨ g = 3 by omega) with rfl | rfl | rfl | rfl
    · rcases (show i = 0 ∨ i = 1 ∨ i = 2 ∨ i = 3 ∨ i = 4 ∨ i = 5 ∨ i = 6 ∨ i = 7 ∨ i = 8 ∨ i = 9 ∨ i = 10 ∨ i = 11 ∨ i = 12 by omega) with rfl | rfl | rfl | rfl | rfl | rfl | rfl | rfl | rfl | rfl | rfl | rfl | rfl
      · cases hl
        obtain ⟨r9, h8, h9⟩ := hP 0 _ rfl
        refine ⟨r9, h8, h9.to fun k hk => ?_⟩
        have e9 : r9 = (R_Ke, T_Ke, 3) := (Option.some.inj h8).symm
        rw [e9] at hk
        have hk : k < 3 := hk
        rcases (show k = 0 ∨ k = 1 ∨ k = 2 by omega) with rfl | rfl | rfl <;> rfl
      · cases hl
        obtain ⟨r9, h8, h9⟩ := hP 1 _ rfl
        refine ⟨r9, h8, h9.to fun k hk => ?_⟩
        have e9 : r9 = (R_Ey, T_Ey, 6) := (Option.some.inj h8).symm
        rw [e9] at hk
        have hk : k < 6 := hk
        rcases (show k = 0 ∨ k = 1 ∨ k = 2 ∨ k = 3 ∨ k = 4 ∨ k = 5 by omega) with rfl | rfl | rfl | rfl | rfl | rfl <;> rfl
      · cases hl; exact hP 2 _ rfl
      · cases hl
        obtain ⟨r9, h8, h9⟩ := hP 3 _ rfl
        refine ⟨r9, h8, h9.to fun k hk => ?_⟩
        have e9 : r9 = (R_Ho, T_Ho, 10) := (Option.some.inj h8).symm
        rw [e9] at hk
        have hk : k < 10 := hk
        rcases (show k = 0 ∨ k = 1 ∨ k = 2 ∨ k = 3 ∨ k = 4 ∨ k = 5 ∨ k = 6 ∨ k = 7 ∨ k = 8 ∨ k = 9 by omega) with rfl | rfl | rfl | rfl | rfl | rfl | rfl | rfl | rfl | rfl <;> rfl
      · cases hl; exact hP 4 _ rfl
      · cases hl; exact hP 5 _ rfl
      · cases hl; exact hP 6 _ rfl
      · cases hl; exact hP 7 _ rfl
      · cases hl; exact hP 8 _ rfl
      · cases hl; exact hP 9 _ rfl
      · cases hl; exact hP 10 _ rfl
      · cases hl; exact hP 11 _ rfl
      · cases hl
        obtain ⟨r9, h8, h9⟩ := hP 12 _ rfl
        refine ⟨r9, h8, h9.to fun k hk => ?_⟩
        have e9 : r9 = (R_Gr, T_Gr, 1) := (Option.some.inj h8).symm
        rw [e9] at hk
        have hk : k < 1 := hk
        rcases (show k = 0 by omega) with rfl <;> rfl
    · rcases (show i = 0 ∨ i = 1 ∨ i = 2 ∨ i = 3 ∨ i = 4 ∨ i = 5 ∨ i = 6 ∨ i = 7 ∨ i = 8 ∨ i = 9 ∨ i = 10 ∨ i = 11 ∨ i = 12 by omega) with rfl | rfl | rfl | rfl | rfl | rfl | rfl | rfl | rfl | rfl | rfl | rfl | rfl
      · cases hl
        obtain ⟨r9, h8, h9⟩ := hP 13 _ rfl
        refine ⟨r9, h8, h9.to fun k hk => ?_⟩
        have e9 : r9 = (R_Ke, T_Ke, 3) := (Option.some.inj h8).symm
        rw [e9] at hk
        have hk : k < 3 := hk
        rcases (show k = 0 ∨ k = 1 ∨ k = 2 by omega) with rfl | rfl | rfl <;> rfl
      · cases hl
        obtain ⟨r9, h8, h9⟩ := hP 14 _ rfl
        refine ⟨r9, h8, h9.to fun k hk => ?_⟩
        have e9 : r9 = (R_Ey, T_Ey, 6) := (Option.some.inj h8).symm
        rw [e9] at hk
        have hk : k < 6 := hk
        rcases (show k = 0 ∨ k = 1 ∨ k = 2 ∨ k = 3 ∨ k = 4 ∨ k = 5 by omega) with rfl | rfl | rfl | rfl | rfl | rfl <;> rfl
      · cases hl; exact hP 15 _ rfl
      · cases hl
        obtain ⟨r9, h8, h9⟩ := hP 16 _ rfl
        refine ⟨r9, h8, h9.to fun k hk => ?_⟩
        have e9 : r9 = (R_Ho, T_Ho, 10) := (Option.some.inj h8).symm
        rw [e9] at hk
        have hk : k < 10 := hk
        rcases (show k = 0 ∨ k = 1 ∨ k = 2 ∨ k = 3 ∨ k = 4 ∨ k = 5 ∨ k = 6 ∨ k = 7 ∨ k = 8 ∨ k = 9 by omega) with rfl | rfl | rfl | rfl | rfl | rfl | rfl | rfl | rfl | rfl <;> rfl
      · cases hl; exact hP 17 _ rfl
      · cases hl; exact hP 18 _ rfl
      · cases hl; exact hP 19 _ rfl
      · cases hl; exact hP 20 _ rfl
      · cases hl; exact hP 21 _ rfl
      · cases hl; exact hP 22 _ rfl
      · cases hl; exact hP 23 _ rfl
      · cases hl; exact hP 24 _ rfl
      · cases hl
        obtain ⟨r9, h8, h9⟩ := hP 25 _ rfl
        refine ⟨r9, h8, h9.to fun k hk => ?_⟩
        have e9 : r9 = (R_Gr, T_Gr, 1) := (Option.some.inj h8).symm
        rw [e9] at hk
        have hk : k < 1 := hk
        rcases (show k = 0 by omega) with rfl <;> rfl
    · rcases (show i = 0 ∨ i = 1 ∨ i = 2 ∨ i = 3 ∨ i = 4 ∨ i = 5 ∨ i = 6 ∨ i = 7 ∨ i = 8 ∨ i = 9 ∨ i = 10 ∨ i = 11 ∨ i = 12 by omega) with rfl | rfl | rfl | rfl | rfl | rfl | rfl | rfl | rfl | rfl | rfl | rfl | rfl
      · cases hl
        obtain ⟨r9, h8, h9⟩ := hP 26 _ rfl
        refine ⟨r9, h8, h9.to fun k hk => ?_⟩
        have e9 : r9 = (R_Ke, T_Ke, 3) := (Option.some.inj h8).symm
        rw [e9] at hk
        have hk : k < 3 := hk
        rcases (show k = 0 ∨ k = 1 ∨ k = 2 by omega) with rfl | rfl | rfl <;> rfl
      · cases hl
        obtain ⟨r9, h8, h9⟩ := hP 27 _ rfl
        refine ⟨r9, h8, h9.to fun k hk => ?_⟩
        have e9 : r9 = (R_Ey, T_Ey, 6) := (Option.some.inj h8).symm
        rw [e9] at hk
        have hk : k < 6 := hk
        rcases (show k = 0 ∨ k = 1 ∨ k = 2 ∨ k = 3 ∨ k = 4 ∨ k = 5 by omega) with rfl | rfl | rfl | rfl | rfl | rfl <;> rfl
      · cases hl; exact hP 28 _ rfl
      · cases hl
        obtain ⟨r9, h8, h9⟩ := hP 29 _ rfl
        refine ⟨r9, h8, h9.to fun k hk => ?_⟩
        have e9 : r9 = (R_Ho, T_Ho, 10) := (Option.some.inj h8).symm
        rw [e9] at hk
        have hk : k < 10 := hk
        rcases (show k = 0 ∨ k = 1 ∨ k = 2 ∨ k = 3 ∨ k = 4 ∨ k = 5 ∨ k = 6 ∨ k = 7 ∨ k = 8 ∨ k = 9 by omega) with rfl | rfl | rfl | rfl | rfl | rfl | rfl | rfl | rfl | rfl <;> rfl
      · cases hl; exact hP 30 _ rfl
      · cases hl; exact hP 31 _ rfl
      · cases hl; exact hP 32 _ rfl
      · cases hl; exact hP 33 _ rfl
      · cases hl; exact hP 34 _ rfl
      · cases hl; exact hP 35 _ rfl
      · cases hl; exact hP 36 _ rfl
      · cases hl; exact hP 37 _ rfl
      · cases hl
        obtain ⟨r9, h8, h9⟩ := hP 38 _ rfl
        refine ⟨r9, h8, h9.to fun k hk => ?_⟩
        have e9 : r9 = (R_Gr, T_Gr, 1) := (Option.some.inj h8).symm
        rw [e9] at hk
        have hk : k < 1 := hk
        rcases (show k = 0 by omega) with rfl <;> rfl
    · rcases (show i = 0 ∨ i = 1 ∨ i = 2 ∨ i = 3 ∨ i = 4 ∨ i = 5 ∨ i = 6 ∨ i = 7 ∨ i = 8 ∨ i = 9 ∨ i = 10 ∨ i = 11 ∨ i = 12 by omega) with rfl | rfl | rfl | rfl | rfl | rfl | rfl | rfl | rfl | rfl | rfl | rfl | rfl
      · cases hl
        obtain ⟨r9, h8, h9⟩ := hP 39 _ rfl
        refine ⟨r9, h8, h9.to fun k hk => ?_⟩
        have e9 : r9 = (R_Ke, T_Ke, 3) := (Option.some.inj h8).symm
        rw [e9] at hk
        have hk : k < 3 := hk
        rcases (show k = 0 ∨ k = 1 ∨ k = 2 by omega) with rfl | rfl | rfl <;> rfl
      · cases hl
        obtain ⟨r9, h8, h9⟩ := hP 40 _ rfl
        refine ⟨r9, h8, h9.to fun k hk => ?_⟩
        have e9 : r9 = (R_Ey, T_Ey, 6) := (Option.some.inj h8).symm
        rw [e9] at hk
        have hk : k < 6 := hk
        rcases (show k = 0 ∨ k = 1 ∨ k = 2 ∨ k = 3 ∨ k = 4 ∨ k = 5 by omega) with rfl | rfl | rfl | rfl | rfl | rfl <;> rfl
      · cases hl; exact hP 41 _ rfl
      · cases hl
        obtain ⟨r9, h8, h9⟩ := hP 42 _ rfl
        refine ⟨r9, h8, h9.to fun k hk => ?_⟩
        have e9 : r9 = (R_Ho, T_Ho, 10) := (Option.some.inj h8).symm
        rw [e9] at hk
        have hk : k < 10 := hk
        rcases (show k = 0 ∨ k = 1 ∨ k = 2 ∨ k = 3 ∨ k = 4 ∨ k = 5 ∨ k = 6 ∨ k = 7 ∨ k = 8 ∨ k = 9 by omega) with rfl | rfl | rfl | rfl | rfl | rfl | rfl | rfl | rfl | rfl <;> rfl
      · cases hl; exact hP 43 _ rfl
      · cases hl; exact hP 44 _ rfl
      · cases hl; exact hP 45 _ rfl
      · cases hl; exact hP 46 _ rfl
      · cases hl; exact hP 47 _ rfl
      · cases hl; exact hP 48 _ rfl
      · cases hl; exact hP 49 _ rfl
      · cases hl; exact hP 50 _ rfl
      · cases hl
        obtain ⟨r9, h8, h9⟩ := hP 51 _ rfl
        refine ⟨r9, h8, h9.to fun k hk => ?_⟩
        have e9 : r9 = (R_Gr, T_Gr, 1) := (Option.some.inj h8).symm
        rw [e9] at hk
        have hk : k < 1 := hk
        rcases (show k = 0 by omega) with rfl <;> rfl
  · rcases (show g = 4 ∨ g = 5 ∨ g = 6 ∨ g = 7 by omega) with rfl | rfl | rfl | rfl
    · rcases (show i = 0 ∨ i = 1 by omega) with rfl | rfl
      · cases hl
        obtain ⟨r9, h8, h9⟩ := hP 52 _ rfl
        refine ⟨r9, h8, h9.to fun k hk => ?_⟩
        have e9 : r9 = (R_Sh, T_Sh, 3) := (Option.some.inj h8).symm
        rw [e9] at hk
        have hk : k < 3 := hk
        rcases (show k = 0 ∨ k = 1 ∨ k = 2 by omega) with rfl | rfl | rfl <;> rfl
      · cases hl; exact hP 53 _ rfl
    · rcases (show i = 0 ∨ i = 1 by omega) with rfl | rfl
      · cases hl
        obtain ⟨r9, h8, h9⟩ := hP 54 _ rfl
        refine ⟨r9, h8, h9.to fun k hk => ?_⟩
        have e9 : r9 = (R_Sh, T_Sh, 3) := (Option.some.inj h8).symm
        rw [e9] at hk
        have hk : k < 3 := hk
        rcases (show k = 0 ∨ k = 1 ∨ k = 2 by omega) with rfl | rfl | rfl <;> rfl
      · cases hl; exact hP 55 _ rfl
    · rcases (show i = 0 ∨ i = 1 by omega) with rfl | rfl
      · cases hl
        obtain ⟨r9, h8, h9⟩ := hP 56 _ rfl
        refine ⟨r9, h8, h9.to fun k hk => ?_⟩
        have e9 : r9 = (R_Sh, T_Sh, 3) := (Option.some.inj h8).symm
        rw [e9] at hk
        have hk : k < 3 := hk
        rcases (show k = 0 ∨ k = 1 ∨ k = 2 by omega) with rfl | rfl | rfl <;> rfl
      · cases hl; exact hP 57 _ rfl
    · rcases (show i = 0 ∨ i = 1 by omega) with rfl | rfl
      · cases hl
        obtain ⟨r9, h8, h9⟩ := hP 58 _ rfl
        refine ⟨r9, h8, h9.to fun k hk => ?_⟩
        have e9 : r9 = (R_Sh, T_Sh, 3) := (Option.some.inj h8).symm
        rw [e9] at hk
        have hk : k < 3 := hk
        rcases (show k = 0 ∨ k = 1 ∨ k = 2 by omega) with rfl | rfl | rfl <;> rfl
      · cases hl; exact hP 59 _ rfl
  · rcases (show i = 0 ∨ i = 1 ∨ i = 2 ∨ i = 3 ∨ i = 4 ∨ i = 5 ∨ i = 6 ∨ i = 7 ∨ i = 8 ∨ i = 9 ∨ i = 10 ∨ i = 11 ∨ i = 12 ∨ i = 13 ∨ i = 14 ∨ i = 15 ∨ i = 16 ∨ i = 17 ∨ i = 18 ∨ i = 19 by omega) with rfl | rfl | rfl | rfl | rfl | rfl | rfl | rfl | rfl | rfl | rfl | rfl | rfl | rfl | rfl | rfl | rfl | rfl | rfl | rfl
    · cases hl
      obtain ⟨r9, h8, h9⟩ := hP 60 _ rfl
      refine ⟨r9, h8, h9.to fun k hk => ?_⟩
      have e9 : r9 = (R_CA, T_CA, 9) := (Option.some.inj h8).symm
      rw [e9] at hk
      have hk : k < 9 := hk
      rcases (show k = 0 ∨ k = 1 ∨ k = 2 ∨ k = 3 ∨ k = 4 ∨ k = 5 ∨ k = 6 ∨ k = 7 ∨ k = 8 by omega) with rfl | rfl | rfl | rfl | rfl | rfl | rfl | rfl | rfl <;> rfl
    · cases hl
      have h9 : H[(xqf 13)]? = some (vp_cell (xcf 9) (3, .inr (.inr (.inr (.inr (va_up (va_up (va_up (fun _ => none) 0 (some (xqf 32))) 1 (some (xqf 45))) 2 (some (xqf 58)))))))) := hP 61 _ rfl
      show H[(xqf 13)]? = some (arrV (xcf 9) 3 _)
      rw [h9, vp_cell_q]
      exact congrArg some (arrV_ext (fun j hj => by
        rcases (show j = 0 ∨ j = 1 ∨ j = 2 by omega) with rfl | rfl | rfl <;> rfl))
    · cases hl; exact hP 62 _ rfl
    · cases hl
      have h9 : H[(xqf 15)]? = some (vp_cell (xcf 11) (4, .inr (.inr (.inr (.inr (va_up (va_up (va_up (va_up (fun _ => none) 0 (some (xqf 71))) 1 (some (xqf 73))) 2 (some (xqf 75))) 3 (some (xqf 77)))))))) := hP 63 _ rfl
      show H[(xqf 15)]? = some (arrV (xcf 11) 4 _)
      rw [h9, vp_cell_q]
      exact congrArg some (arrV_ext (fun j hj => by
        rcases (show j = 0 ∨ j = 1 ∨ j = 2 ∨ j = 3 by omega) with rfl | rfl | rfl | rfl <;> rfl))
    · cases hl
      obtain ⟨r9, h8, h9⟩ := hP 64 _ rfl
      refine ⟨r9, h8, h9.to fun k hk => ?_⟩
      have e9 : r9 = (R_Ch, T_Ch, 9) := (Option.some.inj h8).symm
      rw [e9] at hk
      have hk : k < 9 := hk
      rcases (show k = 0 ∨ k = 1 ∨ k = 2 ∨ k = 3 ∨ k = 4 ∨ k = 5 ∨ k = 6 ∨ k = 7 ∨ k = 8 by omega) with rfl | rfl | rfl | rfl | rfl | rfl | rfl | rfl | rfl <;> rfl
    · cases hl; exact hP 65 _ rfl
    · cases hl; exact hP 66 _ rfl
    · cases hl; exact hP 67 _ rfl
    · cases hl; exact hP 68 _ rfl
    · cases hl; exact hP 69 _ rfl
    · cases hl; exact hP 70 _ rfl
    · cases hl
      obtain ⟨r9, h8, h9⟩ := hP 71 _ rfl
      refine ⟨r9, h8, h9.to fun k hk => ?_⟩
      have e9 : r9 = (R_Mv, T_Mv, 3) := (Option.some.inj h8).symm
      rw [e9] at hk
      have hk : k < 3 := hk
      rcases (show k = 0 ∨ k = 1 ∨ k = 2 by omega) with rfl | rfl | rfl <;> rfl
    · cases hl; exact hP 72 _ rfl
    · cases hl; exact hP 73 _ rfl
    · cases hl
      obtain ⟨r9, h8, h9⟩ := hP 74 _ rfl
      refine ⟨r9, h8, h9.to fun k hk => ?_⟩
      have e9 : r9 = (R_Ra, T_Ra, 2) := (Option.some.inj h8).symm
      rw [e9] at hk
      have hk : k < 2 := hk
      rcases (show k = 0 ∨ k = 1 by omega) with rfl | rfl <;> rfl
    · cases hl; exact hP 75 _ rfl
    · cases hl
      obtain ⟨r9, h8, h9⟩ := hP 76 _ rfl
      refine ⟨r9, h8, h9.to fun k hk => ?_⟩
      have e9 : r9 = (R_Gp, T_Gp, 3) := (Option.some.inj h8).symm
      rw [e9] at hk
      have hk : k < 3 := hk
      rcases (show k = 0 ∨ k = 1 ∨ k = 2 by omega) with rfl | rfl | rfl <;> rfl
    · cases hl; exact hP 77 _ rfl
    · cases hl; exact hP 78 _ rfl
    · cases hl; exact hP 79 _ rfl
  · rcases (show i = 0 ∨ i = 1 ∨ i = 2 ∨ i = 3 ∨ i = 4 ∨ i = 5 ∨ i = 6 ∨ i = 7 ∨ i = 8 ∨ i = 9 ∨ i = 10 ∨ i = 11 ∨ i = 12 ∨ i = 13 ∨ i = 14 ∨ i = 15 ∨ i = 16 ∨ i = 17 ∨ i = 18 ∨ i = 19 ∨ i = 20 by omega) with rfl | rfl | rfl | rfl | rfl | rfl | rfl | rfl | rfl | rfl | rfl | rfl | rfl | rfl | rfl | rfl | rfl | rfl | rfl | rfl | rfl
    · cases hl
      obtain ⟨r9, h8, h9⟩ := hP 80 _ rfl
      refine ⟨r9, h8, h9.to fun k hk => ?_⟩
      have e9 : r9 = (R_Mo, T_Mo, 30) := (Option.some.inj h8).symm
      rw [e9] at hk
      have hk : k < 30 := hk
      rcases (show k = 0 ∨ k = 1 ∨ k = 2 ∨ k = 3 ∨ k = 4 ∨ k = 5 ∨ k = 6 ∨ k = 7 ∨ k = 8 ∨ k = 9 ∨ k = 10 ∨ k = 11 ∨ k = 12 ∨ k = 13 ∨ k = 14 ∨ k = 15 ∨ k = 16 ∨ k = 17 ∨ k = 18 ∨ k = 19 ∨ k = 20 ∨ k = 21 ∨ k = 22 ∨ k = 23 ∨ k = 24 ∨ k = 25 ∨ k = 26 ∨ k = 27 ∨ k = 28 ∨ k = 29 by omega) with rfl | rfl | rfl | rfl | rfl | rfl | rfl | rfl | rfl | rfl | rfl | rfl | rfl | rfl | rfl | rfl | rfl | rfl | rfl | rfl | rfl | rfl | rfl | rfl | rfl | rfl | rfl | rfl | rfl | rfl <;> rfl
    · cases hl; exact hP 81 _ rfl
    · cases hl; exact hP 82 _ rfl
    · cases hl; exact hP 83 _ rfl
    · cases hl; exact hP 84 _ rfl
    · cases hl; exact hP 85 _ rfl
    · cases hl; exact hP 86 _ rfl
    · cases hl; exact hP 87 _ rfl
    · cases hl; exact hP 88 _ rfl
    · cases hl; exact hP 89 _ rfl
    · cases hl; exact hP 90 _ rfl
    · cases hl; exact hP 91 _ rfl
    · cases hl; exact hP 92 _ rfl
    · cases hl; exact hP 93 _ rfl
    · cases hl; exact hP 94 _ rfl
    · cases hl; exact hP 95 _ rfl
    · cases hl; exact hP 96 _ rfl
    · cases hl; exact hP 97 _ rfl
    · cases hl; exact hP 98 _ rfl
    · cases hl; exact hP 99 _ rfl
    · cases hl; exact hP 100 _ rfl
