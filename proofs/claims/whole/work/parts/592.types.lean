set_option maxHeartbeats 8000000 in
set_option maxRecDepth 100000 in
theorem x_types {dC : Nat → ClassId} {dI : Nat → Nat → Nat} {H : Heap} {s : State} (c9 : ClassId) (xq1 xq2 xq3 xq4 xq5 xq6 xq7 xq8 xq9 xq10 xq11 xq12 xq13 xq57 xq58 xq59 xq60 xq61 xq62 xq63 xq64 xq65 xq66 xq67 xq68 xq69 xq79 xq80 xq81 xq82 xq83 xq84 xq85 xq86 xq87 xq88 xq89 xq90 xq91 xq101 xq102 xq103 xq104 xq105 xq106 xq107 xq108 xq109 xq110 xq111 xq112 xq113 xq123 xq124 xq126 xq127 xq129 xq130 xq132 xq133 x0 xq23 xq25 xq27 xq29 xq30 xq31 xq32 xq33 xq34 xq35 xq42 xq43 xq44 xq47 xq48 xq50 xq51 xq52 xq53 y0 yq1 yq3 yq5 yq7 yq9 yq11 yq13 yq15 yq17 yq19 yq21 yq23 yq25 yq27 yq29 yq31 yq33 yq35 yq37 yq39 : Nat) (xc14 xc15 xc16 xc17 xc18 xc19 xc20 xc21 xc22 xc24 xc26 xc28 xc36 xc37 xc38 xc39 xc40 xc41 xc45 xc46 xc49 xc54 xc55 xc56 xc70 xc71 xc72 xc73 xc74 xc75 xc76 xc77 xc78 xc92 xc93 xc94 xc95 xc96 xc97 xc98 xc99 xc100 xc114 xc115 xc116 xc117 xc118 xc119 xc120 xc121 xc122 xc125 xc128 xc131 xc134 yc2 yc4 yc6 yc8 yc10 yc12 yc14 yc16 yc18 yc20 yc22 yc24 yc26 yc28 yc30 yc32 yc34 yc36 yc38 yc40 : ClassId) (hK : va_K (dC, dI) xcl [(xc14, .int), (xc15, .int), (xc16, .boolean), (xc17, .int), (xc18, .int), (xc19, .int), (xc20, .int), (xc21, .int), (xc22, .int), (xc24, .object "ColoursApart$Kept"), (xc26, .boolean), (xc28, .object "ColoursApart$Sheet"), (xc36, .int), (xc37, .int), (xc38, .int), (xc39, .int), (xc40, .int), (xc41, .int), (xc45, .int), (xc46, .int), (xc49, .int), (xc54, .int), (xc55, .boolean), (xc56, .int), (xc70, .int), (xc71, .int), (xc72, .boolean), (xc73, .int), (xc74, .int), (xc75, .int), (xc76, .int), (xc77, .int), (xc78, .int), (xc92, .int), (xc93, .int), (xc94, .boolean), (xc95, .int), (xc96, .int), (xc97, .int), (xc98, .int), (xc99, .int), (xc100, .int), (xc114, .int), (xc115, .int), (xc116, .boolean), (xc117, .int), (xc118, .int), (xc119, .int), (xc120, .int), (xc121, .int), (xc122, .int), (xc125, .int), (xc128, .int), (xc131, .int), (xc134, .int), (yc2, .int), (yc4, .int), (yc6, .int), (yc8, .int), (yc10, .int), (yc12, .int), (yc14, .boolean), (yc16, .int), (yc18, .int), (yc20, .int), (yc22, .int), (yc24, .int), (yc26, .int), (yc28, .int), (yc30, .int), (yc32, .int), (yc34, .int), (yc36, .int), (yc38, .boolean), (yc40, .int)] s) (hN : xNA s) (hD : va_D (fun _ => True) [(xq1, .inr (5, [.ref xq2, .ref xq4, .ref xq13])), (xq2, .inr (1, [.ref xq3, .int (5 : Int32), .int (1 : Int32), .int (1 : Int32), .int (1 : Int32), .int (1 : Int32)])), (xq3, .inl (xc14, 27, .inl (upd (upd (upd (upd (upd (upd (upd (upd (upd (fun _ => 0) 0 (1000 : Int32)) 4 (1000 : Int32)) 8 (1000 : Int32)) 9 (1000 : Int32)) 13 (1000 : Int32)) 17 (1000 : Int32)) 18 (1000 : Int32)) 22 (1000 : Int32)) 26 (1000 : Int32)))), (xq4, .inr (4, [.int (0 : Int32), .ref xq5, .ref xq6, .ref xq7, .ref xq8, .ref xq9, .int (0 : Int32), .ref xq10, .ref xq11, .ref xq12])), (xq5, .inl (xc15, 12, .inl (fun _ => 0))), (xq6, .inl (xc16, 12, .inl (fun _ => 0))), (xq7, .inl (xc17, 12, .inl (fun _ => 0))), (xq8, .inl (xc18, 8, .inl (fun _ => 0))), (xq9, .inl (xc19, 8, .inl (upd (upd (upd (upd (upd (upd (upd (upd (fun _ => 0) 0 (16777215 : Int32)) 1 (16777215 : Int32)) 2 (16777215 : Int32)) 3 (16777215 : Int32)) 4 (16777215 : Int32)) 5 (16777215 : Int32)) 6 (16777215 : Int32)) 7 (16777215 : Int32)))), (xq10, .inl (xc20, 20, .inl (fun _ => 0))), (xq11, .inl (xc21, 20, .inl (fun _ => 0))), (xq12, .inl (xc22, 20, .inl (fun _ => 0))), (xq13, .inr (2, [.int (3 : Int32)])), (xq57, .inr (5, [.ref xq58, .ref xq60, .ref xq69])), (xq58, .inr (1, [.ref xq59, .int (5 : Int32), .int (1 : Int32), .int (1 : Int32), .int (1 : Int32), .int (1 : Int32)])), (xq59, .inl (xc70, 27, .inl (upd (upd (upd (upd (upd (upd (upd (upd (upd (fun _ => 0) 0 (1000 : Int32)) 4 (1000 : Int32)) 8 (1000 : Int32)) 9 (1000 : Int32)) 13 (1000 : Int32)) 17 (1000 : Int32)) 18 (1000 : Int32)) 22 (1000 : Int32)) 26 (1000 : Int32)))), (xq60, .inr (4, [.int (0 : Int32), .ref xq61, .ref xq62, .ref xq63, .ref xq64, .ref xq65, .int (0 : Int32), .ref xq66, .ref xq67, .ref xq68])), (xq61, .inl (xc71, 12, .inl (fun _ => 0))), (xq62, .inl (xc72, 12, .inl (fun _ => 0))), (xq63, .inl (xc73, 12, .inl (fun _ => 0))), (xq64, .inl (xc74, 8, .inl (fun _ => 0))), (xq65, .inl (xc75, 8, .inl (upd (upd (upd (upd (upd (upd (upd (upd (fun _ => 0) 0 (16777215 : Int32)) 1 (16777215 : Int32)) 2 (16777215 : Int32)) 3 (16777215 : Int32)) 4 (16777215 : Int32)) 5 (16777215 : Int32)) 6 (16777215 : Int32)) 7 (16777215 : Int32)))), (xq66, .inl (xc76, 20, .inl (fun _ => 0))), (xq67, .inl (xc77, 20, .inl (fun _ => 0))), (xq68, .inl (xc78, 20, .inl (fun _ => 0))), (xq69, .inr (2, [.int (3 : Int32)])), (xq79, .inr (5, [.ref xq80, .ref xq82, .ref xq91])), (xq80, .inr (1, [.ref xq81, .int (5 : Int32), .int (1 : Int32), .int (1 : Int32), .int (1 : Int32), .int (1 : Int32)])), (xq81, .inl (xc92, 27, .inl (upd (upd (upd (upd (upd (upd (upd (upd (upd (fun _ => 0) 0 (1000 : Int32)) 4 (1000 : Int32)) 8 (1000 : Int32)) 9 (1000 : Int32)) 13 (1000 : Int32)) 17 (1000 : Int32)) 18 (1000 : Int32)) 22 (1000 : Int32)) 26 (1000 : Int32)))), (xq82, .inr (4, [.int (0 : Int32), .ref xq83, .ref xq84, .ref xq85, .ref xq86, .ref xq87, .int (0 : Int32), .ref xq88, .ref xq89, .ref xq90])), (xq83, .inl (xc93, 12, .inl (fun _ => 0))), (xq84, .inl (xc94, 12, .inl (fun _ => 0))), (xq85, .inl (xc95, 12, .inl (fun _ => 0))), (xq86, .inl (xc96, 8, .inl (fun _ => 0))), (xq87, .inl (xc97, 8, .inl (upd (upd (upd (upd (upd (upd (upd (upd (fun _ => 0) 0 (16777215 : Int32)) 1 (16777215 : Int32)) 2 (16777215 : Int32)) 3 (16777215 : Int32)) 4 (16777215 : Int32)) 5 (16777215 : Int32)) 6 (16777215 : Int32)) 7 (16777215 : Int32)))), (xq88, .inl (xc98, 20, .inl (fun _ => 0))), (xq89, .inl (xc99, 20, .inl (fun _ => 0))), (xq90, .inl (xc100, 20, .inl (fun _ => 0))), (xq91, .inr (2, [.int (3 : Int32)])), (xq101, .inr (5, [.ref xq102, .ref xq104, .ref xq113])), (xq102, .inr (1, [.ref xq103, .int (5 : Int32), .int (1 : Int32), .int (1 : Int32), .int (1 : Int32), .int (1 : Int32)])), (xq103, .inl (xc114, 27, .inl (upd (upd (upd (upd (upd (upd (upd (upd (upd (fun _ => 0) 0 (1000 : Int32)) 4 (1000 : Int32)) 8 (1000 : Int32)) 9 (1000 : Int32)) 13 (1000 : Int32)) 17 (1000 : Int32)) 18 (1000 : Int32)) 22 (1000 : Int32)) 26 (1000 : Int32)))), (xq104, .inr (4, [.int (0 : Int32), .ref xq105, .ref xq106, .ref xq107, .ref xq108, .ref xq109, .int (0 : Int32), .ref xq110, .ref xq111, .ref xq112])), (xq105, .inl (xc115, 12, .inl (fun _ => 0))), (xq106, .inl (xc116, 12, .inl (fun _ => 0))), (xq107, .inl (xc117, 12, .inl (fun _ => 0))), (xq108, .inl (xc118, 8, .inl (fun _ => 0))), (xq109, .inl (xc119, 8, .inl (upd (upd (upd (upd (upd (upd (upd (upd (fun _ => 0) 0 (16777215 : Int32)) 1 (16777215 : Int32)) 2 (16777215 : Int32)) 3 (16777215 : Int32)) 4 (16777215 : Int32)) 5 (16777215 : Int32)) 6 (16777215 : Int32)) 7 (16777215 : Int32)))), (xq110, .inl (xc120, 20, .inl (fun _ => 0))), (xq111, .inl (xc121, 20, .inl (fun _ => 0))), (xq112, .inl (xc122, 20, .inl (fun _ => 0))), (xq113, .inr (2, [.int (3 : Int32)])), (xq123, .inr (8, [.ref xq124, .int (2 : Int32), .int (-1 : Int32)])), (xq124, .inl (xc125, 60, .inl (fun _ => 0))), (xq126, .inr (8, [.ref xq127, .int (2 : Int32), .int (-1 : Int32)])), (xq127, .inl (xc128, 60, .inl (fun _ => 0))), (xq129, .inr (8, [.ref xq130, .int (2 : Int32), .int (-1 : Int32)])), (xq130, .inl (xc131, 60, .inl (fun _ => 0))), (xq132, .inr (8, [.ref xq133, .int (2 : Int32), .int (-1 : Int32)])), (xq133, .inl (xc134, 60, .inl (fun _ => 0))), (x0, .inr (9, [.ref xq1, .ref xq23, .ref xq25, .ref xq27, .ref xq29, .ref xq42, .ref xq47, .ref xq50, .int (0 : Int32)])), (xq23, .inl (xc24, 3, .inr (.inr (.inr (.inr (va_up (va_up (va_up (fun _ => none) 0 (some xq57)) 1 (some xq79)) 2 (some xq101))))))), (xq25, .inl (xc26, 3, .inl (fun _ => 0))), (xq27, .inl (xc28, 4, .inr (.inr (.inr (.inr (va_up (va_up (va_up (va_up (fun _ => none) 0 (some xq123)) 1 (some xq126)) 2 (some xq129)) 3 (some xq132))))))), (xq29, .inr (0, [.ref xq30, .ref xq31, .ref xq32, .ref xq33, .ref xq34, .ref xq35, .int (0 : Int32), .int (0 : Int32), .int (-1 : Int32)])), (xq30, .inl (xc36, 384, .inl (fun _ => 0))), (xq31, .inl (xc37, 6, .inl (fun _ => 0))), (xq32, .inl (xc38, 64, .inl (fun _ => 0))), (xq33, .inl (xc39, 4096, .inl (fun _ => 0))), (xq34, .inl (xc40, 5, .inl (fun _ => 0))), (xq35, .inl (xc41, 5, .inl (fun _ => 0))), (xq42, .inr (6, [.ref xq43, .ref xq44, .int (0 : Int32)])), (xq43, .inl (xc45, 72, .inl (fun _ => 0))), (xq44, .inl (xc46, 6, .inl (fun _ => 0))), (xq47, .inr (7, [.ref xq48, .int (0 : Int32)])), (xq48, .inl (xc49, 12, .inl (fun _ => 0))), (xq50, .inr (3, [.ref xq51, .ref xq52, .ref xq53])), (xq51, .inl (xc54, 12, .inl (fun _ => 0))), (xq52, .inl (xc55, 12, .inl (fun _ => 0))), (xq53, .inl (xc56, 12, .inl (fun _ => 0))), (y0, .inr (10, [.int 0, .ref yq1, .ref yq3, .ref yq5, .ref yq7, .int (5 : Int32), .int (1 : Int32), .int (3 : Int32), .ref yq9, .int 0, .int 0, .ref yq11, .ref yq13, .ref yq15, .ref yq17, .ref yq19, .ref yq21, .ref yq23, .ref yq25, .ref yq27, .ref yq29, .ref yq31, .ref yq33, .int 0, .int 0, .int 0, .ref yq35, .ref yq37, .ref yq39, .int 0])), (yq1, .inl (yc2, 4, .inl (fun _ => 0))), (yq3, .inl (yc4, 4, .inl (upd (upd (upd (upd (fun _ => 0) 0 (-1 : Int32)) 1 (-1 : Int32)) 2 (-1 : Int32)) 3 (-1 : Int32)))), (yq5, .inl (yc6, 240, .inl (fun _ => 0))), (yq7, .inl (yc8, 27, .inl (upd (upd (upd (upd (upd (upd (upd (upd (upd (upd (upd (upd (upd (upd (upd (upd (upd (upd (upd (upd (upd (upd (upd (upd (upd (upd (upd (fun _ => 0) 0 (1000 : Int32)) 1 (0 : Int32)) 2 (0 : Int32)) 3 (0 : Int32)) 4 (1000 : Int32)) 5 (0 : Int32)) 6 (0 : Int32)) 7 (0 : Int32)) 8 (1000 : Int32)) 9 (1000 : Int32)) 10 (0 : Int32)) 11 (0 : Int32)) 12 (0 : Int32)) 13 (1000 : Int32)) 14 (0 : Int32)) 15 (0 : Int32)) 16 (0 : Int32)) 17 (1000 : Int32)) 18 (1000 : Int32)) 19 (0 : Int32)) 20 (0 : Int32)) 21 (0 : Int32)) 22 (1000 : Int32)) 23 (0 : Int32)) 24 (0 : Int32)) 25 (0 : Int32)) 26 (1000 : Int32)))), (yq9, .inl (yc10, 3, .inl (upd (upd (upd (fun _ => 0) 0 (1 : Int32)) 1 (1 : Int32)) 2 (1 : Int32)))), (yq11, .inl (yc12, 12, .inl (fun _ => 0))), (yq13, .inl (yc14, 12, .inl (fun _ => 0))), (yq15, .inl (yc16, 12, .inl (fun _ => 0))), (yq17, .inl (yc18, 8, .inl (fun _ => 0))), (yq19, .inl (yc20, 8, .inl (upd (upd (upd (upd (upd (upd (upd (upd (fun _ => 0) 0 (16777215 : Int32)) 1 (16777215 : Int32)) 2 (16777215 : Int32)) 3 (16777215 : Int32)) 4 (16777215 : Int32)) 5 (16777215 : Int32)) 6 (16777215 : Int32)) 7 (16777215 : Int32)))), (yq21, .inl (yc22, 20, .inl (fun _ => 0))), (yq23, .inl (yc24, 20, .inl (fun _ => 0))), (yq25, .inl (yc26, 20, .inl (fun _ => 0))), (yq27, .inl (yc28, 4096, .inl (fun _ => 0))), (yq29, .inl (yc30, 64, .inl (fun _ => 0))), (yq31, .inl (yc32, 5, .inl (fun _ => 0))), (yq33, .inl (yc34, 5, .inl (fun _ => 0))), (yq35, .inl (yc36, 12, .inl (fun _ => 0))), (yq37, .inl (yc38, 3, .inl (fun _ => 0))), (yq39, .inl (yc40, 600, .inl (fun _ => 0)))]) : xK (xGof dC dI c9 xq1 xq2 xq3 xq4 xq5 xq6 xq7 xq8 xq9 xq10 xq11 xq12 xq13 xq57 xq58 xq59 xq60 xq61 xq62 xq63 xq64 xq65 xq66 xq67 xq68 xq69 xq79 xq80 xq81 xq82 xq83 xq84 xq85 xq86 xq87 xq88 xq89 xq90 xq91 xq101 xq102 xq103 xq104 xq105 xq106 xq107 xq108 xq109 xq110 xq111 xq112 xq113 xq123 xq124 xq126 xq127 xq129 xq130 xq132 xq133 x0 xq23 xq25 xq27 xq29 xq30 xq31 xq32 xq33 xq34 xq35 xq42 xq43 xq44 xq47 xq48 xq50 xq51 xq52 xq53 y0 yq1 yq3 yq5 yq7 yq9 yq11 yq13 yq15 yq17 yq19 yq21 yq23 yq25 yq27 yq29 yq31 yq33 yq35 yq37 yq39 xc14 xc15 xc16 xc17 xc18 xc19 xc20 xc21 xc22 xc24 xc26 xc28 xc36 xc37 xc38 xc39 xc40 xc41 xc45 xc46 xc49 xc54 xc55 xc56 xc70 xc71 xc72 xc73 xc74 xc75 xc76 xc77 xc78 xc92 xc93 xc94 xc95 xc96 xc97 xc98 xc99 xc100 xc114 xc115 xc116 xc117 xc118 xc119 xc120 xc121 xc122 xc125 xc128 xc131 xc134 yc2 yc4 yc6 yc8 yc10 yc12 yc14 yc16 yc18 yc20 yc22 yc24 yc26 yc28 yc30 yc32 yc34 yc36 yc38 yc40) s := by
  refine ⟨hK.1, fun g i n hl => ?_, fun g i n hl => ?_, fun g i n g0 hl => ?_, hN.1, fun g i g' i' L L' hl hl' e => ?_⟩
  · have hc := xlay_cases hl
    rcases hc with ⟨h1, h2⟩ | ⟨h1, h2, h3⟩ | ⟨rfl, h2⟩ | ⟨rfl, h2⟩
    · rcases (show g = 0 ∨ g = 1 ∨ g = 2 ∨ g = 3 by omega) with rfl | rfl | rfl | rfl
      · rcases (show i = 0 ∨ i = 1 ∨ i = 2 ∨ i = 3 ∨ i = 4 ∨ i = 5 ∨ i = 6 ∨ i = 7 ∨ i = 8 ∨ i = 9 ∨ i = 10 ∨ i = 11 ∨ i = 12 by omega) with rfl | rfl | rfl | rfl | rfl | rfl | rfl | rfl | rfl | rfl | rfl | rfl | rfl
        · cases hl
        · cases hl
        · exact (hK.2 0 _ rfl).1
        · cases hl
        · exact (hK.2 1 _ rfl).1
        · cases hl
        · exact (hK.2 3 _ rfl).1
        · exact (hK.2 4 _ rfl).1
        · exact (hK.2 5 _ rfl).1
        · exact (hK.2 6 _ rfl).1
        · exact (hK.2 7 _ rfl).1
        · exact (hK.2 8 _ rfl).1
        · cases hl
      · rcases (show i = 0 ∨ i = 1 ∨ i = 2 ∨ i = 3 ∨ i = 4 ∨ i = 5 ∨ i = 6 ∨ i = 7 ∨ i = 8 ∨ i = 9 ∨ i = 10 ∨ i = 11 ∨ i = 12 by omega) with rfl | rfl | rfl | rfl | rfl | rfl | rfl | rfl | rfl | rfl | rfl | rfl | rfl
        · cases hl
        · cases hl
        · exact (hK.2 24 _ rfl).1
        · cases hl
        · exact (hK.2 25 _ rfl).1
        · cases hl
        · exact (hK.2 27 _ rfl).1
        · exact (hK.2 28 _ rfl).1
        · exact (hK.2 29 _ rfl).1
        · exact (hK.2 30 _ rfl).1
        · exact (hK.2 31 _ rfl).1
        · exact (hK.2 32 _ rfl).1
        · cases hl
      · rcases (show i = 0 ∨ i = 1 ∨ i = 2 ∨ i = 3 ∨ i = 4 ∨ i = 5 ∨ i = 6 ∨ i = 7 ∨ i = 8 ∨ i = 9 ∨ i = 10 ∨ i = 11 ∨ i = 12 by omega) with rfl | rfl | rfl | rfl | rfl | rfl | rfl | rfl | rfl | rfl | rfl | rfl | rfl
        · cases hl
        · cases hl
        · exact (hK.2 33 _ rfl).1
        · cases hl
        · exact (hK.2 34 _ rfl).1
        · cases hl
        · exact (hK.2 36 _ rfl).1
        · exact (hK.2 37 _ rfl).1
        · exact (hK.2 38 _ rfl).1
        · exact (hK.2 39 _ rfl).1
        · exact (hK.2 40 _ rfl).1
        · exact (hK.2 41 _ rfl).1
        · cases hl
      · rcases (show i = 0 ∨ i = 1 ∨ i = 2 ∨ i = 3 ∨ i = 4 ∨ i = 5 ∨ i = 6 ∨ i = 7 ∨ i = 8 ∨ i = 9 ∨ i = 10 ∨ i = 11 ∨ i = 12 by omega) with rfl | rfl | rfl | rfl | rfl | rfl | rfl | rfl | rfl | rfl | rfl | rfl | rfl
        · cases hl
        · cases hl
        · exact (hK.2 42 _ rfl).1
        · cases hl
        · exact (hK.2 43 _ rfl).1
        · cases hl
        · exact (hK.2 45 _ rfl).1
        · exact (hK.2 46 _ rfl).1
        · exact (hK.2 47 _ rfl).1
        · exact (hK.2 48 _ rfl).1
        · exact (hK.2 49 _ rfl).1
        · exact (hK.2 50 _ rfl).1
        · cases hl
    · rcases (show g = 4 ∨ g = 5 ∨ g = 6 ∨ g = 7 by omega) with rfl | rfl | rfl | rfl
      · rcases (show i = 0 ∨ i = 1 by omega) with rfl | rfl
        · cases hl
        · exact (hK.2 51 _ rfl).1
      · rcases (show i = 0 ∨ i = 1 by omega) with rfl | rfl
        · cases hl
        · exact (hK.2 52 _ rfl).1
      · rcases (show i = 0 ∨ i = 1 by omega) with rfl | rfl
        · cases hl
        · exact (hK.2 53 _ rfl).1
      · rcases (show i = 0 ∨ i = 1 by omega) with rfl | rfl
        · cases hl
        · exact (hK.2 54 _ rfl).1
    · rcases (show i = 0 ∨ i = 1 ∨ i = 2 ∨ i = 3 ∨ i = 4 ∨ i = 5 ∨ i = 6 ∨ i = 7 ∨ i = 8 ∨ i = 9 ∨ i = 10 ∨ i = 11 ∨ i = 12 ∨ i = 13 ∨ i = 14 ∨ i = 15 ∨ i = 16 ∨ i = 17 ∨ i = 18 ∨ i = 19 by omega) with rfl | rfl | rfl | rfl | rfl | rfl | rfl | rfl | rfl | rfl | rfl | rfl | rfl | rfl | rfl | rfl | rfl | rfl | rfl | rfl
      · cases hl
      · cases hl
      · cases hl
      · cases hl
      · cases hl
      · exact (hK.2 12 _ rfl).1
      · exact (hK.2 13 _ rfl).1
      · exact (hK.2 14 _ rfl).1
      · exact (hK.2 15 _ rfl).1
      · exact (hK.2 16 _ rfl).1
      · exact (hK.2 17 _ rfl).1
      · cases hl
      · exact (hK.2 18 _ rfl).1
      · exact (hK.2 19 _ rfl).1
      · cases hl
      · exact (hK.2 20 _ rfl).1
      · cases hl
      · exact (hK.2 21 _ rfl).1
      · cases hl
      · exact (hK.2 23 _ rfl).1
    · rcases (show i = 0 ∨ i = 1 ∨ i = 2 ∨ i = 3 ∨ i = 4 ∨ i = 5 ∨ i = 6 ∨ i = 7 ∨ i = 8 ∨ i = 9 ∨ i = 10 ∨ i = 11 ∨ i = 12 ∨ i = 13 ∨ i = 14 ∨ i = 15 ∨ i = 16 ∨ i = 17 ∨ i = 18 ∨ i = 19 ∨ i = 20 by omega) with rfl | rfl | rfl | rfl | rfl | rfl | rfl | rfl | rfl | rfl | rfl | rfl | rfl | rfl | rfl | rfl | rfl | rfl | rfl | rfl | rfl
      · cases hl
      · exact (hK.2 55 _ rfl).1
      · exact (hK.2 56 _ rfl).1
      · exact (hK.2 57 _ rfl).1
      · exact (hK.2 58 _ rfl).1
      · exact (hK.2 59 _ rfl).1
      · exact (hK.2 60 _ rfl).1
      · cases hl
      · exact (hK.2 62 _ rfl).1
      · exact (hK.2 63 _ rfl).1
      · exact (hK.2 64 _ rfl).1
      · exact (hK.2 65 _ rfl).1
      · exact (hK.2 66 _ rfl).1
      · exact (hK.2 67 _ rfl).1
      · exact (hK.2 68 _ rfl).1
      · exact (hK.2 69 _ rfl).1
      · exact (hK.2 70 _ rfl).1
      · exact (hK.2 71 _ rfl).1
      · exact (hK.2 72 _ rfl).1
      · cases hl
      · exact (hK.2 74 _ rfl).1
  · have hc := xlay_cases hl
    rcases hc with ⟨h1, h2⟩ | ⟨h1, h2, h3⟩ | ⟨rfl, h2⟩ | ⟨rfl, h2⟩
    · rcases (show g = 0 ∨ g = 1 ∨ g = 2 ∨ g = 3 by omega) with rfl | rfl | rfl | rfl
      · rcases (show i = 0 ∨ i = 1 ∨ i = 2 ∨ i = 3 ∨ i = 4 ∨ i = 5 ∨ i = 6 ∨ i = 7 ∨ i = 8 ∨ i = 9 ∨ i = 10 ∨ i = 11 ∨ i = 12 by omega) with rfl | rfl | rfl | rfl | rfl | rfl | rfl | rfl | rfl | rfl | rfl | rfl | rfl
        · cases hl
        · cases hl
        · cases hl
        · cases hl
        · cases hl
        · exact (hK.2 2 _ rfl).1
        · cases hl
        · cases hl
        · cases hl
        · cases hl
        · cases hl
        · cases hl
        · cases hl
      · rcases (show i = 0 ∨ i = 1 ∨ i = 2 ∨ i = 3 ∨ i = 4 ∨ i = 5 ∨ i = 6 ∨ i = 7 ∨ i = 8 ∨ i = 9 ∨ i = 10 ∨ i = 11 ∨ i = 12 by omega) with rfl | rfl | rfl | rfl | rfl | rfl | rfl | rfl | rfl | rfl | rfl | rfl | rfl
        · cases hl
        · cases hl
        · cases hl
        · cases hl
        · cases hl
        · exact (hK.2 26 _ rfl).1
        · cases hl
        · cases hl
        · cases hl
        · cases hl
        · cases hl
        · cases hl
        · cases hl
      · rcases (show i = 0 ∨ i = 1 ∨ i = 2 ∨ i = 3 ∨ i = 4 ∨ i = 5 ∨ i = 6 ∨ i = 7 ∨ i = 8 ∨ i = 9 ∨ i = 10 ∨ i = 11 ∨ i = 12 by omega) with rfl | rfl | rfl | rfl | rfl | rfl | rfl | rfl | rfl | rfl | rfl | rfl | rfl
        · cases hl
        · cases hl
        · cases hl
        · cases hl
        · cases hl
        · exact (hK.2 35 _ rfl).1
        · cases hl
        · cases hl
        · cases hl
        · cases hl
        · cases hl
        · cases hl
        · cases hl
      · rcases (show i = 0 ∨ i = 1 ∨ i = 2 ∨ i = 3 ∨ i = 4 ∨ i = 5 ∨ i = 6 ∨ i = 7 ∨ i = 8 ∨ i = 9 ∨ i = 10 ∨ i = 11 ∨ i = 12 by omega) with rfl | rfl | rfl | rfl | rfl | rfl | rfl | rfl | rfl | rfl | rfl | rfl | rfl
        · cases hl
        · cases hl
        · cases hl
        · cases hl
        · cases hl
        · exact (hK.2 44 _ rfl).1
        · cases hl
        · cases hl
        · cases hl
        · cases hl
        · cases hl
        · cases hl
        · cases hl
    · rcases (show g = 4 ∨ g = 5 ∨ g = 6 ∨ g = 7 by omega) with rfl | rfl | rfl | rfl
      · rcases (show i = 0 ∨ i = 1 by omega) with rfl | rfl
        · cases hl
        · cases hl
      · rcases (show i = 0 ∨ i = 1 by omega) with rfl | rfl
        · cases hl
        · cases hl
      · rcases (show i = 0 ∨ i = 1 by omega) with rfl | rfl
        · cases hl
        · cases hl
      · rcases (show i = 0 ∨ i = 1 by omega) with rfl | rfl
        · cases hl
        · cases hl
    · rcases (show i = 0 ∨ i = 1 ∨ i = 2 ∨ i = 3 ∨ i = 4 ∨ i = 5 ∨ i = 6 ∨ i = 7 ∨ i = 8 ∨ i = 9 ∨ i = 10 ∨ i = 11 ∨ i = 12 ∨ i = 13 ∨ i = 14 ∨ i = 15 ∨ i = 16 ∨ i = 17 ∨ i = 18 ∨ i = 19 by omega) with rfl | rfl | rfl | rfl | rfl | rfl | rfl | rfl | rfl | rfl | rfl | rfl | rfl | rfl | rfl | rfl | rfl | rfl | rfl | rfl
      · cases hl
      · cases hl
      · exact (hK.2 10 _ rfl).1
      · cases hl
      · cases hl
      · cases hl
      · cases hl
      · cases hl
      · cases hl
      · cases hl
      · cases hl
      · cases hl
      · cases hl
      · cases hl
      · cases hl
      · cases hl
      · cases hl
      · cases hl
      · exact (hK.2 22 _ rfl).1
      · cases hl
    · rcases (show i = 0 ∨ i = 1 ∨ i = 2 ∨ i = 3 ∨ i = 4 ∨ i = 5 ∨ i = 6 ∨ i = 7 ∨ i = 8 ∨ i = 9 ∨ i = 10 ∨ i = 11 ∨ i = 12 ∨ i = 13 ∨ i = 14 ∨ i = 15 ∨ i = 16 ∨ i = 17 ∨ i = 18 ∨ i = 19 ∨ i = 20 by omega) with rfl | rfl | rfl | rfl | rfl | rfl | rfl | rfl | rfl | rfl | rfl | rfl | rfl | rfl | rfl | rfl | rfl | rfl | rfl | rfl | rfl
      · cases hl
      · cases hl
      · cases hl
      · cases hl
      · cases hl
      · cases hl
      · cases hl
      · exact (hK.2 61 _ rfl).1
      · cases hl
      · cases hl
      · cases hl
      · cases hl
      · cases hl
      · cases hl
      · cases hl
      · cases hl
      · cases hl
      · cases hl
      · cases hl
      · exact (hK.2 73 _ rfl).1
      · cases hl
  · have hc := xlay_cases hl
    rcases hc with ⟨h1, h2⟩ | ⟨h1, h2, h3⟩ | ⟨rfl, h2⟩ | ⟨rfl, h2⟩
    · rcases (show g = 0 ∨ g = 1 ∨ g = 2 ∨ g = 3 by omega) with rfl | rfl | rfl | rfl
      · rcases (show i = 0 ∨ i = 1 ∨ i = 2 ∨ i = 3 ∨ i = 4 ∨ i = 5 ∨ i = 6 ∨ i = 7 ∨ i = 8 ∨ i = 9 ∨ i = 10 ∨ i = 11 ∨ i = 12 by omega) with rfl | rfl | rfl | rfl | rfl | rfl | rfl | rfl | rfl | rfl | rfl | rfl | rfl
        · cases hl
        · cases hl
        · cases hl
        · cases hl
        · cases hl
        · cases hl
        · cases hl
        · cases hl
        · cases hl
        · cases hl
        · cases hl
        · cases hl
        · cases hl
      · rcases (show i = 0 ∨ i = 1 ∨ i = 2 ∨ i = 3 ∨ i = 4 ∨ i = 5 ∨ i = 6 ∨ i = 7 ∨ i = 8 ∨ i = 9 ∨ i = 10 ∨ i = 11 ∨ i = 12 by omega) with rfl | rfl | rfl | rfl | rfl | rfl | rfl | rfl | rfl | rfl | rfl | rfl | rfl
        · cases hl
        · cases hl
        · cases hl
        · cases hl
        · cases hl
        · cases hl
        · cases hl
        · cases hl
        · cases hl
        · cases hl
        · cases hl
        · cases hl
        · cases hl
      · rcases (show i = 0 ∨ i = 1 ∨ i = 2 ∨ i = 3 ∨ i = 4 ∨ i = 5 ∨ i = 6 ∨ i = 7 ∨ i = 8 ∨ i = 9 ∨ i = 10 ∨ i = 11 ∨ i = 12 by omega) with rfl | rfl | rfl | rfl | rfl | rfl | rfl | rfl | rfl | rfl | rfl | rfl | rfl
        · cases hl
        · cases hl
        · cases hl
        · cases hl
        · cases hl
        · cases hl
        · cases hl
        · cases hl
        · cases hl
        · cases hl
        · cases hl
        · cases hl
        · cases hl
      · rcases (show i = 0 ∨ i = 1 ∨ i = 2 ∨ i = 3 ∨ i = 4 ∨ i = 5 ∨ i = 6 ∨ i = 7 ∨ i = 8 ∨ i = 9 ∨ i = 10 ∨ i = 11 ∨ i = 12 by omega) with rfl | rfl | rfl | rfl | rfl | rfl | rfl | rfl | rfl | rfl | rfl | rfl | rfl
        · cases hl
        · cases hl
        · cases hl
        · cases hl
        · cases hl
        · cases hl
        · cases hl
        · cases hl
        · cases hl
        · cases hl
        · cases hl
        · cases hl
        · cases hl
    · rcases (show g = 4 ∨ g = 5 ∨ g = 6 ∨ g = 7 by omega) with rfl | rfl | rfl | rfl
      · rcases (show i = 0 ∨ i = 1 by omega) with rfl | rfl
        · cases hl
        · cases hl
      · rcases (show i = 0 ∨ i = 1 by omega) with rfl | rfl
        · cases hl
        · cases hl
      · rcases (show i = 0 ∨ i = 1 by omega) with rfl | rfl
        · cases hl
        · cases hl
      · rcases (show i = 0 ∨ i = 1 by omega) with rfl | rfl
        · cases hl
        · cases hl
    · rcases (show i = 0 ∨ i = 1 ∨ i = 2 ∨ i = 3 ∨ i = 4 ∨ i = 5 ∨ i = 6 ∨ i = 7 ∨ i = 8 ∨ i = 9 ∨ i = 10 ∨ i = 11 ∨ i = 12 ∨ i = 13 ∨ i = 14 ∨ i = 15 ∨ i = 16 ∨ i = 17 ∨ i = 18 ∨ i = 19 by omega) with rfl | rfl | rfl | rfl | rfl | rfl | rfl | rfl | rfl | rfl | rfl | rfl | rfl | rfl | rfl | rfl | rfl | rfl | rfl | rfl
      · cases hl
      · exact ⟨_, (hK.2 9 _ rfl).1⟩
      · cases hl
      · exact ⟨_, (hK.2 11 _ rfl).1⟩
      · cases hl
      · cases hl
      · cases hl
      · cases hl
      · cases hl
      · cases hl
      · cases hl
      · cases hl
      · cases hl
      · cases hl
      · cases hl
      · cases hl
      · cases hl
      · cases hl
      · cases hl
      · cases hl
    · rcases (show i = 0 ∨ i = 1 ∨ i = 2 ∨ i = 3 ∨ i = 4 ∨ i = 5 ∨ i = 6 ∨ i = 7 ∨ i = 8 ∨ i = 9 ∨ i = 10 ∨ i = 11 ∨ i = 12 ∨ i = 13 ∨ i = 14 ∨ i = 15 ∨ i = 16 ∨ i = 17 ∨ i = 18 ∨ i = 19 ∨ i = 20 by omega) with rfl | rfl | rfl | rfl | rfl | rfl | rfl | rfl | rfl | rfl | rfl | rfl | rfl | rfl | rfl | rfl | rfl | rfl | rfl | rfl | rfl
      · cases hl
      · cases hl
      · cases hl
      · cases hl
      · cases hl
      · cases hl
      · cases hl
      · cases hl
      · cases hl
      · cases hl
      · cases hl
      · cases hl
      · cases hl
      · cases hl
      · cases hl
      · cases hl
      · cases hl
      · cases hl
      · cases hl
      · cases hl
      · cases hl
  · have p1 := xpos_lt hl
    have p2 := xpos_lt hl'
    refine xpos_inj hl hl' ?_
    have key : ∀ k, k < 101 → ∃ c, ([(xq1, .inr (5, [.ref xq2, .ref xq4, .ref xq13])), (xq2, .inr (1, [.ref xq3, .int (5 : Int32), .int (1 : Int32), .int (1 : Int32), .int (1 : Int32), .int (1 : Int32)])), (xq3, .inl (xc14, 27, .inl (upd (upd (upd (upd (upd (upd (upd (upd (upd (fun _ => 0) 0 (1000 : Int32)) 4 (1000 : Int32)) 8 (1000 : Int32)) 9 (1000 : Int32)) 13 (1000 : Int32)) 17 (1000 : Int32)) 18 (1000 : Int32)) 22 (1000 : Int32)) 26 (1000 : Int32)))), (xq4, .inr (4, [.int (0 : Int32), .ref xq5, .ref xq6, .ref xq7, .ref xq8, .ref xq9, .int (0 : Int32), .ref xq10, .ref xq11, .ref xq12])), (xq5, .inl (xc15, 12, .inl (fun _ => 0))), (xq6, .inl (xc16, 12, .inl (fun _ => 0))), (xq7, .inl (xc17, 12, .inl (fun _ => 0))), (xq8, .inl (xc18, 8, .inl (fun _ => 0))), (xq9, .inl (xc19, 8, .inl (upd (upd (upd (upd (upd (upd (upd (upd (fun _ => 0) 0 (16777215 : Int32)) 1 (16777215 : Int32)) 2 (16777215 : Int32)) 3 (16777215 : Int32)) 4 (16777215 : Int32)) 5 (16777215 : Int32)) 6 (16777215 : Int32)) 7 (16777215 : Int32)))), (xq10, .inl (xc20, 20, .inl (fun _ => 0))), (xq11, .inl (xc21, 20, .inl (fun _ => 0))), (xq12, .inl (xc22, 20, .inl (fun _ => 0))), (xq13, .inr (2, [.int (3 : Int32)])), (xq57, .inr (5, [.ref xq58, .ref xq60, .ref xq69])), (xq58, .inr (1, [.ref xq59, .int (5 : Int32), .int (1 : Int32), .int (1 : Int32), .int (1 : Int32), .int (1 : Int32)])), (xq59, .inl (xc70, 27, .inl (upd (upd (upd (upd (upd (upd (upd (upd (upd (fun _ => 0) 0 (1000 : Int32)) 4 (1000 : Int32)) 8 (1000 : Int32)) 9 (1000 : Int32)) 13 (1000 : Int32)) 17 (1000 : Int32)) 18 (1000 : Int32)) 22 (1000 : Int32)) 26 (1000 : Int32)))), (xq60, .inr (4, [.int (0 : Int32), .ref xq61, .ref xq62, .ref xq63, .ref xq64, .ref xq65, .int (0 : Int32), .ref xq66, .ref xq67, .ref xq68])), (xq61, .inl (xc71, 12, .inl (fun _ => 0))), (xq62, .inl (xc72, 12, .inl (fun _ => 0))), (xq63, .inl (xc73, 12, .inl (fun _ => 0))), (xq64, .inl (xc74, 8, .inl (fun _ => 0))), (xq65, .inl (xc75, 8, .inl (upd (upd (upd (upd (upd (upd (upd (upd (fun _ => 0) 0 (16777215 : Int32)) 1 (16777215 : Int32)) 2 (16777215 : Int32)) 3 (16777215 : Int32)) 4 (16777215 : Int32)) 5 (16777215 : Int32)) 6 (16777215 : Int32)) 7 (16777215 : Int32)))), (xq66, .inl (xc76, 20, .inl (fun _ => 0))), (xq67, .inl (xc77, 20, .inl (fun _ => 0))), (xq68, .inl (xc78, 20, .inl (fun _ => 0))), (xq69, .inr (2, [.int (3 : Int32)])), (xq79, .inr (5, [.ref xq80, .ref xq82, .ref xq91])), (xq80, .inr (1, [.ref xq81, .int (5 : Int32), .int (1 : Int32), .int (1 : Int32), .int (1 : Int32), .int (1 : Int32)])), (xq81, .inl (xc92, 27, .inl (upd (upd (upd (upd (upd (upd (upd (upd (upd (fun _ => 0) 0 (1000 : Int32)) 4 (1000 : Int32)) 8 (1000 : Int32)) 9 (1000 : Int32)) 13 (1000 : Int32)) 17 (1000 : Int32)) 18 (1000 : Int32)) 22 (1000 : Int32)) 26 (1000 : Int32)))), (xq82, .inr (4, [.int (0 : Int32), .ref xq83, .ref xq84, .ref xq85, .ref xq86, .ref xq87, .int (0 : Int32), .ref xq88, .ref xq89, .ref xq90])), (xq83, .inl (xc93, 12, .inl (fun _ => 0))), (xq84, .inl (xc94, 12, .inl (fun _ => 0))), (xq85, .inl (xc95, 12, .inl (fun _ => 0))), (xq86, .inl (xc96, 8, .inl (fun _ => 0))), (xq87, .inl (xc97, 8, .inl (upd (upd (upd (upd (upd (upd (upd (upd (fun _ => 0) 0 (16777215 : Int32)) 1 (16777215 : Int32)) 2 (16777215 : Int32)) 3 (16777215 : Int32)) 4 (16777215 : Int32)) 5 (16777215 : Int32)) 6 (16777215 : Int32)) 7 (16777215 : Int32)))), (xq88, .inl (xc98, 20, .inl (fun _ => 0))), (xq89, .inl (xc99, 20, .inl (fun _ => 0))), (xq90, .inl (xc100, 20, .inl (fun _ => 0))), (xq91, .inr (2, [.int (3 : Int32)])), (xq101, .inr (5, [.ref xq102, .ref xq104, .ref xq113])), (xq102, .inr (1, [.ref xq103, .int (5 : Int32), .int (1 : Int32), .int (1 : Int32), .int (1 : Int32), .int (1 : Int32)])), (xq103, .inl (xc114, 27, .inl (upd (upd (upd (upd (upd (upd (upd (upd (upd (fun _ => 0) 0 (1000 : Int32)) 4 (1000 : Int32)) 8 (1000 : Int32)) 9 (1000 : Int32)) 13 (1000 : Int32)) 17 (1000 : Int32)) 18 (1000 : Int32)) 22 (1000 : Int32)) 26 (1000 : Int32)))), (xq104, .inr (4, [.int (0 : Int32), .ref xq105, .ref xq106, .ref xq107, .ref xq108, .ref xq109, .int (0 : Int32), .ref xq110, .ref xq111, .ref xq112])), (xq105, .inl (xc115, 12, .inl (fun _ => 0))), (xq106, .inl (xc116, 12, .inl (fun _ => 0))), (xq107, .inl (xc117, 12, .inl (fun _ => 0))), (xq108, .inl (xc118, 8, .inl (fun _ => 0))), (xq109, .inl (xc119, 8, .inl (upd (upd (upd (upd (upd (upd (upd (upd (fun _ => 0) 0 (16777215 : Int32)) 1 (16777215 : Int32)) 2 (16777215 : Int32)) 3 (16777215 : Int32)) 4 (16777215 : Int32)) 5 (16777215 : Int32)) 6 (16777215 : Int32)) 7 (16777215 : Int32)))), (xq110, .inl (xc120, 20, .inl (fun _ => 0))), (xq111, .inl (xc121, 20, .inl (fun _ => 0))), (xq112, .inl (xc122, 20, .inl (fun _ => 0))), (xq113, .inr (2, [.int (3 : Int32)])), (xq123, .inr (8, [.ref xq124, .int (2 : Int32), .int (-1 : Int32)])), (xq124, .inl (xc125, 60, .inl (fun _ => 0))), (xq126, .inr (8, [.ref xq127, .int (2 : Int32), .int (-1 : Int32)])), (xq127, .inl (xc128, 60, .inl (fun _ => 0))), (xq129, .inr (8, [.ref xq130, .int (2 : Int32), .int (-1 : Int32)])), (xq130, .inl (xc131, 60, .inl (fun _ => 0))), (xq132, .inr (8, [.ref xq133, .int (2 : Int32), .int (-1 : Int32)])), (xq133, .inl (xc134, 60, .inl (fun _ => 0))), (x0, .inr (9, [.ref xq1, .ref xq23, .ref xq25, .ref xq27, .ref xq29, .ref xq42, .ref xq47, .ref xq50, .int (0 : Int32)])), (xq23, .inl (xc24, 3, .inr (.inr (.inr (.inr (va_up (va_up (va_up (fun _ => none) 0 (some xq57)) 1 (some xq79)) 2 (some xq101))))))), (xq25, .inl (xc26, 3, .inl (fun _ => 0))), (xq27, .inl (xc28, 4, .inr (.inr (.inr (.inr (va_up (va_up (va_up (va_up (fun _ => none) 0 (some xq123)) 1 (some xq126)) 2 (some xq129)) 3 (some xq132))))))), (xq29, .inr (0, [.ref xq30, .ref xq31, .ref xq32, .ref xq33, .ref xq34, .ref xq35, .int (0 : Int32), .int (0 : Int32), .int (-1 : Int32)])), (xq30, .inl (xc36, 384, .inl (fun _ => 0))), (xq31, .inl (xc37, 6, .inl (fun _ => 0))), (xq32, .inl (xc38, 64, .inl (fun _ => 0))), (xq33, .inl (xc39, 4096, .inl (fun _ => 0))), (xq34, .inl (xc40, 5, .inl (fun _ => 0))), (xq35, .inl (xc41, 5, .inl (fun _ => 0))), (xq42, .inr (6, [.ref xq43, .ref xq44, .int (0 : Int32)])), (xq43, .inl (xc45, 72, .inl (fun _ => 0))), (xq44, .inl (xc46, 6, .inl (fun _ => 0))), (xq47, .inr (7, [.ref xq48, .int (0 : Int32)])), (xq48, .inl (xc49, 12, .inl (fun _ => 0))), (xq50, .inr (3, [.ref xq51, .ref xq52, .ref xq53])), (xq51, .inl (xc54, 12, .inl (fun _ => 0))), (xq52, .inl (xc55, 12, .inl (fun _ => 0))), (xq53, .inl (xc56, 12, .inl (fun _ => 0))), (y0, .inr (10, [.int 0, .ref yq1, .ref yq3, .ref yq5, .ref yq7, .int (5 : Int32), .int (1 : Int32), .int (3 : Int32), .ref yq9, .int 0, .int 0, .ref yq11, .ref yq13, .ref yq15, .ref yq17, .ref yq19, .ref yq21, .ref yq23, .ref yq25, .ref yq27, .ref yq29, .ref yq31, .ref yq33, .int 0, .int 0, .int 0, .ref yq35, .ref yq37, .ref yq39, .int 0])), (yq1, .inl (yc2, 4, .inl (fun _ => 0))), (yq3, .inl (yc4, 4, .inl (upd (upd (upd (upd (fun _ => 0) 0 (-1 : Int32)) 1 (-1 : Int32)) 2 (-1 : Int32)) 3 (-1 : Int32)))), (yq5, .inl (yc6, 240, .inl (fun _ => 0))), (yq7, .inl (yc8, 27, .inl (upd (upd (upd (upd (upd (upd (upd (upd (upd (upd (upd (upd (upd (upd (upd (upd (upd (upd (upd (upd (upd (upd (upd (upd (upd (upd (upd (fun _ => 0) 0 (1000 : Int32)) 1 (0 : Int32)) 2 (0 : Int32)) 3 (0 : Int32)) 4 (1000 : Int32)) 5 (0 : Int32)) 6 (0 : Int32)) 7 (0 : Int32)) 8 (1000 : Int32)) 9 (1000 : Int32)) 10 (0 : Int32)) 11 (0 : Int32)) 12 (0 : Int32)) 13 (1000 : Int32)) 14 (0 : Int32)) 15 (0 : Int32)) 16 (0 : Int32)) 17 (1000 : Int32)) 18 (1000 : Int32)) 19 (0 : Int32)) 20 (0 : Int32)) 21 (0 : Int32)) 22 (1000 : Int32)) 23 (0 : Int32)) 24 (0 : Int32)) 25 (0 : Int32)) 26 (1000 : Int32)))), (yq9, .inl (yc10, 3, .inl (upd (upd (upd (fun _ => 0) 0 (1 : Int32)) 1 (1 : Int32)) 2 (1 : Int32)))), (yq11, .inl (yc12, 12, .inl (fun _ => 0))), (yq13, .inl (yc14, 12, .inl (fun _ => 0))), (yq15, .inl (yc16, 12, .inl (fun _ => 0))), (yq17, .inl (yc18, 8, .inl (fun _ => 0))), (yq19, .inl (yc20, 8, .inl (upd (upd (upd (upd (upd (upd (upd (upd (fun _ => 0) 0 (16777215 : Int32)) 1 (16777215 : Int32)) 2 (16777215 : Int32)) 3 (16777215 : Int32)) 4 (16777215 : Int32)) 5 (16777215 : Int32)) 6 (16777215 : Int32)) 7 (16777215 : Int32)))), (yq21, .inl (yc22, 20, .inl (fun _ => 0))), (yq23, .inl (yc24, 20, .inl (fun _ => 0))), (yq25, .inl (yc26, 20, .inl (fun _ => 0))), (yq27, .inl (yc28, 4096, .inl (fun _ => 0))), (yq29, .inl (yc30, 64, .inl (fun _ => 0))), (yq31, .inl (yc32, 5, .inl (fun _ => 0))), (yq33, .inl (yc34, 5, .inl (fun _ => 0))), (yq35, .inl (yc36, 12, .inl (fun _ => 0))), (yq37, .inl (yc38, 3, .inl (fun _ => 0))), (yq39, .inl (yc40, 600, .inl (fun _ => 0)))] : va_W)[k]? = some (([xq1, xq2, xq3, xq4, xq5, xq6, xq7, xq8, xq9, xq10, xq11, xq12, xq13, xq57, xq58, xq59, xq60, xq61, xq62, xq63, xq64, xq65, xq66, xq67, xq68, xq69, xq79, xq80, xq81, xq82, xq83, xq84, xq85, xq86, xq87, xq88, xq89, xq90, xq91, xq101, xq102, xq103, xq104, xq105, xq106, xq107, xq108, xq109, xq110, xq111, xq112, xq113, xq123, xq124, xq126, xq127, xq129, xq130, xq132, xq133, x0, xq23, xq25, xq27, xq29, xq30, xq31, xq32, xq33, xq34, xq35, xq42, xq43, xq44, xq47, xq48, xq50, xq51, xq52, xq53, y0, yq1, yq3, yq5, yq7, yq9, yq11, yq13, yq15, yq17, yq19, yq21, yq23, yq25, yq27, yq29, yq31, yq33, yq35, yq37, yq39] : List Nat).getD k 0, c) := by
      intro k hk
      have h1 : ([(xq1, .inr (5, [.ref xq2, .ref xq4, .ref xq13])), (xq2, .inr (1, [.ref xq3, .int (5 : Int32), .int (1 : Int32), .int (1 : Int32), .int (1 : Int32), .int (1 : Int32)])), (xq3, .inl (xc14, 27, .inl (upd (upd (upd (upd (upd (upd (upd (upd (upd (fun _ => 0) 0 (1000 : Int32)) 4 (1000 : Int32)) 8 (1000 : Int32)) 9 (1000 : Int32)) 13 (1000 : Int32)) 17 (1000 : Int32)) 18 (1000 : Int32)) 22 (1000 : Int32)) 26 (1000 : Int32)))), (xq4, .inr (4, [.int (0 : Int32), .ref xq5, .ref xq6, .ref xq7, .ref xq8, .ref xq9, .int (0 : Int32), .ref xq10, .ref xq11, .ref xq12])), (xq5, .inl (xc15, 12, .inl (fun _ => 0))), (xq6, .inl (xc16, 12, .inl (fun _ => 0))), (xq7, .inl (xc17, 12, .inl (fun _ => 0))), (xq8, .inl (xc18, 8, .inl (fun _ => 0))), (xq9, .inl (xc19, 8, .inl (upd (upd (upd (upd (upd (upd (upd (upd (fun _ => 0) 0 (16777215 : Int32)) 1 (16777215 : Int32)) 2 (16777215 : Int32)) 3 (16777215 : Int32)) 4 (16777215 : Int32)) 5 (16777215 : Int32)) 6 (16777215 : Int32)) 7 (16777215 : Int32)))), (xq10, .inl (xc20, 20, .inl (fun _ => 0))), (xq11, .inl (xc21, 20, .inl (fun _ => 0))), (xq12, .inl (xc22, 20, .inl (fun _ => 0))), (xq13, .inr (2, [.int (3 : Int32)])), (xq57, .inr (5, [.ref xq58, .ref xq60, .ref xq69])), (xq58, .inr (1, [.ref xq59, .int (5 : Int32), .int (1 : Int32), .int (1 : Int32), .int (1 : Int32), .int (1 : Int32)])), (xq59, .inl (xc70, 27, .inl (upd (upd (upd (upd (upd (upd (upd (upd (upd (fun _ => 0) 0 (1000 : Int32)) 4 (1000 : Int32)) 8 (1000 : Int32)) 9 (1000 : Int32)) 13 (1000 : Int32)) 17 (1000 : Int32)) 18 (1000 : Int32)) 22 (1000 : Int32)) 26 (1000 : Int32)))), (xq60, .inr (4, [.int (0 : Int32), .ref xq61, .ref xq62, .ref xq63, .ref xq64, .ref xq65, .int (0 : Int32), .ref xq66, .ref xq67, .ref xq68])), (xq61, .inl (xc71, 12, .inl (fun _ => 0))), (xq62, .inl (xc72, 12, .inl (fun _ => 0))), (xq63, .inl (xc73, 12, .inl (fun _ => 0))), (xq64, .inl (xc74, 8, .inl (fun _ => 0))), (xq65, .inl (xc75, 8, .inl (upd (upd (upd (upd (upd (upd (upd (upd (fun _ => 0) 0 (16777215 : Int32)) 1 (16777215 : Int32)) 2 (16777215 : Int32)) 3 (16777215 : Int32)) 4 (16777215 : Int32)) 5 (16777215 : Int32)) 6 (16777215 : Int32)) 7 (16777215 : Int32)))), (xq66, .inl (xc76, 20, .inl (fun _ => 0))), (xq67, .inl (xc77, 20, .inl (fun _ => 0))), (xq68, .inl (xc78, 20, .inl (fun _ => 0))), (xq69, .inr (2, [.int (3 : Int32)])), (xq79, .inr (5, [.ref xq80, .ref xq82, .ref xq91])), (xq80, .inr (1, [.ref xq81, .int (5 : Int32), .int (1 : Int32), .int (1 : Int32), .int (1 : Int32), .int (1 : Int32)])), (xq81, .inl (xc92, 27, .inl (upd (upd (upd (upd (upd (upd (upd (upd (upd (fun _ => 0) 0 (1000 : Int32)) 4 (1000 : Int32)) 8 (1000 : Int32)) 9 (1000 : Int32)) 13 (1000 : Int32)) 17 (1000 : Int32)) 18 (1000 : Int32)) 22 (1000 : Int32)) 26 (1000 : Int32)))), (xq82, .inr (4, [.int (0 : Int32), .ref xq83, .ref xq84, .ref xq85, .ref xq86, .ref xq87, .int (0 : Int32), .ref xq88, .ref xq89, .ref xq90])), (xq83, .inl (xc93, 12, .inl (fun _ => 0))), (xq84, .inl (xc94, 12, .inl (fun _ => 0))), (xq85, .inl (xc95, 12, .inl (fun _ => 0))), (xq86, .inl (xc96, 8, .inl (fun _ => 0))), (xq87, .inl (xc97, 8, .inl (upd (upd (upd (upd (upd (upd (upd (upd (fun _ => 0) 0 (16777215 : Int32)) 1 (16777215 : Int32)) 2 (16777215 : Int32)) 3 (16777215 : Int32)) 4 (16777215 : Int32)) 5 (16777215 : Int32)) 6 (16777215 : Int32)) 7 (16777215 : Int32)))), (xq88, .inl (xc98, 20, .inl (fun _ => 0))), (xq89, .inl (xc99, 20, .inl (fun _ => 0))), (xq90, .inl (xc100, 20, .inl (fun _ => 0))), (xq91, .inr (2, [.int (3 : Int32)])), (xq101, .inr (5, [.ref xq102, .ref xq104, .ref xq113])), (xq102, .inr (1, [.ref xq103, .int (5 : Int32), .int (1 : Int32), .int (1 : Int32), .int (1 : Int32), .int (1 : Int32)])), (xq103, .inl (xc114, 27, .inl (upd (upd (upd (upd (upd (upd (upd (upd (upd (fun _ => 0) 0 (1000 : Int32)) 4 (1000 : Int32)) 8 (1000 : Int32)) 9 (1000 : Int32)) 13 (1000 : Int32)) 17 (1000 : Int32)) 18 (1000 : Int32)) 22 (1000 : Int32)) 26 (1000 : Int32)))), (xq104, .inr (4, [.int (0 : Int32), .ref xq105, .ref xq106, .ref xq107, .ref xq108, .ref xq109, .int (0 : Int32), .ref xq110, .ref xq111, .ref xq112])), (xq105, .inl (xc115, 12, .inl (fun _ => 0))), (xq106, .inl (xc116, 12, .inl (fun _ => 0))), (xq107, .inl (xc117, 12, .inl (fun _ => 0))), (xq108, .inl (xc118, 8, .inl (fun _ => 0))), (xq109, .inl (xc119, 8, .inl (upd (upd (upd (upd (upd (upd (upd (upd (fun _ => 0) 0 (16777215 : Int32)) 1 (16777215 : Int32)) 2 (16777215 : Int32)) 3 (16777215 : Int32)) 4 (16777215 : Int32)) 5 (16777215 : Int32)) 6 (16777215 : Int32)) 7 (16777215 : Int32)))), (xq110, .inl (xc120, 20, .inl (fun _ => 0))), (xq111, .inl (xc121, 20, .inl (fun _ => 0))), (xq112, .inl (xc122, 20, .inl (fun _ => 0))), (xq113, .inr (2, [.int (3 : Int32)])), (xq123, .inr (8, [.ref xq124, .int (2 : Int32), .int (-1 : Int32)])), (xq124, .inl (xc125, 60, .inl (fun _ => 0))), (xq126, .inr (8, [.ref xq127, .int (2 : Int32), .int (-1 : Int32)])), (xq127, .inl (xc128, 60, .inl (fun _ => 0))), (xq129, .inr (8, [.ref xq130, .int (2 : Int32), .int (-1 : Int32)])), (xq130, .inl (xc131, 60, .inl (fun _ => 0))), (xq132, .inr (8, [.ref xq133, .int (2 : Int32), .int (-1 : Int32)])), (xq133, .inl (xc134, 60, .inl (fun _ => 0))), (x0, .inr (9, [.ref xq1, .ref xq23, .ref xq25, .ref xq27, .ref xq29, .ref xq42, .ref xq47, .ref xq50, .int (0 : Int32)])), (xq23, .inl (xc24, 3, .inr (.inr (.inr (.inr (va_up (va_up (va_up (fun _ => none) 0 (some xq57)) 1 (some xq79)) 2 (some xq101))))))), (xq25, .inl (xc26, 3, .inl (fun _ => 0))), (xq27, .inl (xc28, 4, .inr (.inr (.inr (.inr (va_up (va_up (va_up (va_up (fun _ => none) 0 (some xq123)) 1 (some xq126)) 2 (some xq129)) 3 (some xq132))))))), (xq29, .inr (0, [.ref xq30, .ref xq31, .ref xq32, .ref xq33, .ref xq34, .ref xq35, .int (0 : Int32), .int (0 : Int32), .int (-1 : Int32)])), (xq30, .inl (xc36, 384, .inl (fun _ => 0))), (xq31, .inl (xc37, 6, .inl (fun _ => 0))), (xq32, .inl (xc38, 64, .inl (fun _ => 0))), (xq33, .inl (xc39, 4096, .inl (fun _ => 0))), (xq34, .inl (xc40, 5, .inl (fun _ => 0))), (xq35, .inl (xc41, 5, .inl (fun _ => 0))), (xq42, .inr (6, [.ref xq43, .ref xq44, .int (0 : Int32)])), (xq43, .inl (xc45, 72, .inl (fun _ => 0))), (xq44, .inl (xc46, 6, .inl (fun _ => 0))), (xq47, .inr (7, [.ref xq48, .int (0 : Int32)])), (xq48, .inl (xc49, 12, .inl (fun _ => 0))), (xq50, .inr (3, [.ref xq51, .ref xq52, .ref xq53])), (xq51, .inl (xc54, 12, .inl (fun _ => 0))), (xq52, .inl (xc55, 12, .inl (fun _ => 0))), (xq53, .inl (xc56, 12, .inl (fun _ => 0))), (y0, .inr (10, [.int 0, .ref yq1, .ref yq3, .ref yq5, .ref yq7, .int (5 : Int32), .int (1 : Int32), .int (3 : Int32), .ref yq9, .int 0, .int 0, .ref yq11, .ref yq13, .ref yq15, .ref yq17, .ref yq19, .ref yq21, .ref yq23, .ref yq25, .ref yq27, .ref yq29, .ref yq31, .ref yq33, .int 0, .int 0, .int 0, .ref yq35, .ref yq37, .ref yq39, .int 0])), (yq1, .inl (yc2, 4, .inl (fun _ => 0))), (yq3, .inl (yc4, 4, .inl (upd (upd (upd (upd (fun _ => 0) 0 (-1 : Int32)) 1 (-1 : Int32)) 2 (-1 : Int32)) 3 (-1 : Int32)))), (yq5, .inl (yc6, 240, .inl (fun _ => 0))), (yq7, .inl (yc8, 27, .inl (upd (upd (upd (upd (upd (upd (upd (upd (upd (upd (upd (upd (upd (upd (upd (upd (upd (upd (upd (upd (upd (upd (upd (upd (upd (upd (upd (fun _ => 0) 0 (1000 : Int32)) 1 (0 : Int32)) 2 (0 : Int32)) 3 (0 : Int32)) 4 (1000 : Int32)) 5 (0 : Int32)) 6 (0 : Int32)) 7 (0 : Int32)) 8 (1000 : Int32)) 9 (1000 : Int32)) 10 (0 : Int32)) 11 (0 : Int32)) 12 (0 : Int32)) 13 (1000 : Int32)) 14 (0 : Int32)) 15 (0 : Int32)) 16 (0 : Int32)) 17 (1000 : Int32)) 18 (1000 : Int32)) 19 (0 : Int32)) 20 (0 : Int32)) 21 (0 : Int32)) 22 (1000 : Int32)) 23 (0 : Int32)) 24 (0 : Int32)) 25 (0 : Int32)) 26 (1000 : Int32)))), (yq9, .inl (yc10, 3, .inl (upd (upd (upd (fun _ => 0) 0 (1 : Int32)) 1 (1 : Int32)) 2 (1 : Int32)))), (yq11, .inl (yc12, 12, .inl (fun _ => 0))), (yq13, .inl (yc14, 12, .inl (fun _ => 0))), (yq15, .inl (yc16, 12, .inl (fun _ => 0))), (yq17, .inl (yc18, 8, .inl (fun _ => 0))), (yq19, .inl (yc20, 8, .inl (upd (upd (upd (upd (upd (upd (upd (upd (fun _ => 0) 0 (16777215 : Int32)) 1 (16777215 : Int32)) 2 (16777215 : Int32)) 3 (16777215 : Int32)) 4 (16777215 : Int32)) 5 (16777215 : Int32)) 6 (16777215 : Int32)) 7 (16777215 : Int32)))), (yq21, .inl (yc22, 20, .inl (fun _ => 0))), (yq23, .inl (yc24, 20, .inl (fun _ => 0))), (yq25, .inl (yc26, 20, .inl (fun _ => 0))), (yq27, .inl (yc28, 4096, .inl (fun _ => 0))), (yq29, .inl (yc30, 64, .inl (fun _ => 0))), (yq31, .inl (yc32, 5, .inl (fun _ => 0))), (yq33, .inl (yc34, 5, .inl (fun _ => 0))), (yq35, .inl (yc36, 12, .inl (fun _ => 0))), (yq37, .inl (yc38, 3, .inl (fun _ => 0))), (yq39, .inl (yc40, 600, .inl (fun _ => 0)))] : va_W)[k]? = some (([(xq1, .inr (5, [.ref xq2, .ref xq4, .ref xq13])), (xq2, .inr (1, [.ref xq3, .int (5 : Int32), .int (1 : Int32), .int (1 : Int32), .int (1 : Int32), .int (1 : Int32)])), (xq3, .inl (xc14, 27, .inl (upd (upd (upd (upd (upd (upd (upd (upd (upd (fun _ => 0) 0 (1000 : Int32)) 4 (1000 : Int32)) 8 (1000 : Int32)) 9 (1000 : Int32)) 13 (1000 : Int32)) 17 (1000 : Int32)) 18 (1000 : Int32)) 22 (1000 : Int32)) 26 (1000 : Int32)))), (xq4, .inr (4, [.int (0 : Int32), .ref xq5, .ref xq6, .ref xq7, .ref xq8, .ref xq9, .int (0 : Int32), .ref xq10, .ref xq11, .ref xq12])), (xq5, .inl (xc15, 12, .inl (fun _ => 0))), (xq6, .inl (xc16, 12, .inl (fun _ => 0))), (xq7, .inl (xc17, 12, .inl (fun _ => 0))), (xq8, .inl (xc18, 8, .inl (fun _ => 0))), (xq9, .inl (xc19, 8, .inl (upd (upd (upd (upd (upd (upd (upd (upd (fun _ => 0) 0 (16777215 : Int32)) 1 (16777215 : Int32)) 2 (16777215 : Int32)) 3 (16777215 : Int32)) 4 (16777215 : Int32)) 5 (16777215 : Int32)) 6 (16777215 : Int32)) 7 (16777215 : Int32)))), (xq10, .inl (xc20, 20, .inl (fun _ => 0))), (xq11, .inl (xc21, 20, .inl (fun _ => 0))), (xq12, .inl (xc22, 20, .inl (fun _ => 0))), (xq13, .inr (2, [.int (3 : Int32)])), (xq57, .inr (5, [.ref xq58, .ref xq60, .ref xq69])), (xq58, .inr (1, [.ref xq59, .int (5 : Int32), .int (1 : Int32), .int (1 : Int32), .int (1 : Int32), .int (1 : Int32)])), (xq59, .inl (xc70, 27, .inl (upd (upd (upd (upd (upd (upd (upd (upd (upd (fun _ => 0) 0 (1000 : Int32)) 4 (1000 : Int32)) 8 (1000 : Int32)) 9 (1000 : Int32)) 13 (1000 : Int32)) 17 (1000 : Int32)) 18 (1000 : Int32)) 22 (1000 : Int32)) 26 (1000 : Int32)))), (xq60, .inr (4, [.int (0 : Int32), .ref xq61, .ref xq62, .ref xq63, .ref xq64, .ref xq65, .int (0 : Int32), .ref xq66, .ref xq67, .ref xq68])), (xq61, .inl (xc71, 12, .inl (fun _ => 0))), (xq62, .inl (xc72, 12, .inl (fun _ => 0))), (xq63, .inl (xc73, 12, .inl (fun _ => 0))), (xq64, .inl (xc74, 8, .inl (fun _ => 0))), (xq65, .inl (xc75, 8, .inl (upd (upd (upd (upd (upd (upd (upd (upd (fun _ => 0) 0 (16777215 : Int32)) 1 (16777215 : Int32)) 2 (16777215 : Int32)) 3 (16777215 : Int32)) 4 (16777215 : Int32)) 5 (16777215 : Int32)) 6 (16777215 : Int32)) 7 (16777215 : Int32)))), (xq66, .inl (xc76, 20, .inl (fun _ => 0))), (xq67, .inl (xc77, 20, .inl (fun _ => 0))), (xq68, .inl (xc78, 20, .inl (fun _ => 0))), (xq69, .inr (2, [.int (3 : Int32)])), (xq79, .inr (5, [.ref xq80, .ref xq82, .ref xq91])), (xq80, .inr (1, [.ref xq81, .int (5 : Int32), .int (1 : Int32), .int (1 : Int32), .int (1 : Int32), .int (1 : Int32)])), (xq81, .inl (xc92, 27, .inl (upd (upd (upd (upd (upd (upd (upd (upd (upd (fun _ => 0) 0 (1000 : Int32)) 4 (1000 : Int32)) 8 (1000 : Int32)) 9 (1000 : Int32)) 13 (1000 : Int32)) 17 (1000 : Int32)) 18 (1000 : Int32)) 22 (1000 : Int32)) 26 (1000 : Int32)))), (xq82, .inr (4, [.int (0 : Int32), .ref xq83, .ref xq84, .ref xq85, .ref xq86, .ref xq87, .int (0 : Int32), .ref xq88, .ref xq89, .ref xq90])), (xq83, .inl (xc93, 12, .inl (fun _ => 0))), (xq84, .inl (xc94, 12, .inl (fun _ => 0))), (xq85, .inl (xc95, 12, .inl (fun _ => 0))), (xq86, .inl (xc96, 8, .inl (fun _ => 0))), (xq87, .inl (xc97, 8, .inl (upd (upd (upd (upd (upd (upd (upd (upd (fun _ => 0) 0 (16777215 : Int32)) 1 (16777215 : Int32)) 2 (16777215 : Int32)) 3 (16777215 : Int32)) 4 (16777215 : Int32)) 5 (16777215 : Int32)) 6 (16777215 : Int32)) 7 (16777215 : Int32)))), (xq88, .inl (xc98, 20, .inl (fun _ => 0))), (xq89, .inl (xc99, 20, .inl (fun _ => 0))), (xq90, .inl (xc100, 20, .inl (fun _ => 0))), (xq91, .inr (2, [.int (3 : Int32)])), (xq101, .inr (5, [.ref xq102, .ref xq104, .ref xq113])), (xq102, .inr (1, [.ref xq103, .int (5 : Int32), .int (1 : Int32), .int (1 : Int32), .int (1 : Int32), .int (1 : Int32)])), (xq103, .inl (xc114, 27, .inl (upd (upd (upd (upd (upd (upd (upd (upd (upd (fun _ => 0) 0 (1000 : Int32)) 4 (1000 : Int32)) 8 (1000 : Int32)) 9 (1000 : Int32)) 13 (1000 : Int32)) 17 (1000 : Int32)) 18 (1000 : Int32)) 22 (1000 : Int32)) 26 (1000 : Int32)))), (xq104, .inr (4, [.int (0 : Int32), .ref xq105, .ref xq106, .ref xq107, .ref xq108, .ref xq109, .int (0 : Int32), .ref xq110, .ref xq111, .ref xq112])), (xq105, .inl (xc115, 12, .inl (fun _ => 0))), (xq106, .inl (xc116, 12, .inl (fun _ => 0))), (xq107, .inl (xc117, 12, .inl (fun _ => 0))), (xq108, .inl (xc118, 8, .inl (fun _ => 0))), (xq109, .inl (xc119, 8, .inl (upd (upd (upd (upd (upd (upd (upd (upd (fun _ => 0) 0 (16777215 : Int32)) 1 (16777215 : Int32)) 2 (16777215 : Int32)) 3 (16777215 : Int32)) 4 (16777215 : Int32)) 5 (16777215 : Int32)) 6 (16777215 : Int32)) 7 (16777215 : Int32)))), (xq110, .inl (xc120, 20, .inl (fun _ => 0))), (xq111, .inl (xc121, 20, .inl (fun _ => 0))), (xq112, .inl (xc122, 20, .inl (fun _ => 0))), (xq113, .inr (2, [.int (3 : Int32)])), (xq123, .inr (8, [.ref xq124, .int (2 : Int32), .int (-1 : Int32)])), (xq124, .inl (xc125, 60, .inl (fun _ => 0))), (xq126, .inr (8, [.ref xq127, .int (2 : Int32), .int (-1 : Int32)])), (xq127, .inl (xc128, 60, .inl (fun _ => 0))), (xq129, .inr (8, [.ref xq130, .int (2 : Int32), .int (-1 : Int32)])), (xq130, .inl (xc131, 60, .inl (fun _ => 0))), (xq132, .inr (8, [.ref xq133, .int (2 : Int32), .int (-1 : Int32)])), (xq133, .inl (xc134, 60, .inl (fun _ => 0))), (x0, .inr (9, [.ref xq1, .ref xq23, .ref xq25, .ref xq27, .ref xq29, .ref xq42, .ref xq47, .ref xq50, .int (0 : Int32)])), (xq23, .inl (xc24, 3, .inr (.inr (.inr (.inr (va_up (va_up (va_up (fun _ => none) 0 (some xq57)) 1 (some xq79)) 2 (some xq101))))))), (xq25, .inl (xc26, 3, .inl (fun _ => 0))), (xq27, .inl (xc28, 4, .inr (.inr (.inr (.inr (va_up (va_up (va_up (va_up (fun _ => none) 0 (some xq123)) 1 (some xq126)) 2 (some xq129)) 3 (some xq132))))))), (xq29, .inr (0, [.ref xq30, .ref xq31, .ref xq32, .ref xq33, .ref xq34, .ref xq35, .int (0 : Int32), .int (0 : Int32), .int (-1 : Int32)])), (xq30, .inl (xc36, 384, .inl (fun _ => 0))), (xq31, .inl (xc37, 6, .inl (fun _ => 0))), (xq32, .inl (xc38, 64, .inl (fun _ => 0))), (xq33, .inl (xc39, 4096, .inl (fun _ => 0))), (xq34, .inl (xc40, 5, .inl (fun _ => 0))), (xq35, .inl (xc41, 5, .inl (fun _ => 0))), (xq42, .inr (6, [.ref xq43, .ref xq44, .int (0 : Int32)])), (xq43, .inl (xc45, 72, .inl (fun _ => 0))), (xq44, .inl (xc46, 6, .inl (fun _ => 0))), (xq47, .inr (7, [.ref xq48, .int (0 : Int32)])), (xq48, .inl (xc49, 12, .inl (fun _ => 0))), (xq50, .inr (3, [.ref xq51, .ref xq52, .ref xq53])), (xq51, .inl (xc54, 12, .inl (fun _ => 0))), (xq52, .inl (xc55, 12, .inl (fun _ => 0))), (xq53, .inl (xc56, 12, .inl (fun _ => 0))), (y0, .inr (10, [.int 0, .ref yq1, .ref yq3, .ref yq5, .ref yq7, .int (5 : Int32), .int (1 : Int32), .int (3 : Int32), .ref yq9, .int 0, .int 0, .ref yq11, .ref yq13, .ref yq15, .ref yq17, .ref yq19, .ref yq21, .ref yq23, .ref yq25, .ref yq27, .ref yq29, .ref yq31, .ref yq33, .int 0, .int 0, .int 0, .ref yq35, .ref yq37, .ref yq39, .int 0])), (yq1, .inl (yc2, 4, .inl (fun _ => 0))), (yq3, .inl (yc4, 4, .inl (upd (upd (upd (upd (fun _ => 0) 0 (-1 : Int32)) 1 (-1 : Int32)) 2 (-1 : Int32)) 3 (-1 : Int32)))), (yq5, .inl (yc6, 240, .inl (fun _ => 0))), (yq7, .inl (yc8, 27, .inl (upd (upd (upd (upd (upd (upd (upd (upd (upd (upd (upd (upd (upd (upd (upd (upd (upd (upd (upd (upd (upd (upd (upd (upd (upd (upd (upd (fun _ => 0) 0 (1000 : Int32)) 1 (0 : Int32)) 2 (0 : Int32)) 3 (0 : Int32)) 4 (1000 : Int32)) 5 (0 : Int32)) 6 (0 : Int32)) 7 (0 : Int32)) 8 (1000 : Int32)) 9 (1000 : Int32)) 10 (0 : Int32)) 11 (0 : Int32)) 12 (0 : Int32)) 13 (1000 : Int32)) 14 (0 : Int32)) 15 (0 : Int32)) 16 (0 : Int32)) 17 (1000 : Int32)) 18 (1000 : Int32)) 19 (0 : Int32)) 20 (0 : Int32)) 21 (0 : Int32)) 22 (1000 : Int32)) 23 (0 : Int32)) 24 (0 : Int32)) 25 (0 : Int32)) 26 (1000 : Int32)))), (yq9, .inl (yc10, 3, .inl (upd (upd (upd (fun _ => 0) 0 (1 : Int32)) 1 (1 : Int32)) 2 (1 : Int32)))), (yq11, .inl (yc12, 12, .inl (fun _ => 0))), (yq13, .inl (yc14, 12, .inl (fun _ => 0))), (yq15, .inl (yc16, 12, .inl (fun _ => 0))), (yq17, .inl (yc18, 8, .inl (fun _ => 0))), (yq19, .inl (yc20, 8, .inl (upd (upd (upd (upd (upd (upd (upd (upd (fun _ => 0) 0 (16777215 : Int32)) 1 (16777215 : Int32)) 2 (16777215 : Int32)) 3 (16777215 : Int32)) 4 (16777215 : Int32)) 5 (16777215 : Int32)) 6 (16777215 : Int32)) 7 (16777215 : Int32)))), (yq21, .inl (yc22, 20, .inl (fun _ => 0))), (yq23, .inl (yc24, 20, .inl (fun _ => 0))), (yq25, .inl (yc26, 20, .inl (fun _ => 0))), (yq27, .inl (yc28, 4096, .inl (fun _ => 0))), (yq29, .inl (yc30, 64, .inl (fun _ => 0))), (yq31, .inl (yc32, 5, .inl (fun _ => 0))), (yq33, .inl (yc34, 5, .inl (fun _ => 0))), (yq35, .inl (yc36, 12, .inl (fun _ => 0))), (yq37, .inl (yc38, 3, .inl (fun _ => 0))), (yq39, .inl (yc40, 600, .inl (fun _ => 0)))] : va_W)[k]'hk) := List.getElem?_eq_getElem hk
      refine ⟨(([(xq1, .inr (5, [.ref xq2, .ref xq4, .ref xq13])), (xq2, .inr (1, [.ref xq3, .int (5 : Int32), .int (1 : Int32), .int (1 : Int32), .int (1 : Int32), .int (1 : Int32)])), (xq3, .inl (xc14, 27, .inl (upd (upd (upd (upd (upd (upd (upd (upd (upd (fun _ => 0) 0 (1000 : Int32)) 4 (1000 : Int32)) 8 (1000 : Int32)) 9 (1000 : Int32)) 13 (1000 : Int32)) 17 (1000 : Int32)) 18 (1000 : Int32)) 22 (1000 : Int32)) 26 (1000 : Int32)))), (xq4, .inr (4, [.int (0 : Int32), .ref xq5, .ref xq6, .ref xq7, .ref xq8, .ref xq9, .int (0 : Int32), .ref xq10, .ref xq11, .ref xq12])), (xq5, .inl (xc15, 12, .inl (fun _ => 0))), (xq6, .inl (xc16, 12, .inl (fun _ => 0))), (xq7, .inl (xc17, 12, .inl (fun _ => 0))), (xq8, .inl (xc18, 8, .inl (fun _ => 0))), (xq9, .inl (xc19, 8, .inl (upd (upd (upd (upd (upd (upd (upd (upd (fun _ => 0) 0 (16777215 : Int32)) 1 (16777215 : Int32)) 2 (16777215 : Int32)) 3 (16777215 : Int32)) 4 (16777215 : Int32)) 5 (16777215 : Int32)) 6 (16777215 : Int32)) 7 (16777215 : Int32)))), (xq10, .inl (xc20, 20, .inl (fun _ => 0))), (xq11, .inl (xc21, 20, .inl (fun _ => 0))), (xq12, .inl (xc22, 20, .inl (fun _ => 0))), (xq13, .inr (2, [.int (3 : Int32)])), (xq57, .inr (5, [.ref xq58, .ref xq60, .ref xq69])), (xq58, .inr (1, [.ref xq59, .int (5 : Int32), .int (1 : Int32), .int (1 : Int32), .int (1 : Int32), .int (1 : Int32)])), (xq59, .inl (xc70, 27, .inl (upd (upd (upd (upd (upd (upd (upd (upd (upd (fun _ => 0) 0 (1000 : Int32)) 4 (1000 : Int32)) 8 (1000 : Int32)) 9 (1000 : Int32)) 13 (1000 : Int32)) 17 (1000 : Int32)) 18 (1000 : Int32)) 22 (1000 : Int32)) 26 (1000 : Int32)))), (xq60, .inr (4, [.int (0 : Int32), .ref xq61, .ref xq62, .ref xq63, .ref xq64, .ref xq65, .int (0 : Int32), .ref xq66, .ref xq67, .ref xq68])), (xq61, .inl (xc71, 12, .inl (fun _ => 0))), (xq62, .inl (xc72, 12, .inl (fun _ => 0))), (xq63, .inl (xc73, 12, .inl (fun _ => 0))), (xq64, .inl (xc74, 8, .inl (fun _ => 0))), (xq65, .inl (xc75, 8, .inl (upd (upd (upd (upd (upd (upd (upd (upd (fun _ => 0) 0 (16777215 : Int32)) 1 (16777215 : Int32)) 2 (16777215 : Int32)) 3 (16777215 : Int32)) 4 (16777215 : Int32)) 5 (16777215 : Int32)) 6 (16777215 : Int32)) 7 (16777215 : Int32)))), (xq66, .inl (xc76, 20, .inl (fun _ => 0))), (xq67, .inl (xc77, 20, .inl (fun _ => 0))), (xq68, .inl (xc78, 20, .inl (fun _ => 0))), (xq69, .inr (2, [.int (3 : Int32)])), (xq79, .inr (5, [.ref xq80, .ref xq82, .ref xq91])), (xq80, .inr (1, [.ref xq81, .int (5 : Int32), .int (1 : Int32), .int (1 : Int32), .int (1 : Int32), .int (1 : Int32)])), (xq81, .inl (xc92, 27, .inl (upd (upd (upd (upd (upd (upd (upd (upd (upd (fun _ => 0) 0 (1000 : Int32)) 4 (1000 : Int32)) 8 (1000 : Int32)) 9 (1000 : Int32)) 13 (1000 : Int32)) 17 (1000 : Int32)) 18 (1000 : Int32)) 22 (1000 : Int32)) 26 (1000 : Int32)))), (xq82, .inr (4, [.int (0 : Int32), .ref xq83, .ref xq84, .ref xq85, .ref xq86, .ref xq87, .int (0 : Int32), .ref xq88, .ref xq89, .ref xq90])), (xq83, .inl (xc93, 12, .inl (fun _ => 0))), (xq84, .inl (xc94, 12, .inl (fun _ => 0))), (xq85, .inl (xc95, 12, .inl (fun _ => 0))), (xq86, .inl (xc96, 8, .inl (fun _ => 0))), (xq87, .inl (xc97, 8, .inl (upd (upd (upd (upd (upd (upd (upd (upd (fun _ => 0) 0 (16777215 : Int32)) 1 (16777215 : Int32)) 2 (16777215 : Int32)) 3 (16777215 : Int32)) 4 (16777215 : Int32)) 5 (16777215 : Int32)) 6 (16777215 : Int32)) 7 (16777215 : Int32)))), (xq88, .inl (xc98, 20, .inl (fun _ => 0))), (xq89, .inl (xc99, 20, .inl (fun _ => 0))), (xq90, .inl (xc100, 20, .inl (fun _ => 0))), (xq91, .inr (2, [.int (3 : Int32)])), (xq101, .inr (5, [.ref xq102, .ref xq104, .ref xq113])), (xq102, .inr (1, [.ref xq103, .int (5 : Int32), .int (1 : Int32), .int (1 : Int32), .int (1 : Int32), .int (1 : Int32)])), (xq103, .inl (xc114, 27, .inl (upd (upd (upd (upd (upd (upd (upd (upd (upd (fun _ => 0) 0 (1000 : Int32)) 4 (1000 : Int32)) 8 (1000 : Int32)) 9 (1000 : Int32)) 13 (1000 : Int32)) 17 (1000 : Int32)) 18 (1000 : Int32)) 22 (1000 : Int32)) 26 (1000 : Int32)))), (xq104, .inr (4, [.int (0 : Int32), .ref xq105, .ref xq106, .ref xq107, .ref xq108, .ref xq109, .int (0 : Int32), .ref xq110, .ref xq111, .ref xq112])), (xq105, .inl (xc115, 12, .inl (fun _ => 0))), (xq106, .inl (xc116, 12, .inl (fun _ => 0))), (xq107, .inl (xc117, 12, .inl (fun _ => 0))), (xq108, .inl (xc118, 8, .inl (fun _ => 0))), (xq109, .inl (xc119, 8, .inl (upd (upd (upd (upd (upd (upd (upd (upd (fun _ => 0) 0 (16777215 : Int32)) 1 (16777215 : Int32)) 2 (16777215 : Int32)) 3 (16777215 : Int32)) 4 (16777215 : Int32)) 5 (16777215 : Int32)) 6 (16777215 : Int32)) 7 (16777215 : Int32)))), (xq110, .inl (xc120, 20, .inl (fun _ => 0))), (xq111, .inl (xc121, 20, .inl (fun _ => 0))), (xq112, .inl (xc122, 20, .inl (fun _ => 0))), (xq113, .inr (2, [.int (3 : Int32)])), (xq123, .inr (8, [.ref xq124, .int (2 : Int32), .int (-1 : Int32)])), (xq124, .inl (xc125, 60, .inl (fun _ => 0))), (xq126, .inr (8, [.ref xq127, .int (2 : Int32), .int (-1 : Int32)])), (xq127, .inl (xc128, 60, .inl (fun _ => 0))), (xq129, .inr (8, [.ref xq130, .int (2 : Int32), .int (-1 : Int32)])), (xq130, .inl (xc131, 60, .inl (fun _ => 0))), (xq132, .inr (8, [.ref xq133, .int (2 : Int32), .int (-1 : Int32)])), (xq133, .inl (xc134, 60, .inl (fun _ => 0))), (x0, .inr (9, [.ref xq1, .ref xq23, .ref xq25, .ref xq27, .ref xq29, .ref xq42, .ref xq47, .ref xq50, .int (0 : Int32)])), (xq23, .inl (xc24, 3, .inr (.inr (.inr (.inr (va_up (va_up (va_up (fun _ => none) 0 (some xq57)) 1 (some xq79)) 2 (some xq101))))))), (xq25, .inl (xc26, 3, .inl (fun _ => 0))), (xq27, .inl (xc28, 4, .inr (.inr (.inr (.inr (va_up (va_up (va_up (va_up (fun _ => none) 0 (some xq123)) 1 (some xq126)) 2 (some xq129)) 3 (some xq132))))))), (xq29, .inr (0, [.ref xq30, .ref xq31, .ref xq32, .ref xq33, .ref xq34, .ref xq35, .int (0 : Int32), .int (0 : Int32), .int (-1 : Int32)])), (xq30, .inl (xc36, 384, .inl (fun _ => 0))), (xq31, .inl (xc37, 6, .inl (fun _ => 0))), (xq32, .inl (xc38, 64, .inl (fun _ => 0))), (xq33, .inl (xc39, 4096, .inl (fun _ => 0))), (xq34, .inl (xc40, 5, .inl (fun _ => 0))), (xq35, .inl (xc41, 5, .inl (fun _ => 0))), (xq42, .inr (6, [.ref xq43, .ref xq44, .int (0 : Int32)])), (xq43, .inl (xc45, 72, .inl (fun _ => 0))), (xq44, .inl (xc46, 6, .inl (fun _ => 0))), (xq47, .inr (7, [.ref xq48, .int (0 : Int32)])), (xq48, .inl (xc49, 12, .inl (fun _ => 0))), (xq50, .inr (3, [.ref xq51, .ref xq52, .ref xq53])), (xq51, .inl (xc54, 12, .inl (fun _ => 0))), (xq52, .inl (xc55, 12, .inl (fun _ => 0))), (xq53, .inl (xc56, 12, .inl (fun _ => 0))), (y0, .inr (10, [.int 0, .ref yq1, .ref yq3, .ref yq5, .ref yq7, .int (5 : Int32), .int (1 : Int32), .int (3 : Int32), .ref yq9, .int 0, .int 0, .ref yq11, .ref yq13, .ref yq15, .ref yq17, .ref yq19, .ref yq21, .ref yq23, .ref yq25, .ref yq27, .ref yq29, .ref yq31, .ref yq33, .int 0, .int 0, .int 0, .ref yq35, .ref yq37, .ref yq39, .int 0])), (yq1, .inl (yc2, 4, .inl (fun _ => 0))), (yq3, .inl (yc4, 4, .inl (upd (upd (upd (upd (fun _ => 0) 0 (-1 : Int32)) 1 (-1 : Int32)) 2 (-1 : Int32)) 3 (-1 : Int32)))), (yq5, .inl (yc6, 240, .inl (fun _ => 0))), (yq7, .inl (yc8, 27, .inl (upd (upd (upd (upd (upd (upd (upd (upd (upd (upd (upd (upd (upd (upd (upd (upd (upd (upd (upd (upd (upd (upd (upd (upd (upd (upd (upd (fun _ => 0) 0 (1000 : Int32)) 1 (0 : Int32)) 2 (0 : Int32)) 3 (0 : Int32)) 4 (1000 : Int32)) 5 (0 : Int32)) 6 (0 : Int32)) 7 (0 : Int32)) 8 (1000 : Int32)) 9 (1000 : Int32)) 10 (0 : Int32)) 11 (0 : Int32)) 12 (0 : Int32)) 13 (1000 : Int32)) 14 (0 : Int32)) 15 (0 : Int32)) 16 (0 : Int32)) 17 (1000 : Int32)) 18 (1000 : Int32)) 19 (0 : Int32)) 20 (0 : Int32)) 21 (0 : Int32)) 22 (1000 : Int32)) 23 (0 : Int32)) 24 (0 : Int32)) 25 (0 : Int32)) 26 (1000 : Int32)))), (yq9, .inl (yc10, 3, .inl (upd (upd (upd (fun _ => 0) 0 (1 : Int32)) 1 (1 : Int32)) 2 (1 : Int32)))), (yq11, .inl (yc12, 12, .inl (fun _ => 0))), (yq13, .inl (yc14, 12, .inl (fun _ => 0))), (yq15, .inl (yc16, 12, .inl (fun _ => 0))), (yq17, .inl (yc18, 8, .inl (fun _ => 0))), (yq19, .inl (yc20, 8, .inl (upd (upd (upd (upd (upd (upd (upd (upd (fun _ => 0) 0 (16777215 : Int32)) 1 (16777215 : Int32)) 2 (16777215 : Int32)) 3 (16777215 : Int32)) 4 (16777215 : Int32)) 5 (16777215 : Int32)) 6 (16777215 : Int32)) 7 (16777215 : Int32)))), (yq21, .inl (yc22, 20, .inl (fun _ => 0))), (yq23, .inl (yc24, 20, .inl (fun _ => 0))), (yq25, .inl (yc26, 20, .inl (fun _ => 0))), (yq27, .inl (yc28, 4096, .inl (fun _ => 0))), (yq29, .inl (yc30, 64, .inl (fun _ => 0))), (yq31, .inl (yc32, 5, .inl (fun _ => 0))), (yq33, .inl (yc34, 5, .inl (fun _ => 0))), (yq35, .inl (yc36, 12, .inl (fun _ => 0))), (yq37, .inl (yc38, 3, .inl (fun _ => 0))), (yq39, .inl (yc40, 600, .inl (fun _ => 0)))] : va_W)[k]'hk).2, h1.trans (congrArg some (Prod.ext ?_ rfl))⟩
      have h2 : ([xq1, xq2, xq3, xq4, xq5, xq6, xq7, xq8, xq9, xq10, xq11, xq12, xq13, xq57, xq58, xq59, xq60, xq61, xq62, xq63, xq64, xq65, xq66, xq67, xq68, xq69, xq79, xq80, xq81, xq82, xq83, xq84, xq85, xq86, xq87, xq88, xq89, xq90, xq91, xq101, xq102, xq103, xq104, xq105, xq106, xq107, xq108, xq109, xq110, xq111, xq112, xq113, xq123, xq124, xq126, xq127, xq129, xq130, xq132, xq133, x0, xq23, xq25, xq27, xq29, xq30, xq31, xq32, xq33, xq34, xq35, xq42, xq43, xq44, xq47, xq48, xq50, xq51, xq52, xq53, y0, yq1, yq3, yq5, yq7, yq9, yq11, yq13, yq15, yq17, yq19, yq21, yq23, yq25, yq27, yq29, yq31, yq33, yq35, yq37, yq39] : List Nat) = ([(xq1, .inr (5, [.ref xq2, .ref xq4, .ref xq13])), (xq2, .inr (1, [.ref xq3, .int (5 : Int32), .int (1 : Int32), .int (1 : Int32), .int (1 : Int32), .int (1 : Int32)])), (xq3, .inl (xc14, 27, .inl (upd (upd (upd (upd (upd (upd (upd (upd (upd (fun _ => 0) 0 (1000 : Int32)) 4 (1000 : Int32)) 8 (1000 : Int32)) 9 (1000 : Int32)) 13 (1000 : Int32)) 17 (1000 : Int32)) 18 (1000 : Int32)) 22 (1000 : Int32)) 26 (1000 : Int32)))), (xq4, .inr (4, [.int (0 : Int32), .ref xq5, .ref xq6, .ref xq7, .ref xq8, .ref xq9, .int (0 : Int32), .ref xq10, .ref xq11, .ref xq12])), (xq5, .inl (xc15, 12, .inl (fun _ => 0))), (xq6, .inl (xc16, 12, .inl (fun _ => 0))), (xq7, .inl (xc17, 12, .inl (fun _ => 0))), (xq8, .inl (xc18, 8, .inl (fun _ => 0))), (xq9, .inl (xc19, 8, .inl (upd (upd (upd (upd (upd (upd (upd (upd (fun _ => 0) 0 (16777215 : Int32)) 1 (16777215 : Int32)) 2 (16777215 : Int32)) 3 (16777215 : Int32)) 4 (16777215 : Int32)) 5 (16777215 : Int32)) 6 (16777215 : Int32)) 7 (16777215 : Int32)))), (xq10, .inl (xc20, 20, .inl (fun _ => 0))), (xq11, .inl (xc21, 20, .inl (fun _ => 0))), (xq12, .inl (xc22, 20, .inl (fun _ => 0))), (xq13, .inr (2, [.int (3 : Int32)])), (xq57, .inr (5, [.ref xq58, .ref xq60, .ref xq69])), (xq58, .inr (1, [.ref xq59, .int (5 : Int32), .int (1 : Int32), .int (1 : Int32), .int (1 : Int32), .int (1 : Int32)])), (xq59, .inl (xc70, 27, .inl (upd (upd (upd (upd (upd (upd (upd (upd (upd (fun _ => 0) 0 (1000 : Int32)) 4 (1000 : Int32)) 8 (1000 : Int32)) 9 (1000 : Int32)) 13 (1000 : Int32)) 17 (1000 : Int32)) 18 (1000 : Int32)) 22 (1000 : Int32)) 26 (1000 : Int32)))), (xq60, .inr (4, [.int (0 : Int32), .ref xq61, .ref xq62, .ref xq63, .ref xq64, .ref xq65, .int (0 : Int32), .ref xq66, .ref xq67, .ref xq68])), (xq61, .inl (xc71, 12, .inl (fun _ => 0))), (xq62, .inl (xc72, 12, .inl (fun _ => 0))), (xq63, .inl (xc73, 12, .inl (fun _ => 0))), (xq64, .inl (xc74, 8, .inl (fun _ => 0))), (xq65, .inl (xc75, 8, .inl (upd (upd (upd (upd (upd (upd (upd (upd (fun _ => 0) 0 (16777215 : Int32)) 1 (16777215 : Int32)) 2 (16777215 : Int32)) 3 (16777215 : Int32)) 4 (16777215 : Int32)) 5 (16777215 : Int32)) 6 (16777215 : Int32)) 7 (16777215 : Int32)))), (xq66, .inl (xc76, 20, .inl (fun _ => 0))), (xq67, .inl (xc77, 20, .inl (fun _ => 0))), (xq68, .inl (xc78, 20, .inl (fun _ => 0))), (xq69, .inr (2, [.int (3 : Int32)])), (xq79, .inr (5, [.ref xq80, .ref xq82, .ref xq91])), (xq80, .inr (1, [.ref xq81, .int (5 : Int32), .int (1 : Int32), .int (1 : Int32), .int (1 : Int32), .int (1 : Int32)])), (xq81, .inl (xc92, 27, .inl (upd (upd (upd (upd (upd (upd (upd (upd (upd (fun _ => 0) 0 (1000 : Int32)) 4 (1000 : Int32)) 8 (1000 : Int32)) 9 (1000 : Int32)) 13 (1000 : Int32)) 17 (1000 : Int32)) 18 (1000 : Int32)) 22 (1000 : Int32)) 26 (1000 : Int32)))), (xq82, .inr (4, [.int (0 : Int32), .ref xq83, .ref xq84, .ref xq85, .ref xq86, .ref xq87, .int (0 : Int32), .ref xq88, .ref xq89, .ref xq90])), (xq83, .inl (xc93, 12, .inl (fun _ => 0))), (xq84, .inl (xc94, 12, .inl (fun _ => 0))), (xq85, .inl (xc95, 12, .inl (fun _ => 0))), (xq86, .inl (xc96, 8, .inl (fun _ => 0))), (xq87, .inl (xc97, 8, .inl (upd (upd (upd (upd (upd (upd (upd (upd (fun _ => 0) 0 (16777215 : Int32)) 1 (16777215 : Int32)) 2 (16777215 : Int32)) 3 (16777215 : Int32)) 4 (16777215 : Int32)) 5 (16777215 : Int32)) 6 (16777215 : Int32)) 7 (16777215 : Int32)))), (xq88, .inl (xc98, 20, .inl (fun _ => 0))), (xq89, .inl (xc99, 20, .inl (fun _ => 0))), (xq90, .inl (xc100, 20, .inl (fun _ => 0))), (xq91, .inr (2, [.int (3 : Int32)])), (xq101, .inr (5, [.ref xq102, .ref xq104, .ref xq113])), (xq102, .inr (1, [.ref xq103, .int (5 : Int32), .int (1 : Int32), .int (1 : Int32), .int (1 : Int32), .int (1 : Int32)])), (xq103, .inl (xc114, 27, .inl (upd (upd (upd (upd (upd (upd (upd (upd (upd (fun _ => 0) 0 (1000 : Int32)) 4 (1000 : Int32)) 8 (1000 : Int32)) 9 (1000 : Int32)) 13 (1000 : Int32)) 17 (1000 : Int32)) 18 (1000 : Int32)) 22 (1000 : Int32)) 26 (1000 : Int32)))), (xq104, .inr (4, [.int (0 : Int32), .ref xq105, .ref xq106, .ref xq107, .ref xq108, .ref xq109, .int (0 : Int32), .ref xq110, .ref xq111, .ref xq112])), (xq105, .inl (xc115, 12, .inl (fun _ => 0))), (xq106, .inl (xc116, 12, .inl (fun _ => 0))), (xq107, .inl (xc117, 12, .inl (fun _ => 0))), (xq108, .inl (xc118, 8, .inl (fun _ => 0))), (xq109, .inl (xc119, 8, .inl (upd (upd (upd (upd (upd (upd (upd (upd (fun _ => 0) 0 (16777215 : Int32)) 1 (16777215 : Int32)) 2 (16777215 : Int32)) 3 (16777215 : Int32)) 4 (16777215 : Int32)) 5 (16777215 : Int32)) 6 (16777215 : Int32)) 7 (16777215 : Int32)))), (xq110, .inl (xc120, 20, .inl (fun _ => 0))), (xq111, .inl (xc121, 20, .inl (fun _ => 0))), (xq112, .inl (xc122, 20, .inl (fun _ => 0))), (xq113, .inr (2, [.int (3 : Int32)])), (xq123, .inr (8, [.ref xq124, .int (2 : Int32), .int (-1 : Int32)])), (xq124, .inl (xc125, 60, .inl (fun _ => 0))), (xq126, .inr (8, [.ref xq127, .int (2 : Int32), .int (-1 : Int32)])), (xq127, .inl (xc128, 60, .inl (fun _ => 0))), (xq129, .inr (8, [.ref xq130, .int (2 : Int32), .int (-1 : Int32)])), (xq130, .inl (xc131, 60, .inl (fun _ => 0))), (xq132, .inr (8, [.ref xq133, .int (2 : Int32), .int (-1 : Int32)])), (xq133, .inl (xc134, 60, .inl (fun _ => 0))), (x0, .inr (9, [.ref xq1, .ref xq23, .ref xq25, .ref xq27, .ref xq29, .ref xq42, .ref xq47, .ref xq50, .int (0 : Int32)])), (xq23, .inl (xc24, 3, .inr (.inr (.inr (.inr (va_up (va_up (va_up (fun _ => none) 0 (some xq57)) 1 (some xq79)) 2 (some xq101))))))), (xq25, .inl (xc26, 3, .inl (fun _ => 0))), (xq27, .inl (xc28, 4, .inr (.inr (.inr (.inr (va_up (va_up (va_up (va_up (fun _ => none) 0 (some xq123)) 1 (some xq126)) 2 (some xq129)) 3 (some xq132))))))), (xq29, .inr (0, [.ref xq30, .ref xq31, .ref xq32, .ref xq33, .ref xq34, .ref xq35, .int (0 : Int32), .int (0 : Int32), .int (-1 : Int32)])), (xq30, .inl (xc36, 384, .inl (fun _ => 0))), (xq31, .inl (xc37, 6, .inl (fun _ => 0))), (xq32, .inl (xc38, 64, .inl (fun _ => 0))), (xq33, .inl (xc39, 4096, .inl (fun _ => 0))), (xq34, .inl (xc40, 5, .inl (fun _ => 0))), (xq35, .inl (xc41, 5, .inl (fun _ => 0))), (xq42, .inr (6, [.ref xq43, .ref xq44, .int (0 : Int32)])), (xq43, .inl (xc45, 72, .inl (fun _ => 0))), (xq44, .inl (xc46, 6, .inl (fun _ => 0))), (xq47, .inr (7, [.ref xq48, .int (0 : Int32)])), (xq48, .inl (xc49, 12, .inl (fun _ => 0))), (xq50, .inr (3, [.ref xq51, .ref xq52, .ref xq53])), (xq51, .inl (xc54, 12, .inl (fun _ => 0))), (xq52, .inl (xc55, 12, .inl (fun _ => 0))), (xq53, .inl (xc56, 12, .inl (fun _ => 0))), (y0, .inr (10, [.int 0, .ref yq1, .ref yq3, .ref yq5, .ref yq7, .int (5 : Int32), .int (1 : Int32), .int (3 : Int32), .ref yq9, .int 0, .int 0, .ref yq11, .ref yq13, .ref yq15, .ref yq17, .ref yq19, .ref yq21, .ref yq23, .ref yq25, .ref yq27, .ref yq29, .ref yq31, .ref yq33, .int 0, .int 0, .int 0, .ref yq35, .ref yq37, .ref yq39, .int 0])), (yq1, .inl (yc2, 4, .inl (fun _ => 0))), (yq3, .inl (yc4, 4, .inl (upd (upd (upd (upd (fun _ => 0) 0 (-1 : Int32)) 1 (-1 : Int32)) 2 (-1 : Int32)) 3 (-1 : Int32)))), (yq5, .inl (yc6, 240, .inl (fun _ => 0))), (yq7, .inl (yc8, 27, .inl (upd (upd (upd (upd (upd (upd (upd (upd (upd (upd (upd (upd (upd (upd (upd (upd (upd (upd (upd (upd (upd (upd (upd (upd (upd (upd (upd (fun _ => 0) 0 (1000 : Int32)) 1 (0 : Int32)) 2 (0 : Int32)) 3 (0 : Int32)) 4 (1000 : Int32)) 5 (0 : Int32)) 6 (0 : Int32)) 7 (0 : Int32)) 8 (1000 : Int32)) 9 (1000 : Int32)) 10 (0 : Int32)) 11 (0 : Int32)) 12 (0 : Int32)) 13 (1000 : Int32)) 14 (0 : Int32)) 15 (0 : Int32)) 16 (0 : Int32)) 17 (1000 : Int32)) 18 (1000 : Int32)) 19 (0 : Int32)) 20 (0 : Int32)) 21 (0 : Int32)) 22 (1000 : Int32)) 23 (0 : Int32)) 24 (0 : Int32)) 25 (0 : Int32)) 26 (1000 : Int32)))), (yq9, .inl (yc10, 3, .inl (upd (upd (upd (fun _ => 0) 0 (1 : Int32)) 1 (1 : Int32)) 2 (1 : Int32)))), (yq11, .inl (yc12, 12, .inl (fun _ => 0))), (yq13, .inl (yc14, 12, .inl (fun _ => 0))), (yq15, .inl (yc16, 12, .inl (fun _ => 0))), (yq17, .inl (yc18, 8, .inl (fun _ => 0))), (yq19, .inl (yc20, 8, .inl (upd (upd (upd (upd (upd (upd (upd (upd (fun _ => 0) 0 (16777215 : Int32)) 1 (16777215 : Int32)) 2 (16777215 : Int32)) 3 (16777215 : Int32)) 4 (16777215 : Int32)) 5 (16777215 : Int32)) 6 (16777215 : Int32)) 7 (16777215 : Int32)))), (yq21, .inl (yc22, 20, .inl (fun _ => 0))), (yq23, .inl (yc24, 20, .inl (fun _ => 0))), (yq25, .inl (yc26, 20, .inl (fun _ => 0))), (yq27, .inl (yc28, 4096, .inl (fun _ => 0))), (yq29, .inl (yc30, 64, .inl (fun _ => 0))), (yq31, .inl (yc32, 5, .inl (fun _ => 0))), (yq33, .inl (yc34, 5, .inl (fun _ => 0))), (yq35, .inl (yc36, 12, .inl (fun _ => 0))), (yq37, .inl (yc38, 3, .inl (fun _ => 0))), (yq39, .inl (yc40, 600, .inl (fun _ => 0)))] : va_W).map Prod.fst := rfl
      rw [h2, List.getD_eq_getElem?_getD, List.getElem?_map, h1]
      rfl
    obtain ⟨c1, k1⟩ := key _ p1
    obtain ⟨c2, k2⟩ := key _ p2
    exact hD.1 _ _ _ _ k1 k2 e
