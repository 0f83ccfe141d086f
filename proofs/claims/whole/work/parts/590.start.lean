def xM0K (i : Nat) : Nat → Int32 := match i with
  | 0 => (fun k => ([0, 0, 0] : List Int32).getD k 0)
  | 1 => (fun k => ([0, (5 : Int32), (1 : Int32), (1 : Int32), (1 : Int32), (1 : Int32)] : List Int32).getD k 0)
  | 2 => (upd (upd (upd (upd (upd (upd (upd (upd (upd (fun _ => 0) 0 (1000 : Int32)) 4 (1000 : Int32)) 8 (1000 : Int32)) 9 (1000 : Int32)) 13 (1000 : Int32)) 17 (1000 : Int32)) 18 (1000 : Int32)) 22 (1000 : Int32)) 26 (1000 : Int32))
  | 3 => (fun k => ([(0 : Int32), 0, 0, 0, 0, 0, (0 : Int32), 0, 0, 0] : List Int32).getD k 0)
  | 4 => (fun _ => 0)
  | 5 => (fun _ => 0)
  | 6 => (fun _ => 0)
  | 7 => (fun _ => 0)
  | 8 => (upd (upd (upd (upd (upd (upd (upd (upd (fun _ => 0) 0 (16777215 : Int32)) 1 (16777215 : Int32)) 2 (16777215 : Int32)) 3 (16777215 : Int32)) 4 (16777215 : Int32)) 5 (16777215 : Int32)) 6 (16777215 : Int32)) 7 (16777215 : Int32))
  | 9 => (fun _ => 0)
  | 10 => (fun _ => 0)
  | 11 => (fun _ => 0)
  | 12 => (fun k => ([(3 : Int32)] : List Int32).getD k 0)
  | _ => fun _ => 0
def xM0S (i : Nat) : Nat → Int32 := match i with
  | 0 => (fun k => ([0, (2 : Int32), (-1 : Int32)] : List Int32).getD k 0)
  | 1 => (fun _ => 0)
  | _ => fun _ => 0
def xM0C (i : Nat) : Nat → Int32 := match i with
  | 0 => (fun k => ([0, 0, 0, 0, 0, 0, 0, 0, (0 : Int32)] : List Int32).getD k 0)
  | 1 => (fun _ => 0)
  | 2 => (fun _ => 0)
  | 3 => (fun _ => 0)
  | 4 => (fun k => ([0, 0, 0, 0, 0, 0, (0 : Int32), (0 : Int32), (-1 : Int32)] : List Int32).getD k 0)
  | 5 => (fun _ => 0)
  | 6 => (fun _ => 0)
  | 7 => (fun _ => 0)
  | 8 => (fun _ => 0)
  | 9 => (fun _ => 0)
  | 10 => (fun _ => 0)
  | 11 => (fun k => ([0, 0, (0 : Int32)] : List Int32).getD k 0)
  | 12 => (fun _ => 0)
  | 13 => (fun _ => 0)
  | 14 => (fun k => ([0, (0 : Int32)] : List Int32).getD k 0)
  | 15 => (fun _ => 0)
  | 16 => (fun k => ([0, 0, 0] : List Int32).getD k 0)
  | 17 => (fun _ => 0)
  | 18 => (fun _ => 0)
  | 19 => (fun _ => 0)
  | _ => fun _ => 0
def xM0M (i : Nat) : Nat → Int32 := match i with
  | 0 => (fun k => ([0, 0, 0, 0, 0, (5 : Int32), (1 : Int32), (3 : Int32), 0, 0, 0, 0, 0, 0, 0, 0, 0, 0, 0, 0, 0, 0, 0, 0, 0, 0, 0, 0, 0, 0] : List Int32).getD k 0)
  | 1 => (fun _ => 0)
  | 2 => (upd (upd (upd (upd (fun _ => 0) 0 (-1 : Int32)) 1 (-1 : Int32)) 2 (-1 : Int32)) 3 (-1 : Int32))
  | 3 => (fun _ => 0)
  | 4 => (upd (upd (upd (upd (upd (upd (upd (upd (upd (upd (upd (upd (upd (upd (upd (upd (upd (upd (upd (upd (upd (upd (upd (upd (upd (upd (upd (fun _ => 0) 0 (1000 : Int32)) 1 (0 : Int32)) 2 (0 : Int32)) 3 (0 : Int32)) 4 (1000 : Int32)) 5 (0 : Int32)) 6 (0 : Int32)) 7 (0 : Int32)) 8 (1000 : Int32)) 9 (1000 : Int32)) 10 (0 : Int32)) 11 (0 : Int32)) 12 (0 : Int32)) 13 (1000 : Int32)) 14 (0 : Int32)) 15 (0 : Int32)) 16 (0 : Int32)) 17 (1000 : Int32)) 18 (1000 : Int32)) 19 (0 : Int32)) 20 (0 : Int32)) 21 (0 : Int32)) 22 (1000 : Int32)) 23 (0 : Int32)) 24 (0 : Int32)) 25 (0 : Int32)) 26 (1000 : Int32))
  | 5 => (upd (upd (upd (fun _ => 0) 0 (1 : Int32)) 1 (1 : Int32)) 2 (1 : Int32))
  | 6 => (fun _ => 0)
  | 7 => (fun _ => 0)
  | 8 => (fun _ => 0)
  | 9 => (fun _ => 0)
  | 10 => (upd (upd (upd (upd (upd (upd (upd (upd (fun _ => 0) 0 (16777215 : Int32)) 1 (16777215 : Int32)) 2 (16777215 : Int32)) 3 (16777215 : Int32)) 4 (16777215 : Int32)) 5 (16777215 : Int32)) 6 (16777215 : Int32)) 7 (16777215 : Int32))
  | 11 => (fun _ => 0)
  | 12 => (fun _ => 0)
  | 13 => (fun _ => 0)
  | 14 => (fun _ => 0)
  | 15 => (fun _ => 0)
  | 16 => (fun _ => 0)
  | 17 => (fun _ => 0)
  | 18 => (fun _ => 0)
  | 19 => (fun _ => 0)
  | 20 => (fun _ => 0)
  | _ => fun _ => 0
def xM0 : xM := fun g i => if g < 4 then xM0K i else if g < 8 then xM0S i else if g = 8 then xM0C i else if g = 9 then xM0M i else fun _ => 0
def xpos (g i : Nat) : Nat := if g < 4 then 13 * g + i else if g < 8 then 52 + 2 * (g - 4) + i else if g = 8 then 60 + i else 80 + i
theorem xlayK_lt {g : Nat} {i : Nat} {L : xL} (h : xlayK g i = some L) : i < 13 := by
  rcases Nat.lt_or_ge i 13 with q | q
  · exact q
  · obtain ⟨j, rfl⟩ : ∃ j, i = j + 13 := ⟨i - 13, by omega⟩
    exact absurd h (by intro h; cases h)
theorem xlayS_lt {g : Nat} {i : Nat} {L : xL} (h : xlayS g i = some L) : i < 2 := by
  rcases Nat.lt_or_ge i 2 with q | q
  · exact q
  · obtain ⟨j, rfl⟩ : ∃ j, i = j + 2 := ⟨i - 2, by omega⟩
    exact absurd h (by intro h; cases h)
theorem xlayC_lt {i : Nat} {L : xL} (h : xlayC i = some L) : i < 20 := by
  rcases Nat.lt_or_ge i 20 with q | q
  · exact q
  · obtain ⟨j, rfl⟩ : ∃ j, i = j + 20 := ⟨i - 20, by omega⟩
    exact absurd h (by intro h; cases h)
theorem xlayM_lt {i : Nat} {L : xL} (h : xlayM i = some L) : i < 21 := by
  rcases Nat.lt_or_ge i 21 with q | q
  · exact q
  · obtain ⟨j, rfl⟩ : ∃ j, i = j + 21 := ⟨i - 21, by omega⟩
    exact absurd h (by intro h; cases h)
theorem xlay_cases {g i : Nat} {L : xL} (h : xlay g i = some L) : (g < 4 ∧ i < 13) ∨ (4 ≤ g ∧ g < 8 ∧ i < 2) ∨ (g = 8 ∧ i < 20) ∨ (g = 9 ∧ i < 21) := by
  unfold xlay at h
  by_cases h1 : g < 4
  · rw [if_pos h1] at h; exact Or.inl ⟨h1, xlayK_lt h⟩
  · rw [if_neg h1] at h
    by_cases h2 : g < 8
    · rw [if_pos h2] at h; exact Or.inr (Or.inl ⟨by omega, h2, xlayS_lt h⟩)
    · rw [if_neg h2] at h
      by_cases h3 : g = 8
      · rw [if_pos h3] at h; exact Or.inr (Or.inr (Or.inl ⟨h3, xlayC_lt h⟩))
      · rw [if_neg h3] at h
        by_cases h4 : g = 9
        · rw [if_pos h4] at h; exact Or.inr (Or.inr (Or.inr ⟨h4, xlayM_lt h⟩))
        · rw [if_neg h4] at h; cases h
theorem xpos_lt {g i : Nat} {L : xL} (h : xlay g i = some L) : xpos g i < 101 := by
  unfold xpos
  rcases xlay_cases h with ⟨h1, h2⟩ | ⟨h1, h2, h3⟩ | ⟨rfl, h2⟩ | ⟨rfl, h2⟩
  · rw [if_pos h1]; omega
  · rw [if_neg (by omega), if_pos h2]; omega
  · rw [if_neg (by omega), if_neg (by omega), if_pos rfl]; omega
  · rw [if_neg (by omega), if_neg (by omega), if_neg (by omega)]; omega
theorem xpos_inj {g i g' i' : Nat} {L L' : xL} (h : xlay g i = some L) (h' : xlay g' i' = some L') (e : xpos g i = xpos g' i') : g = g' ∧ i = i' := by
  unfold xpos at e
  rcases xlay_cases h with ⟨h1, h2⟩ | ⟨h1, h2, h3⟩ | ⟨rfl, h2⟩ | ⟨rfl, h2⟩ <;> rcases xlay_cases h' with ⟨k1, k2⟩ | ⟨k1, k2, k3⟩ | ⟨rfl, k2⟩ | ⟨rfl, k2⟩ <;> (try simp only [if_pos h1] at e) <;> (try simp only [if_pos k1] at e) <;> (try simp only [if_neg (show ¬ g < 4 by omega), if_pos h2] at e) <;> (try simp only [if_neg (show ¬ g' < 4 by omega), if_pos k2] at e) <;> (try simp at e) <;> omega
def xGof (dC : Nat → ClassId) (dI : Nat → Nat → Nat) (c9 : ClassId) (xq1 xq2 xq3 xq4 xq5 xq6 xq7 xq8 xq9 xq10 xq11 xq12 xq13 xq57 xq58 xq59 xq60 xq61 xq62 xq63 xq64 xq65 xq66 xq67 xq68 xq69 xq79 xq80 xq81 xq82 xq83 xq84 xq85 xq86 xq87 xq88 xq89 xq90 xq91 xq101 xq102 xq103 xq104 xq105 xq106 xq107 xq108 xq109 xq110 xq111 xq112 xq113 xq123 xq124 xq126 xq127 xq129 xq130 xq132 xq133 x0 xq23 xq25 xq27 xq29 xq30 xq31 xq32 xq33 xq34 xq35 xq42 xq43 xq44 xq47 xq48 xq50 xq51 xq52 xq53 y0 yq1 yq3 yq5 yq7 yq9 yq11 yq13 yq15 yq17 yq19 yq21 yq23 yq25 yq27 yq29 yq31 yq33 yq35 yq37 yq39 : Nat) (xc14 xc15 xc16 xc17 xc18 xc19 xc20 xc21 xc22 xc24 xc26 xc28 xc36 xc37 xc38 xc39 xc40 xc41 xc45 xc46 xc49 xc54 xc55 xc56 xc70 xc71 xc72 xc73 xc74 xc75 xc76 xc77 xc78 xc92 xc93 xc94 xc95 xc96 xc97 xc98 xc99 xc100 xc114 xc115 xc116 xc117 xc118 xc119 xc120 xc121 xc122 xc125 xc128 xc131 xc134 yc2 yc4 yc6 yc8 yc10 yc12 yc14 yc16 yc18 yc20 yc22 yc24 yc26 yc28 yc30 yc32 yc34 yc36 yc38 yc40 : ClassId) : xG := ((fun g i => ([xq1, xq2, xq3, xq4, xq5, xq6, xq7, xq8, xq9, xq10, xq11, xq12, xq13, xq57, xq58, xq59, xq60, xq61, xq62, xq63, xq64, xq65, xq66, xq67, xq68, xq69, xq79, xq80, xq81, xq82, xq83, xq84, xq85, xq86, xq87, xq88, xq89, xq90, xq91, xq101, xq102, xq103, xq104, xq105, xq106, xq107, xq108, xq109, xq110, xq111, xq112, xq113, xq123, xq124, xq126, xq127, xq129, xq130, xq132, xq133, x0, xq23, xq25, xq27, xq29, xq30, xq31, xq32, xq33, xq34, xq35, xq42, xq43, xq44, xq47, xq48, xq50, xq51, xq52, xq53, y0, yq1, yq3, yq5, yq7, yq9, yq11, yq13, yq15, yq17, yq19, yq21, yq23, yq25, yq27, yq29, yq31, yq33, yq35, yq37, yq39] : List Nat).getD (xpos g i) 0), (dC, dI), (fun g i => ([c9, c9, xc14, c9, xc15, xc16, xc17, xc18, xc19, xc20, xc21, xc22, c9, c9, c9, xc70, c9, xc71, xc72, xc73, xc74, xc75, xc76, xc77, xc78, c9, c9, c9, xc92, c9, xc93, xc94, xc95, xc96, xc97, xc98, xc99, xc100, c9, c9, c9, xc114, c9, xc115, xc116, xc117, xc118, xc119, xc120, xc121, xc122, c9, c9, xc125, c9, xc128, c9, xc131, c9, xc134, c9, xc24, xc26, xc28, c9, xc36, xc37, xc38, xc39, xc40, xc41, c9, xc45, xc46, c9, xc49, c9, xc54, xc55, xc56, c9, yc2, yc4, yc6, yc8, yc10, yc12, yc14, yc16, yc18, yc20, yc22, yc24, yc26, yc28, yc30, yc32, yc34, yc36, yc38, yc40] : List ClassId).getD (xpos g i) c9))
