def xM0K (i : Nat) : Nat → Int32 := match i with
  | 0 => (fun k => ([0, 0, 0] : List Int32).getD k 0)
  | 1 => (fun k => ([0, (5 : Int32), (1 : Int32), (1 : Int32), (1 : Int32), (1 : Int32)] : List Int32).getD k 0)
  | 2 => (upd (upd (upd (upd (upd (upd (upd (upd (upd (fun _ => 0) 0 (1000 : Int32)) 4 (1000 : Int32)) 8 (1000 : Int32)) 9 (1000 : Int32)) 13 (1000 : Int32)) 17 (1000 : Int32)) 18 (1000 : Int32)) 22 (1000 : Int32)) 26 (1000 : Int32))
  | 3 => (fun k => ([(0 : Int32), 0, 0, 0, 0, 0, (0 : Int32), 0, 0, 0] : List Int32).getD k 0)
  | 4 => (fun _ => 0)
  | 5 => (fun _ => 0)
  | 6 => (fun _ => 0)
  | 7 => (fun _ => 0)
  | 8 => (upd (upd (upd (upd (upd (upd (upd (upd (fun _ => 0) 0 (16777215 : Int32)) 1 (16777215 : Int32)) 2 (16777215 : Int32)) 3 (16777215 : Int32)) 4 (16777215 : Int32)) 5 (16777215 : Int32)) 6 (16777215 : Int32)) 7 (16777215 : Int32))
  | 9 => (fun _ => 0)
  | 10 => (fun _ => 0)
  | 11 => (fun _ => 0)
  | 12 => (fun k => ([(3 : Int32)] : List Int32).getD k 0)
  | _ => fun _ => 0
def xM0S (i : Nat) : Nat → Int32 := match i with
  | 0 => (fun k => ([0, (2 : Int32), (-1 : Int32)] : List Int32).getD k 0)
  | 1 => (fun _ => 0)
  | _ => fun _ => 0
def xM0C (i : Nat) : Nat → Int32 := match i with
  | 0 => (fun k => ([0, 0, 0, 0, 0, 0, 0, 0, (0 : Int32)] : List Int32).getD k 0)
  | 1 => (fun _ => 0)
  | 2 => (fun _ => 0)
  | 3 => (fun _ => 0)
  | 4 => (fun k => ([0, 0, 0, 0, 0, 0, (0 : Int32), (0 : Int32), (-1 : Int32)] : List Int32).getD k 0)
  | 5 => (fun _ => 0)
  | 6 => (fun _ => 0)
  | 7 => (fun _ => 0)
  | 8 => (fun _ => 0)
  | 9 => (fun _ => 0)
  | 10 => (fun _ => 0)
  | 11 => (fun k => ([0, 0, (0 : Int32)] : List Int32).getD k 0)
  | 12 => (fun _ => 0)
  | 13 => (fun _ => 0)
  | 14 => (fun k => ([0, (0 : Int32)] : List Int32).getD k 0)
  | 15 => (fun _ => 0)
  | 16 => (fun k => ([0, 0, 0] : List Int32).getD k 0)
  | 17 => (fun _ => 0)
  | 18 => (fun _ => 0)
  | 19 => (fun _ => 0)
  | _ => fun _ => 0
def xM0M (i : Nat) : Nat → Int32 := match i with
  | 0 => (fun k => ([0, 0, 0, 0, 0, (5 : Int32), (1 : Int32), (3 : Int32), 0, 0, 0, 0, 0, 0, 0, 0, 0, 0, 0, 0, 0, 0, 0, 0, 0, 0, 0, 0, 0, 0] : List Int32).getD k 0)
  | 1 => (fun _ => 0)
  | 2 => (upd (upd (upd (upd (fun _ => 0) 0 (-1 : Int32)) 1 (-1 : Int32)) 2 (-1 : Int32)) 3 (-1 : Int32))
  | 3 => (fun _ => 0)
  | 4 => (upd (upd (upd (upd (upd (upd (upd (upd (upd (upd (upd (upd (upd (upd (upd (upd (upd (upd (upd (upd (upd (upd (upd (upd (upd (upd (upd (fun _ => 0) 0 (1000 : Int32)) 1 (0 : Int32)) 2 (0 : Int32)) 3 (0 : Int32)) 4 (1000 : Int32)) 5 (0 : Int32)) 6 (0 : Int32)) 7 (0 : Int32)) 8 (1000 : Int32)) 9 (1000 : Int32)) 10 (0 : Int32)) 11 (0 : Int32)) 12 (0 : Int32)) 13 (1000 : Int32)) 14 (0 : Int32)) 15 (0 : Int32)) 16 (0 : Int32)) 17 (1000 : Int32)) 18 (1000 : Int32)) 19 (0 : Int32)) 20 (0 : Int32)) 21 (0 : Int32)) 22 (1000 : Int32)) 23 (0 : Int32)) 24 (0 : Int32)) 25 (0 : Int32)) 26 (1000 : Int32))
  | 5 => (upd (upd (upd (fun _ => 0) 0 (1 : Int32)) 1 (1 : Int32)) 2 (1 : Int32))
  | 6 => (fun _ => 0)
  | 7 => (fun _ => 0)
  | 8 => (fun _ => 0)
  | 9 => (fun _ => 0)
  | 10 => (upd (upd (upd (upd (upd (upd (upd (upd (fun _ => 0) 0 (16777215 : Int32)) 1 (16777215 : Int32)) 2 (16777215 : Int32)) 3 (16777215 : Int32)) 4 (16777215 : Int32)) 5 (16777215 : Int32)) 6 (16777215 : Int32)) 7 (16777215 : Int32))
  | 11 => (fun _ => 0)
  | 12 => (fun _ => 0)
  | 13 => (fun _ => 0)
  | 14 => (fun _ => 0)
  | 15 => (fun _ => 0)
  | 16 => (fun _ => 0)
  | 17 => (fun _ => 0)
  | 18 => (fun _ => 0)
  | 19 => (fun _ => 0)
  | 20 => (fun _ => 0)
  | _ => fun _ => 0
def xM0 : xM := fun g i => if g < 4 then xM0K i else if g < 8 then xM0S i else if g = 8 then xM0C i else if g = 9 then xM0M i else fun _ => 0
def xpos (g i : Nat) : Nat := if g < 4 then 13 * g + i else if g < 8 then 52 + 2 * (g - 4) + i else if g = 8 then 60 + i else 80 + i
theorem xlayK_lt {g : Nat} {i : Nat} {L : xL} (h : xlayK g i = some L) : i < 13 := by
  rcases Nat.lt_or_ge i 13 with q | q
  · exact q
  · obtain ⟨j, rfl⟩ : ∃ j, i = j + 13 := ⟨i - 13, by omega⟩
    exact absurd h (by intro h; cases h)
theorem xlayS_lt {g : Nat} {i : Nat} {L : xL} (h : xlayS g i = some L) : i < 2 := by
  rcases Nat.lt_or_ge i 2 with q | q
  · exact q
  · obtain ⟨j, rfl⟩ : ∃ j, i = j + 2 := ⟨i - 2, by omega⟩
    exact absurd h (by intro h; cases h)
theorem xlayC_lt {i : Nat} {L : xL} (h : xlayC i = some L) : i < 20 := by
  rcases Nat.lt_or_ge i 20 with q | q
  · exact q
  · obtain ⟨j, rfl⟩ : ∃ j, i = j + 20 := ⟨i - 20, by omega⟩
    exact absurd h (by intro h; cases h)
theorem xlayM_lt {i : Nat} {L : xL} (h : xlayM i = some L) : i < 21 := by
  rcases Nat.lt_or_ge i 21 with q | q
  · exact q
  · obtain ⟨j, rfl⟩ : ∃ j, i = j + 21 := ⟨i - 21, by omega⟩
    exact absurd h (by intro h; cases h)
theorem xlay_cases {g i : Nat} {L : xL} (h : xlay g i = some L) : (g < 4 ∧ i < 13) ∨ (4 ≤ g ∧ g < 8 ∧ i < 2) ∨ (g = 8 ∧ i < 20) ∨ (g = 9 ∧ i < 21) := by
  unfold xlay at h
  by_cases h1 : g < 4
  · rw [if_pos h1] at h; exact Or.inl ⟨h1, xlayK_lt h⟩
  · rw [if_neg h1] at h
    by_cases h2 : g < 8
    · rw [if_pos h2] at h; exact Or.inr (Or.inl ⟨by omega, h2, xlayS_lt h⟩)
    · rw [if_neg h2] at h
      by_cases h3 : g = 8
      · rw [if_pos h3] at h; exact Or.inr (Or.inr (Or.inl ⟨h3, xlayC_lt h⟩))
      · rw [if_neg h3] at h
        by_cases h4 : g = 9
        · rw [if_pos h4] at h; exact Or.inr (Or.inr (Or.inr ⟨h4, xlayM_lt h⟩))
        · rw [if_neg h4] at h; cases h
theorem xpos_lt {g i : Nat} {L : xL} (h : xlay g i = some L) : xpos g i < 101 := by
  unfold xpos
  rcases xlay_cases h with ⟨h1, h2⟩ | ⟨h1, h2, h3⟩ | ⟨rfl, h2⟩ | ⟨rfl, h2⟩
  · rw [if_pos h1]; omega
  · rw [if_neg (by omega), if_pos h2]; omega
  · rw [if_neg (by omega), if_neg (by omega), if_pos rfl]; omega
  · rw [if_neg (by omega), if_neg (by omega), if_neg (by omega)]; omega
theorem xpos_inj {g i g' i' : Nat} {L L' : xL} (h : xlay g i = some L) (h' : xlay g' i' = some L') (e : xpos g i = xpos g' i') : g = g' ∧ i = i' := by
  unfold xpos at e
  rcases xlay_cases h with ⟨h1, h2⟩ | ⟨h1, h2, h3⟩ | ⟨rfl, h2⟩ | ⟨rfl, h2⟩ <;> rcases xlay_cases h' with ⟨k1, k2⟩ | ⟨k1, k2, k3⟩ | ⟨rfl, k2⟩ | ⟨rfl, k2⟩ <;> (try simp only [if_pos h1] at e) <;> (try simp only [if_pos k1] at e) <;> (try simp only [if_neg (show ¬ g < 4 by omega), if_pos h2] at e) <;> (try simp only [if_neg (show ¬ g' < 4 by omega), if_pos k2] at e) <;> (try simp at e) <;> omega
def xGof (dC : Nat → ClassId) (dI : Nat → Nat → Nat) (c9 : ClassId) (x0 y0 : Nat) (xqf yqf : Nat → Nat) (xcf ycf : Nat → ClassId) : xG := ((fun g i => ([(xqf 0), (xqf 1), (xqf 2), (xqf 3), (xqf 4), (xqf 5), (xqf 6), (xqf 7), (xqf 8), (xqf 9), (xqf 10), (xqf 11), (xqf 12), (xqf 32), (xqf 33), (xqf 34), (xqf 35), (xqf 36), (xqf 37), (xqf 38), (xqf 39), (xqf 40), (xqf 41), (xqf 42), (xqf 43), (xqf 44), (xqf 45), (xqf 46), (xqf 47), (xqf 48), (xqf 49), (xqf 50), (xqf 51), (xqf 52), (xqf 53), (xqf 54), (xqf 55), (xqf 56), (xqf 57), (xqf 58), (xqf 59), (xqf 60), (xqf 61), (xqf 62), (xqf 63), (xqf 64), (xqf 65), (xqf 66), (xqf 67), (xqf 68), (xqf 69), (xqf 70), (xqf 71), (xqf 72), (xqf 73), (xqf 74), (xqf 75), (xqf 76), (xqf 77), (xqf 78), x0, (xqf 13), (xqf 14), (xqf 15), (xqf 16), (xqf 17), (xqf 18), (xqf 19), (xqf 20), (xqf 21), (xqf 22), (xqf 23), (xqf 24), (xqf 25), (xqf 26), (xqf 27), (xqf 28), (xqf 29), (xqf 30), (xqf 31), y0, (yqf 0), (yqf 1), (yqf 2), (yqf 3), (yqf 4), (yqf 5), (yqf 6), (yqf 7), (yqf 8), (yqf 9), (yqf 10), (yqf 11), (yqf 12), (yqf 13), (yqf 14), (yqf 15), (yqf 16), (yqf 17), (yqf 18), (yqf 19)] : List Nat).getD (xpos g i) 0), (dC, dI), (fun g i => ([c9, c9, (xcf 0), c9, (xcf 1), (xcf 2), (xcf 3), (xcf 4), (xcf 5), (xcf 6), (xcf 7), (xcf 8), c9, c9, c9, (xcf 24), c9, (xcf 25), (xcf 26), (xcf 27), (xcf 28), (xcf 29), (xcf 30), (xcf 31), (xcf 32), c9, c9, c9, (xcf 33), c9, (xcf 34), (xcf 35), (xcf 36), (xcf 37), (xcf 38), (xcf 39), (xcf 40), (xcf 41), c9, c9, c9, (xcf 42), c9, (xcf 43), (xcf 44), (xcf 45), (xcf 46), (xcf 47), (xcf 48), (xcf 49), (xcf 50), c9, c9, (xcf 51), c9, (xcf 52), c9, (xcf 53), c9, (xcf 54), c9, (xcf 9), (xcf 10), (xcf 11), c9, (xcf 12), (xcf 13), (xcf 14), (xcf 15), (xcf 16), (xcf 17), c9, (xcf 18), (xcf 19), c9, (xcf 20), c9, (xcf 21), (xcf 22), (xcf 23), c9, (ycf 0), (ycf 1), (ycf 2), (ycf 3), (ycf 4), (ycf 5), (ycf 6), (ycf 7), (ycf 8), (ycf 9), (ycf 10), (ycf 11), (ycf 12), (ycf 13), (ycf 14), (ycf 15), (ycf 16), (ycf 17), (ycf 18), (ycf 19)] : List ClassId).getD (xpos g i) c9))
