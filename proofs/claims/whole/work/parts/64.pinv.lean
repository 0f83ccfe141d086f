/-! ===== the invariant ===== -/
def vEyes (E Wk : Nat → Int32) (lev cnt : Int32) (mwk mwt : Nat → Int32) : Prop :=
  (E 1 = lev ∧ ∃ n : Nat, 2 ≤ n ∧ n ≤ 16 ∧ lev = nI n) ∧ (E 5 = cnt ∧ ∃ j : Nat, 1 ≤ j ∧ j ≤ 63 ∧ cnt = nI j) ∧ (E 2 = mwt 0 ∧ E 3 = mwt 1 ∧ E 4 = mwt 2 ∧ ∀ k, k < 3 → ∃ j : Nat, j ≤ 10 ∧ mwt k = nI j) ∧ ∀ k, k < 27 → Wk k = mwk k
def vGrid (Gc : Nat → Int32) (side : Int32) : Prop := Gc 0 = side ∧ ∃ n : Nat, 2 ≤ n ∧ n ≤ 4 ∧ side = nI n
/-- one pair: the class keeps the lower first -/
def vPair (C m : Nat → Nat → Int32) (n p : Nat) : Prop := C 11 p = m 6 p ∧ ∃ a b : Nat, a < b ∧ b < n ∧ C 9 p = nI a ∧ C 10 p = nI b ∧ ((m 4 p = nI a ∧ m 5 p = nI b) ∨ (m 4 p = nI b ∧ m 5 p = nI a))
def vHouse (C m : Nat → Nat → Int32) : Prop := ∃ n q : Nat, n ≤ 12 ∧ q ≤ 20 ∧ (m 10 0 = nI n ∧ C 3 0 = nI n) ∧ (m 10 1 = nI q ∧ C 3 6 = nI q) ∧ (∀ k, k < 12 → C 4 k = m 0 k ∧ C 5 k = m 9 k ∧ C 6 k = m 1 k) ∧ (∀ k, k < 12 → sp_col (m 0 k) ∧ (m 9 k = 0 ∨ m 9 k = 1) ∧ (m 1 k = -1 ∨ ∃ j : Nat, j < 8 ∧ m 1 k = nI j)) ∧ (∀ k, k < 8 → C 7 k = m 2 k ∧ C 8 k = m 3 k) ∧ ∀ p, p < q → vPair C m n p
def vKept (C m : Nat → Nat → Int32) : Prop := vEyes (C 1) (C 2) (m 10 2) (m 10 3) (m 7) (m 8) ∧ vGrid (C 12) (m 10 4) ∧ vHouse C m
def mv (M : xM) : Nat → Nat → Int32 := fun a => match a with
  | 0 => M 9 6 | 1 => M 9 8 | 2 => M 9 9 | 3 => M 9 10 | 4 => M 9 11 | 5 => M 9 12 | 6 => M 9 13 | 7 => M 9 4 | 8 => M 9 5 | 9 => M 9 7
  | _ => fun k => match k with
    | 0 => M 9 0 9 | 1 => M 9 0 10 | 2 => M 9 0 5 | 3 => M 9 0 6 | _ => M 9 0 7
def iv (M : xM) (b : Nat) : Nat → Nat → Int32 := fun a => match a with
  | 0 => fun j => M 9 20 (b + j) | 1 => fun j => M 9 20 (b + 12 + j) | 2 => fun j => M 9 20 (b + 24 + j) | 3 => fun j => M 9 20 (b + 32 + j) | 4 => fun j => M 9 20 (b + 40 + j) | 5 => fun j => M 9 20 (b + 60 + j) | 6 => fun j => M 9 20 (b + 80 + j) | 7 => fun j => M 9 20 (b + 100 + j) | 8 => fun j => M 9 20 (b + 127 + j) | 9 => fun j => M 9 20 (b + 130 + j)
  | _ => fun j => M 9 20 (b + 142 + j)
def vImage (C m : Nat → Nat → Int32) (a b : Int32) : Prop := a = b ∧ (b = 0 ∨ (b = 1 ∧ vKept C m))
def vSheet (K N : Nat → Int32) (sort len : Int32) (row : Nat → Int32) : Prop := K 2 = len ∧ (len = -1 ∨ (K 1 = sort ∧ ∃ n : Nat, n ≤ 60 ∧ len = nI n)) ∧ ∀ j, j < 60 → N j = row j
def vChosen (M : xM) : Prop := ∃ n : Nat, n ≤ 5 ∧ M 8 4 6 = nI n ∧ M 9 0 23 = nI n ∧ ∀ k, k < n → M 8 10 k = M 9 17 k
def vRamp (M : xM) : Prop := ∃ n : Nat, n ≤ 12 ∧ M 8 14 1 = nI n ∧ M 9 0 25 = nI n ∧ ∀ k, k < n → M 8 15 k = M 9 18 k ∧ sp_col (M 9 18 k)
def xInv (M : xM) : Prop := M 8 0 8 = M 9 0 0 ∧ vKept (M 0) (mv M) ∧ (vImage (M 1) (iv M 0) (M 8 2 0) (M 9 19 0) ∧ vImage (M 2) (iv M 200) (M 8 2 1) (M 9 19 1) ∧ vImage (M 3) (iv M 400) (M 8 2 2) (M 9 19 2)) ∧ vChosen M ∧ M 8 11 2 = M 9 0 24 ∧ vRamp M ∧
  (vSheet (M 4 0) (M 4 1) (M 9 1 0) (M 9 2 0) (fun j => M 9 3 j) ∧ vSheet (M 5 0) (M 5 1) (M 9 1 1) (M 9 2 1) (fun j => M 9 3 (60 + j)) ∧ vSheet (M 6 0) (M 6 1) (M 9 1 2) (M 9 2 2) (fun j => M 9 3 (120 + j)) ∧ vSheet (M 7 0) (M 7 1) (M 9 1 3) (M 9 2 3) (fun j => M 9 3 (180 + j)))
theorem inv0 : xInv xM0 := by
  have hk : vKept (xM0 0) (mv xM0) := by
    refine ⟨⟨⟨rfl, 5, by omega, by omega, rfl⟩, ⟨rfl, 1, by omega, by omega, rfl⟩, ⟨rfl, rfl, rfl, fun k hk => ?_⟩, fun k hk => ?_⟩, ⟨rfl, 3, by omega, by omega, rfl⟩, ?_⟩
    · rcases (show k = 0 ∨ k = 1 ∨ k = 2 by omega) with rfl | rfl | rfl <;> exact ⟨1, by omega, rfl⟩
    · have h : ∀ k, k < 27 → xM0 0 2 k = xM0 9 4 k := by decide +kernel
      exact h k hk
    · refine ⟨0, 0, by omega, by omega, ⟨rfl, rfl⟩, ⟨rfl, rfl⟩, fun k hk => ⟨rfl, rfl, rfl⟩, fun k hk => ⟨⟨show (0 : Int32) ≤ 0 by decide, show (0 : Int32) ≤ 16777215 by decide⟩, Or.inl rfl, Or.inr ⟨0, by omega, rfl⟩⟩, fun k hk => ?_, fun p hp => absurd hp (by omega)⟩
      have h : ∀ k, k < 8 → xM0 0 7 k = xM0 9 9 k ∧ xM0 0 8 k = xM0 9 10 k := by decide +kernel
      exact h k hk
  exact ⟨rfl, hk, ⟨⟨rfl, Or.inl rfl⟩, ⟨rfl, Or.inl rfl⟩, ⟨rfl, Or.inl rfl⟩⟩, ⟨0, by omega, rfl, rfl, fun k hk => absurd hk (by omega)⟩, rfl, ⟨0, by omega, rfl, rfl, fun k hk => absurd hk (by omega)⟩, ⟨rfl, Or.inl rfl, fun _ _ => rfl⟩, ⟨rfl, Or.inl rfl, fun _ _ => rfl⟩, ⟨rfl, Or.inl rfl, fun _ _ => rfl⟩, ⟨rfl, Or.inl rfl, fun _ _ => rfl⟩⟩
theorem vKept.e {M : xM} (h : vKept (M 0) (mv M)) : ∃ e : xE, eyOk e ∧ eyC M e ∧ eyM M e := by
  obtain ⟨⟨⟨h1, n, n1, n2, h2⟩, ⟨h3, j, j1, j2, h4⟩, ⟨h5, h6, h7, h8⟩, h9⟩, -, -⟩ := h
  refine ⟨(n, M 9 4, M 9 5, M 9 0 6), ⟨n1, n2, h8, j, j1, j2, h4⟩, ⟨h1.trans h2, h9, h5, h6, h7, h3⟩, ⟨h2, rfl, rfl, rfl⟩⟩
theorem rng3 {a lo hi : Int32} {A : Prop} {B : xM → Prop} {M : xM} : xj (fun (J : xM → Prop) => ((a < lo) → (J M)) ∧ ((¬ a < lo) → (((a ≤ hi) → A) ∧ ((¬ a ≤ hi) → (J M))))) B ↔ ((lo ≤ a ∧ a ≤ hi) → A) ∧ (¬ (lo ≤ a ∧ a ≤ hi) → B M) := by
  unfold xj
  constructor
  · intro h
    refine ⟨fun q => (h.2 (by have := q.1; simp only [ilt, ile] at *; omega)).1 q.2, fun q => ?_⟩
    by_cases h1 : a < lo
    · exact h.1 h1
    · exact (h.2 h1).2 (fun h2 => q ⟨by simp only [ilt, ile] at *; omega, h2⟩)
  · intro h
    refine ⟨fun q => h.2 (fun z => by have := z.1; simp only [ilt, ile] at *; omega), fun q => ⟨fun q2 => h.1 ⟨by simp only [ilt, ile] at *; omega, q2⟩, fun q2 => h.2 (fun z => q2 z.2)⟩⟩
/-! the same, goal first -/
theorem i_in {a lo hi : Int32} {M : xM} {post : Int32 → xM → Prop} (h : post (b2 (lo ≤ a ∧ a ≤ hi)) M) : xw_Mo_in a lo hi M post := (w_Mo_in _ _ _ _ _).mpr h
theorem i_ends {a : Int32} {M : xM} {post : Int32 → xM → Prop} (h : post a (us M 9 0 0 (if a < 0 then a else 0))) : xw_Mo_ends a M post := (w_Mo_ends _ _ _).mpr h
theorem i_ok {a : Int32} {M : xM} {post : Int32 → xM → Prop} (ha : ∃ n : Nat, n < 2147483648 ∧ a = nI n) (h : post a (us M 9 0 0 0)) : xw_Mo_ends a M post := by
  obtain ⟨n, hn, rfl⟩ := ha
  refine i_ends ?_
  rw [if_neg (nI_pos hn)]
  exact h
theorem i_taken {a : Int32} {M : xM} {post : Int32 → xM → Prop} (h : post a (us M 8 0 8 0)) : xw_CA_taken a M post := h
theorem i_refd {a : Int32} {M : xM} {post : Int32 → xM → Prop} (h : post a (us M 8 0 8 a)) : xw_CA_refused a M post := h
theorem i_colC {c : Int32} {M : xM} {post : Int32 → xM → Prop} (h : post (b2 (0 ≤ c ∧ c ≤ 16777215)) M) : xw_Rg_isColour c M post := (w_Rg_isColour _ _ _).mpr h
theorem i_colM {c : Int32} {M : xM} {post : Int32 → xM → Prop} (h : post (b2 (0 ≤ c ∧ c ≤ 16777215)) M) : xw_Mo_isColour c M post := (w_Mo_isColour _ _ _).mpr h
theorem i_sigC {c : Int32} {M : xM} {post : Int32 → xM → Prop} (h : post (b2 (0 ≤ c ∧ c ≤ 5)) M) : xw_CA_isSight c M post := (w_CA_isSight _ _ _).mpr h
theorem i_sigM {c : Int32} {M : xM} {post : Int32 → xM → Prop} (h : post (b2 (0 ≤ c ∧ c ≤ 5)) M) : xw_Mo_isSight c M post := (w_Mo_isSight _ _ _).mpr h
theorem i_ltC {c : Int32} {M : xM} {post : Int32 → xM → Prop} (h : post (sp_lt c) M) : xw_Rg_lightOf c M post := (w_Rg_lightOf _ _ _).mpr h
theorem i_ltM {c : Int32} {M : xM} {post : Int32 → xM → Prop} (h : post (sp_lt c) M) : xw_Mo_lightOf c M post := (w_Mo_lightOf _ _ _).mpr h
theorem i_wt {c : Int32} {M : xM} {post : Int32 → xM → Prop} (h : post (b2 (0 ≤ c ∧ c ≤ 10)) M) : xw_Ey_isWeight c M post := (w_Ey_isWeight _ _ _).mpr h
/-- a test, both ways -/
theorem br {p : Prop} [Decidable p] {A B : Prop} (h1 : p → A) (h2 : ¬ p → B) : ((¬ b2 p = 0) → A) ∧ ((b2 p = 0) → B) := ⟨fun q => h1 (b2_ne.mp q), fun q => h2 (b2_eq.mp q)⟩
theorem br' {p : Prop} [Decidable p] {A B : Prop} (h1 : p → A) (h2 : ¬ p → B) : ((b2 p = 0) → B) ∧ ((¬ b2 p = 0) → A) := ⟨fun q => h2 (b2_eq.mp q), fun q => h1 (b2_ne.mp q)⟩
/-- a refused call changes the status alone -/
theorem fin_ref {M : xM} {v : Int32} (hv : v < 0) (h : xInv M) : xInv (us (us M 8 0 8 v) 9 0 0 (if v < 0 then v else 0)) := by
  rw [if_pos hv]
  exact ⟨rfl, h.2⟩
theorem ref_Mo {M : xM} {v : Int32} (hv : v < 0) (h : xInv M) {r : Int32} (hr : r = v) : xw_Mo_ends v (us M 8 0 8 v) (fun q M2 => r = q ∧ xInv M2) := by
  rw [w_Mo_ends]
  exact ⟨hr, fin_ref hv h⟩
theorem op_status : ∀ (M : xM), xInv M → xw_CA_status M (fun r M1 => xw_Mo_status M1 (fun q M2 => r = q ∧ xInv M2)) := fun _ h => ⟨h.1, h⟩
theorem op_stuck : ∀ (M : xM), xInv M → xw_CA_stuck M (fun r M1 => xw_Mo_stuck M1 (fun q M2 => r = q ∧ xInv M2)) := by
  intro M h
  have e := h.2.2.2.2.1
  unfold xw_CA_stuck xw_Mo_stuck
  rw [e]
  exact ⟨fun q => ⟨fun _ => ⟨rfl, h⟩, fun z => absurd q z⟩, fun q => ⟨fun z => absurd z q, fun _ => ⟨rfl, h⟩⟩⟩
theorem nIr {a lo hi : Int32} {l h : Nat} (hl : lo.toInt = l) (hh : hi.toInt = h) (ha : lo ≤ a ∧ a ≤ hi) : ∃ n : Nat, l ≤ n ∧ n ≤ h ∧ a = nI n := by
  have h1 := ha.1
  have h2 := ha.2
  rw [ile] at h1 h2
  have hr := irng a
  refine ⟨a.toInt.toNat, by omega, by omega, ?_⟩
  rw [ieq, nI_toInt (by omega)]
  omega
theorem op_levels : ∀ (M : xM) (a : Int32), xInv M → xw_CA_levels a M (fun r M1 => xw_Mo_levels a M1 (fun q M2 => r = q ∧ xInv M2)) := by
  intro M a hI
  unfold xw_CA_levels
  refine rng3.mpr ⟨fun h => i_taken ?_, fun h => i_refd ?_⟩
  · refine i_in (br (fun _ => ?_) (fun q => absurd h q))
    obtain ⟨h0, ⟨⟨⟨h1, n, n1, n2, h2⟩, h3⟩, h4, h5⟩, h6⟩ := hI
    obtain ⟨j, j1, j2, ej⟩ := nIr (l := 2) (h := 16) rfl rfl h
    exact i_ok ⟨n, by omega, h2⟩ ⟨h1, rfl, ⟨⟨⟨rfl, j, j1, j2, ej⟩, h3⟩, h4, h5⟩, h6⟩
  · exact i_in (br (fun q => absurd q h) (fun _ => ref_Mo (by decide) hI rfl))
theorem op_grid : ∀ (M : xM) (a : Int32), xInv M → xw_CA_grid a M (fun r M1 => xw_Mo_grid a M1 (fun q M2 => r = q ∧ xInv M2)) := by
  intro M a hI
  unfold xw_CA_grid
  refine rng3.mpr ⟨fun h => i_taken ?_, fun h => i_refd ?_⟩
  · refine i_in (br (fun _ => ?_) (fun q => absurd h q))
    obtain ⟨h0, ⟨h3, ⟨h1, n, n1, n2, h2⟩, h5⟩, h6⟩ := hI
    obtain ⟨j, j1, j2, ej⟩ := nIr (l := 2) (h := 4) rfl rfl h
    exact i_ok ⟨n, by omega, h2⟩ ⟨h1, rfl, ⟨h3, ⟨rfl, j, j1, j2, ej⟩, h5⟩, h6⟩
  · exact i_in (br (fun q => absurd q h) (fun _ => ref_Mo (by decide) hI rfl))
theorem op_sights : ∀ (M : xM) (a : Int32), xInv M → xw_CA_sights a M (fun r M1 => xw_Mo_sights a M1 (fun q M2 => r = q ∧ xInv M2)) := by
  intro M a hI
  unfold xw_CA_sights
  have e64 : a < (64 : Int32) ↔ a ≤ 63 := by
    rw [ilt, ile, show (64 : Int32).toInt = 64 from rfl, show (63 : Int32).toInt = 63 from rfl]; omega
  rw [e64]
  refine rng3.mpr ⟨fun h => i_taken ?_, fun h => i_refd ?_⟩
  · refine i_in (br (fun _ => ?_) (fun q => absurd h q))
    obtain ⟨h0, ⟨⟨h1, ⟨h2, n, n1, n2, h3⟩, h4⟩, h5⟩, h6⟩ := hI
    obtain ⟨j, j1, j2, ej⟩ := nIr (l := 1) (h := 63) rfl rfl h
    exact i_ok ⟨n, by omega, h3⟩ ⟨h2, rfl, ⟨⟨h1, ⟨rfl, j, j1, j2, ej⟩, h4⟩, h5⟩, h6⟩
  · exact i_in (br (fun q => absurd q h) (fun _ => ref_Mo (by decide) hI rfl))
theorem op_weights : ∀ (M : xM) (a b c : Int32), xInv M → xw_CA_weights a b c M (fun r M1 => xw_Mo_weights a b c M1 (fun q M2 => r = q ∧ xInv M2)) := by
  intro M a b c hI
  have bad : (¬ (0 ≤ a ∧ a ≤ 10) ∨ ¬ (0 ≤ b ∧ b ≤ 10) ∨ ¬ (0 ≤ c ∧ c ≤ 10)) → xw_Mo_weights a b c (us M 8 0 8 (-1)) (fun q M2 => (-1 : Int32) = q ∧ xInv M2) := by
    intro hz
    unfold xw_Mo_weights xj
    refine i_in (br' (fun q1 => i_in (br' (fun q2 => i_in (br (fun q3 => ?_) (fun _ => ?_))) (fun _ => ?_))) (fun _ => ?_))
    · rcases hz with z | z | z
      · exact absurd q1 z
      · exact absurd q2 z
      · exact absurd q3 z
    · exact ref_Mo (by decide) hI rfl
    · exact ref_Mo (by decide) hI rfl
    · exact ref_Mo (by decide) hI rfl
  unfold xw_CA_weights xj
  refine i_wt (br' (fun q1 => i_wt (br' (fun q2 => i_wt (br (fun q3 => i_taken ?_) (fun q => i_refd (bad (Or.inr (Or.inr q)))))) (fun q => i_refd (bad (Or.inr (Or.inl q)))))) (fun q => i_refd (bad (Or.inl q))))
  unfold xw_Mo_weights xj
  refine i_in (br' (fun _ => i_in (br' (fun _ => i_in (br (fun _ => ?_) (fun q => absurd q3 q))) (fun q => absurd q2 q))) (fun q => absurd q1 q))
  obtain ⟨h0, ⟨⟨h1, h2, h3, h4⟩, h5⟩, h6⟩ := hI
  obtain ⟨ja, -, ja2, ea⟩ := nIr (l := 0) (h := 10) rfl rfl q1
  obtain ⟨jb, -, jb2, eb⟩ := nIr (l := 0) (h := 10) rfl rfl q2
  obtain ⟨jc, -, jc2, ec⟩ := nIr (l := 0) (h := 10) rfl rfl q3
  refine i_ok ⟨0, by omega, rfl⟩ ⟨rfl, rfl, ⟨⟨h1, h2, ⟨rfl, rfl, rfl, fun k hk => ?_⟩, h4⟩, h5⟩, h6⟩
  rcases (show k = 0 ∨ k = 1 ∨ k = 2 by omega) with rfl | rfl | rfl
  · exact ⟨ja, ja2, ea⟩
  · exact ⟨jb, jb2, eb⟩
  · exact ⟨jc, jc2, ec⟩
theorem op_light : ∀ (M : xM) (a : Int32), xInv M → xw_CA_light a M (fun r M1 => xw_Mo_light a M1 (fun q M2 => r = q ∧ xInv M2)) := by
  intro M a hI
  exact i_colC (br' (fun h => i_ltC (i_colM (br' (fun _ => i_ltM ⟨rfl, hI⟩) (fun q => absurd h q)))) (fun h => i_colM (br' (fun q => absurd q h) (fun _ => ⟨rfl, hI⟩))))
theorem op_seen : ∀ (M : xM) (a b : Int32), xInv M → xw_CA_seen a b M (fun r M1 => xw_Mo_seen a b M1 (fun q M2 => r = q ∧ xInv M2)) := by
  intro M a b hI
  obtain ⟨e, ok, eC, eM⟩ := hI.2.1.e
  refine i_sigC (br' (fun h1 => i_colC (br' (fun h2 => ?_) (fun h2 => ?_))) (fun h1 => ?_))
  · obtain ⟨s, -, hs, rfl⟩ := nIr (l := 0) (h := 5) rfl rfl h1
    refine p_look ok eC hs h2 ?_
    refine i_sigM (br' (fun _ => i_colM (br' (fun _ => ?_) (fun q => absurd h2 q))) (fun q => absurd h1 q))
    refine p_Mo_seenOf hs ok.1 ok.2.1 eM.1 ⟨?_, hI⟩
    rw [eM.2.1]; rfl
  · exact i_sigM (br' (fun _ => i_colM (br' (fun q => absurd q h2) (fun _ => ⟨rfl, hI⟩))) (fun q => absurd h1 q))
  · exact i_sigM (br' (fun q => absurd q h1) (fun _ => ⟨rfl, hI⟩))
theorem op_distance : ∀ (M : xM) (a b c : Int32), xInv M → xw_CA_distance a b c M (fun r M1 => xw_Mo_distance a b c M1 (fun q M2 => r = q ∧ xInv M2)) := by
  intro M a b c hI
  obtain ⟨e, ok, eC, eM⟩ := hI.2.1.e
  refine i_sigC (br' (fun h1 => i_colC (br' (fun h2 => i_colC (br (fun h3 => ?_) (fun h3 => ?_))) (fun h2 => ?_))) (fun h1 => ?_))
  · obtain ⟨s, -, hs, rfl⟩ := nIr (l := 0) (h := 5) rfl rfl h1
    refine p_look ok eC hs h2 (p_look ok eC hs h3 (p_weighed ok eC ?_))
    exact i_sigM (br' (fun _ => i_colM (br' (fun _ => i_colM (br' (fun _ => p_Mo_dist ok eM hs ⟨rfl, hI⟩) (fun q => absurd h3 q))) (fun q => absurd h2 q))) (fun q => absurd h1 q))
  · exact i_sigM (br' (fun _ => i_colM (br' (fun _ => i_colM (br' (fun q => absurd q h3) (fun _ => ⟨rfl, hI⟩))) (fun q => absurd h2 q))) (fun q => absurd h1 q))
  · exact i_sigM (br' (fun _ => i_colM (br' (fun q => absurd q h2) (fun _ => ⟨rfl, hI⟩))) (fun q => absurd h1 q))
  · exact i_sigM (br' (fun q => absurd q h1) (fun _ => ⟨rfl, hI⟩))
theorem op_apart : ∀ (M : xM) (a b : Int32), xInv M → xw_CA_apart a b M (fun r M1 => xw_Mo_apart a b M1 (fun q M2 => r = q ∧ xInv M2)) := by
  intro M a b hI
  obtain ⟨e, ok, eC, eM⟩ := hI.2.1.e
  refine i_colC (br' (fun h1 => i_colC (br' (fun h2 => ?_) (fun h2 => ?_))) (fun h1 => ?_))
  · refine p_leastDistance ok eC h1 h2 ?_
    exact i_colM (br' (fun _ => i_colM (br' (fun _ => p_Mo_apartOf ok eM ⟨rfl, hI⟩) (fun q => absurd h2 q))) (fun q => absurd h1 q))
  · exact i_colM (br' (fun _ => i_colM (br' (fun q => absurd q h2) (fun _ => ⟨rfl, hI⟩))) (fun q => absurd h1 q))
  · exact i_colM (br' (fun q => absurd q h1) (fun _ => ⟨rfl, hI⟩))
/-- a place k of n, asked by the class (below n) and by the model (at most n - 1) -/
theorem ix_cases (a : Int32) {n : Nat} (hn : n < 1000) : (a < 0 ∧ ¬ (0 ≤ a ∧ a ≤ nI n - 1)) ∨ (¬ a < 0 ∧ nI n ≤ a ∧ ¬ (0 ≤ a ∧ a ≤ nI n - 1)) ∨ (∃ k : Nat, k < n ∧ a = nI k ∧ ¬ nI k < 0 ∧ ¬ nI n ≤ nI k ∧ (0 ≤ nI k ∧ nI k ≤ nI n - 1)) := by
  have e : (nI n - 1).toInt = (n : Int) - 1 := by
    rw [show (1 : Int32) = nI 1 from rfl]; exact pk_sub_toInt (by omega) (by omega)
  have en := nI_toInt (n := n) (by omega)
  by_cases h1 : a < 0
  · refine Or.inl ⟨h1, fun q => ?_⟩
    have := q.1; simp only [ilt, ile] at *; omega
  · by_cases h2 : nI n ≤ a
    · refine Or.inr (Or.inl ⟨h1, h2, fun q => ?_⟩)
      have := q.2; simp only [ile, e, en] at *; omega
    · obtain ⟨k, hk, rfl⟩ := nI_of h1
      have hkn : k < n := by
        rcases Nat.lt_or_ge k n with z | z
        · exact z
        · exact absurd (nI_le z hk) h2
      refine Or.inr (Or.inr ⟨k, hkn, rfl, h1, h2, nI_pos' hk, ?_⟩)
      rw [ile, e, nI_toInt hk]; omega
theorem op_chosen : ∀ (M : xM) (a : Int32), xInv M → xw_CA_chosen a M (fun r M1 => xw_Mo_chosen a M1 (fun q M2 => r = q ∧ xInv M2)) := by
  intro M a hI
  obtain ⟨n, hn, h1, h2, h3⟩ := hI.2.2.2.1
  unfold xw_CA_chosen xw_Ch_placeAt xw_Mo_chosen
  rw [h1]
  rcases ix_cases a (n := n) (by omega) with ⟨q1, q2⟩ | ⟨q1, q2, q3⟩ | ⟨k, hk, rfl, q1, q2, q3⟩
  · refine ⟨fun _ => i_in (br' (fun z => absurd (h2 ▸ z) q2) (fun _ => ⟨rfl, hI⟩)), fun z => absurd q1 z⟩
  · refine ⟨fun z => absurd z q1, fun _ => ⟨fun _ => i_in (br' (fun z => absurd (h2 ▸ z) q3) (fun _ => ⟨rfl, hI⟩)), fun z => absurd q2 z⟩⟩
  · refine ⟨fun z => absurd z q1, fun _ => ⟨fun z => absurd z q2, fun _ => ⟨vp_in_nI (by omega) (by omega), i_in (br' (fun _ => ⟨vp_in_nI (by omega) (by omega), ?_, hI⟩) (fun z => absurd (h2 ▸ q3) z))⟩⟩⟩
    rw [nI_clamp (by omega)]
    exact h3 k hk
theorem op_step : ∀ (M : xM) (a : Int32), xInv M → xw_CA_step a M (fun r M1 => xw_Mo_step a M1 (fun q M2 => r = q ∧ xInv M2)) := by
  intro M a hI
  obtain ⟨n, hn, h1, h2, h3⟩ := hI.2.2.2.2.2.1
  unfold xw_CA_step xw_Ra_colourAt xw_Mo_step
  rw [h1]
  rcases ix_cases a (n := n) (by omega) with ⟨q1, q2⟩ | ⟨q1, q2, q3⟩ | ⟨k, hk, rfl, q1, q2, q3⟩
  · refine ⟨fun _ => i_in (br' (fun z => absurd (h2 ▸ z) q2) (fun _ => ⟨rfl, hI⟩)), fun z => absurd q1 z⟩
  · refine ⟨fun z => absurd z q1, fun _ => ⟨fun _ => i_in (br' (fun z => absurd (h2 ▸ z) q3) (fun _ => ⟨rfl, hI⟩)), fun z => absurd q2 z⟩⟩
  · refine ⟨fun z => absurd z q1, fun _ => ⟨fun z => absurd z q2, fun _ => ⟨vp_in_nI (by omega) (by omega), i_in (br' (fun _ => ⟨vp_in_nI (by omega) (by omega), ?_, hI⟩) (fun z => absurd (h2 ▸ q3) z))⟩⟩⟩
    rw [nI_clamp (by omega)]
    exact (h3 k hk).1
