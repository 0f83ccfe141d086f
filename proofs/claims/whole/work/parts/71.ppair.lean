/-! ===== unmet, pair ===== -/
abbrev sp_met (a b c : Int32) : Prop := ¬ ((10 : Int32) * sp_br a b) < (c * sp_dk a b)
theorem sp_br_symm (a b : Int32) : sp_br a b = sp_br b a := by
  unfold sp_br
  by_cases h1 : sp_lt a ≤ sp_lt b
  · by_cases h2 : sp_lt b ≤ sp_lt a
    · have e : sp_lt a = sp_lt b := by rw [ieq]; rw [ile] at h1 h2; omega
      rw [e]
    · rw [if_pos h1, if_neg h2]
  · have h2 : sp_lt b ≤ sp_lt a := by rw [ile] at *; omega
    rw [if_neg h1, if_pos h2]
theorem sp_dk_symm (a b : Int32) : sp_dk a b = sp_dk b a := by
  unfold sp_dk
  by_cases h1 : sp_lt a ≤ sp_lt b
  · by_cases h2 : sp_lt b ≤ sp_lt a
    · have e : sp_lt a = sp_lt b := by rw [ieq]; rw [ile] at h1 h2; omega
      rw [e]
    · rw [if_pos h1, if_neg h2]
  · have h2 : sp_lt b ≤ sp_lt a := by rw [ile] at *; omega
    rw [if_neg h1, if_pos h2]
theorem sp_met_symm (a b c : Int32) : sp_met a b c ↔ sp_met b a c := by
  unfold sp_met
  rw [sp_br_symm, sp_dk_symm]
theorem p_isMet {a b c : Int32} {M : xM} {post : Int32 → xM → Prop} (h : post (b2 (sp_met a b c)) M) : xw_Mo_isMet a b c M post := by
  unfold xw_Mo_isMet
  refine w_brighter (w_darker ⟨fun z => ?_, fun z => ?_⟩)
  · rw [b2_f (fun w => w z)] at h; exact h
  · rw [b2_t z] at h; exact h
theorem p_reaches {a b c : Int32} {M : xM} {post : Int32 → xM → Prop} (h : post (b2 (sp_met a b c)) M) : xw_Rg_contrastReaches a b c M post := by
  unfold xw_Rg_contrastReaches
  refine i_ltC (i_ltC ?_)
  have pl : ∀ x y : Int32, (∃ i : Nat, i < 256 ∧ x = nI i) → (∃ j : Nat, j < 256 ∧ y = nI j) → (x + 13 ≤ y + 13 ↔ x ≤ y) := by
    rintro x y ⟨i, hi, rfl⟩ ⟨j, hj, rfl⟩
    rw [show (13 : Int32) = nI 13 from rfl, nI_add, nI_add, nI_leI (by omega) (by omega), nI_leI (by omega) (by omega)]
    omega
  have e1 : (if sp_lt a + 13 < sp_lt b + 13 then sp_lt b + 13 else sp_lt a + 13) = sp_br a b := by
    rw [sp_max]
    unfold sp_br
    by_cases h1 : sp_lt a ≤ sp_lt b
    · rw [if_pos h1, if_pos ((pl _ _ (sp_lt_nI a) (sp_lt_nI b)).mpr h1)]
    · rw [if_neg h1, if_neg (fun z => h1 ((pl _ _ (sp_lt_nI a) (sp_lt_nI b)).mp z))]
  have e2 : (if sp_lt b + 13 < sp_lt a + 13 then sp_lt b + 13 else sp_lt a + 13) = sp_dk a b := by
    rw [sp_min]
    unfold sp_dk
    by_cases h1 : sp_lt a ≤ sp_lt b
    · rw [if_pos h1, if_pos ((pl _ _ (sp_lt_nI a) (sp_lt_nI b)).mpr h1)]
    · rw [if_neg h1, if_neg (fun z => h1 ((pl _ _ (sp_lt_nI a) (sp_lt_nI b)).mp z))]
  rw [e1, e2]
  refine ⟨fun z => ?_, fun z => ?_⟩
  · rw [b2_f (fun w => w z)] at h; exact h
  · rw [b2_t z] at h; exact h
/-- pair p of the house is met -/
abbrev meC (M : xM) (p : Nat) : Prop := sp_met (M 0 4 (M 0 9 p).toNatClampNeg) (M 0 4 (M 0 10 p).toNatClampNeg) (M 0 11 p)
abbrev meM (M : xM) (p : Nat) : Prop := sp_met (M 9 6 (M 9 11 p).toNatClampNeg) (M 9 6 (M 9 12 p).toNatClampNeg) (M 9 13 p)
theorem p_unmetC {q : Nat} (hq : q ≤ 20) {M : xM} (hM : M 0 3 6 = nI q) (hp : ∀ p, p < q → vp_in (M 0 9 p) 12 ∧ vp_in (M 0 10 p) 12) {post : Int32 → xM → Prop} {k : Int32 → xM → Prop} : ∀ m j, j + m = q → (∀ p, j ≤ p → p < q → ¬ meC M p → (∀ r, j ≤ r → r < p → meC M r) → post (nI p) M) → ((∀ r, j ≤ r → r < q → meC M r) → k (nI q) M) → xw_CA_unmet_2 post k (m + 1) (nI j) M := by
  intro m
  induction m with
  | zero =>
    intro j hj hE hN
    obtain rfl : j = q := by omega
    unfold xw_CA_unmet_2
    rw [hM]
    exact ⟨fun _ => hN (fun r h1 h2 => by omega), fun z => absurd (nI_le (Nat.le_refl _) (by omega)) z⟩
  | succ m ih =>
    intro j hj hE hN
    unfold xw_CA_unmet_2 xw_Ho_isMet
    rw [hM, nI_clamp (by omega), nI_1]
    have hin : vp_in (nI j) 20 := vp_in_nI (by omega) (by omega)
    refine ⟨fun z => absurd ((nI_leI (by omega) (by omega)).mp z) (by omega), fun _ => ⟨hin, (hp j (by omega)).1, hin, (hp j (by omega)).2, hin, p_reaches ⟨b2_and.mpr trivial, br (fun w => ih (j + 1) (by omega) (fun p h1 h2 h3 h4 => hE p (by omega) h2 h3 (fun r h5 h6 => ?_)) (fun h => hN fun r h1 h2 => ?_)) (fun w => hE j (by omega) (by omega) w (fun r h1 h2 => by omega))⟩⟩⟩
    · by_cases e : r = j
      · subst e; exact w
      · exact h4 r (by omega) h6
    · by_cases e : r = j
      · subst e; exact w
      · exact h r (by omega) h2
theorem p_unmetM {q : Nat} (hq : q ≤ 20) {M : xM} (hM : M 9 0 10 = nI q) (hp : ∀ p, p < q → vp_in (M 9 11 p) 12 ∧ vp_in (M 9 12 p) 12) {post : Int32 → xM → Prop} {k : Int32 → xM → Prop} : ∀ m j, j + m = q → (∀ p, j ≤ p → p < q → ¬ meM M p → (∀ r, j ≤ r → r < p → meM M r) → post (nI p) M) → ((∀ r, j ≤ r → r < q → meM M r) → k (nI q) M) → xw_Mo_unmet_2 post k (m + 1) (nI j) M := by
  intro m
  induction m with
  | zero =>
    intro j hj hE hN
    obtain rfl : j = q := by omega
    unfold xw_Mo_unmet_2
    rw [hM]
    exact ⟨fun _ => hN (fun r h1 h2 => by omega), fun z => absurd (nI_le (Nat.le_refl _) (by omega)) z⟩
  | succ m ih =>
    intro j hj hE hN
    unfold xw_Mo_unmet_2
    rw [hM, nI_clamp (by omega), nI_1]
    have hin : vp_in (nI j) 20 := vp_in_nI (by omega) (by omega)
    refine ⟨fun z => absurd ((nI_leI (by omega) (by omega)).mp z) (by omega), fun _ => ⟨hin, (hp j (by omega)).1, hin, (hp j (by omega)).2, hin, p_isMet (br (fun w => ih (j + 1) (by omega) (fun p h1 h2 h3 h4 => hE p (by omega) h2 h3 (fun r h5 h6 => ?_)) (fun h => hN fun r h1 h2 => ?_)) (fun w => hE j (by omega) (by omega) w (fun r h1 h2 => by omega)))⟩⟩
    · by_cases e : r = j
      · subst e; exact w
      · exact h4 r (by omega) h6
    · by_cases e : r = j
      · subst e; exact w
      · exact h r (by omega) h2
theorem met_iff {M : xM} (h : vHouse (M 0) (mv M)) {n q : Nat} (n1 : M 9 0 9 = nI n) (hn : n ≤ 12) (q1 : M 9 0 10 = nI q) (hq : q ≤ 20) {p : Nat} (hp : p < q) : (meC M p ↔ meM M p) ∧ (vp_in (M 0 9 p) 12 ∧ vp_in (M 0 10 p) 12) ∧ (vp_in (M 9 11 p) 12 ∧ vp_in (M 9 12 p) 12) := by
  obtain ⟨n', q', hn', hq', ⟨n1', n2'⟩, ⟨q1', q2'⟩, hc, hr, hb, hpp⟩ := h
  have e1 : n' = n := (nI_eq (by omega) (by omega)).mp (n1'.symm.trans n1)
  have e2 : q' = q := (nI_eq (by omega) (by omega)).mp (q1'.symm.trans q1)
  subst e1 e2
  obtain ⟨t, x, y, hxy, hyn, c1, c2, hm⟩ := hpp p hp
  have t : M 0 11 p = M 9 13 p := t
  have c1 : M 0 9 p = nI x := c1
  have c2 : M 0 10 p = nI y := c2
  have hm : (M 9 11 p = nI x ∧ M 9 12 p = nI y) ∨ (M 9 11 p = nI y ∧ M 9 12 p = nI x) := hm
  have ix : vp_in (nI x) 12 := vp_in_nI (by omega) (by omega)
  have iy : vp_in (nI y) 12 := vp_in_nI (by omega) (by omega)
  have ex : M 0 4 x = M 9 6 x := (hc x (by omega)).1
  have ey : M 0 4 y = M 9 6 y := (hc y (by omega)).1
  refine ⟨?_, ⟨by rw [c1]; exact ix, by rw [c2]; exact iy⟩, ?_⟩
  · unfold meC meM
    rw [c1, c2, t, nI_clamp (by omega), nI_clamp (by omega), ex, ey]
    rcases hm with ⟨a, b⟩ | ⟨a, b⟩
    · rw [a, b, nI_clamp (by omega), nI_clamp (by omega)]
    · rw [a, b, nI_clamp (by omega), nI_clamp (by omega)]
      exact sp_met_symm _ _ _
  · rcases hm with ⟨a, b⟩ | ⟨a, b⟩
    · rw [a, b]; exact ⟨ix, iy⟩
    · rw [a, b]; exact ⟨iy, ix⟩
theorem op_unmet : ∀ (M : xM), xInv M → xw_CA_unmet M (fun r M1 => xw_Mo_unmet M1 (fun q M2 => r = q ∧ xInv M2)) := by
  intro M hI
  have hH := hI.2.1.2.2
  obtain ⟨n, q, hn, hq, ⟨n1, n2⟩, ⟨q1, q2⟩, hc, hr, hb, hp⟩ := id hH
  have n1 : M 9 0 9 = nI n := n1
  have q1 : M 9 0 10 = nI q := q1
  have q2 : M 0 3 6 = nI q := q2
  have mi := fun p (h : p < q) => met_iff hH n1 hn q1 hq h
  unfold xw_CA_unmet
  refine ⟨q + 1, p_unmetC hq q2 (fun p h => (mi p h).2.1) q 0 (by omega) (fun p _ h2 h3 h4 => ⟨q + 1, p_unmetM hq q1 (fun p h => (mi p h).2.2) q 0 (by omega) (fun p' _ h2' h3' h4' => ⟨?_, hI⟩) (fun h => absurd ((mi p h2).1.mpr (h p (by omega) h2)) h3)⟩) (fun h => ⟨q + 1, p_unmetM hq q1 (fun p h => (mi p h).2.2) q 0 (by omega) (fun p' _ h2' h3' _ => absurd ((mi p' h2').1.mp (h p' (by omega) h2')) h3') (fun _ => ⟨rfl, hI⟩)⟩)⟩
  rcases Nat.lt_trichotomy p p' with w | w | w
  · exact absurd ((mi p h2).1.mpr (h4' p (by omega) w)) h3
  · rw [w]
  · exact absurd ((mi p' h2').1.mp (h4 p' (by omega) w)) h3'
/-! pair -/
theorem p_bind3 {q : Nat} (hq : q ≤ 20) {M : xM} (hM : M 0 3 6 = nI q) {a b c : Int32} {post : Int32 → xM → Prop} {k : Int32 → xM → Prop} : ∀ m j, j + m = q → (∀ p, j ≤ p → p < q → (M 0 9 p = a ∧ M 0 10 p = b) → (∀ r, j ≤ r → r < p → ¬ (M 0 9 r = a ∧ M 0 10 r = b)) → k (nI p) M) → ((∀ r, j ≤ r → r < q → ¬ (M 0 9 r = a ∧ M 0 10 r = b)) → k (nI q) M) → xw_Ho_bind_3 0 a b c post k (m + 1) (nI j) M := by
  intro m
  induction m with
  | zero =>
    intro j hj hE hN
    obtain rfl : j = q := by omega
    unfold xw_Ho_bind_3
    rw [hM]
    exact ⟨fun _ => hN (fun r h1 h2 => by omega), fun z => absurd (nI_le (Nat.le_refl _) (by omega)) z⟩
  | succ m ih =>
    intro j hj hE hN
    have next : ¬ (M 0 9 j = a ∧ M 0 10 j = b) → xw_Ho_bind_3 0 a b c post k (m + 1) (nI (j + 1)) M := fun w => ih (j + 1) (by omega) (fun p h1 h2 h3 h4 => hE p (by omega) h2 h3 (fun r h5 h6 => by
      by_cases e : r = j
      · subst e; exact w
      · exact h4 r (by omega) h6)) (fun h => hN fun r h1 h2 => by
      by_cases e : r = j
      · subst e; exact w
      · exact h r (by omega) h2)
    unfold xw_Ho_bind_3
    rw [hM, nI_clamp (by omega), nI_1]
    have hin : vp_in (nI j) 20 := vp_in_nI (by omega) (by omega)
    exact ⟨fun z => absurd ((nI_leI (by omega) (by omega)).mp z) (by omega), fun _ => ⟨hin, fun z => next (fun w => z w.1), fun z => ⟨hin, fun z2 => hE j (by omega) (by omega) ⟨z, z2⟩ (fun r h1 h2 => by omega), fun z2 => next (fun w => z2 w.2)⟩⟩⟩
abbrev pHit (M : xM) (a b : Int32) (p : Nat) : Prop := (M 9 11 p = a ∨ M 9 11 p = b) ∧ (M 9 12 p = a ∨ M 9 12 p = b)
theorem p_pair49 {q : Nat} (hq : q ≤ 20) {M : xM} (hM : M 9 0 10 = nI q) {a b c : Int32} {post : Int32 → xM → Prop} {k k2 : Int32 → xM → Prop} : ∀ m j, j + m = q → (∀ p, j ≤ p → p < q → pHit M a b p → (∀ r, j ≤ r → r < p → ¬ pHit M a b r) → k (nI p) M) → ((∀ r, j ≤ r → r < q → ¬ pHit M a b r) → k2 (nI q) M) → xw_Mo_pair_49 a b c post k k2 (m + 1) (nI j) M := by
  intro m
  induction m with
  | zero =>
    intro j hj hE hN
    obtain rfl : j = q := by omega
    unfold xw_Mo_pair_49
    rw [hM]
    exact ⟨fun _ => hN (fun r h1 h2 => by omega), fun z => absurd (nI_le (Nat.le_refl _) (by omega)) z⟩
  | succ m ih =>
    intro j hj hE hN
    have next : ¬ pHit M a b j → xw_Mo_pair_49 a b c post k k2 (m + 1) (nI (j + 1)) M := fun w => ih (j + 1) (by omega) (fun p h1 h2 h3 h4 => hE p (by omega) h2 h3 (fun r h5 h6 => by
      by_cases e : r = j
      · subst e; exact w
      · exact h4 r (by omega) h6)) (fun h => hN fun r h1 h2 => by
      by_cases e : r = j
      · subst e; exact w
      · exact h r (by omega) h2)
    have hit : pHit M a b j → k (nI j) M := fun w => hE j (by omega) (by omega) w (fun r h1 h2 => by omega)
    unfold xw_Mo_pair_49
    rw [hM, nI_clamp (by omega), nI_1]
    have hin : vp_in (nI j) 20 := vp_in_nI (by omega) (by omega)
    refine ⟨fun z => absurd ((nI_leI (by omega) (by omega)).mp z) (by omega), fun _ => ⟨hin, ?_⟩⟩
    refine xj_i (M := M) (M 9 11 j = a ∨ M 9 11 j = b) (fun h1 => ⟨hin, fun z => hit ⟨h1, Or.inl z⟩, fun z => ⟨hin, fun z2 => hit ⟨h1, Or.inr z2⟩, fun z2 => next (fun w => w.2.elim z z2)⟩⟩) (fun J hJ => ⟨fun z => hJ (Or.inl z), fun z => ⟨hin, fun z2 => next (fun w => w.1.elim z z2), fun z2 => hJ (Or.inr z2)⟩⟩)
theorem op_pair : ∀ (M : xM) (a b c : Int32), xInv M → xw_CA_pair a b c M (fun r M1 => xw_Mo_pair a b c M1 (fun q M2 => r = q ∧ xInv M2)) := by
  intro M a b c hI
  obtain ⟨n, q, hn, hq, ⟨n1, n2⟩, ⟨q1, q2⟩, hc, hr, hb, hp⟩ := hI.2.1.2.2
  have n1 : M 9 0 9 = nI n := n1
  have n2 : M 0 3 0 = nI n := n2
  have q1 : M 9 0 10 = nI q := q1
  have q2 : M 0 3 6 = nI q := q2
  have bad1 : (a = b ∨ ¬ (10 ≤ c ∧ c ≤ 210)) → xw_Mo_pair a b c (us M 8 0 8 (-1)) (fun q M2 => (-1 : Int32) = q ∧ xInv M2) := by
    intro h
    refine xj_i (M := us M 8 0 8 (-1)) True (fun _ => ref_Mo (by decide) hI rfl) (fun J hJ => ⟨fun _ => hJ trivial, fun z => i_in (br (fun w => ?_) (fun _ => hJ trivial))⟩)
    rcases h with y | y
    · exact absurd y z
    · exact absurd w y
  refine xj_i (M := M) (a = b ∨ ¬ (10 ≤ c ∧ c ≤ 210)) (fun h => i_refd (bad1 h)) (fun J hJ => ⟨fun z => hJ (Or.inl z), fun hab => ⟨fun z => hJ (Or.inr (fun w => by have := w.1; simp only [ilt, ile] at *; omega)), fun hc1 => ⟨fun hc2 => ?_, fun z => hJ (Or.inr (fun w => z w.2))⟩⟩⟩)
  have hcc : 10 ≤ c ∧ c ≤ 210 := ⟨by simp only [ilt, ile] at *; omega, hc2⟩
  have bad2 : (¬ (0 ≤ a ∧ a ≤ nI n - 1) ∨ ¬ (0 ≤ b ∧ b ≤ nI n - 1)) → xw_Mo_pair a b c (us M 8 0 8 (-2)) (fun q M2 => (-2 : Int32) = q ∧ xInv M2) := by
    intro h
    refine xj_i (M := us M 8 0 8 (-2)) False (fun w => w.elim) (fun J hJ => ⟨fun z => absurd z hab, fun _ => i_in (br (fun _ => p_isIn (n := n) (by exact n1) (xj_i (M := us M 8 0 8 (-2)) True (fun _ => ref_Mo (by decide) hI rfl) (fun J hJ => br' (fun w1 => p_isIn (n := n) (by exact n1) (br (fun w2 => ?_) (fun _ => hJ trivial))) (fun _ => hJ trivial)))) (fun w => absurd hcc w))⟩)
    rcases h with y | y
    · exact absurd w1 y
    · exact absurd w2 y
  refine p_has hn n2 (xj_i (M := M) (¬ (0 ≤ a ∧ a ≤ nI n - 1) ∨ ¬ (0 ≤ b ∧ b ≤ nI n - 1)) (fun h => i_refd (bad2 h)) (fun J hJ => br' (fun ha => p_has hn n2 (br (fun hb' => ?_) (fun z => hJ (Or.inr z)))) (fun z => hJ (Or.inl z))))
  obtain ⟨i, hi, rfl⟩ := in_nI (by omega) ha
  obtain ⟨k, hk, rfl⟩ := in_nI (by omega) hb'
  have hik : i ≠ k := fun e => hab (by rw [e])
  have mo : ∀ {M1 : xM} {post : Int32 → xM → Prop}, M1 9 = M 9 → (∀ p, p < q → pHit M (nI i) (nI k) p → (∀ r, r < p → ¬ pHit M (nI i) (nI k) r) → xw_Mo_ends (nI q) (us M1 9 13 p c) post) → ((∀ r, r < q → ¬ pHit M (nI i) (nI k) r) → q = 20 → xw_Mo_ends (-5) M1 post) → ((∀ r, r < q → ¬ pHit M (nI i) (nI k) r) → q < 20 → xw_Mo_ends (nI (q + 1)) (us (us (us (us M1 9 11 q (nI i)) 9 12 q (nI k)) 9 13 q c) 9 0 10 (nI (q + 1))) post) → xw_Mo_pair (nI i) (nI k) c M1 post := by
    intro M1 post e9 h1 h2 h3
    have q9 : M1 9 0 10 = nI q := by rw [e9]; exact q1
    have n9 : M1 9 0 9 = nI n := by rw [e9]; exact n1
    have ph : ∀ p, pHit M1 (nI i) (nI k) p ↔ pHit M (nI i) (nI k) p := fun p => by unfold pHit; rw [e9]
    refine xj_i (M := M1) False (fun w => w.elim) (fun J hJ => ⟨fun z => absurd z hab, fun _ => i_in (br (fun _ => p_isIn (n := n) n9 (xj_i (M := M1) False (fun w => w.elim) (fun J hJ => br' (fun _ => p_isIn (n := n) n9 (br (fun _ => ?_) (fun z => absurd hb' z))) (fun z => absurd ha z)))) (fun w => absurd hcc w))⟩)
    refine ⟨q + 1, p_pair49 hq q9 q 0 (by omega) (fun p _ p2 p3 p4 => ⟨vp_in_nI (by omega) (by omega), ?_⟩) (fun h => ⟨fun z => ?_, fun z => ?_⟩)⟩
    · rw [nI_clamp (by omega)]
      show xw_Mo_ends (M1 9 0 10) _ _
      rw [q9]
      exact h1 p p2 ((ph p).mp p3) (fun r hr w => p4 r (by omega) hr ((ph r).mpr w))
    · have hq20 : q < 20 := by
        rcases Nat.lt_or_ge q 20 with w | w
        · exact w
        · exact absurd (by rw [q9, show q = 20 by omega]; rfl) z
      have hin : vp_in (nI q) 20 := vp_in_nI hq20 (by omega)
      show vp_in (M1 9 0 10) 20 ∧ vp_in (M1 9 0 10) 20 ∧ vp_in (M1 9 0 10) 20 ∧ xw_Mo_ends (M1 9 0 10 + 1) (us (us (us (us M1 9 11 (M1 9 0 10).toNatClampNeg (nI i)) 9 12 (M1 9 0 10).toNatClampNeg (nI k)) 9 13 (M1 9 0 10).toNatClampNeg c) 9 0 10 (M1 9 0 10 + 1)) _
      rw [q9, nI_clamp (by omega), nI_1]
      exact ⟨hin, hin, hin, h3 (fun r hr w => h r (by omega) hr ((ph r).mpr w)) hq20⟩
    · have hq20 : q = 20 := by
        rw [q9] at z
        exact (nI_eq (b := 20) (by omega) (by omega)).mp z
      exact h2 (fun r hr w => h r (by omega) hr ((ph r).mpr w)) hq20
  obtain ⟨x, y, hxy, hyn, hlo, hhi, hor⟩ : ∃ x y : Nat, x < y ∧ y < n ∧ (if nI k < nI i then nI k else nI i) = nI x ∧ (if nI i < nI k then nI k else nI i) = nI y ∧ ((x = i ∧ y = k) ∨ (x = k ∧ y = i)) := by
    rcases Nat.lt_or_ge i k with w | w
    · exact ⟨i, k, w, hk, if_neg (fun z => absurd ((nI_ltI (by omega) (by omega)).mp z) (by omega)), if_pos ((nI_ltI (by omega) (by omega)).mpr w), Or.inl ⟨rfl, rfl⟩⟩
    · exact ⟨k, i, by omega, hi, if_pos ((nI_ltI (by omega) (by omega)).mpr (by omega)), if_neg (fun z => absurd ((nI_ltI (by omega) (by omega)).mp z) (by omega)), Or.inr ⟨rfl, rfl⟩⟩
  rw [hlo, hhi]
  have hit : ∀ p, p < q → ((M 0 9 p = nI x ∧ M 0 10 p = nI y) ↔ pHit M (nI i) (nI k) p) := by
    intro p hpq
    obtain ⟨t, u, v, huv, hvn, c1, c2, hm⟩ := hp p hpq
    have c1 : M 0 9 p = nI u := c1
    have c2 : M 0 10 p = nI v := c2
    have hm : (M 9 11 p = nI u ∧ M 9 12 p = nI v) ∨ (M 9 11 p = nI v ∧ M 9 12 p = nI u) := hm
    unfold pHit
    rw [c1, c2, nI_eq (by omega) (by omega), nI_eq (by omega) (by omega)]
    rcases hm with ⟨m1, m2⟩ | ⟨m1, m2⟩
    · rw [m1, m2, nI_eq (by omega) (by omega), nI_eq (by omega) (by omega), nI_eq (by omega) (by omega), nI_eq (by omega) (by omega)]
      omega
    · rw [m1, m2, nI_eq (by omega) (by omega), nI_eq (by omega) (by omega), nI_eq (by omega) (by omega), nI_eq (by omega) (by omega)]
      omega
  unfold xw_Ho_bind
  refine ⟨q + 1, p_bind3 hq q2 q 0 (by omega) (fun p _ p2 p3 p4 => ⟨fun _ => ?_, fun z => absurd ((nI_ltI (a := p) (b := 20) (by omega) (by omega)).mpr (by omega)) z⟩) (fun h => ⟨fun z => ?_, fun z => ?_⟩)⟩
  · have hin : vp_in (nI p) 20 := vp_in_nI (by omega) (by omega)
    rw [nI_clamp (by omega), nI_1]
    refine ⟨hin, hin, hin, ⟨fun _ => ?_, fun z => absurd z (by decide)⟩⟩
    show xw_CA_taken (if M 0 3 6 < nI (p + 1) then nI (p + 1) else M 0 3 6) (us (us (us (us M 0 9 p (nI x)) 0 10 p (nI y)) 0 11 p c) 0 3 6 (if M 0 3 6 < nI (p + 1) then nI (p + 1) else M 0 3 6)) _
    rw [q2, if_neg (fun z => absurd ((nI_ltI (by omega) (by omega)).mp z) (by omega))]
    refine i_taken (mo rfl (fun p' p2' p3' p4' => ?_) (fun h => absurd ((hit p p2).mp p3) (h p p2)) (fun h => absurd ((hit p p2).mp p3) (h p p2)))
    have ep : p' = p := by
      rcases Nat.lt_trichotomy p p' with w | w | w
      · exact absurd ((hit p p2).mp p3) (p4' p w)
      · exact w.symm
      · exact absurd ((hit p' p2').mpr p3') (p4 p' (by omega) w)
    subst ep
    refine i_ok ⟨q, by omega, rfl⟩ ⟨rfl, rfl, ⟨hI.2.1.1, hI.2.1.2.1, ?_⟩, hI.2.2⟩
    refine ⟨n, q, hn, hq, ⟨n1, n2⟩, ⟨q1, rfl⟩, hc, hr, hb, fun r hr' => ?_⟩
    obtain ⟨t, u, v, huv, hvn, c1, c2, hm⟩ := hp r hr'
    refine ⟨upd_cong t, ?_⟩
    by_cases e : r = p'
    · subst e
      have c1 : M 0 9 r = nI u := c1
      have c2 : M 0 10 r = nI v := c2
      refine ⟨u, v, huv, hvn, ?_, ?_, hm⟩
      · show upd (M 0 9) r (nI x) r = nI u
        rw [upd_self, ← p3.1]; exact c1
      · show upd (M 0 10) r (nI y) r = nI v
        rw [upd_self, ← p3.2]; exact c2
    · refine ⟨u, v, huv, hvn, ?_, ?_, hm⟩
      · show upd (M 0 9) p' (nI x) r = nI u
        rw [upd_ne _ _ e]; exact c1
      · show upd (M 0 10) p' (nI y) r = nI v
        rw [upd_ne _ _ e]; exact c2
  · have hq20 : q < 20 := (nI_ltI (a := q) (b := 20) (by omega) (by omega)).mp z
    have hin : vp_in (nI q) 20 := vp_in_nI (by omega) (by omega)
    rw [nI_clamp (by omega), nI_1]
    refine ⟨hin, hin, hin, ⟨fun _ => ?_, fun z => absurd z (by decide)⟩⟩
    show xw_CA_taken (if M 0 3 6 < nI (q + 1) then nI (q + 1) else M 0 3 6) (us (us (us (us M 0 9 q (nI x)) 0 10 q (nI y)) 0 11 q c) 0 3 6 (if M 0 3 6 < nI (q + 1) then nI (q + 1) else M 0 3 6)) _
    rw [q2, if_pos ((nI_ltI (by omega) (by omega)).mpr (by omega))]
    refine i_taken (mo rfl (fun p' p2' p3' _ => absurd ((hit p' p2').mpr p3') (h p' (by omega) p2')) (fun _ e => absurd e (by omega)) (fun _ _ => ?_))
    refine i_ok ⟨q + 1, by omega, rfl⟩ ⟨rfl, rfl, ⟨hI.2.1.1, hI.2.1.2.1, ?_⟩, hI.2.2⟩
    refine ⟨n, q + 1, hn, by omega, ⟨n1, n2⟩, ⟨rfl, rfl⟩, hc, hr, hb, fun r hr' => ?_⟩
    by_cases e : r = q
    · subst e
      refine ⟨?_, x, y, hxy, hyn, ?_, ?_, ?_⟩
      · show upd (M 0 11) r c r = upd (M 9 13) r c r
        rw [upd_self, upd_self]
      · show upd (M 0 9) r (nI x) r = nI x
        rw [upd_self]
      · show upd (M 0 10) r (nI y) r = nI y
        rw [upd_self]
      · show (upd (M 9 11) r (nI i) r = nI x ∧ upd (M 9 12) r (nI k) r = nI y) ∨ (upd (M 9 11) r (nI i) r = nI y ∧ upd (M 9 12) r (nI k) r = nI x)
        rw [upd_self, upd_self]
        rcases hor with ⟨e1, e2⟩ | ⟨e1, e2⟩
        · exact Or.inl ⟨by rw [e1], by rw [e2]⟩
        · exact Or.inr ⟨by rw [e2], by rw [e1]⟩
    · obtain ⟨t, u, v, huv, hvn, c1, c2, hm⟩ := hp r (by omega)
      refine ⟨?_, u, v, huv, hvn, ?_, ?_, ?_⟩
      · show upd (M 0 11) q c r = upd (M 9 13) q c r
        rw [upd_ne _ _ e, upd_ne _ _ e]; exact t
      · show upd (M 0 9) q (nI x) r = nI u
        rw [upd_ne _ _ e]; exact c1
      · show upd (M 0 10) q (nI y) r = nI v
        rw [upd_ne _ _ e]; exact c2
      · show (upd (M 9 11) q (nI i) r = nI u ∧ upd (M 9 12) q (nI k) r = nI v) ∨ (upd (M 9 11) q (nI i) r = nI v ∧ upd (M 9 12) q (nI k) r = nI u)
        rw [upd_ne _ _ e, upd_ne _ _ e]; exact hm
  · have hq20 : q = 20 := by
      rcases Nat.lt_or_ge q 20 with w | w
      · exact absurd ((nI_ltI (a := q) (b := 20) (by omega) (by omega)).mpr w) z
      · omega
    exact ⟨fun z => absurd rfl z, fun _ => i_refd (mo rfl (fun p' p2' p3' _ => absurd ((hit p' p2').mpr p3') (h p' (by omega) p2')) (fun _ _ => ref_Mo (by decide) hI rfl) (fun _ w => absurd w (by omega)))⟩
