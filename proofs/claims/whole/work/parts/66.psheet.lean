/-! ===== frames of the invariant ===== -/
def xSh (M : xM) : Prop := ∀ s, s < 4 → vSheet (M (4 + s) 0) (M (4 + s) 1) (M 9 1 s) (M 9 2 s) (fun j => M 9 3 (60 * s + j))
theorem sh_iff (M : xM) : (vSheet (M 4 0) (M 4 1) (M 9 1 0) (M 9 2 0) (fun j => M 9 3 j) ∧ vSheet (M 5 0) (M 5 1) (M 9 1 1) (M 9 2 1) (fun j => M 9 3 (60 + j)) ∧ vSheet (M 6 0) (M 6 1) (M 9 1 2) (M 9 2 2) (fun j => M 9 3 (120 + j)) ∧ vSheet (M 7 0) (M 7 1) (M 9 1 3) (M 9 2 3) (fun j => M 9 3 (180 + j))) ↔ xSh M := by
  have e : (fun j => M 9 3 (60 * 0 + j)) = (fun j => M 9 3 j) := by funext j; rw [Nat.mul_zero, Nat.zero_add]
  constructor
  · rintro ⟨h0, h1, h2, h3⟩ s hs
    rcases (show s = 0 ∨ s = 1 ∨ s = 2 ∨ s = 3 by omega) with rfl | rfl | rfl | rfl
    · rw [e]; exact h0
    · exact h1
    · exact h2
    · exact h3
  · intro h
    have h0 := h 0 (by omega)
    rw [e] at h0
    exact ⟨h0, h 1 (by omega), h 2 (by omega), h 3 (by omega)⟩
theorem mv_to {M M' : xM} (h0 : ∀ k, k ≠ 0 → M' 9 0 k = M 9 0 k) (h9 : ∀ i, 4 ≤ i → i ≤ 13 → M' 9 i = M 9 i) : mv M' = mv M := by
  funext a k
  unfold mv
  split <;> first | rw [h9 _ (by omega) (by omega)] | skip
  dsimp only
  split <;> rw [h0 _ (by omega)]
theorem iv_to {M M' : xM} (h : M' 9 20 = M 9 20) (b : Nat) : iv M' b = iv M b := by
  funext a k
  unfold iv
  split <;> rw [h]
/-- all that the sheets don't touch stays -/
theorem xInv.sheets {M M' : xM} (h : xInv M) (hst : M' 8 0 8 = M' 9 0 0) (hK : ∀ g i, g < 4 → M' g i = M g i) (h8 : ∀ i, i ≠ 0 → M' 8 i = M 8 i) (h90 : ∀ k, k ≠ 0 → M' 9 0 k = M 9 0 k) (h9 : ∀ i, 4 ≤ i → M' 9 i = M 9 i) (hs : xSh M') : xInv M' := by
  have e0 : M' 0 = M 0 := funext fun i => hK 0 i (by omega)
  have e1 : M' 1 = M 1 := funext fun i => hK 1 i (by omega)
  have e2 : M' 2 = M 2 := funext fun i => hK 2 i (by omega)
  have e3 : M' 3 = M 3 := funext fun i => hK 3 i (by omega)
  have em : mv M' = mv M := mv_to h90 (fun i h1 _ => h9 i h1)
  have ei := iv_to (h9 20 (by omega))
  obtain ⟨-, k1, k2, k3, k4, k5, -⟩ := h
  refine ⟨hst, by rw [e0, em]; exact k1, ?_, ?_, ?_, ?_, (sh_iff M').mpr hs⟩
  · rw [e1, e2, e3, ei, ei, ei, h8 2 (by omega), h9 19 (by omega)]; exact k2
  · unfold vChosen; rw [h8 4 (by omega), h8 10 (by omega), h90 23 (by omega), h9 17 (by omega)]; exact k3
  · rw [h8 11 (by omega), h90 24 (by omega)]; exact k4
  · unfold vRamp; rw [h8 14 (by omega), h8 15 (by omega), h90 25 (by omega), h9 18 (by omega)]; exact k5
/-- cells that no later answer shows -/
def scr (g i : Nat) : Prop := (g = 8 ∧ ((5 ≤ i ∧ i ≤ 9) ∨ i = 12 ∨ i = 13 ∨ 17 ≤ i)) ∨ (g = 9 ∧ 14 ≤ i ∧ i ≤ 16)
theorem xInv.scratch {M M' : xM} (h : xInv M) (hM : ∀ g i, ¬ scr g i → M' g i = M g i) : xInv M' := by
  have n : ∀ g i, g < 8 → M' g i = M g i := fun g i hg => hM g i (fun q => by unfold scr at q; omega)
  have n8 : ∀ i, (i < 5 ∨ i = 10 ∨ i = 11 ∨ (14 ≤ i ∧ i ≤ 16)) → M' 8 i = M 8 i := fun i hi => hM 8 i (fun q => by unfold scr at q; omega)
  have n9 : ∀ i, (i < 14 ∨ 17 ≤ i) → M' 9 i = M 9 i := fun i hi => hM 9 i (fun q => by unfold scr at q; omega)
  have e0 : M' 0 = M 0 := funext fun i => n 0 i (by omega)
  have e1 : M' 1 = M 1 := funext fun i => n 1 i (by omega)
  have e2 : M' 2 = M 2 := funext fun i => n 2 i (by omega)
  have e3 : M' 3 = M 3 := funext fun i => n 3 i (by omega)
  have em : mv M' = mv M := mv_to (fun k _ => by rw [n9 0 (by omega)]) (fun i h1 h2 => n9 i (by omega))
  have ei := iv_to (n9 20 (by omega))
  obtain ⟨k0, k1, k2, k3, k4, k5, k6⟩ := h
  refine ⟨by rw [n8 0 (by omega), n9 0 (by omega)]; exact k0, by rw [e0, em]; exact k1, ?_, ?_, ?_, ?_, ?_⟩
  · rw [e1, e2, e3, ei, ei, ei, n8 2 (by omega), n9 19 (by omega)]; exact k2
  · unfold vChosen; rw [n8 4 (by omega), n8 10 (by omega), n9 0 (by omega), n9 17 (by omega)]; exact k3
  · rw [n8 11 (by omega), n9 0 (by omega)]; exact k4
  · unfold vRamp; rw [n8 14 (by omega), n8 15 (by omega), n9 0 (by omega), n9 18 (by omega)]; exact k5
  · rw [n 4 0 (by omega), n 4 1 (by omega), n 5 0 (by omega), n 5 1 (by omega), n 6 0 (by omega), n 6 1 (by omega), n 7 0 (by omega), n 7 1 (by omega), n9 1 (by omega), n9 2 (by omega), n9 3 (by omega)]; exact k6
/-! ===== sheets ===== -/
theorem p_layOut {g : Nat} {a b : Int32} {M : xM} {post : xM → Prop} (h : ∀ M', (∀ g' i', ¬ (g' = g ∧ i' ≤ 1) → M' g' i' = M g' i') → M' g 0 = upd (upd (M g 0) 1 a) 2 b → (∀ j, j < 60 → M' g 1 j = 0) → post M') : xw_Sh_layOut g a b M post := by
  have loop : ∀ {k : Int32 → xM → Prop} (m j : Nat) (M : xM), j + m = 60 → (∀ M', (∀ g' i', ¬ (g' = g ∧ i' = 1) → M' g' i' = M g' i') → (∀ i, i < j → M' g 1 i = M g 1 i) → (∀ i, j ≤ i → i < 60 → M' g 1 i = 0) → k (nI 60) M') → xw_Sh_layOut_12 g post k (m + 1) (nI j) M := by
    intro k m
    induction m with
    | zero =>
      intro j M hj h
      obtain rfl : j = 60 := by omega
      unfold xw_Sh_layOut_12
      exact ⟨fun _ => h M (fun _ _ _ => rfl) (fun _ _ => rfl) (fun i h1 h2 => by omega), fun q => absurd (by decide) q⟩
    | succ m ih =>
      intro j M hj h
      unfold xw_Sh_layOut_12
      refine ⟨fun q => absurd q (nI_ge (b := 60) (by omega) (by omega)), fun _ => ⟨vp_in_nI (by omega) (by omega), ?_⟩⟩
      rw [nI_clamp (by omega), nI_1]
      refine ih (j + 1) _ (by omega) fun M' k1 k2 k3 => h M' (fun g' i' hg => by rw [k1 g' i' hg, us_ne M _ hg]) (fun i hi => by rw [k2 i (by omega), us_self, upd_ne _ _ (by omega)]) (fun i h1 h2 => ?_)
      by_cases e : i = j
      · subst e; rw [k2 i (by omega), us_self, upd_self]
      · exact k3 i (by omega) h2
  unfold xw_Sh_layOut
  refine ⟨61, loop 60 0 _ (by omega) fun M' k1 k2 k3 => h M' (fun g' i' hg => ?_) ?_ (fun j hj => k3 j (by omega) hj)⟩
  · rw [k1 g' i' (by omega), us_ne _ _ (by omega), us_ne _ _ (by omega)]
  · rw [k1 g 0 (by omega), us_self, us_self]
theorem p_Mo_zero {s : Nat} (hs : s < 4) {x3 : Int32} {post : Int32 → xM → Prop} {k : Int32 → xM → Prop} : ∀ (m j : Nat) (M : xM), j + m = 60 → (∀ M', (∀ g' i', ¬ (g' = 9 ∧ i' = 3) → M' g' i' = M g' i') → (∀ i, (i < 60 * s + j ∨ 60 * s + 60 ≤ i) → M' 9 3 i = M 9 3 i) → (∀ i, j ≤ i → i < 60 → M' 9 3 (60 * s + i) = 0) → k (nI 60) M') → xw_Mo_sheet_65 (nI s) x3 post k (m + 1) (nI j) M := by
  intro m
  induction m with
  | zero =>
    intro j M hj h
    obtain rfl : j = 60 := by omega
    unfold xw_Mo_sheet_65
    exact ⟨fun _ => h M (fun _ _ _ => rfl) (fun _ _ => rfl) (fun i h1 h2 => by omega), fun q => absurd (by decide) q⟩
  | succ m ih =>
    intro j M hj h
    unfold xw_Mo_sheet_65
    have ix : ((60 : Int32) * nI s) + nI j = nI (60 * s + j) := by rw [show (60 : Int32) = nI 60 from rfl, pk_mul, nI_add]
    rw [ix]
    refine ⟨fun q => absurd q (nI_ge (b := 60) (by omega) (by omega)), fun _ => ⟨vp_in_nI (by omega) (by omega), ?_⟩⟩
    rw [nI_clamp (by omega), nI_1]
    refine ih (j + 1) _ (by omega) fun M' k1 k2 k3 => h M' (fun g' i' hg => by rw [k1 g' i' hg, us_ne M _ hg]) (fun i hi => by rw [k2 i (by omega), us_self, upd_ne _ _ (by omega)]) (fun i h1 h2 => ?_)
    by_cases e : i = j
    · subst e; rw [k2 _ (by omega), us_self, upd_self]
    · exact k3 i (by omega) h2
theorem i_shC {c : Int32} {M : xM} {post : Int32 → xM → Prop} (h : post (b2 (0 ≤ c ∧ c ≤ 3)) M) : xw_CA_isSheet c M post := (w_CA_isSheet _ _ _).mpr h
theorem op_sheet : ∀ (M : xM) (a b c : Int32), xInv M → xw_CA_sheet a b c M (fun r M1 => xw_Mo_sheet a b c M1 (fun q M2 => r = q ∧ xInv M2)) := by
  intro M a b c hI
  have bad : (¬ (0 ≤ a ∧ a ≤ 3) ∨ ¬ (0 ≤ b ∧ b ≤ 2) ∨ ¬ c ≤ 60) → xw_Mo_sheet a b c (us M 8 0 8 (-1)) (fun q M2 => (-1 : Int32) = q ∧ xInv M2) := by
    intro hz
    unfold xw_Mo_sheet xj
    refine i_in (br' (fun q1 => i_in (br' (fun q2 => ⟨fun q3 => ?_, fun _ => ref_Mo (by decide) hI rfl⟩) (fun _ => ref_Mo (by decide) hI rfl))) (fun _ => ref_Mo (by decide) hI rfl))
    rcases hz with z | z | z
    · exact absurd q1 z
    · exact absurd q2 z
    · exact absurd q3 z
  unfold xw_CA_sheet xj
  refine i_shC (br' (fun h1 => ⟨fun q => i_refd (bad (Or.inr (Or.inl fun z => ?_))), fun h2 => ⟨fun q => i_refd (bad (Or.inr (Or.inl fun z => ?_))), fun h3 => ⟨fun h4 => ⟨fun h5 => ?_, fun h5 => ?_⟩, fun q => i_refd (bad (Or.inr (Or.inr q)))⟩⟩⟩) (fun q => i_refd (bad (Or.inl q))))
  · have := z.1; simp only [ilt, ile] at *; omega
  · have := z.2; simp only [ilt, ile] at *; omega
  · obtain ⟨s, -, hs, rfl⟩ := nIr (l := 0) (h := 3) rfl rfl h1
    obtain ⟨n, -, hn, rfl⟩ := nIr (l := 0) (h := 60) rfl rfl (And.intro h5 h4)
    have hb : 0 ≤ b ∧ b ≤ 2 := ⟨by simp only [ilt, ile] at *; omega, by simp only [ilt, ile] at *; omega⟩
    have hin : vp_in (nI s) 4 := vp_in_nI (by omega) (by omega)
    refine ⟨hin, ?_⟩
    rw [nI_clamp (by omega)]
    refine p_layOut fun Ma a1 a2 a3 => i_taken ?_
    unfold xw_Mo_sheet xj
    refine i_in (br' (fun _ => i_in (br' (fun _ => ⟨fun _ => ⟨hin, fun _ => ⟨hin, hin, 61, ?_⟩, fun q => absurd h5 q⟩, fun q => absurd h4 q⟩) (fun q => absurd hb q))) (fun q => absurd h1 q))
    rw [nI_clamp (by omega)]
    refine p_Mo_zero (by omega) 60 0 _ (by omega) fun Md d1 d2 d3 => i_ok ⟨n, by omega, rfl⟩ ⟨rfl, ?_⟩
    refine hI.sheets ?_ (fun g i hg => ?_) (fun i hi => ?_) (fun k hk => ?_) (fun i hi => ?_) (fun t ht => ?_)
    · rw [us_ne _ _ (by omega), d1 8 0 (by omega), us_ne _ _ (by omega), us_ne _ _ (by omega), us_ne _ _ (by omega), us_self, upd_self, us_self, upd_self]
    · rw [us_ne _ _ (by omega), d1 g i (by omega), us_ne _ _ (by omega), us_ne _ _ (by omega), us_ne _ _ (by omega), us_ne _ _ (by omega), a1 g i (by omega)]
    · rw [us_ne _ _ (by omega), d1 8 i (by omega), us_ne _ _ (by omega), us_ne _ _ (by omega), us_ne _ _ (by omega), us_ne _ _ (by omega), a1 8 i (by omega)]
    · rw [us_self, upd_ne _ _ hk, d1 9 0 (by omega), us_ne _ _ (by omega), us_ne _ _ (by omega), us_ne _ _ (by omega), us_ne _ _ (by omega), a1 9 0 (by omega)]
    · rw [us_ne _ _ (by omega), d1 9 i (by omega), us_ne _ _ (by omega), us_ne _ _ (by omega), us_ne _ _ (by omega), us_ne _ _ (by omega), a1 9 i (by omega)]
    · have c0 : ∀ i, i ≤ 1 → (us Md 9 0 0 0) (4 + t) i = Ma (4 + t) i := fun i hi => by
        rw [us_ne _ _ (by omega), d1 _ i (by omega), us_ne _ _ (by omega), us_ne _ _ (by omega), us_ne _ _ (by omega), us_ne _ _ (by omega)]
      have c1 : (us Md 9 0 0 0) 9 1 = upd (M 9 1) s b := by
        rw [us_ne _ _ (by omega), d1 9 1 (by omega), us_ne _ _ (by omega), us_self, us_ne _ _ (by omega), us_ne _ _ (by omega), a1 9 1 (by omega)]
      have c2 : (us Md 9 0 0 0) 9 2 = upd (upd (M 9 2) s (-1)) s (nI n) := by
        rw [us_ne _ _ (by omega), d1 9 2 (by omega), us_self, us_ne _ _ (by omega), us_self, us_ne _ _ (by omega), a1 9 2 (by omega)]
      have c3 : (us Md 9 0 0 0) 9 3 = Md 9 3 := by rw [us_ne _ _ (by omega)]
      rw [c0 0 (by omega), c0 1 (by omega), c1, c2, c3]
      by_cases e : t = s
      · subst e
        rw [a2, upd_self, upd_self]
        refine ⟨upd_self _ _ _, Or.inr ⟨?_, n, hn, rfl⟩, fun j hj => ?_⟩
        · rw [upd_ne _ _ (by omega), upd_self]
        · rw [a3 j hj]; exact (d3 j (by omega) hj).symm
      · have := (sh_iff M).mp hI.2.2.2.2.2.2 t ht
        rw [a1 (4 + t) 0 (by omega), a1 (4 + t) 1 (by omega), upd_ne _ _ e, upd_ne _ _ e, upd_ne _ _ e]
        refine ⟨this.1, this.2.1, fun j hj => ?_⟩
        show M (4 + t) 1 j = Md 9 3 (60 * t + j)
        rw [d2 (60 * t + j) (by omega), us_ne _ _ (by omega), us_ne _ _ (by omega), us_ne _ _ (by omega), us_ne _ _ (by omega), a1 9 3 (by omega)]
        exact this.2.2 j hj
  · obtain ⟨s, -, hs, rfl⟩ := nIr (l := 0) (h := 3) rfl rfl h1
    have hb : 0 ≤ b ∧ b ≤ 2 := ⟨by simp only [ilt, ile] at *; omega, by simp only [ilt, ile] at *; omega⟩
    have hin : vp_in (nI s) 4 := vp_in_nI (by omega) (by omega)
    refine ⟨hin, ?_⟩
    rw [nI_clamp (by omega)]
    unfold xw_Sh_takeAway
    refine i_refd ?_
    unfold xw_Mo_sheet xj
    refine i_in (br' (fun _ => i_in (br' (fun _ => ⟨fun _ => ⟨hin, fun q => absurd q h5, fun _ => ?_⟩, fun q => absurd h4 q⟩) (fun q => absurd hb q))) (fun q => absurd h1 q))
    rw [nI_clamp (by omega)]
    refine i_ends ⟨rfl, ?_⟩
    rw [if_pos (by decide)]
    refine hI.sheets ?_ (fun g i hg => ?_) (fun i hi => ?_) (fun k hk => ?_) (fun i hi => ?_) (fun t ht => ?_)
    · rw [us_ne _ _ (by omega), us_ne _ _ (by omega), us_self, upd_self, us_self, upd_self]
    · rw [us_ne _ _ (by omega), us_ne _ _ (by omega), us_ne _ _ (by omega), us_ne _ _ (by omega)]
    · rw [us_ne _ _ (by omega), us_ne _ _ (by omega), us_ne _ _ (by omega), us_ne _ _ (by omega)]
    · rw [us_self, upd_ne _ _ hk, us_ne _ _ (by omega), us_ne _ _ (by omega), us_ne _ _ (by omega)]
    · rw [us_ne _ _ (by omega), us_ne _ _ (by omega), us_ne _ _ (by omega), us_ne _ _ (by omega)]
    · have := (sh_iff M).mp hI.2.2.2.2.2.2 t ht
      rw [us_ne _ _ (show ¬ (4 + t = 9 ∧ 0 = 0) by omega), us_ne _ _ (show ¬ (4 + t = 9 ∧ 0 = 2) by omega), us_ne _ _ (show ¬ (4 + t = 8 ∧ 0 = 0) by omega)]
      rw [us_ne _ _ (show ¬ (4 + t = 9 ∧ 1 = 0) by omega), us_ne _ _ (show ¬ (4 + t = 9 ∧ 1 = 2) by omega), us_ne _ _ (show ¬ (4 + t = 8 ∧ 1 = 0) by omega), us_ne _ _ (show ¬ (4 + t = 4 + s ∧ 1 = 0) by omega)]
      rw [us_ne _ _ (show ¬ (9 = 9 ∧ 1 = 0) by omega), us_ne _ _ (show ¬ (9 = 9 ∧ 1 = 2) by omega), us_ne _ _ (show ¬ (9 = 8 ∧ 1 = 0) by omega), us_ne _ _ (show ¬ (9 = 4 + s ∧ 1 = 0) by omega)]
      rw [us_ne _ _ (show ¬ (9 = 9 ∧ 2 = 0) by omega), us_self, us_ne _ _ (show ¬ (9 = 8 ∧ 2 = 0) by omega), us_ne _ _ (show ¬ (9 = 4 + s ∧ 2 = 0) by omega)]
      rw [us_ne _ _ (show ¬ (9 = 9 ∧ 3 = 0) by omega), us_ne _ _ (show ¬ (9 = 9 ∧ 3 = 2) by omega), us_ne _ _ (show ¬ (9 = 8 ∧ 3 = 0) by omega), us_ne _ _ (show ¬ (9 = 4 + s ∧ 3 = 0) by omega)]
      by_cases e : t = s
      · subst e
        rw [us_self, upd_self]
        exact ⟨upd_self _ _ _, Or.inl rfl, this.2.2⟩
      · rw [us_ne _ _ (show ¬ (4 + t = 4 + s ∧ 0 = 0) by omega), upd_ne _ _ e]
        exact this
