/-! ===== move: the model's side, and the call ===== -/
theorem isR.far' {z : Int32} {cs aw : Nat → Int32} {MB : Nat → Prop} {K : Nat} {f l : Int32} (h : isR z cs aw MB K f l) (hf : ¬ f = -1) (hl : l ≤ aw K) : isR z cs aw MB (K + 1) f l := by
  rcases id h with ⟨h1, h2, h3⟩ | ⟨q, h1, h2, h3, h4, h5, h6⟩
  · exact absurd h1 hf
  · refine Or.inr ⟨q, by omega, h2, h3, h4, fun p hp hm => ?_, h6⟩
    rcases Nat.lt_or_ge p K with w | w
    · exact h5 p w hm
    · obtain rfl : p = K := by omega
      rw [← h4]; exact hl
theorem dd_self (e : xE) (s : Nat) (a : Int32) : dd e s a a = 0 := by
  unfold dd sp_d; grind
/-- what a move may become -/
abbrev mvR (z : Int32) (M0 : xM) (e : xE) (n q L : Nat) (d : Int32) (c : Nat → Int32) (i : Nat) (K : Nat) (f l : Int32) : Prop := isR z (cnd L c i) (fun x => dd e 0 (c i) (cnd L c i x)) (fun x => pMay M0 e n q d c i (cnd L c i x)) K f l
theorem p_moves33 {M0 : xM} {e : xE} {n q L : Nat} (hm : mC M0 e n q L) {c : Nat → Int32} {i : Nat} (hi : i < n) (hc : ∀ k, k < 12 → sp_col (c k)) {d : Int32} {M : xM} (h93 : ∀ t, ¬ t = 6 → M 9 t = M0 9 t) (h96 : ∀ k, k < 12 → M 9 6 k = c k) {post : Int32 → xM → Prop} {k : Int32 → Int32 → Int32 → xM → Prop} : ∀ (m x : Nat) (f l : Int32), x + m = L * L * L → mvR (-1) M0 e n q L d c i (x + 1) f l → (∀ f' l' y, mvR (-1) M0 e n q L d c i (L * L * L + 1) f' l' → k f' l' y M) → xw_Mo_moves_33 (nI i) d post k (m + 1) f l (nI x) M := by
  have hn : n ≤ 12 := hm.2.2.2.1
  have hL : 2 ≤ L := hm.2.2.2.2.2.2.2.2.2.1
  have hL2 : L ≤ 4 := hm.2.2.2.2.2.2.2.2.2.2.1
  have h64 := n3le hL2
  have hM : M 9 0 7 = nI L := by rw [h93 0 (by decide)]; exact hm.2.2.2.2.2.2.2.2.2.2.2.1
  have hE' : eyM M e := by
    have := hm.2.2.1
    unfold eyM at *
    rw [h93 0 (by decide), h93 4 (by decide), h93 5 (by decide)]; exact this
  have hin : vp_in (nI i) 12 := vp_in_nI (by omega) (by omega)
  intro m
  induction m with
  | zero =>
    intro x f l hx hR h
    obtain rfl : x = L * L * L := by omega
    unfold xw_Mo_moves_33 xw_Mo_places
    rw [hM, pk_mul, pk_mul]
    exact ⟨fun _ => h f l _ hR, fun z => absurd (nI_le (Nat.le_refl _) (by omega)) z⟩
  | succ m ih =>
    intro x f l hx hR h
    have step : ∀ f' l', mvR (-1) M0 e n q L d c i (x + 1 + 1) f' l' → xw_Mo_moves_33 (nI i) d post k (m + 1) f' l' (nI x + 1) M := fun f' l' s => by
      rw [nI_1]; exact ih (x + 1) f' l' (by omega) s h
    have ec : sp_pl L x = cnd L c i (x + 1) := by unfold cnd; rw [if_neg (by omega)]; rfl
    unfold xw_Mo_moves_33 xw_Mo_places
    rw [hM, pk_mul, pk_mul]
    refine ⟨fun z => absurd ((nI_leI (by omega) (by omega)).mp z) (by omega), fun _ => p_placeOf hL hL2 (by omega) hM ⟨hin, ?_⟩⟩
    rw [nI_clamp (by omega), h96 i (by omega), ec]
    refine p_Mo_dist (s := 0) hm.1 hE' (by omega) ?_
    refine xj_i (M := M) (f = -1 ∨ ¬ l ≤ dd e 0 (c i) (cnd L c i (x + 1))) (fun hor => ?_) (fun J hJ => ⟨fun z => hJ (Or.inl z), fun z => ⟨fun w => step f l (hR.far' z w), fun w => hJ (Or.inr w)⟩⟩)
    exact p_mayBe hm hi h93 h96 (fun hy => ⟨fun _ => step _ _ (hR.take (fun p hp => col_ne (cnd_col hL (hc i (by omega)) (by omega))) hor hy), fun w => absurd w (by decide)⟩) (fun hy => ⟨fun w => absurd rfl w, fun _ => step f l (hR.skip1 hy)⟩)
theorem p_moves {M0 : xM} {e : xE} {n q L : Nat} (hm : mC M0 e n q L) {c : Nat → Int32} {i : Nat} (hi : i < n) (hc : ∀ k, k < 12 → sp_col (c k)) {d : Int32} {M : xM} (h93 : ∀ t, ¬ t = 6 → M 9 t = M0 9 t) (h96 : ∀ k, k < 12 → M 9 6 k = c k) {post : Int32 → xM → Prop} (h : ∀ f l, mvR (-1) M0 e n q L d c i (L * L * L + 1) f l → ((f = -1 → post l M) ∧ (¬ f = -1 → post l (us M 9 6 i f)))) : xw_Mo_moves (nI i) d M post := by
  have hn : n ≤ 12 := hm.2.2.2.1
  have hin : vp_in (nI i) 12 := vp_in_nI (by omega) (by omega)
  have e0 : cnd L c i 0 = c i := by unfold cnd; rw [if_pos rfl]
  have d0 : dd e 0 (c i) (cnd L c i 0) = 0 := by rw [e0]; exact dd_self _ _ _
  unfold xw_Mo_moves
  rw [nI_clamp (by omega), h96 i (by omega)]
  refine ⟨hin, p_mayBe hm hi h93 h96 (fun hy => ⟨fun w => absurd w (by decide), fun _ => ⟨hin, L * L * L + 1, ?_⟩⟩) (fun hy => ⟨fun _ => ⟨L * L * L + 1, ?_⟩, fun w => absurd rfl w⟩)⟩
  · rw [h96 i (by omega)]
    have hR : mvR (-1) M0 e n q L d c i (0 + 1) (c i) 0 := Or.inr ⟨0, by omega, (by show pMay M0 e n q d c i (cnd L c i 0); rw [e0]; exact hy), e0.symm, d0.symm, fun p hp _ => by
      obtain rfl : p = 0 := by omega
      exact Int32.le_refl _, fun p hp => absurd hp (by omega)⟩
    exact p_moves33 hm hi hc h93 h96 (L * L * L) 0 _ _ (by omega) hR (fun f l y hR => ⟨fun z => (h f l hR).1 z, fun z => ⟨hin, (h f l hR).2 z⟩⟩)
  · have hR : mvR (-1) M0 e n q L d c i (0 + 1) (-1) (-1) := Or.inl ⟨rfl, rfl, fun p hp w => by
      obtain rfl : p = 0 := by omega
      rw [e0] at w; exact hy w⟩
    exact p_moves33 hm hi hc h93 h96 (L * L * L) 0 _ _ (by omega) hR (fun f l y hR => ⟨fun z => (h f l hR).1 z, fun z => ⟨hin, (h f l hR).2 z⟩⟩)
theorem p_lookHouse {M0 : xM} {e : xE} {n q L : Nat} (hm : mC M0 e n q L) {c : Nat → Int32} {post : xM → Prop} {k : Int32 → xM → Prop} : ∀ (m j : Nat) (M : xM), j + m = n → clS M0 e j c M → (∀ M', clS M0 e n c M' → k (nI n) M') → xw_Mv_lookAtHouse_2 0 post k (m + 1) (nI j) M := by
  have hn : n ≤ 12 := hm.2.2.2.1
  intro m
  induction m with
  | zero =>
    intro j M hj hS h
    obtain rfl : j = n := by omega
    have hM : M 0 3 0 = nI j := by rw [hS.1 0 3 (by decide) (by decide)]; exact hm.2.2.2.2.2.2.1
    unfold xw_Mv_lookAtHouse_2
    rw [hM]
    exact ⟨fun _ => h M hS, fun z => absurd (nI_le (Nat.le_refl _) (by omega)) z⟩
  | succ m ih =>
    intro j M hj hS h
    have hM : M 0 3 0 = nI n := by rw [hS.1 0 3 (by decide) (by decide)]; exact hm.2.2.2.2.2.2.1
    have hE' : eyC M e := hm.2.1.to (hS.1 0 1 (by decide) (by decide)) (hS.1 0 2 (by decide) (by decide))
    unfold xw_Mv_lookAtHouse_2
    rw [hM, nI_clamp (by omega), nI_1, hS.2.1 j (by omega)]
    refine ⟨fun z => absurd ((nI_leI (by omega) (by omega)).mp z) (by omega), fun _ => ⟨vp_in_nI (by omega) (by omega), ?_⟩⟩
    refine p_lookWithAll hm.1 (hS.2.2.2 j (by omega)) (by omega) (by omega) (by decide) (by decide) hE' (fun M' q1 q2 q3 => ?_)
    refine ih (j + 1) M' (by omega) ⟨fun g t h1 h2 => ?_, fun k hk => ?_, fun k hk => ?_, hS.2.2.2⟩ h
    · rw [q1 g t (fun w => h2 ⟨w.1, Or.inl w.2⟩)]; exact hS.1 g t h1 h2
    · rw [q1 0 4 (by decide)]; exact hS.2.1 k hk
    · by_cases ek : k = j
      · subst ek; exact q3
      · intro s hs hct
        rw [q2 _ (by omega)]
        exact hS.2.2.1 k (by omega) s hs hct
theorem i_least {c : Int32} {M : xM} {post : Int32 → xM → Prop} (h : post (b2 (1 ≤ c ∧ c ≤ 2000000)) M) : xw_CA_isLeastDistance c M post := (w_CA_isLeast _ _ _).mpr h
/-- other colours in the house, and perhaps another answer of stuck -/
theorem xInv.col {M M' : xM} {c : Nat → Int32} (h : xInv M) (hst : M' 8 0 8 = M' 9 0 0) (h0 : ∀ t, ¬ t = 4 → M' 0 t = M 0 t) (hg : ∀ g t, 1 ≤ g → g < 8 → M' g t = M g t) (h8 : ∀ t, (t = 2 ∨ t = 4 ∨ t = 10 ∨ t = 14 ∨ t = 15) → M' 8 t = M 8 t) (hsk : M' 8 11 2 = M' 9 0 24) (h9 : ∀ t, 1 ≤ t → ¬ t = 6 → M' 9 t = M 9 t) (h90 : ∀ k, 1 ≤ k → ¬ k = 24 → M' 9 0 k = M 9 0 k) (h04 : ∀ k, k < 12 → M' 0 4 k = c k) (h96 : ∀ k, k < 12 → M' 9 6 k = c k) (hc : ∀ k, k < 12 → sp_col (c k)) : xInv M' := by
  have e1 : M' 1 = M 1 := funext fun i => hg 1 i (by omega) (by omega)
  have e2 : M' 2 = M 2 := funext fun i => hg 2 i (by omega) (by omega)
  have e3 : M' 3 = M 3 := funext fun i => hg 3 i (by omega) (by omega)
  have ei := iv_to (h9 20 (by omega) (by omega))
  obtain ⟨-, ⟨hE, hG, n, q, hn, hq, ⟨n1, n2⟩, ⟨q1, q2⟩, hcc, hr, hb, hp⟩, k2, k3, k4, k5, k6⟩ := h
  refine ⟨hst, ⟨?_, ?_, n, q, hn, hq, ⟨?_, ?_⟩, ⟨?_, ?_⟩, fun k hk => ⟨?_, ?_, ?_⟩, fun k hk => ⟨?_, ?_, ?_⟩, fun k hk => ⟨?_, ?_⟩, fun p hp' => ?_⟩, ?_, ?_, hsk, ?_, ?_⟩
  · show vEyes (M' 0 1) (M' 0 2) (M' 9 0 5) (M' 9 0 6) (M' 9 4) (M' 9 5)
    rw [h0 1 (by decide), h0 2 (by decide), h90 5 (by decide) (by decide), h90 6 (by decide) (by decide), h9 4 (by decide) (by decide), h9 5 (by decide) (by decide)]; exact hE
  · show vGrid (M' 0 12) (M' 9 0 7)
    rw [h0 12 (by decide), h90 7 (by decide) (by decide)]; exact hG
  · show M' 9 0 9 = nI n
    rw [h90 9 (by decide) (by decide)]; exact n1
  · show M' 0 3 0 = nI n
    rw [h0 3 (by decide)]; exact n2
  · show M' 9 0 10 = nI q
    rw [h90 10 (by decide) (by decide)]; exact q1
  · show M' 0 3 6 = nI q
    rw [h0 3 (by decide)]; exact q2
  · show M' 0 4 k = M' 9 6 k
    exact (h04 k hk).trans (h96 k hk).symm
  · show M' 0 5 k = M' 9 7 k
    rw [h0 5 (by decide), h9 7 (by decide) (by decide)]; exact (hcc k hk).2.1
  · show M' 0 6 k = M' 9 8 k
    rw [h0 6 (by decide), h9 8 (by decide) (by decide)]; exact (hcc k hk).2.2
  · show sp_col (M' 9 6 k)
    rw [h96 k hk]; exact hc k hk
  · show M' 9 7 k = 0 ∨ M' 9 7 k = 1
    rw [h9 7 (by decide) (by decide)]; exact (hr k hk).2.1
  · show M' 9 8 k = -1 ∨ ∃ j : Nat, j < 8 ∧ M' 9 8 k = nI j
    rw [h9 8 (by decide) (by decide)]; exact (hr k hk).2.2
  · show M' 0 7 k = M' 9 9 k
    rw [h0 7 (by decide), h9 9 (by decide) (by decide)]; exact (hb k hk).1
  · show M' 0 8 k = M' 9 10 k
    rw [h0 8 (by decide), h9 10 (by decide) (by decide)]; exact (hb k hk).2
  · show M' 0 11 p = M' 9 13 p ∧ ∃ a b : Nat, a < b ∧ b < n ∧ M' 0 9 p = nI a ∧ M' 0 10 p = nI b ∧ ((M' 9 11 p = nI a ∧ M' 9 12 p = nI b) ∨ (M' 9 11 p = nI b ∧ M' 9 12 p = nI a))
    rw [h0 11 (by decide), h0 9 (by decide), h0 10 (by decide), h9 13 (by decide) (by decide), h9 11 (by decide) (by decide), h9 12 (by decide) (by decide)]
    exact hp p hp'
  · rw [e1, e2, e3, ei, ei, ei, h8 2 (by omega), h9 19 (by omega) (by omega)]; exact k2
  · unfold vChosen; rw [h8 4 (by omega), h8 10 (by omega), h90 23 (by omega) (by omega), h9 17 (by omega) (by omega)]; exact k3
  · unfold vRamp; rw [h8 14 (by omega), h8 15 (by omega), h90 25 (by omega) (by omega), h9 18 (by omega) (by omega)]; exact k5
  · rw [hg 4 0 (by omega) (by omega), hg 4 1 (by omega) (by omega), hg 5 0 (by omega) (by omega), hg 5 1 (by omega) (by omega), hg 6 0 (by omega) (by omega), hg 6 1 (by omega) (by omega), hg 7 0 (by omega) (by omega), hg 7 1 (by omega) (by omega), h9 1 (by omega) (by omega), h9 2 (by omega) (by omega), h9 3 (by omega) (by omega)]; exact k6
theorem mvR_l {z : Int32} {M0 : xM} {e : xE} {n q L : Nat} (ok : eyOk e) {d : Int32} {c : Nat → Int32} {i K : Nat} {f l : Int32} (h : mvR z M0 e n q L d c i K f l) (hf : ¬ f = -1) : ∃ j : Nat, j ≤ 1950750 ∧ l = nI j := by
  rcases h with ⟨h1, -⟩ | ⟨p, -, -, -, h4, -⟩
  · exact absurd h1 hf
  · rw [h4]; exact dd_nI ok _ _ _
theorem mvR_col {z : Int32} {M0 : xM} {e : xE} {n q L : Nat} (hL : 2 ≤ L) {d : Int32} {c : Nat → Int32} {i : Nat} (hc : sp_col (c i)) {f l : Int32} (h : mvR z M0 e n q L d c i (L * L * L + 1) f l) (hf : ¬ f = -1) : sp_col f ∧ pMay M0 e n q d c i f := by
  rcases h with ⟨h1, -⟩ | ⟨p, p1, p2, p3, -⟩
  · exact absurd h1 hf
  · rw [p3]; exact ⟨cnd_col hL hc p1, p2⟩
theorem op_move : ∀ (M : xM) (a b : Int32), xInv M → xw_CA_move a b M (fun r M1 => xw_Mo_move a b M1 (fun q M2 => r = q ∧ xInv M2)) := by
  intro M a d hI
  obtain ⟨e, n, q, L, hm⟩ := mC.of hI.2.1
  have hn : n ≤ 12 := hm.2.2.2.1
  have hL : 2 ≤ L := hm.2.2.2.2.2.2.2.2.2.1
  have n1 : M 9 0 9 = nI n := hm.2.2.2.2.2.1
  have n2 : M 0 3 0 = nI n := hm.2.2.2.2.2.2.1
  obtain ⟨n', q', hn', hq', -, -, hcc, hr, -, -⟩ := hI.2.1.2.2
  have hcol : ∀ k, k < 12 → sp_col (M 9 6 k) := fun k hk => (hr k hk).1
  have h46 : ∀ k, k < 12 → M 0 4 k = M 9 6 k := fun k hk => (hcc k hk).1
  unfold xw_CA_move
  refine i_least (br (fun h1 => p_has hn n2 (br (fun h2 => ?_) (fun h2 => i_refd ?_))) (fun h1 => i_refd ?_))
  · obtain ⟨i, hi, rfl⟩ := in_nI (by omega) h2
    have hin : vp_in (nI i) 12 := vp_in_nI (by omega) (by omega)
    have ef : M 0 5 i = M 9 7 i := (hcc i (by omega)).2.1
    rw [nI_clamp (by omega)]
    refine ⟨hin, ?_⟩
    unfold xj
    dsimp only
    refine ⟨fun hf => ?_, fun hf => ⟨fun w => absurd rfl w, fun _ => i_refd ?_⟩⟩
    · unfold xw_Mv_moveOne xw_Mv_lookAtHouse
      refine ⟨n + 1, p_lookHouse hm (c := M 9 6) n 0 M (by omega) ⟨fun _ _ _ _ => rfl, h46, fun k hk => absurd hk (by omega), hcol⟩ (fun M1 hS1 => p_shift hm hi hS1 (fun M2 f l hR hS2 => ?_))⟩
      rcases hS2 with ⟨hf1, hS2⟩ | ⟨hf1, hS2⟩
      · rw [if_pos hf1]
        refine ⟨fun w => absurd rfl w, fun _ => i_refd ?_⟩
        have h9 : ∀ t, (us M2 8 0 8 (-6)) 9 t = M 9 t := fun t => by
          rw [us_ne _ _ (by omega)]; exact hS2.1 9 t (by omega) (by omega)
        refine i_in (br (fun _ => p_isIn (n := n) (by rw [h9]; exact n1) (br (fun _ => ⟨hin, ?_⟩) (fun w => absurd h2 w))) (fun w => absurd h1 w))
        rw [nI_clamp (by omega), h9 7]
        refine ⟨fun _ => p_moves hm hi hcol (fun t _ => h9 t) (fun k _ => by rw [h9]) (fun f' l' hR' => ?_), fun w => absurd (ef.symm.trans hf) w⟩
        obtain ⟨u1, u2⟩ := isR.uniq hR hR'
        subst u1
        refine ⟨fun _ => ?_, fun w => absurd hf1 w⟩
        have el : l' = -1 := by
          rcases u2 with ⟨-, -, w⟩ | ⟨-, p, p1, p2, p3, -⟩
          · exact w
          · exact absurd (p3.symm.trans hf1) (col_ne (cnd_col hL (hcol i (by omega)) p1))
        unfold xj
        rw [el]
        refine ⟨fun w => absurd rfl w, fun _ => i_ends ⟨rfl, ?_⟩⟩
        rw [if_pos (by decide)]
        refine hI.col (c := M 9 6) rfl (fun t ht => ?_) (fun g t h1 h2 => ?_) (fun t ht => ?_) ?_ (fun t h1 h2 => ?_) (fun k h1 h2 => ?_) (fun k hk => ?_) (fun k hk => ?_) hcol
        · rw [us_ne _ _ (by omega), us_ne _ _ (by omega)]; exact hS2.1 0 t (by omega) (by omega)
        · rw [us_ne _ _ (by omega), us_ne _ _ (by omega)]; exact hS2.1 g t (by omega) (by omega)
        · rw [us_ne _ _ (by omega), us_ne _ _ (by omega)]; exact hS2.1 8 t (by omega) (by omega)
        · rw [us_ne _ _ (by decide), us_ne _ _ (by decide), us_self, upd_ne _ _ (by decide), h9, hS2.1 8 11 (by decide) (by decide)]; exact hI.2.2.2.2.1
        · rw [us_ne _ _ (by omega), h9]
        · rw [us_self, upd_ne _ _ (by omega), h9]
        · rw [us_ne _ _ (by decide), us_ne _ _ (by decide)]; exact hS2.2.1 k hk
        · rw [us_ne _ _ (by decide), h9]
      · rw [if_neg hf1]
        obtain ⟨j, hj, ej⟩ := mvR_l hm.1 hR hf1
        have hl1 : ¬ l = -1 := by rw [ej]; exact nI_m1 (by omega)
        refine ⟨fun _ => i_taken ?_, fun w => absurd w hl1⟩
        have h9 : ∀ t, (us M2 8 0 8 0) 9 t = M 9 t := fun t => by
          rw [us_ne _ _ (by omega)]; exact hS2.1 9 t (by omega) (by omega)
        refine i_in (br (fun _ => p_isIn (n := n) (by rw [h9]; exact n1) (br (fun _ => ⟨hin, ?_⟩) (fun w => absurd h2 w))) (fun w => absurd h1 w))
        rw [nI_clamp (by omega), h9 7]
        refine ⟨fun _ => p_moves hm hi hcol (fun t _ => h9 t) (fun k _ => by rw [h9]) (fun f' l' hR' => ?_), fun w => absurd (ef.symm.trans hf) w⟩
        obtain ⟨u1, u2⟩ := isR.uniq hR hR'
        subst u1
        refine ⟨fun w => absurd w hf1, fun _ => ?_⟩
        have el : l = l' := by
          rcases u2 with ⟨w, -⟩ | ⟨w, -⟩
          · exact absurd w hf1
          · exact w
        unfold xj
        rw [← el]
        refine ⟨fun _ => i_ok ⟨j, by omega, ej⟩ ⟨rfl, ?_⟩, fun w => absurd w hl1⟩
        have hfc := (mvR_col hL (hcol i (by omega)) hR hf1).1
        refine hI.col (c := upd (M 9 6) i f) rfl (fun t ht => ?_) (fun g t h1 h2 => ?_) (fun t ht => ?_) ?_ (fun t h1 h2 => ?_) (fun k h1 h2 => ?_) (fun k hk => ?_) (fun k hk => ?_) (fun k hk => upd_pred (P := sp_col) hfc (hcol k hk))
        · rw [us_ne _ _ (by omega), us_ne _ _ (by omega), us_ne _ _ (by omega)]; exact hS2.1 0 t (by omega) (by omega)
        · rw [us_ne _ _ (by omega), us_ne _ _ (by omega), us_ne _ _ (by omega)]; exact hS2.1 g t (by omega) (by omega)
        · rw [us_ne _ _ (by omega), us_ne _ _ (by omega), us_ne _ _ (by omega)]; exact hS2.1 8 t (by omega) (by omega)
        · rw [us_ne _ _ (by decide), us_ne _ _ (by decide), us_ne _ _ (by decide), us_self, upd_ne _ _ (by decide), us_ne _ _ (by decide), h9, hS2.1 8 11 (by decide) (by decide)]; exact hI.2.2.2.2.1
        · rw [us_ne _ _ (by omega), us_ne _ _ (by omega), h9]
        · rw [us_self, upd_ne _ _ (by omega), us_ne _ _ (by decide), h9]
        · rw [us_ne _ _ (by decide), us_ne _ _ (by decide), us_ne _ _ (by decide)]; exact hS2.2.1 k hk
        · rw [us_ne _ _ (by decide), us_self, h9]
    · refine i_in (br (fun _ => p_isIn (n := n) (by exact n1) (br (fun _ => ⟨hin, ?_⟩) (fun w => absurd h2 w))) (fun w => absurd h1 w))
      rw [nI_clamp (by omega)]
      exact ⟨fun w => absurd (ef.trans w) hf, fun _ => ref_Mo (by decide) hI rfl⟩
  · exact i_in (br (fun _ => p_isIn (n := n) (by exact n1) (br (fun w => absurd w h2) (fun _ => ref_Mo (by decide) hI rfl))) (fun w => absurd h1 w))
  · exact i_in (br (fun w => absurd w h1) (fun _ => ref_Mo (by decide) hI rfl))
