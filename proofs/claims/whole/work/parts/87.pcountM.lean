/-! ===== best: the model goes through the sets ===== -/
theorem p_leastOf {M : xM} {P n : Nat} {F : Nat → Int32} {B : Nat → Nat → Int32} {s : Nat → Nat} (hP : P ≤ 64) (hn : n ≤ 5) (hs : ∀ k, k < n → s k < P) (h16 : ∀ k, k < n → M 9 16 k = nI (s k)) (hF : ∀ p, p < P → M 9 15 p = F p) (hB : ∀ a b, a < P → b < P → M 9 14 (64 * a + b) = B a b) {post : Int32 → xM → Prop} (h : post (vK F B s n) M) : xw_Mo_leastOf (nI n) M post := by
  have inner : ∀ {K : Int32 → Int32 → xM → Prop} {k : Nat} {x : Int32} (_ : k < n) (m j : Nat), j + m = k → K (vB B s (s k) k x) (nI k) M → xw_Mo_leastOf_44 (nI n) (nI k) post K (m + 1) (vB B s (s k) j x) (nI j) M := by
    intro K k x hk m
    induction m with
    | zero =>
      intro j hj hK
      obtain rfl : j = k := by omega
      unfold xw_Mo_leastOf_44
      exact ⟨fun _ => hK, fun z => absurd (nI_le (Nat.le_refl _) (by omega)) z⟩
    | succ m ih =>
      intro j hj hK
      have a := hs j (by omega)
      have b := hs k hk
      have i1 : vp_in (nI j) 5 := vp_in_nI (by omega) (by omega)
      have i2 : vp_in (nI k) 5 := vp_in_nI (by omega) (by omega)
      have i3 : vp_in (nI (64 * s j + s k)) 4096 := vp_in_nI (by omega) (by omega)
      unfold xw_Mo_leastOf_44
      rw [nI_clamp (by omega), nI_clamp (by omega), h16 j (by omega), h16 k hk, show (64 : Int32) = nI 64 from rfl, pk_mul, nI_add, nI_clamp (by omega), nI_1, hB (s j) (s k) a b]
      have next : ∀ v, v = vB B s (s k) (j + 1) x → xw_Mo_leastOf_44 (nI n) (nI k) post K (m + 1) v (nI (j + 1)) M := by
        rintro v rfl
        exact ih (j + 1) (by omega) hK
      refine ⟨fun z => absurd ((nI_leI (by omega) (by omega)).mp z) (by omega), fun _ => ⟨i1, i2, i3, fun z => next _ ?_, fun z => ⟨i1, i2, i3, next _ ?_⟩⟩⟩
      · show _ = mn _ _
        unfold mn
        rw [if_neg (by rw [ile] at z; rw [ilt]; omega)]
      · show _ = mn _ _
        unfold mn
        rw [if_pos (by rw [ile] at z; rw [ilt]; omega)]
  have outer : ∀ {K : Int32 → Int32 → xM → Prop} (m k : Nat), k + m = n → K (vK F B s n) (nI n) M → xw_Mo_leastOf_5 (nI n) post K (m + 1) (vK F B s k) (nI k) M := by
    intro K m
    induction m with
    | zero =>
      intro k hk hK
      obtain rfl : k = n := by omega
      unfold xw_Mo_leastOf_5
      exact ⟨fun _ => hK, fun z => absurd (nI_le (Nat.le_refl _) (by omega)) z⟩
    | succ m ih =>
      intro k hk hK
      have a := hs k (by omega)
      have i1 : vp_in (nI k) 5 := vp_in_nI (by omega) (by omega)
      have i2 : vp_in (nI (s k)) 64 := vp_in_nI (by omega) (by omega)
      unfold xw_Mo_leastOf_5
      rw [nI_clamp (by omega), h16 k (by omega), nI_clamp (by omega), nI_1, hF (s k) a]
      refine ⟨fun z => absurd ((nI_leI (by omega) (by omega)).mp z) (by omega), fun _ => ⟨i1, i2, ?_⟩⟩
      refine xj2 (fun v M' => M' = M ∧ v = mn (vK F B s k) (F (s k))) (fun v M' hPv => ?_) (fun J hJ => ⟨fun z => hJ _ _ ⟨rfl, ?_⟩, fun z => ⟨i1, i2, hJ _ _ ⟨rfl, ?_⟩⟩⟩)
      · obtain ⟨hM', rfl⟩ := hPv
        rw [hM']
        exact ⟨k + 1, inner (by omega) k 0 (by omega) (ih (k + 1) (by omega) hK)⟩
      · unfold mn
        rw [if_neg (by rw [ile] at z; rw [ilt]; omega)]
      · unfold mn
        rw [if_pos (by rw [ile] at z; rw [ilt]; omega)]
  exact ⟨n + 1, outer n 0 (by omega) h⟩
/-- the next set as rows -/
def nxt (s : Nat → Nat) (k : Nat) : Nat → Nat := fun j => if j < k then s j else s k + 1 + (j - k)
theorem nxt_lt (s : Nat → Nat) {k j : Nat} (h : j < k) : nxt s k j = s j := if_pos h
theorem nxt_ge (s : Nat → Nat) {k j : Nat} (h : k ≤ j) : nxt s k j = s k + 1 + (j - k) := if_neg (by omega)
theorem nxt_ok {P n : Nat} (hP : P ≤ 64) (hnP : n ≤ P) {s : Nat → Nat} (hs : sS P n s) {k : Nat} (hk : k < n) (h1 : ¬ s k = P - n + k) (h2 : ∀ i, k < i → i < n → s i = P - n + i) : sS P n (nxt s k) ∧ cd s n < cd (nxt s k) n ∧ ∀ u, sS P n u → cd u n < cd (nxt s k) n → cd u n ≤ cd s n := by
  have hk2 := sS_hi hs hk
  have ec : cd (nxt s k) k = cd s k := cd_cong k (fun j hj => nxt_lt s hj)
  have ek : nxt s k k = s k + 1 := by rw [nxt_ge s (Nat.le_refl _)]; omega
  have hS : sS P n (nxt s k) := by
    refine ⟨fun j hj => ?_, fun j hj => ?_⟩
    · by_cases e1 : j + 1 < k
      · rw [nxt_lt s e1, nxt_lt s (by omega)]; exact hs.1 j hj
      · by_cases e2 : j < k
        · rw [nxt_lt s e2, nxt_ge s (by omega)]
          have ej : j + 1 = k := by omega
          have := hs.1 j hj
          rw [ej] at this
          omega
        · rw [nxt_ge s (by omega), nxt_ge s (by omega)]; omega
    · by_cases e1 : j < k
      · rw [nxt_lt s e1]; exact hs.2 j hj
      · rw [nxt_ge s (by omega)]; omega
  have c64 : ∀ u, sS P n u → ∀ j, j < n → u j < 64 := fun u hu j hj => Nat.lt_of_lt_of_le (hu.2 j hj) hP
  refine ⟨hS, ?_, fun u hu hlt => ?_⟩
  · rcases Nat.lt_or_ge (cd s n) (cd (nxt s k) n) with w | w
    · exact w
    · have a := cd_pre (i := k + 1) n (by omega) (c64 _ hS) (c64 _ hs) w
      have a : cd (nxt s k) k * 64 + nxt s k k ≤ cd s k * 64 + s k := a
      omega
  · rcases Nat.lt_or_ge (cd s n) (cd u n) with w | w
    · exfalso
      have a : cd s k * 64 + s k ≤ cd u k * 64 + u k := cd_pre (i := k + 1) n (by omega) (c64 _ hs) (c64 _ hu) (by omega)
      have b : cd u k * 64 + u k ≤ cd (nxt s k) k * 64 + nxt s k k := cd_pre (i := k + 1) n (by omega) (c64 _ hu) (c64 _ hS) (by omega)
      have u64 := c64 u hu k hk
      have s64 := c64 s hs k hk
      have n64 := c64 _ hS k hk
      rw [ec, ek] at b
      have hor : (cd u (k + 1) = cd s (k + 1)) ∨ (cd u (k + 1) = cd (nxt s k) (k + 1) ∧ u k = s k + 1) := by
        rcases (show cd u k * 64 + u k = cd s k * 64 + s k ∨ cd u k * 64 + u k = cd s k * 64 + (s k + 1) by omega) with q | q
        · exact Or.inl q
        · refine Or.inr ⟨?_, by omega⟩
          show cd u k * 64 + u k = cd (nxt s k) k * 64 + nxt s k k
          rw [ec, ek]; exact q
      rcases hor with q | ⟨q, q2⟩
      · have := cd_mono (s := u) (s' := s) (i := k + 1) (by omega) n (by omega) (fun j j1 j2 => by
          rw [h2 j (by omega) j2]
          have := sS_hi hu j2
          omega)
        omega
      · have := cd_mono (s := nxt s k) (s' := u) (i := k + 1) (by omega) n (by omega) (fun j j1 j2 => by
          rw [nxt_ge s (by omega)]
          have := sS_up hu (i := k) (j - k) (by omega)
          rw [show k + (j - k) = j by omega] at this
          omega)
        omega
    · exact w
theorem nxt_no {P n : Nat} (hnP : n ≤ P) {s : Nat → Nat} (h : ∀ i, i < n → s i = P - n + i) {u : Nat → Nat} (hu : sS P n u) : cd u n ≤ cd s n :=
  cd_mono (s := u) (s' := s) (i := 0) (Nat.le_refl _) n (by omega) (fun j _ j2 => by
    rw [h j j2]
    have := sS_hi hu j2
    omega)
theorem p_counts {M : xM} {L P n : Nat} {s : Nat → Nat} (hL2 : L ≤ 4) (hP : P = L * L * L) (hn : n ≤ 5) (hnP : n ≤ P) (hs : sS P n s) (h16 : ∀ k, k < n → M 9 16 k = nI (s k)) (hg : M 9 0 7 = nI L) {post : Int32 → xM → Prop} (h1 : ∀ s' M', (∀ g t, ¬ (g = 9 ∧ t = 16) → M' g t = M g t) → (∀ k, k < n → M' 9 16 k = nI (s' k)) → sS P n s' → cd s n < cd s' n → (∀ u, sS P n u → cd u n < cd s' n → cd u n ≤ cd s n) → post 1 M') (h0 : (∀ u, sS P n u → cd u n ≤ cd s n) → post 0 M) : xw_Mo_counts (nI n) M post := by
  have h64 := n3le hL2
  have down : ∀ {K : Int32 → xM → Prop} (j : Nat), j ≤ n → (∀ i, j ≤ i → i < n → s i = P - n + i) → (∀ i, i < n → ¬ s i = P - n + i → (∀ i', i < i' → i' < n → s i' = P - n + i') → K (nI i) M) → ((∀ i, i < n → s i = P - n + i) → K (-1) M) → xw_Mo_counts_4 (nI n) post K (j + 1) (nI j - 1) M := by
    intro K j
    induction j with
    | zero =>
      intro _ hj k1 k2
      unfold xw_Mo_counts_4
      rw [show nI 0 - 1 = -1 from rfl]
      exact ⟨fun _ => k2 (fun i hi => hj i (by omega) hi), fun z => absurd (by decide) z⟩
    | succ j ih =>
      intro hjn hj k1 k2
      unfold xw_Mo_counts_4 xw_Mo_places
      rw [nI_pred, nI_clamp (by omega), h16 j (by omega), hg, pk_mul, pk_mul, ← hP]
      dsimp only
      rw [pk_sub hnP, nI_add, nI_eq (by have := hs.2 j (by omega); omega) (by omega)]
      refine ⟨fun z => absurd z (nI_pos (by omega)), fun _ => ⟨vp_in_nI (by omega) (by omega), fun z => k1 j (by omega) z (fun i' w1 w2 => hj i' (by omega) w2), fun z => ?_⟩⟩
      rw [show nI j + (-1 : Int32) = nI j - 1 from (Int32.sub_eq_add_neg _ _).symm]
      exact ih (by omega) (fun i i1 i2 => by
        by_cases ei : i = j
        · subst ei; exact z
        · exact hj i (by omega) i2) k1 k2
  have fill : ∀ {K : Int32 → xM → Prop} {t : Nat → Nat} {k : Nat} (_ : ∀ j, k < j → j < n → t j = t (j - 1) + 1) (m j : Nat) (M1 : xM), k < j → j + m = n → (∀ g t, ¬ (g = 9 ∧ t = 16) → M1 g t = M g t) → (∀ i, i < j → M1 9 16 i = nI (t i)) → (∀ M', (∀ g t, ¬ (g = 9 ∧ t = 16) → M' g t = M g t) → (∀ i, i < n → M' 9 16 i = nI (t i)) → K (nI n) M') → xw_Mo_counts_51 (nI n) post K (m + 1) (nI j) M1 := by
    intro K t k ht m
    induction m with
    | zero =>
      intro j M1 hkj hj hf ha hK
      obtain rfl : j = n := by omega
      unfold xw_Mo_counts_51
      exact ⟨fun _ => hK M1 hf ha, fun z => absurd (nI_le (Nat.le_refl _) (by omega)) z⟩
    | succ m ih =>
      intro j M1 hkj hj hf ha hK
      obtain ⟨j, rfl⟩ : ∃ j', j = j' + 1 := ⟨j - 1, by omega⟩
      unfold xw_Mo_counts_51
      rw [nI_pred, nI_clamp (by omega), nI_clamp (by omega), ha j (by omega), nI_1, nI_1]
      refine ⟨fun z => absurd ((nI_leI (by omega) (by omega)).mp z) (by omega), fun _ => ⟨vp_in_nI (by omega) (by omega), vp_in_nI (by omega) (by omega), ih (j + 1 + 1) _ (by omega) (by omega) (fun g t hgt => ?_) (fun i hi => ?_) hK⟩⟩
      · rw [us_ne _ _ hgt]; exact hf g t hgt
      · rw [us_self]
        by_cases ei : i = j + 1
        · subst ei
          rw [upd_self]
          have := ht (j + 1) hkj (by omega)
          rw [show j + 1 - 1 = j by omega] at this
          rw [this]
        · rw [upd_ne _ _ ei]; exact ha i (by omega)
  unfold xw_Mo_counts
  refine ⟨n + 1, down n (Nat.le_refl _) (fun i _ _ => by omega) (fun k hk z1 z2 => ⟨fun _ => ?_, fun w => absurd (nI_pos' (by omega)) w⟩) (fun z => ⟨fun w => absurd w (by decide), fun _ => h0 (fun u hu => nxt_no hnP z hu)⟩)⟩
  obtain ⟨x1, x2, x3⟩ := nxt_ok (by omega) hnP hs hk z1 z2
  have hin : vp_in (nI k) 5 := vp_in_nI (by omega) (by omega)
  have sk := hs.2 k hk
  rw [nI_clamp (by omega), h16 k hk, nI_1, nI_1]
  refine ⟨hin, hin, n - (k + 1) + 1, fill (t := nxt s k) (k := k) (fun j j1 j2 => ?_) (n - (k + 1)) (k + 1) _ (by omega) (by omega) (fun g t hgt => us_ne _ _ hgt) (fun i hi => ?_) (fun M' a1 a2 => h1 _ M' a1 a2 x1 x2 x3)⟩
  · rw [nxt_ge s (by omega), nxt_ge s (by omega)]; omega
  · rw [us_self]
    by_cases ei : i = k
    · subst ei
      rw [upd_self, nxt_ge s (Nat.le_refl _), show i - i = 0 by omega]
    · rw [upd_ne _ _ ei, nxt_lt s (by omega)]; exact h16 i (by omega)
