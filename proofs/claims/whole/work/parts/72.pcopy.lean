/-! ===== the class's copies ===== -/
def agC (C C' : Nat → Nat → Int32) : Prop := (∀ j, 1 ≤ j → j ≤ 5 → C' 1 j = C 1 j) ∧ (∀ j, j < 27 → C' 2 j = C 2 j) ∧ (C' 3 0 = C 3 0 ∧ C' 3 6 = C 3 6) ∧ (∀ j, j < 12 → C' 4 j = C 4 j ∧ C' 5 j = C 5 j ∧ C' 6 j = C 6 j) ∧ (∀ j, j < 8 → C' 7 j = C 7 j ∧ C' 8 j = C 8 j) ∧ (∀ j, j < 20 → C' 9 j = C 9 j ∧ C' 10 j = C 10 j ∧ C' 11 j = C 11 j) ∧ C' 12 0 = C 12 0
def agM (m m' : Nat → Nat → Int32) : Prop := (∀ j, j < 12 → m' 0 j = m 0 j ∧ m' 1 j = m 1 j ∧ m' 9 j = m 9 j) ∧ (∀ j, j < 8 → m' 2 j = m 2 j ∧ m' 3 j = m 3 j) ∧ (∀ j, j < 20 → m' 4 j = m 4 j ∧ m' 5 j = m 5 j ∧ m' 6 j = m 6 j) ∧ (∀ j, j < 27 → m' 7 j = m 7 j) ∧ (∀ j, j < 3 → m' 8 j = m 8 j) ∧ (∀ j, j < 5 → m' 10 j = m 10 j)
theorem vKept.ag {C C' m m' : Nat → Nat → Int32} (h : vKept C m) (hC : agC C C') (hM : agM m m') : vKept C' m' := by
  obtain ⟨⟨⟨h1, n, n1, n2, h2⟩, ⟨h3, j, j1, j2, h4⟩, ⟨h5, h6, h7, h8⟩, h9⟩, ⟨g1, l, l1, l2, g2⟩, ⟨k, q, hk, hq, ⟨k1, k2⟩, ⟨q1, q2⟩, hc, hr, hb, hp⟩⟩ := h
  obtain ⟨c1, c2, c3, c4, c7, c9, c12⟩ := hC
  obtain ⟨m0, m2, m4, m7, m8, m10⟩ := hM
  refine ⟨⟨⟨?_, n, n1, n2, ?_⟩, ⟨?_, j, j1, j2, ?_⟩, ⟨?_, ?_, ?_, fun t ht => ?_⟩, fun t ht => ?_⟩, ⟨?_, l, l1, l2, ?_⟩, ⟨k, q, hk, hq, ⟨?_, ?_⟩, ⟨?_, ?_⟩, fun t ht => ?_, fun t ht => ?_, fun t ht => ?_, fun p hpq => ?_⟩⟩
  · rw [c1 1 (by omega) (by omega), m10 2 (by omega)]; exact h1
  · rw [m10 2 (by omega)]; exact h2
  · rw [c1 5 (by omega) (by omega), m10 3 (by omega)]; exact h3
  · rw [m10 3 (by omega)]; exact h4
  · rw [c1 2 (by omega) (by omega), m8 0 (by omega)]; exact h5
  · rw [c1 3 (by omega) (by omega), m8 1 (by omega)]; exact h6
  · rw [c1 4 (by omega) (by omega), m8 2 (by omega)]; exact h7
  · rw [m8 t ht]; exact h8 t ht
  · rw [c2 t ht, m7 t ht]; exact h9 t ht
  · rw [c12, m10 4 (by omega)]; exact g1
  · rw [m10 4 (by omega)]; exact g2
  · rw [m10 0 (by omega)]; exact k1
  · rw [c3.1]; exact k2
  · rw [m10 1 (by omega)]; exact q1
  · rw [c3.2]; exact q2
  · rw [(c4 t ht).1, (c4 t ht).2.1, (c4 t ht).2.2, (m0 t ht).1, (m0 t ht).2.1, (m0 t ht).2.2]; exact hc t ht
  · rw [(m0 t ht).1, (m0 t ht).2.1, (m0 t ht).2.2]; exact hr t ht
  · rw [(c7 t ht).1, (c7 t ht).2, (m2 t ht).1, (m2 t ht).2]; exact hb t ht
  · have z : p < 20 := by omega
    unfold vPair
    rw [(c9 p z).1, (c9 p z).2.1, (c9 p z).2.2, (m4 p z).1, (m4 p z).2.1, (m4 p z).2.2]
    exact hp p hpq
theorem us_g (M : xM) {g g' i k : Nat} {v : Int32} (h : ¬ g' = g) : us M g i k v g' = M g' := by
  funext i'; exact us_ne M v (fun z => h z.1)
theorem uc_g (M : xM) {g g' i : Nat} {f : Nat → Int32} (h : ¬ g' = g) : uc M g i f g' = M g' := by
  funext i'; exact uc_ne M f (fun z => h z.1)
theorem us_i (M : xM) {g i i' k : Nat} {v : Int32} (h : ¬ i' = i) : us M g i k v g i' = M g i' := us_ne M v (fun z => h z.2)
theorem uc_i (M : xM) {g i i' : Nat} {f : Nat → Int32} (h : ¬ i' = i) : uc M g i f g i' = M g i' := uc_ne M f (fun z => h z.2)
theorem us_v (M : xM) (g i k : Nat) (v : Int32) : us M g i k v g i k = v := by rw [us_self, upd_self]
theorem us_k (M : xM) {g i k k' : Nat} {v : Int32} (h : ¬ k' = k) : us M g i k v g i k' = M g i k' := by rw [us_self, upd_ne _ _ h]
theorem p_Ey_copy {g g1 : Nat} (hg : ¬ g1 = g) {M : xM} {post : xM → Prop} (h : ∀ M', (∀ x, ¬ x = g → M' x = M x) → (∀ i, ¬ i = 1 → ¬ i = 2 → M' g i = M g i) → (∀ j, 1 ≤ j → j ≤ 5 → M' g 1 j = M g1 1 j) → (∀ j, j < 27 → M' g 2 j = M g1 2 j) → post M') : xw_Ey_copyFrom g g1 M post := by
  unfold xw_Ey_copyFrom
  refine ⟨fun z => hg z.1, by decide, h _ (fun x hx => ?_) (fun i h1 h2 => ?_) (fun j h1 h2 => ?_) (fun j hj => ?_)⟩
  · simp only [us_g _ hx, uc_g _ hx]
  · simp only [us_i _ h1, uc_i _ h2]
  · rcases (show j = 1 ∨ j = 2 ∨ j = 3 ∨ j = 4 ∨ j = 5 by omega) with rfl | rfl | rfl | rfl | rfl <;> simp [us_g _ hg, uc_g _ hg, us_self, upd]
  · simp only [us_i _ (show ¬ 2 = 1 by decide), uc_self]
    exact sb_cpy0 hj
theorem p_Ho_loop {g g1 : Nat} (hg : ¬ g1 = g) {post : xM → Prop} {k : Int32 → xM → Prop} : ∀ (m j : Nat) (M : xM), j + m = 12 → (∀ t, t < 12 → M g1 5 t &&& 1 = M g1 5 t) →
    (∀ M', (∀ x, ¬ x = g → M' x = M x) → (∀ i, ¬ i = 4 → ¬ i = 5 → ¬ i = 6 → M' g i = M g i) → (∀ t, t < j → M' g 4 t = M g 4 t ∧ M' g 5 t = M g 5 t ∧ M' g 6 t = M g 6 t) → (∀ t, j ≤ t → t < 12 → M' g 4 t = M g1 4 t ∧ M' g 5 t = M g1 5 t ∧ M' g 6 t = M g1 6 t) → k (nI 12) M') → xw_Ho_copyFrom_10 g g1 post k (m + 1) (nI j) M := by
  intro m
  induction m with
  | zero =>
    intro j M hj hb h
    obtain rfl : j = 12 := by omega
    unfold xw_Ho_copyFrom_10
    exact ⟨fun _ => h M (fun _ _ => rfl) (fun _ _ _ _ => rfl) (fun _ _ => ⟨rfl, rfl, rfl⟩) (fun t h1 h2 => by omega), fun z => absurd (by decide) z⟩
  | succ m ih =>
    intro j M hj hb h
    unfold xw_Ho_copyFrom_10
    have hin : vp_in (nI j) 12 := vp_in_nI (by omega) (by omega)
    rw [nI_clamp (by omega), nI_1]
    simp only [us_g _ hg]
    refine ⟨fun z => absurd ((nI_leI (a := 12) (by omega) (by omega)).mp z) (by omega), fun _ => ⟨hin, hin, hin, hb j (by omega), hin, hin, hin, ih (j + 1) _ (by omega) (fun t ht => ?_) (fun M' a1 a2 a3 a4 => h M' (fun x hx => ?_) (fun i i4 i5 i6 => ?_) (fun t ht => ?_) (fun t t1 t2 => ?_))⟩⟩
    · simp only [us_g _ hg]; exact hb t ht
    · rw [a1 x hx]; simp only [us_g _ hx]
    · rw [a2 i i4 i5 i6]; simp only [us_i _ i4, us_i _ i5, us_i _ i6]
    · obtain ⟨b1, b2, b3⟩ := a3 t (by omega)
      have ne : ¬ t = j := by omega
      rw [b1, b2, b3]
      simp [us_i, us_k _ ne]
    · by_cases e : t = j
      · subst e
        obtain ⟨b1, b2, b3⟩ := a3 t (by omega)
        rw [b1, b2, b3]
        simp [us_i, us_v]
      · obtain ⟨b1, b2, b3⟩ := a4 t (by omega) t2
        rw [b1, b2, b3]
        simp [us_g _ hg]
theorem p_Ho_copy {g g1 : Nat} (hg : ¬ g1 = g) {M : xM} (hb : ∀ t, t < 12 → M g1 5 t &&& 1 = M g1 5 t) {post : xM → Prop} (h : ∀ M', (∀ x, ¬ x = g → M' x = M x) → (∀ i, ¬ (3 ≤ i ∧ i ≤ 11) → M' g i = M g i) → (M' g 3 0 = M g1 3 0 ∧ M' g 3 6 = M g1 3 6) → (∀ j, j < 12 → M' g 4 j = M g1 4 j ∧ M' g 5 j = M g1 5 j ∧ M' g 6 j = M g1 6 j) → (∀ j, j < 8 → M' g 7 j = M g1 7 j ∧ M' g 8 j = M g1 8 j) → (∀ j, j < 20 → M' g 9 j = M g1 9 j ∧ M' g 10 j = M g1 10 j ∧ M' g 11 j = M g1 11 j) → post M') : xw_Ho_copyFrom g g1 M post := by
  unfold xw_Ho_copyFrom
  refine ⟨13, p_Ho_loop hg 12 0 _ (by omega) (fun t ht => by simp only [us_g _ hg]; exact hb t ht) (fun M' a1 a2 a3 a4 => ?_)⟩
  have e1 : M' g1 = M g1 := by rw [a1 g1 hg, us_g _ hg]
  refine ⟨fun z => hg z.1, by decide, fun z => hg z.1, by decide, fun z => hg z.1, by decide, fun z => hg z.1, by decide, fun z => hg z.1, by decide, h _ (fun x hx => ?_) (fun i hi => ?_) ⟨?_, ?_⟩ (fun j hj => ?_) (fun j hj => ⟨?_, ?_⟩) (fun j hj => ⟨?_, ?_, ?_⟩)⟩
  · simp only [us_g _ hx, uc_g _ hx]
    rw [a1 x hx, us_g _ hx]
  · simp only [us_i _ (show ¬ i = 3 by omega), uc_i _ (show ¬ i = 7 by omega), uc_i _ (show ¬ i = 8 by omega), uc_i _ (show ¬ i = 9 by omega), uc_i _ (show ¬ i = 10 by omega), uc_i _ (show ¬ i = 11 by omega)]
    rw [a2 i (by omega) (by omega) (by omega), us_i _ (by omega)]
  · simp [uc_i, us_k, a2, us_v]
  · simp [uc_i, us_v, uc_g _ hg, e1]
  · obtain ⟨b1, b2, b3⟩ := a4 j (by omega) hj
    simp only [us_g _ hg] at b1 b2 b3
    simp [uc_i, us_i, b1, b2, b3]
  · simp [uc_i, us_i, uc_self, uc_g _ hg, us_g _ hg, e1, pk_cpy_in, hj]
  · simp [uc_i, us_i, uc_self, uc_g _ hg, us_g _ hg, e1, pk_cpy_in, hj]
  · simp [uc_i, us_i, uc_self, uc_g _ hg, us_g _ hg, e1, pk_cpy_in, hj]
  · simp [uc_i, us_i, uc_self, uc_g _ hg, us_g _ hg, e1, pk_cpy_in, hj]
  · simp [uc_i, us_i, uc_self, uc_g _ hg, us_g _ hg, e1, pk_cpy_in, hj]
theorem p_Ke_copy {g g1 : Nat} (hg : ¬ g1 = g) {M : xM} (hb : ∀ t, t < 12 → M g1 5 t &&& 1 = M g1 5 t) {post : xM → Prop} (h : ∀ M', (∀ x, ¬ x = g → M' x = M x) → agC (M g1) (M' g) → post M') : xw_Ke_copyFrom g g1 M post := by
  unfold xw_Ke_copyFrom
  refine p_Ey_copy hg (fun M1 a1 a2 a3 a4 => p_Ho_copy hg (fun t ht => by rw [a1 g1 hg]; exact hb t ht) (fun M2 b1 b2 b3 b4 b5 b6 => h _ (fun x hx => ?_) ?_))
  · rw [us_g _ hx, b1 x hx, a1 x hx]
  · rw [a1 g1 hg] at b3 b4 b5 b6
    refine ⟨fun j h1 h2 => ?_, fun j hj => ?_, ⟨?_, ?_⟩, fun j hj => ?_, fun j hj => ?_, fun j hj => ?_, ?_⟩
    · rw [us_i _ (by decide), b2 1 (by omega)]; exact a3 j h1 h2
    · rw [us_i _ (by decide), b2 2 (by omega)]; exact a4 j hj
    · rw [us_i _ (by decide)]; exact b3.1
    · rw [us_i _ (by decide)]; exact b3.2
    · rw [us_i _ (by decide), us_i _ (by decide), us_i _ (by decide)]; exact b4 j hj
    · rw [us_i _ (by decide), us_i _ (by decide)]; exact b5 j hj
    · rw [us_i _ (by decide), us_i _ (by decide), us_i _ (by decide)]; exact b6 j hj
    · rw [us_v, b1 g1 hg, a1 g1 hg]
