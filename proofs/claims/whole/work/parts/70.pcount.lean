/-! ===== count, of, unmet ===== -/
def sp_cn (f : Nat → Int32) : Nat → Nat → Int32 → Int32
  | 0, _, x => x
  | m + 1, j, x => sp_cn f m (j + 1) (if f j = 0 then x else x + 1)
theorem sp_cn_cong {f g : Nat → Int32} : ∀ m j x, (∀ i, j ≤ i → i < j + m → f i = g i) → sp_cn f m j x = sp_cn g m j x := by
  intro m
  induction m with
  | zero => intro j x h; rfl
  | succ m ih =>
    intro j x h
    unfold sp_cn
    rw [h j (by omega) (by omega)]
    exact ih _ _ (fun i h1 h2 => h i (by omega) (by omega))
theorem p_fixedOnes {n : Nat} (hn : n ≤ 12) {M : xM} (hM : M 0 3 0 = nI n) {post : Int32 → xM → Prop} {k : Int32 → Int32 → xM → Prop} : ∀ m j x, j + m = n → k (sp_cn (M 0 5) m j x) (nI n) M → xw_Ho_fixedOnes_4 0 post k (m + 1) x (nI j) M := by
  intro m
  induction m with
  | zero =>
    intro j x hj h
    obtain rfl : j = n := by omega
    unfold xw_Ho_fixedOnes_4
    rw [hM]
    exact ⟨fun _ => h, fun z => absurd (nI_le (Nat.le_refl _) (by omega)) z⟩
  | succ m ih =>
    intro j x hj h
    unfold xw_Ho_fixedOnes_4
    rw [hM, nI_clamp (by omega), nI_1]
    unfold sp_cn at h
    refine ⟨fun z => absurd ((nI_leI (by omega) (by omega)).mp z) (by omega), fun _ => ⟨vp_in_nI (by omega) (by omega), fun z => ih _ _ (by omega) ?_, fun z => ih _ _ (by omega) ?_⟩⟩
    · rw [if_pos z] at h; exact h
    · rw [if_neg z] at h; exact h
theorem p_count43 {n : Nat} (hn : n ≤ 12) {M : xM} (hM : M 9 0 9 = nI n) {post : Int32 → xM → Prop} {k : Int32 → Int32 → xM → Prop} : ∀ m j x, j + m = n → k (sp_cn (M 9 7) m j x) (nI n) M → xw_Mo_count_43 post k (m + 1) x (nI j) M := by
  intro m
  induction m with
  | zero =>
    intro j x hj h
    obtain rfl : j = n := by omega
    unfold xw_Mo_count_43
    rw [hM]
    exact ⟨fun _ => h, fun z => absurd (nI_le (Nat.le_refl _) (by omega)) z⟩
  | succ m ih =>
    intro j x hj h
    unfold xw_Mo_count_43
    rw [hM, nI_clamp (by omega), nI_1]
    unfold sp_cn at h
    refine ⟨fun z => absurd ((nI_leI (by omega) (by omega)).mp z) (by omega), fun _ => ⟨vp_in_nI (by omega) (by omega), fun z => ih _ _ (by omega) ?_, fun z => ih _ _ (by omega) ?_⟩⟩
    · rw [if_pos z] at h; rw [Int32.add_zero]; exact h
    · rw [if_neg z] at h; exact h
theorem p_sheetsThere {M : xM} {post : Int32 → xM → Prop} {k : Int32 → Int32 → xM → Prop} : ∀ m j x, j + m = 4 → k (sp_cn (fun s => if M (4 + s) 0 2 = -1 then 0 else 1) m j x) (nI 4) M → xw_CA_sheetsThere_4 post k (m + 1) x (nI j) M := by
  intro m
  induction m with
  | zero =>
    intro j x hj h
    obtain rfl : j = 4 := by omega
    unfold xw_CA_sheetsThere_4
    exact ⟨fun _ => h, fun z => absurd (by decide) z⟩
  | succ m ih =>
    intro j x hj h
    unfold xw_CA_sheetsThere_4
    rw [nI_clamp (by omega), nI_1]
    unfold sp_cn at h
    refine ⟨fun z => absurd ((nI_leI (a := 4) (by omega) (by omega)).mp z) (by omega), fun _ => ⟨vp_in_nI (by omega) (by omega), i_there (br' (fun z => ih _ _ (by omega) ?_) (fun z => ih _ _ (by omega) ?_))⟩⟩
    · rw [if_neg z, if_neg (by decide)] at h; exact h
    · rw [if_pos (Classical.not_not.mp z), if_pos rfl] at h; exact h
theorem p_count83 {M : xM} {post : Int32 → xM → Prop} {k : Int32 → Int32 → xM → Prop} : ∀ m j x, j + m = 4 → k (sp_cn (fun s => if M 9 2 s = -1 then 0 else 1) m j x) (nI 4) M → xw_Mo_count_83 post k (m + 1) x (nI j) M := by
  intro m
  induction m with
  | zero =>
    intro j x hj h
    obtain rfl : j = 4 := by omega
    unfold xw_Mo_count_83
    exact ⟨fun _ => h, fun z => absurd (by decide) z⟩
  | succ m ih =>
    intro j x hj h
    unfold xw_Mo_count_83
    rw [nI_clamp (by omega), nI_1]
    unfold sp_cn at h
    refine ⟨fun z => absurd ((nI_leI (a := 4) (by omega) (by omega)).mp z) (by omega), fun _ => ⟨vp_in_nI (by omega) (by omega), fun z => ih _ _ (by omega) ?_, fun z => ih _ _ (by omega) ?_⟩⟩
    · rw [if_neg z, if_neg (by decide)] at h; exact h
    · rw [if_pos z, if_pos rfl] at h; rw [Int32.add_zero]; exact h
theorem op_count : ∀ (M : xM) (a : Int32), xInv M → xw_CA_count a M (fun r M1 => xw_Mo_count a M1 (fun q M2 => r = q ∧ xInv M2)) := by
  intro M a hI
  obtain ⟨n, q, hn, hq, ⟨n1, n2⟩, ⟨q1, q2⟩, hc, hr, hb, hp⟩ := hI.2.1.2.2
  have n1 : M 9 0 9 = nI n := n1
  have n2 : M 0 3 0 = nI n := n2
  have q1 : M 9 0 10 = nI q := q1
  have q2 : M 0 3 6 = nI q := q2
  obtain ⟨g1, l, l1, l2, g2⟩ := hI.2.1.2.1
  have hC : M 0 12 0 = nI l := g1.trans g2
  have hM : M 9 0 7 = nI l := g2
  unfold xw_CA_count xw_Mo_count
  have d01 : ¬ (1 : Int32) = 0 := by decide
  refine ⟨fun e => ?_, fun e => ?_, fun e => ?_, fun e => ?_, fun e => ?_, fun e0 e1 e2 e3 e4 => ?_⟩
  · subst e
    exact ⟨fun _ => ⟨n2.trans n1.symm, hI⟩, fun z => absurd z (by decide), fun z => absurd z (by decide), fun z => absurd z (by decide), fun z => absurd z (by decide), fun z => absurd rfl z⟩
  · subst e
    refine ⟨n + 1, p_fixedOnes hn n2 n 0 0 (by omega) ⟨fun z => absurd z (by decide), fun _ => ⟨n + 1, p_count43 hn n1 n 0 0 (by omega) ⟨?_, hI⟩⟩, fun z => absurd z (by decide), fun z => absurd z (by decide), fun z => absurd z (by decide), fun _ z => absurd rfl z⟩⟩
    exact sp_cn_cong _ _ _ (fun i h1 h2 => (hc i (by omega)).2.1)
  · subst e
    exact ⟨fun z => absurd z (by decide), fun z => absurd z (by decide), fun _ => ⟨q2.trans q1.symm, hI⟩, fun z => absurd z (by decide), fun z => absurd z (by decide), fun _ _ z => absurd rfl z⟩
  · subst e
    refine ⟨5, p_sheetsThere 4 0 0 (by omega) ⟨fun z => absurd z (by decide), fun z => absurd z (by decide), fun z => absurd z (by decide), fun _ => ⟨5, p_count83 4 0 0 (by omega) ⟨?_, hI⟩⟩, fun z => absurd z (by decide), fun _ _ _ z => absurd rfl z⟩⟩
    obtain ⟨s0, s1, s2, s3⟩ := hI.2.2.2.2.2.2
    refine sp_cn_cong _ _ _ (fun i h1 h2 => ?_)
    have es : M (4 + i) 0 2 = M 9 2 i := by
      rcases (show i = 0 ∨ i = 1 ∨ i = 2 ∨ i = 3 by omega) with rfl | rfl | rfl | rfl
      · exact s0.1
      · exact s1.1
      · exact s2.1
      · exact s3.1
    show (if M (4 + i) 0 2 = -1 then (0 : Int32) else 1) = (if M 9 2 i = -1 then (0 : Int32) else 1)
    rw [es]
  · subst e
    unfold xw_Gr_places xw_Mo_places
    rw [hC]
    refine ⟨fun z => absurd z (by decide), fun z => absurd z (by decide), fun z => absurd z (by decide), fun z => absurd z (by decide), fun _ => ?_, fun _ _ _ _ z => absurd rfl z⟩
    rw [hM]
    exact ⟨rfl, hI⟩
  · exact ⟨fun z => absurd z e0, fun z => absurd z e1, fun z => absurd z e2, fun z => absurd z e3, fun z => absurd z e4, fun _ _ _ _ _ => ⟨rfl, hI⟩⟩
/-! of -/
def sp_of (D : Nat → Int32) (i : Nat) : Nat → Nat → Int32 → Int32
  | 0, _, x => x
  | m + 1, j, x => sp_of D i m (j + 1) (if j = i then x else if x = -1 then D j else if D j < x then D j else x)
theorem sp_of_cong {f g : Nat → Int32} {i : Nat} : ∀ m j x, (∀ t, j ≤ t → t < j + m → f t = g t) → sp_of f i m j x = sp_of g i m j x := by
  intro m
  induction m with
  | zero => intro j x h; rfl
  | succ m ih =>
    intro j x h
    unfold sp_of
    rw [h j (by omega) (by omega)]
    exact ih _ _ (fun i h1 h2 => h i (by omega) (by omega))
theorem p_fromOthers {e : xE} (ok : eyOk e) {n i : Nat} (hn : n ≤ 12) (hi : i < n) {M : xM} (hE : eyC M e) (hM : M 0 3 0 = nI n) (hc : ∀ k, k < 12 → sp_col (M 0 4 k)) {post : Int32 → xM → Prop} {k : Int32 → Int32 → xM → Prop} : ∀ m j x, j + m = n → k (sp_of (fun t => ap e (M 0 4 i) (M 0 4 t)) i m j x) (nI n) M → xw_Ke_leastFromOthers_4 0 (nI i) post k (m + 1) x (nI j) M := by
  intro m
  induction m with
  | zero =>
    intro j x hj h
    obtain rfl : j = n := by omega
    unfold xw_Ke_leastFromOthers_4
    rw [hM]
    exact ⟨fun _ => h, fun z => absurd (nI_le (Nat.le_refl _) (by omega)) z⟩
  | succ m ih =>
    intro j x hj h
    unfold xw_Ke_leastFromOthers_4
    rw [hM, nI_clamp (by omega), nI_clamp (by omega), nI_1]
    unfold sp_of at h
    refine ⟨fun z => absurd ((nI_leI (by omega) (by omega)).mp z) (by omega), fun _ => ⟨fun z => ?_, fun z => ⟨vp_in_nI (by omega) (by omega), vp_in_nI (by omega) (by omega), p_leastDistance ok hE (hc i (by omega)) (hc j (by omega)) ⟨fun w => ?_, fun w => ?_⟩⟩⟩⟩
    · rw [if_pos ((nI_eq (by omega) (by omega)).mp z)] at h
      exact ih _ _ (by omega) h
    · rw [if_neg (fun y => z (by rw [y])), if_neg w] at h
      exact ih _ _ (by omega) h
    · rw [if_neg (fun y => z (by rw [y])), if_pos w] at h
      exact ih _ _ (by omega) h
theorem p_of78 {e : xE} (ok : eyOk e) {n i : Nat} (hn : n ≤ 12) (hi : i < n) {M : xM} (hE : eyM M e) (hM : M 9 0 9 = nI n) {post : Int32 → xM → Prop} {k : Int32 → Int32 → xM → Prop} : ∀ m j x, j + m = n → k (sp_of (fun t => ap e (M 9 6 i) (M 9 6 t)) i m j x) (nI n) M → xw_Mo_of_78 (nI i) post k (m + 1) x (nI j) M := by
  intro m
  induction m with
  | zero =>
    intro j x hj h
    obtain rfl : j = n := by omega
    unfold xw_Mo_of_78
    rw [hM]
    exact ⟨fun _ => h, fun z => absurd (nI_le (Nat.le_refl _) (by omega)) z⟩
  | succ m ih =>
    intro j x hj h
    unfold xw_Mo_of_78
    rw [hM, nI_clamp (by omega), nI_clamp (by omega), nI_1]
    unfold sp_of at h
    refine ⟨fun z => absurd ((nI_leI (by omega) (by omega)).mp z) (by omega), fun _ => ⟨fun z => ⟨vp_in_nI (by omega) (by omega), vp_in_nI (by omega) (by omega), p_Mo_apartOf ok hE ⟨fun w => ?_, fun w => ⟨fun v => ?_, fun v => ?_⟩⟩⟩, fun z => ?_⟩⟩
    · rw [if_neg (fun y => z (by rw [y])), if_pos w] at h
      exact ih _ _ (by omega) h
    · rw [if_neg (fun y => z (by rw [y])), if_neg w, if_neg (fun y => by simp only [ilt, ile] at *; omega)] at h
      exact ih _ _ (by omega) h
    · rw [if_neg (fun y => z (by rw [y])), if_neg w, if_pos (by simp only [ilt, ile] at *; omega)] at h
      exact ih _ _ (by omega) h
    · rw [if_pos ((nI_eq (by omega) (by omega)).mp z)] at h
      exact ih _ _ (by omega) h
theorem op_of : ∀ (M : xM) (a b : Int32), xInv M → xw_CA_of a b M (fun r M1 => xw_Mo_of a b M1 (fun q M2 => r = q ∧ xInv M2)) := by
  intro M a b hI
  obtain ⟨e, ok, eC, eM⟩ := hI.2.1.e
  obtain ⟨n, q, hn, hq, ⟨n1, n2⟩, ⟨q1, q2⟩, hc, hr, hb, hp⟩ := hI.2.1.2.2
  have n1 : M 9 0 9 = nI n := n1
  have n2 : M 0 3 0 = nI n := n2
  refine p_has hn n2 (br (fun h => ?_) (fun h => ?_))
  · obtain ⟨k, hk, rfl⟩ := in_nI (by omega) h
    have hin : vp_in (nI k) 12 := vp_in_nI (by omega) (by omega)
    have ec : ∀ k, k < 12 → M 0 4 k = M 9 6 k := fun k hk => (hc k hk).1
    have ef : M 0 5 k = M 9 7 k := (hc k (by omega)).2.1
    have en : M 0 6 k = M 9 8 k := (hc k (by omega)).2.2
    have mo : ∀ {Z : Prop} {post : Int32 → xM → Prop}, (b = 0 → post (M 9 6 k) M) → (b = 1 → M 9 7 k = 0 → post 0 M) → (b = 1 → ¬ M 9 7 k = 0 → post 1 M) → (b = 2 → post (M 9 8 k) M) → (b = 3 → post (sp_of (fun t => ap e (M 9 6 k) (M 9 6 t)) k n 0 (-1)) M) → (¬ b = 0 → ¬ b = 1 → ¬ b = 2 → ¬ b = 3 → post (-1) M) → xw_Mo_of (nI k) b M post := by
      intro Z post h0 h1 h1' h2 h3 h4
      refine p_isIn (n := n) (by exact n1) (br (fun _ => ?_) (fun w => absurd h w))
      rw [nI_clamp (by omega)]
      exact ⟨fun e => ⟨hin, h0 e⟩, fun e => ⟨hin, h1 e, h1' e⟩, fun e => ⟨hin, h2 e⟩, fun e => ⟨n + 1, p_of78 ok hn hk eM n1 n 0 _ (by omega) (h3 e)⟩, h4⟩
    rw [nI_clamp (by omega)]
    refine ⟨fun z => ⟨hin, ?_⟩, fun z => ⟨hin, fun w => ?_, fun w => ?_⟩, fun z => ⟨hin, ?_⟩, fun z => ⟨n + 1, p_fromOthers ok hn hk eC n2 (fun k hk => by rw [ec k hk]; exact (hr k hk).1) n 0 _ (by omega) ?_⟩, fun z0 z1 z2 z3 => ?_⟩
    · subst z
      exact mo (Z := True) (fun _ => ⟨ec k (by omega), hI⟩) (fun z => absurd z (by decide)) (fun z => absurd z (by decide)) (fun z => absurd z (by decide)) (fun z => absurd z (by decide)) (fun z => absurd rfl z)
    · subst z
      exact mo (Z := True) (fun z => absurd z (by decide)) (fun _ _ => ⟨rfl, hI⟩) (fun _ z => absurd (ef.symm.trans w) z) (fun z => absurd z (by decide)) (fun z => absurd z (by decide)) (fun _ z => absurd rfl z)
    · subst z
      exact mo (Z := True) (fun z => absurd z (by decide)) (fun _ z => absurd (ef.trans z) w) (fun _ _ => ⟨rfl, hI⟩) (fun z => absurd z (by decide)) (fun z => absurd z (by decide)) (fun _ z => absurd rfl z)
    · subst z
      exact mo (Z := True) (fun z => absurd z (by decide)) (fun z => absurd z (by decide)) (fun z => absurd z (by decide)) (fun _ => ⟨en, hI⟩) (fun z => absurd z (by decide)) (fun _ _ z => absurd rfl z)
    · subst z
      refine mo (Z := True) (fun z => absurd z (by decide)) (fun z => absurd z (by decide)) (fun z => absurd z (by decide)) (fun z => absurd z (by decide)) (fun _ => ⟨?_, hI⟩) (fun _ _ _ z => absurd rfl z)
      refine sp_of_cong _ _ _ (fun t h1 h2 => ?_)
      show ap e (M 0 4 k) (M 0 4 t) = ap e (M 9 6 k) (M 9 6 t)
      rw [ec k (by omega), ec t (by omega)]
    · exact mo (Z := True) (fun z => absurd z z0) (fun z => absurd z z1) (fun z => absurd z z1) (fun z => absurd z z2) (fun z => absurd z z3) (fun _ _ _ _ => ⟨rfl, hI⟩)
  · exact p_isIn (n := n) (by exact n1) (br (fun w => absurd w h) (fun _ => ⟨rfl, hI⟩))
