/-! ===== best: what the class measures ===== -/
def fx (M0 : xM) (e : xE) (L : Nat) (p : Nat) : Nat → Int32
  | 0 => 2000000
  | i + 1 => if M0 9 7 i = 0 then fx M0 e L p i else mn (fx M0 e L p i) (ap e (M0 9 6 i) (sp_pl L p))
theorem ap_0 {e : xE} (ok : eyOk e) (a b : Int32) : 0 ≤ (ap e a b).toInt := by
  obtain ⟨j, hj, ej⟩ := ap_nI ok a b
  rw [ej, nI_toInt (by omega)]; omega
theorem fx_0 {M0 : xM} {e : xE} (ok : eyOk e) {L p : Nat} : ∀ i, 0 ≤ (fx M0 e L p i).toInt
  | 0 => (by decide : 0 ≤ (2000000 : Int32).toInt)
  | i + 1 => by
    unfold fx
    split
    · exact fx_0 ok i
    · exact mn_0 (fx_0 ok i) (ap_0 ok _ _)
theorem fx_le {M0 : xM} {e : xE} {L p : Nat} : ∀ i, (fx M0 e L p i).toInt ≤ 2000000
  | 0 => (by decide : (2000000 : Int32).toInt ≤ 2000000)
  | i + 1 => by
    unfold fx
    split
    · exact fx_le i
    · exact Int.le_trans (mn_l _ _) (fx_le i)
theorem p_lookPlaces {e : xE} (ok : eyOk e) {M1 : xM} (eC : eyC M1 e) {L P : Nat} (hL : 2 ≤ L) (hL2 : L ≤ 4) (hP : P = L * L * L) (hg : M1 0 12 0 = nI L) (h47 : M1 8 4 7 = nI P) {post : xM → Prop} {k : Int32 → xM → Prop} : ∀ (m j : Nat) (M : xM), j + m = P → (∀ g t, ¬ (g = 8 ∧ (t = 5 ∨ t = 7)) → M g t = M1 g t) → (∀ p, p < j → vw M e 8 5 p (sp_pl L p) ∧ M 8 7 p = 2000000) →
    (∀ M', (∀ g t, ¬ (g = 8 ∧ (t = 5 ∨ t = 7)) → M' g t = M1 g t) → (∀ p, p < P → vw M' e 8 5 p (sp_pl L p) ∧ M' 8 7 p = 2000000) → k (nI P) M') → xw_Ch_lookAtPlaces_2 0 post k (m + 1) (nI j) M := by
  have h64 := n3le hL2
  intro m
  induction m with
  | zero =>
    intro j M hj hf hv h
    obtain rfl : j = P := by omega
    unfold xw_Ch_lookAtPlaces_2
    rw [hf 8 4 (by decide), h47]
    exact ⟨fun _ => h M hf hv, fun z => absurd (nI_le (Nat.le_refl _) (by omega)) z⟩
  | succ m ih =>
    intro j M hj hf hv h
    have hM : M 0 12 0 = nI L := by rw [hf 0 12 (by decide)]; exact hg
    have hE' : eyC M e := eC.to (hf 0 1 (by decide)) (hf 0 2 (by decide))
    unfold xw_Ch_lookAtPlaces_2
    rw [hf 8 4 (by decide), h47, nI_1, nI_clamp (by omega)]
    refine ⟨fun z => absurd ((nI_leI (by omega) (by omega)).mp z) (by omega), fun _ => p_colourAt hL hL2 (by omega) hM ?_⟩
    refine p_lookWithAll ok (sp_pl_col hL (by omega)) (by omega) (by omega) (by decide) (by decide) hE' (fun M' q1 q2 q3 => ⟨vp_in_nI (by omega) (by omega), ih (j + 1) _ (by omega) (fun g t hgt => ?_) (fun p hp => ⟨?_, ?_⟩) h⟩)
    · rw [us_ne _ _ (by omega), q1 g t (by omega)]; exact hf g t hgt
    · refine vw.to (M := M') ?_ (us_ne _ _ (by decide))
      by_cases ep : p = j
      · subst ep; exact q3
      · intro s hs hct
        rw [q2 _ (by omega)]
        exact (hv p (by omega)).1 s hs hct
    · rw [us_self]
      by_cases ep : p = j
      · subst ep; rw [upd_self]
      · rw [upd_ne _ _ ep, q1 8 7 (by decide)]
        exact (hv p (by omega)).2
theorem p_mff48 {e : xE} (ok : eyOk e) {M0 M3 : xM} (eC : eyC M3 e) {L P i : Nat} (hP : P ≤ 64) (h47 : M3 8 4 7 = nI P) (hv : ∀ p, p < P → vw M3 e 8 5 p (sp_pl L p)) (hw : vw M3 e 8 6 0 (M0 9 6 i)) (hfx : ¬ M0 9 7 i = 0) {post : xM → Prop} {k : Int32 → xM → Prop} : ∀ (m j : Nat) (M : xM), j + m = P → (∀ g t, ¬ (g = 8 ∧ t = 7) → M g t = M3 g t) → (∀ p, p < j → M 8 7 p = fx M0 e L p (i + 1)) → (∀ p, j ≤ p → p < P → M 8 7 p = fx M0 e L p i) →
    (∀ M', (∀ g t, ¬ (g = 8 ∧ t = 7) → M' g t = M3 g t) → (∀ p, p < P → M' 8 7 p = fx M0 e L p (i + 1)) → k (nI P) M') → xw_Ch_measureFromFixed_48 0 (nI i) post k (m + 1) (nI j) M := by
  intro m
  induction m with
  | zero =>
    intro j M hj hf h1 h2 h
    obtain rfl : j = P := by omega
    unfold xw_Ch_measureFromFixed_48
    rw [hf 8 4 (by decide), h47]
    exact ⟨fun _ => h M hf h1, fun z => absurd (nI_le (Nat.le_refl _) (by omega)) z⟩
  | succ m ih =>
    intro j M hj hf h1 h2 h
    have hE' : eyC M e := eC.to (hf 0 1 (by decide)) (hf 0 2 (by decide))
    unfold xw_Ch_measureFromFixed_48
    rw [hf 8 4 (by decide), h47, nI_1, nI_clamp (by omega)]
    refine ⟨fun z => absurd ((nI_leI (by omega) (by omega)).mp z) (by omega), fun _ => ?_⟩
    refine p_leastOfViews (r1 := 0) ok hE' (hw.to (hf 8 6 (by decide))) ((hv j (by omega)).to (hf 8 5 (by decide))) (by omega) (by omega) (by omega) (by omega) ⟨vp_in_nI (by omega) (by omega), vp_in_nI (by omega) (by omega), ih (j + 1) _ (by omega) (fun g t hgt => ?_) (fun p hp => ?_) (fun p hp hp2 => ?_) h⟩
    · rw [us_ne _ _ hgt]; exact hf g t hgt
    · rw [us_self]
      by_cases ep : p = j
      · subst ep
        rw [upd_self, h2 p (Nat.le_refl _) (by omega)]
        show _ = if M0 9 7 i = 0 then _ else _
        rw [if_neg hfx]
        rfl
      · rw [upd_ne _ _ ep]; exact h1 p (by omega)
    · rw [us_self, upd_ne _ _ (by omega)]; exact h2 p (by omega) hp2
theorem p_mff2 {e : xE} (ok : eyOk e) {M0 M2 : xM} (eC : eyC M2 e) {L P n : Nat} (hn : n ≤ 12) (hP : P ≤ 64) (h47 : M2 8 4 7 = nI P) (h30 : M2 0 3 0 = nI n) (hfi : ∀ k, k < 12 → M2 0 5 k = M0 9 7 k) (hco : ∀ k, k < 12 → M2 0 4 k = M0 9 6 k) (hcol : ∀ k, k < 12 → sp_col (M0 9 6 k)) (hv : ∀ p, p < P → vw M2 e 8 5 p (sp_pl L p)) {post : xM → Prop} {k : Int32 → xM → Prop} : ∀ (m i : Nat) (M : xM), i + m = n → (∀ g t, ¬ (g = 8 ∧ (t = 6 ∨ t = 7)) → M g t = M2 g t) → (∀ p, p < P → M 8 7 p = fx M0 e L p i) →
    (∀ M', (∀ g t, ¬ (g = 8 ∧ (t = 6 ∨ t = 7)) → M' g t = M2 g t) → (∀ p, p < P → M' 8 7 p = fx M0 e L p n) → k (nI n) M') → xw_Ch_measureFromFixed_2 0 post k (m + 1) (nI i) M := by
  intro m
  induction m with
  | zero =>
    intro i M hj hf h1 h
    obtain rfl : i = n := by omega
    unfold xw_Ch_measureFromFixed_2
    rw [hf 0 3 (by decide), h30]
    exact ⟨fun _ => h M hf h1, fun z => absurd (nI_le (Nat.le_refl _) (by omega)) z⟩
  | succ m ih =>
    intro i M hj hf h1 h
    have hE' : eyC M e := eC.to (hf 0 1 (by decide)) (hf 0 2 (by decide))
    unfold xw_Ch_measureFromFixed_2
    rw [hf 0 3 (by decide), h30, nI_1, nI_clamp (by omega), hf 0 5 (by decide), hf 0 4 (by decide), hfi i (by omega), hco i (by omega)]
    refine ⟨fun z => absurd ((nI_leI (by omega) (by omega)).mp z) (by omega), fun _ => ⟨vp_in_nI (by omega) (by omega), fun z => ih (i + 1) M (by omega) hf (fun p hp => ?_) h, fun z => ⟨vp_in_nI (by omega) (by omega), ?_⟩⟩⟩
    · show _ = if M0 9 7 i = 0 then _ else _
      rw [if_pos z]; exact h1 p hp
    · refine p_lookWithAll (r := 0) ok (hcol i (by omega)) (by omega) (by omega) (by decide) (by decide) hE' (fun M3 q1 q2 q3 => ⟨P + 1, ?_⟩)
      refine p_mff48 (M0 := M0) ok (hE'.to (q1 0 1 (by decide)) (q1 0 2 (by decide))) hP ?_ (fun p hp => ?_) q3 z P 0 M3 (by omega) (fun _ _ _ => rfl) (fun p hp => by omega) (fun p _ hp => ?_) (fun M' r1 r2 => ih (i + 1) M' (by omega) (fun g t hgt => ?_) r2 h)
      · rw [q1 8 4 (by decide), hf 8 4 (by decide)]; exact h47
      · exact (hv p hp).to (by rw [q1 8 5 (by decide), hf 8 5 (by decide)])
      · rw [q1 8 7 (by decide)]; exact h1 p hp
      · rw [r1 g t (by omega), q1 g t (by omega)]; exact hf g t hgt
theorem p_mb23 {e : xE} (ok : eyOk e) {M3 : xM} (eC : eyC M3 e) {L P i : Nat} (hP : P ≤ 64) (hi : i < P) (h47 : M3 8 4 7 = nI P) (hv : ∀ p, p < P → vw M3 e 8 5 p (sp_pl L p)) {post : xM → Prop} {k : Int32 → xM → Prop} : ∀ (m j : Nat) (M : xM), i < j → j + m = P → (∀ g t, ¬ (g = 8 ∧ t = 8) → M g t = M3 g t) → (∀ a b, a < b → b < P → (a < i ∨ (a = i ∧ b < j)) → M 8 8 (a * 64 + b) = ap e (sp_pl L a) (sp_pl L b)) →
    (∀ M', (∀ g t, ¬ (g = 8 ∧ t = 8) → M' g t = M3 g t) → (∀ a b, a < b → b < P → a < i + 1 → M' 8 8 (a * 64 + b) = ap e (sp_pl L a) (sp_pl L b)) → k (nI P) M') → xw_Ch_measureBetween_23 0 (nI i) post k (m + 1) (nI j) M := by
  intro m
  induction m with
  | zero =>
    intro j M hij hj hf h1 h
    obtain rfl : j = P := by omega
    unfold xw_Ch_measureBetween_23
    rw [hf 8 4 (by decide), h47]
    exact ⟨fun _ => h M hf (fun a b ha hb hai => h1 a b ha hb (by omega)), fun z => absurd (nI_le (Nat.le_refl _) (by omega)) z⟩
  | succ m ih =>
    intro j M hij hj hf h1 h
    have hE' : eyC M e := eC.to (hf 0 1 (by decide)) (hf 0 2 (by decide))
    unfold xw_Ch_measureBetween_23
    rw [hf 8 4 (by decide), h47, nI_1, show (64 : Int32) = nI 64 from rfl, pk_mul, nI_add, nI_clamp (by omega)]
    refine ⟨fun z => absurd ((nI_leI (by omega) (by omega)).mp z) (by omega), fun _ => ?_⟩
    refine p_leastOfViews ok hE' ((hv i hi).to (hf 8 5 (by decide))) ((hv j (by omega)).to (hf 8 5 (by decide))) (by omega) (by omega) (by omega) (by omega) ⟨vp_in_nI (by omega) (by omega), ih (j + 1) _ (by omega) (by omega) (fun g t hgt => ?_) (fun a b ha hb hab => ?_) h⟩
    · rw [us_ne _ _ hgt]; exact hf g t hgt
    · rw [us_self]
      by_cases ep : a = i ∧ b = j
      · obtain ⟨rfl, rfl⟩ := ep
        rw [upd_self]
      · rw [upd_ne _ _ (by omega)]; exact h1 a b ha hb (by omega)
theorem p_mb11 {e : xE} (ok : eyOk e) {M3 : xM} (eC : eyC M3 e) {L P : Nat} (hP : P ≤ 64) (h47 : M3 8 4 7 = nI P) (hv : ∀ p, p < P → vw M3 e 8 5 p (sp_pl L p)) {post : xM → Prop} {k : Int32 → xM → Prop} : ∀ (m i : Nat) (M : xM), i + m = P → (∀ g t, ¬ (g = 8 ∧ t = 8) → M g t = M3 g t) → (∀ a b, a < b → b < P → a < i → M 8 8 (a * 64 + b) = ap e (sp_pl L a) (sp_pl L b)) →
    (∀ M', (∀ g t, ¬ (g = 8 ∧ t = 8) → M' g t = M3 g t) → (∀ a b, a < b → b < P → M' 8 8 (a * 64 + b) = ap e (sp_pl L a) (sp_pl L b)) → k (nI P) M') → xw_Ch_measureBetween_11 0 post k (m + 1) (nI i) M := by
  intro m
  induction m with
  | zero =>
    intro i M hj hf h1 h
    obtain rfl : i = P := by omega
    unfold xw_Ch_measureBetween_11
    rw [hf 8 4 (by decide), h47]
    exact ⟨fun _ => h M hf (fun a b ha hb => h1 a b ha hb (by omega)), fun z => absurd (nI_le (Nat.le_refl _) (by omega)) z⟩
  | succ m ih =>
    intro i M hj hf h1 h
    unfold xw_Ch_measureBetween_11
    rw [hf 8 4 (by decide), h47, nI_1]
    refine ⟨fun z => absurd ((nI_leI (by omega) (by omega)).mp z) (by omega), fun _ => ⟨m + 1, ?_⟩⟩
    exact p_mb23 ok eC hP (by omega) h47 hv m (i + 1) M (by omega) (by omega) hf (fun a b ha hb hab => h1 a b ha hb (by omega)) (fun M' r1 r2 => ih (i + 1) M' (by omega) r1 r2 h)
/-- all that the class measures -/
theorem p_chMeas {e : xE} (ok : eyOk e) {M0 M1 : xM} (eC : eyC M1 e) {L P n w : Nat} (hL : 2 ≤ L) (hL2 : L ≤ 4) (hP : P = L * L * L) (hn : n ≤ 12) (hw : w ≤ 5) (hg : M1 0 12 0 = nI L) (h46 : M1 8 4 6 = nI w) (h47 : M1 8 4 7 = nI P) (h30 : M1 0 3 0 = nI n) (hfi : ∀ k, k < 12 → M1 0 5 k = M0 9 7 k) (hco : ∀ k, k < 12 → M1 0 4 k = M0 9 6 k) (hcol : ∀ k, k < 12 → sp_col (M0 9 6 k)) {post : xM → Prop}
    (h : ∀ M', (∀ g t, ¬ (g = 8 ∧ 5 ≤ t ∧ t ≤ 8) → M' g t = M1 g t) → (∀ p, p < P → M' 8 7 p = fx M0 e L p n) → (¬ w = 1 → ∀ a b, a < b → b < P → M' 8 8 (a * 64 + b) = ap e (sp_pl L a) (sp_pl L b)) → post M') : xw_Ch_lookAtPlaces 0 M1 (fun M3 => xw_Ch_measureFromFixed 0 M3 (fun M4 => xw_Ch_measureBetween 0 M4 post)) := by
  have h64 := n3le hL2
  refine ⟨P + 1, p_lookPlaces ok eC hL hL2 hP hg h47 P 0 M1 (by omega) (fun _ _ _ => rfl) (fun p hp => by omega) (fun M2 a1 a2 => ⟨n + 1, ?_⟩)⟩
  have eC2 : eyC M2 e := eC.to (a1 0 1 (by decide)) (a1 0 2 (by decide))
  refine p_mff2 (M0 := M0) ok eC2 hn (by omega) (by rw [a1 8 4 (by decide)]; exact h47) (by rw [a1 0 3 (by decide)]; exact h30) (by rw [a1 0 5 (by decide)]; exact hfi) (by rw [a1 0 4 (by decide)]; exact hco) hcol (fun p hp => (a2 p hp).1) n 0 M2 (by omega) (fun _ _ _ => rfl) (fun p hp => (a2 p hp).2) (fun M3 b1 b2 => ?_)
  have f3 : ∀ g t, ¬ (g = 8 ∧ 5 ≤ t ∧ t ≤ 8) → M3 g t = M1 g t := fun g t hgt => by rw [b1 g t (by omega), a1 g t (by omega)]
  have e6 : M3 8 4 6 = nI w := by rw [f3 8 4 (by decide)]; exact h46
  unfold xw_Ch_measureBetween
  dsimp only
  rw [e6]
  refine ⟨fun z => ⟨P + 1, ?_⟩, fun z => h M3 f3 b2 (fun hw1 => absurd ((nI_eq (b := 1) (by omega) (by omega)).mp z) hw1)⟩
  refine p_mb11 ok (eC2.to (b1 0 1 (by decide)) (b1 0 2 (by decide))) (by omega) (by rw [f3 8 4 (by decide)]; exact h47) (fun p hp => (a2 p hp).1.to (b1 8 5 (by decide))) P 0 M3 (by omega) (fun _ _ _ => rfl) (fun a b _ _ ha => by omega) (fun M4 c1 c2 => h M4 (fun g t hgt => ?_) (fun p hp => ?_) (fun _ => c2))
  · rw [c1 g t (by omega)]; exact f3 g t hgt
  · rw [c1 8 7 (by decide)]; exact b2 p hp
