/-! ===== best: what the model measures ===== -/
theorem p_ms20 {e : xE} (ok : eyOk e) {M0 M1 : xM} (eM : eyM M1 e) {L P n p : Nat} (hL : 2 ≤ L) (hL2 : L ≤ 4) (hP : P = L * L * L) (hn : n ≤ 12) (hp : p < P) (hg : M1 9 0 7 = nI L) (h09 : M1 9 0 9 = nI n) (h7 : M1 9 7 = M0 9 7) (h6 : M1 9 6 = M0 9 6) {post : xM → Prop} {k : Int32 → xM → Prop} : ∀ (m i : Nat) (M : xM), i + m = n → (∀ g t, ¬ (g = 9 ∧ t = 15) → M g t = M1 g t) → M 9 15 p = fx M0 e L p i → (∀ p', ¬ p' = p → M 9 15 p' = M1 9 15 p') →
    (∀ M', (∀ g t, ¬ (g = 9 ∧ t = 15) → M' g t = M1 g t) → M' 9 15 p = fx M0 e L p n → (∀ p', ¬ p' = p → M' 9 15 p' = M1 9 15 p') → k (nI n) M') → xw_Mo_measures_20 (nI p) post k (m + 1) (nI i) M := by
  have h64 := n3le hL2
  have hin : vp_in (nI p) 64 := vp_in_nI (by omega) (by omega)
  intro m
  induction m with
  | zero =>
    intro i M hj hf h1 h2 h
    obtain rfl : i = n := by omega
    unfold xw_Mo_measures_20
    rw [hf 9 0 (by decide), h09]
    exact ⟨fun _ => h M hf h1 h2, fun z => absurd (nI_le (Nat.le_refl _) (by omega)) z⟩
  | succ m ih =>
    intro i M hj hf h1 h2 h
    have hE' : eyM M e := by
      unfold eyM at *
      rw [hf 9 0 (by decide), hf 9 4 (by decide), hf 9 5 (by decide)]; exact eM
    have hM : M 9 0 7 = nI L := by rw [hf 9 0 (by decide)]; exact hg
    unfold xw_Mo_measures_20
    rw [hf 9 0 (by decide), h09, nI_1, nI_clamp (by omega), nI_clamp (by omega), hf 9 7 (by decide), h7]
    refine ⟨fun z => absurd ((nI_leI (by omega) (by omega)).mp z) (by omega), fun _ => ⟨vp_in_nI (by omega) (by omega), ?_⟩⟩
    refine xj2 (fun v M' => M' = M ∧ v = if M0 9 7 i = 0 then 2000000 else ap e (sp_pl L p) (M0 9 6 i)) (fun v M' hPv => ?_) (fun J hJ => ⟨fun z => hJ _ _ ⟨rfl, (if_pos z).symm⟩, fun z => p_placeOf hL hL2 (by omega) hM ⟨vp_in_nI (by omega) (by omega), ?_⟩⟩)
    · obtain ⟨hM', hv⟩ := hPv
      rw [hM', h1]
      have hnew : (fx M0 e L p i ≤ v → fx M0 e L p i = fx M0 e L p (i + 1)) ∧ (¬ fx M0 e L p i ≤ v → v = fx M0 e L p (i + 1)) := by
        have hx := fx_le (M0 := M0) (e := e) (L := L) (p := p) i
        have e1 : fx M0 e L p (i + 1) = if M0 9 7 i = 0 then fx M0 e L p i else mn (fx M0 e L p i) (ap e (M0 9 6 i) (sp_pl L p)) := rfl
        rw [e1]
        by_cases z : M0 9 7 i = 0
        · rw [if_pos z] at hv
          rw [if_pos z]
          refine ⟨fun _ => rfl, fun w => absurd ?_ w⟩
          rw [hv, ile]; exact hx
        · rw [if_neg z, ap_symm] at hv
          rw [if_neg z, ← hv]
          unfold mn
          refine ⟨fun w => ?_, fun w => ?_⟩
          · rw [if_neg (by rw [ile] at w; rw [ilt]; omega)]
          · rw [if_pos (by rw [ile] at w; rw [ilt]; omega)]
      have step : ∀ v', v' = fx M0 e L p (i + 1) → xw_Mo_measures_20 (nI p) post k (m + 1) (nI (i + 1)) (us M 9 15 p v') := by
        rintro v' rfl
        refine ih (i + 1) _ (by omega) (fun g t hgt => ?_) ?_ (fun p' hp' => ?_) h
        · rw [us_ne _ _ hgt]; exact hf g t hgt
        · rw [us_self, upd_self]
        · rw [us_self, upd_ne _ _ hp']; exact h2 p' hp'
      exact ⟨hin, fun z => ⟨hin, hin, step _ (hnew.1 z)⟩, fun z => ⟨hin, step _ (hnew.2 z)⟩⟩
    · rw [hf 9 6 (by decide), h6]
      exact p_Mo_apartOf ok hE' (hJ _ _ ⟨rfl, (if_neg z).symm⟩)
theorem p_ms92 {e : xE} (ok : eyOk e) {M1 : xM} (eM : eyM M1 e) {L P p : Nat} (hL : 2 ≤ L) (hL2 : L ≤ 4) (hP : P = L * L * L) (hp : p < P) (hg : M1 9 0 7 = nI L) {post : xM → Prop} {k : Int32 → xM → Prop} : ∀ (m j : Nat) (M : xM), j + m = P → (∀ g t, ¬ (g = 9 ∧ t = 14) → M g t = M1 g t) → (∀ a b, a < P → b < P → (a < p ∨ (a = p ∧ b < j)) → M 9 14 (64 * a + b) = ap e (sp_pl L a) (sp_pl L b)) →
    (∀ M', (∀ g t, ¬ (g = 9 ∧ t = 14) → M' g t = M1 g t) → (∀ a b, a < P → b < P → a < p + 1 → M' 9 14 (64 * a + b) = ap e (sp_pl L a) (sp_pl L b)) → k (nI P) M') → xw_Mo_measures_92 (nI p) post k (m + 1) (nI j) M := by
  have h64 := n3le hL2
  intro m
  induction m with
  | zero =>
    intro j M hj hf h1 h
    obtain rfl : j = P := by omega
    unfold xw_Mo_measures_92 xw_Mo_places
    rw [hf 9 0 (by decide), hg, pk_mul, pk_mul, ← hP]
    exact ⟨fun _ => h M hf (fun a b ha hb hai => h1 a b ha hb (by omega)), fun z => absurd (nI_le (Nat.le_refl _) (by omega)) z⟩
  | succ m ih =>
    intro j M hj hf h1 h
    have hE' : eyM M e := by
      unfold eyM at *
      rw [hf 9 0 (by decide), hf 9 4 (by decide), hf 9 5 (by decide)]; exact eM
    have hM : M 9 0 7 = nI L := by rw [hf 9 0 (by decide)]; exact hg
    unfold xw_Mo_measures_92 xw_Mo_places
    rw [hM, pk_mul, pk_mul, ← hP, nI_1, show (64 : Int32) = nI 64 from rfl, pk_mul, nI_add, nI_clamp (by omega)]
    refine ⟨fun z => absurd ((nI_leI (by omega) (by omega)).mp z) (by omega), fun _ => p_placeOf hL hL2 (by omega) hM (p_placeOf hL hL2 (by omega) hM (p_Mo_apartOf ok hE' ⟨vp_in_nI (by omega) (by omega), ih (j + 1) _ (by omega) (fun g t hgt => ?_) (fun a b ha hb hab => ?_) h⟩))⟩
    · rw [us_ne _ _ hgt]; exact hf g t hgt
    · rw [us_self]
      by_cases ep : a = p ∧ b = j
      · obtain ⟨rfl, rfl⟩ := ep
        rw [upd_self]
      · rw [upd_ne _ _ (by omega)]; exact h1 a b ha hb (by omega)
theorem p_ms2 {e : xE} (ok : eyOk e) {M0 M1 : xM} (eM : eyM M1 e) {L P n : Nat} (hL : 2 ≤ L) (hL2 : L ≤ 4) (hP : P = L * L * L) (hn : n ≤ 12) (hg : M1 9 0 7 = nI L) (h09 : M1 9 0 9 = nI n) (h7 : M1 9 7 = M0 9 7) (h6 : M1 9 6 = M0 9 6) {post : xM → Prop} {k : Int32 → xM → Prop} : ∀ (m p : Nat) (M : xM), p + m = P → (∀ g t, ¬ (g = 9 ∧ (t = 14 ∨ t = 15)) → M g t = M1 g t) → (∀ a, a < p → M 9 15 a = fx M0 e L a n) → (∀ a b, a < P → b < P → a < p → M 9 14 (64 * a + b) = ap e (sp_pl L a) (sp_pl L b)) →
    (∀ M', (∀ g t, ¬ (g = 9 ∧ (t = 14 ∨ t = 15)) → M' g t = M1 g t) → (∀ a, a < P → M' 9 15 a = fx M0 e L a n) → (∀ a b, a < P → b < P → M' 9 14 (64 * a + b) = ap e (sp_pl L a) (sp_pl L b)) → k (nI P) M') → xw_Mo_measures_2 post k (m + 1) (nI p) M := by
  have h64 := n3le hL2
  intro m
  induction m with
  | zero =>
    intro p M hj hf h1 h2 h
    obtain rfl : p = P := by omega
    unfold xw_Mo_measures_2 xw_Mo_places
    rw [hf 9 0 (by decide), hg, pk_mul, pk_mul, ← hP]
    exact ⟨fun _ => h M hf h1 (fun a b ha hb => h2 a b ha hb ha), fun z => absurd (nI_le (Nat.le_refl _) (by omega)) z⟩
  | succ m ih =>
    intro p M hj hf h1 h2 h
    have hM : M 9 0 7 = nI L := by rw [hf 9 0 (by decide)]; exact hg
    unfold xw_Mo_measures_2 xw_Mo_places
    rw [hM, pk_mul, pk_mul, ← hP, nI_1, nI_clamp (by omega)]
    refine ⟨fun z => absurd ((nI_leI (by omega) (by omega)).mp z) (by omega), fun _ => ⟨vp_in_nI (by omega) (by omega), n + 1, ?_⟩⟩
    have g1 : ∀ g t, ¬ (g = 9 ∧ (t = 14 ∨ t = 15)) → us M 9 15 p 2000000 g t = M1 g t := fun g t hgt => by rw [us_ne _ _ (by omega)]; exact hf g t hgt
    have eM1 : eyM (us M 9 15 p 2000000) e := by
      unfold eyM at *
      rw [g1 9 0 (by decide), g1 9 4 (by decide), g1 9 5 (by decide)]; exact eM
    refine p_ms20 (M0 := M0) ok eM1 hL hL2 hP hn (by omega) (by rw [g1 9 0 (by decide)]; exact hg) (by rw [g1 9 0 (by decide)]; exact h09) (by rw [g1 9 7 (by decide)]; exact h7) (by rw [g1 9 6 (by decide)]; exact h6) n 0 _ (by omega) (fun _ _ _ => rfl) (by rw [us_self, upd_self]; rfl) (fun _ _ => rfl) (fun M2 a1 a2 a3 => ⟨P + 1, ?_⟩)
    have eM2 : eyM M2 e := by
      unfold eyM at *
      rw [a1 9 0 (by decide), a1 9 4 (by decide), a1 9 5 (by decide)]; exact eM1
    refine p_ms92 ok eM2 hL hL2 hP (p := p) (by omega) (by rw [a1 9 0 (by decide), g1 9 0 (by decide)]; exact hg) P 0 M2 (by omega) (fun _ _ _ => rfl) (fun a b ha hb hab => ?_) (fun M3 b1 b2 => ih (p + 1) M3 (by omega) (fun g t hgt => ?_) (fun a ha => ?_) (fun a b ha hb hap => b2 a b ha hb hap) h)
    · rw [a1 9 14 (by decide), us_ne _ _ (by decide)]; exact h2 a b ha hb (by omega)
    · rw [b1 g t (by omega), a1 g t (by omega)]; exact g1 g t hgt
    · rw [b1 9 15 (by decide)]
      by_cases ea : a = p
      · subst ea; exact a2
      · rw [a3 a ea, us_self, upd_ne _ _ ea]; exact h1 a (by omega)
theorem p_measures {e : xE} (ok : eyOk e) {M0 M1 : xM} (eM : eyM M1 e) {L P n : Nat} (hL : 2 ≤ L) (hL2 : L ≤ 4) (hP : P = L * L * L) (hn : n ≤ 12) (hg : M1 9 0 7 = nI L) (h09 : M1 9 0 9 = nI n) (h7 : M1 9 7 = M0 9 7) (h6 : M1 9 6 = M0 9 6) {post : xM → Prop}
    (h : ∀ M', (∀ g t, ¬ (g = 9 ∧ (t = 14 ∨ t = 15)) → M' g t = M1 g t) → (∀ a, a < P → M' 9 15 a = fx M0 e L a n) → (∀ a b, a < P → b < P → M' 9 14 (64 * a + b) = ap e (sp_pl L a) (sp_pl L b)) → post M') : xw_Mo_measures M1 post :=
  ⟨P + 1, p_ms2 (M0 := M0) ok eM hL hL2 hP hn hg h09 h7 h6 P 0 M1 (by omega) (fun _ _ _ => rfl) (fun a ha => by omega) (fun a b _ _ ha => by omega) h⟩
