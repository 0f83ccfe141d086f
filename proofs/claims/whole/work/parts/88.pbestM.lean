/-! ===== best: the model's loop, and the call ===== -/
theorem p_best78 {n : Nat} (hn : n ≤ 5) {x2 : Int32} {M1 : xM} {post : Int32 → xM → Prop} {k : Int32 → xM → Prop} : ∀ (m j : Nat) (M : xM), j + m = n → (∀ g t, ¬ (g = 9 ∧ t = 17) → M g t = M1 g t) → (∀ i, i < j → M 9 17 i = M1 9 16 i) → (∀ M', (∀ g t, ¬ (g = 9 ∧ t = 17) → M' g t = M1 g t) → (∀ i, i < n → M' 9 17 i = M1 9 16 i) → k (nI n) M') → xw_Mo_best_78 (nI n) x2 post k (m + 1) (nI j) M := by
  intro m
  induction m with
  | zero =>
    intro j M hj hf ha h
    obtain rfl : j = n := by omega
    unfold xw_Mo_best_78
    exact ⟨fun _ => h M hf ha, fun z => absurd (nI_le (Nat.le_refl _) (by omega)) z⟩
  | succ m ih =>
    intro j M hj hf ha h
    have hin : vp_in (nI j) 5 := vp_in_nI (by omega) (by omega)
    unfold xw_Mo_best_78
    rw [nI_clamp (by omega), nI_1]
    refine ⟨fun z => absurd ((nI_leI (by omega) (by omega)).mp z) (by omega), fun _ => ⟨hin, hin, ih (j + 1) _ (by omega) (fun g t hgt => ?_) (fun i hi => ?_) h⟩⟩
    · rw [us_ne _ _ hgt]; exact hf g t hgt
    · rw [us_self]
      by_cases ei : i = j
      · subst ei; rw [upd_self, hf 9 16 (by decide)]
      · rw [upd_ne _ _ ei]; exact ha i (by omega)
theorem p_best33 {n : Nat} (hn : n ≤ 5) {M1 : xM} {post : Int32 → xM → Prop} {k : Int32 → xM → Prop} : ∀ (m j : Nat) (M : xM), j + m = n → (∀ g t, ¬ (g = 9 ∧ t = 16) → M g t = M1 g t) → (∀ i, i < j → M 9 16 i = nI i) → (∀ M', (∀ g t, ¬ (g = 9 ∧ t = 16) → M' g t = M1 g t) → (∀ i, i < n → M' 9 16 i = nI i) → k (nI n) M') → xw_Mo_best_33 (nI n) post k (m + 1) (nI j) M := by
  intro m
  induction m with
  | zero =>
    intro j M hj hf ha h
    obtain rfl : j = n := by omega
    unfold xw_Mo_best_33
    exact ⟨fun _ => h M hf ha, fun z => absurd (nI_le (Nat.le_refl _) (by omega)) z⟩
  | succ m ih =>
    intro j M hj hf ha h
    unfold xw_Mo_best_33
    rw [nI_clamp (by omega), nI_1]
    refine ⟨fun z => absurd ((nI_leI (by omega) (by omega)).mp z) (by omega), fun _ => ⟨vp_in_nI (by omega) (by omega), ih (j + 1) _ (by omega) (fun g t hgt => ?_) (fun i hi => ?_) h⟩⟩
    · rw [us_ne _ _ hgt]; exact hf g t hgt
    · rw [us_self]
      by_cases ei : i = j
      · subst ei; rw [upd_self]
      · rw [upd_ne _ _ ei]; exact ha i (by omega)
theorem p_best55 {M1 : xM} {L P n : Nat} {F : Nat → Int32} {B : Nat → Nat → Int32} (hL2 : L ≤ 4) (hP : P = L * L * L) (hn : n ≤ 5) (hnP : n ≤ P) (hg : M1 9 0 7 = nI L) (hF : ∀ p, p < P → M1 9 15 p = F p) (hB : ∀ a b, a < P → b < P → M1 9 14 (64 * a + b) = B a b) (hF0 : ∀ p, 0 ≤ (F p).toInt) (hB0 : ∀ p q, 0 ≤ (B p q).toInt) {post : Int32 → xM → Prop} {K : Int32 → Int32 → xM → Prop} : ∀ (m : Nat) (s : Nat → Nat) (g : Int32) (M : xM), 64 ^ n ≤ cd s n + m → (∀ g t, ¬ (g = 9 ∧ (t = 16 ∨ t = 17)) → M g t = M1 g t) → (∀ k, k < n → M 9 16 k = nI (s k)) → sS P n s → bst P n F B n (cd s n) g (M 9 17) →
    (∀ g' y M', (∀ g t, ¬ (g = 9 ∧ (t = 16 ∨ t = 17)) → M' g t = M1 g t) → bst P n F B 0 1 g' (M' 9 17) → K g' y M') → xw_Mo_best_55 (nI n) post K (m + 1) g 1 M := by
  have h64 := n3le hL2
  have c64 : ∀ u, sS P n u → ∀ j, j < n → u j < 64 := fun u hu j hj => by have := hu.2 j hj; omega
  intro m
  induction m with
  | zero =>
    intro s g M hm _ _ hs
    have := cd_lt n (c64 s hs)
    omega
  | succ m ih =>
    intro s g M hm hf h16 hs hb h
    unfold xw_Mo_best_55
    refine ⟨fun z => absurd z (by decide), fun _ => ?_⟩
    refine p_leastOf (F := F) (B := B) (by omega) hn hs.2 h16 (by rw [hf 9 15 (by decide)]; exact hF) (by rw [hf 9 14 (by decide)]; exact hB) ?_
    refine xj2 (fun v M' => (∀ g t, ¬ (g = 9 ∧ t = 17) → M' g t = M g t) ∧ bst P n F B n (cd s n + 1) v (M' 9 17)) (fun v M' hPv => ?_) (fun J hJ => ⟨fun z => hJ _ _ ⟨fun _ _ _ => rfl, hb.skip hF0 hB0 (fun u hu w => ?_) (fun u hu w => by omega)⟩, fun z => ⟨n + 1, p_best78 hn n 0 M (by omega) (fun _ _ _ => rfl) (fun i hi => by omega) (fun M' a1 a2 => hJ _ _ ⟨a1, bst.take (by omega) hs hb (by rw [ile] at z; omega) (fun j hj => by rw [a2 j hj, h16 j hj])⟩)⟩⟩)
    · obtain ⟨a1, a2⟩ := hPv
      refine p_counts hL2 hP hn hnP hs (by rw [a1 9 16 (by decide)]; exact h16) (by rw [a1 9 0 (by decide), hf 9 0 (by decide)]; exact hg) (fun s' M2 b1 b2 b3 b4 b5 => ih s' v M2 (by omega) (fun g t hgt => ?_) b2 b3 ?_ h) (fun b1 => ?_)
      · rw [b1 g t (by omega), a1 g t (by omega)]; exact hf g t hgt
      · rw [b1 9 17 (by decide)]
        refine a2.skip hF0 hB0 (fun u hu w => Or.inl ?_) (fun u hu w => ?_)
        · have := b5 u hu w; omega
        · rcases Nat.lt_or_ge (cd u n) (cd s' n) with q | q
          · exact q
          · omega
      · unfold xw_Mo_best_55
        refine ⟨fun _ => h v _ M' (fun g t hgt => ?_) (a2.skip hF0 hB0 (fun u hu w => Or.inl ?_) (fun u hu w => ?_)), fun z => absurd rfl z⟩
        · rw [a1 g t (by omega)]; exact hf g t hgt
        · have := b1 u hu; omega
        · show 0 < 1; omega
    · rcases Nat.lt_or_ge (cd u n) (cd s n) with q | q
      · exact Or.inl q
      · refine Or.inr ?_
        rw [vK_cong n (cd_inj n (c64 u hu) (c64 s hs) (by omega))]
        rw [ile] at z
        exact z
theorem p_Mo_best {M1 : xM} {L P n w : Nat} {e : xE} (ok : eyOk e) (eM : eyM M1 e) (hL : 2 ≤ L) (hL2 : L ≤ 4) (hP : P = L * L * L) (hn : n ≤ 12) (hw : 1 ≤ w) (hw5 : w ≤ 5) (hw4 : L = 4 → w ≤ 4) (hg : M1 9 0 7 = nI L) (h09 : M1 9 0 9 = nI n) {post : Int32 → xM → Prop}
    (h : ∀ g M', (∀ g t, ¬ (g = 9 ∧ 14 ≤ t ∧ t ≤ 17) → M' g t = M1 g t) → bst P w (fun p => fx M1 e L p n) (fun a b => ap e (sp_pl L a) (sp_pl L b)) 0 1 g (M' 9 17) → xw_Mo_ends g (us M' 9 0 23 (nI w)) post) : xw_Mo_best (nI w) M1 post := by
  have h64 := n3le hL2
  have h8 : 8 ≤ P := by
    have := Nat.mul_le_mul (Nat.mul_le_mul hL hL) hL
    omega
  have main : xw_Mo_measures M1 (fun (M6 : xM) => ∃ n33 : Nat, xw_Mo_best_33 (nI w) post (fun (y7 : Int32) (M8 : xM) => ∃ n55 : Nat, xw_Mo_best_55 (nI w) post (fun (y18 : Int32) (y19 : Int32) (M20 : xM) => xw_Mo_ends y18 (us M20 9 0 23 (nI w)) (fun (r22 : Int32) (M21 : xM) => post r22 M21)) n55 (-1 : Int32) (1 : Int32) M8) n33 (0 : Int32) M6) := by
    refine p_measures (M0 := M1) ok eM hL hL2 hP hn hg h09 rfl rfl (fun M2 a1 a2 a3 => ⟨w + 1, p_best33 hw5 w 0 M2 (by omega) (fun _ _ _ => rfl) (fun i hi => by omega) (fun M3 b1 b2 => ⟨64 ^ w + 1, ?_⟩)⟩)
    have hid : sS P w (fun k => k) := ⟨fun k _ => by show k < k + 1; omega, fun k hk => by show k < P; omega⟩
    have hF0 : ∀ p, 0 ≤ (fx M1 e L p n).toInt := fun p => fx_0 ok n
    have hB0 : ∀ a b, 0 ≤ (ap e (sp_pl L a) (sp_pl L b)).toInt := fun a b => ap_0 ok _ _
    refine p_best55 (M1 := M3) (F := fun p => fx M1 e L p n) (B := fun a b => ap e (sp_pl L a) (sp_pl L b)) hL2 hP hw5 (by omega) ?_ ?_ ?_ hF0 hB0 (64 ^ w) (fun k => k) (-1) M3 (by omega) (fun _ _ _ => rfl) b2 hid ?_ (fun g y M' c1 c2 => h g M' (fun g t hgt => ?_) c2)
    · rw [b1 9 0 (by decide), a1 9 0 (by decide)]; exact hg
    · rw [b1 9 15 (by decide)]; exact a2
    · rw [b1 9 14 (by decide)]; exact a3
    · refine (bst.start (lat := M3 9 17) w).skip hF0 hB0 (fun u hu q => ?_) (fun u hu q => by omega)
      have := cd_mono (s := fun k => k) (s' := u) (i := 0) (Nat.le_refl _) w (by omega) (fun j _ j2 => by
        have := sS_up hu (i := 0) j (by omega)
        rw [show 0 + j = j by omega] at this
        show j ≤ u j
        omega)
      omega
    · rw [c1 g t (by omega), b1 g t (by omega), a1 g t (by omega)]
  unfold xw_Mo_best
  rw [hg]
  refine xj2 (fun v M' => M' = M1 ∧ (1 ≤ nI w ∧ nI w ≤ v)) (fun v M' hPv => ?_) (fun J hJ => ⟨fun z => hJ _ _ ⟨rfl, ?_, ?_⟩, fun z => hJ _ _ ⟨rfl, ?_, ?_⟩⟩)
  · obtain ⟨hM', hv⟩ := hPv
    rw [hM']
    exact i_in (br (fun _ => main) (fun z => absurd hv z))
  · exact (nI_leI (a := 1) (by omega) (by omega)).mpr hw
  · exact (nI_leI (b := 5) (by omega) (by omega)).mpr hw5
  · exact (nI_leI (a := 1) (by omega) (by omega)).mpr hw
  · exact (nI_leI (b := 4) (by omega) (by omega)).mpr (hw4 ((nI_eq (b := 4) (by omega) (by omega)).mp z))
