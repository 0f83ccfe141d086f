/-! ===== ramp ===== -/
theorem xInv.gen {M M' : xM} (h : xInv M) (hst : M' 8 0 8 = M' 9 0 0) (hk : vKept (M' 0) (mv M')) (hc : vChosen M') (hs : M' 8 11 2 = M' 9 0 24) (hr : vRamp M') (hg : ∀ g, 1 ≤ g → g < 8 → M' g = M g) (h2 : M' 8 2 = M 8 2) (h9 : ∀ i, ((1 ≤ i ∧ i ≤ 3) ∨ i = 19 ∨ i = 20) → M' 9 i = M 9 i) : xInv M' := by
  have ei := iv_to (h9 20 (by omega))
  obtain ⟨-, -, k2, -, -, -, k6⟩ := h
  refine ⟨hst, hk, ?_, hc, hs, hr, ?_⟩
  · rw [hg 1 (by omega) (by omega), hg 2 (by omega) (by omega), hg 3 (by omega) (by omega), ei, ei, ei, h2, h9 19 (by omega)]; exact k2
  · rw [hg 4 (by omega) (by omega), hg 5 (by omega) (by omega), hg 6 (by omega) (by omega), hg 7 (by omega) (by omega), h9 1 (by omega), h9 2 (by omega), h9 3 (by omega)]; exact k6
theorem vChosen.to {M M' : xM} (h : vChosen M) (h1 : M' 8 4 = M 8 4) (h2 : M' 8 10 = M 8 10) (h3 : M' 9 0 23 = M 9 0 23) (h4 : M' 9 17 = M 9 17) : vChosen M' := by
  unfold vChosen; rw [h1, h2, h3, h4]; exact h
theorem vRamp.to {M M' : xM} (h : vRamp M) (h1 : M' 8 14 = M 8 14) (h2 : M' 8 15 = M 8 15) (h3 : M' 9 0 25 = M 9 0 25) (h4 : M' 9 18 = M 9 18) : vRamp M' := by
  unfold vRamp; rw [h1, h2, h3, h4]; exact h
def sp_mx (x y : Int32) (t : Nat) : Int32 := (((x * ((255 : Int32) - nI t)) + (y * nI t)) + (127 : Int32)) / (255 : Int32)
def sp_pt (a b : Int32) (t : Nat) : Int32 := sp_made (sp_mx (sp_th a 0) (sp_th b 0) t) (sp_mx (sp_th a 1) (sp_th b 1) t) (sp_mx (sp_th a 2) (sp_th b 2) t)
theorem sp_mx_nI {x y t : Nat} (hx : x < 256) (hy : y < 256) (ht : t ≤ 255) : sp_mx (nI x) (nI y) t = nI ((x * (255 - t) + y * t + 127) / 255) ∧ (x * (255 - t) + y * t + 127) / 255 < 256 := by
  have h1 : x * (255 - t) ≤ 255 * (255 - t) := Nat.mul_le_mul_right _ (by omega)
  have h2 : y * t ≤ 255 * t := Nat.mul_le_mul_right _ (by omega)
  have h3 : 255 * (255 - t) + 255 * t = 65025 := by omega
  refine ⟨?_, by omega⟩
  unfold sp_mx
  rw [show (255 : Int32) = nI 255 from rfl, show (127 : Int32) = nI 127 from rfl, pk_sub ht, pk_mul, pk_mul, nI_add, nI_add, pk_div (by omega) (by omega) (by omega)]
theorem sp_mx_byte (a b k : Int32) {t : Nat} (ht : t ≤ 255) : ∃ j : Nat, j < 256 ∧ sp_mx (sp_th a k) (sp_th b k) t = nI j := by
  obtain ⟨x, hx, ex⟩ := sp_th_byte a k
  obtain ⟨y, hy, ey⟩ := sp_th_byte b k
  rw [ex, ey]
  exact ⟨_, (sp_mx_nI hx hy ht).2, (sp_mx_nI hx hy ht).1⟩
theorem sp_mx_255 (a b k : Int32) : sp_mx (sp_th a k) (sp_th b k) 255 = sp_th b k := by
  obtain ⟨x, hx, ex⟩ := sp_th_byte a k
  obtain ⟨y, hy, ey⟩ := sp_th_byte b k
  rw [ex, ey, (sp_mx_nI hx hy (Nat.le_refl _)).1]
  congr 1
  omega
theorem sp_pt_col (a b : Int32) {t : Nat} (ht : t ≤ 255) : sp_col (sp_pt a b t) := sp_made_col (sp_mx_byte a b 0 ht) (sp_mx_byte a b 1 ht) (sp_mx_byte a b 2 ht)
theorem sp_pt_255 {a b : Int32} (hb : sp_col b) : sp_pt a b 255 = b := by
  unfold sp_pt
  rw [sp_mx_255, sp_mx_255, sp_mx_255]
  exact sp_made_th hb
theorem p_pointC {a b : Int32} {t : Nat} {M : xM} {post : Int32 → xM → Prop} (h : post (sp_pt a b t) M) : xw_Ra_pointAt a b (nI t) M post := by
  unfold xw_Ra_pointAt xw_Ra_mixed
  simp only [w_Rg_red, w_Rg_green, w_Rg_blue, w_Rg_joined]
  exact h
theorem p_pointM {a b : Int32} {t : Nat} {M : xM} {post : Int32 → xM → Prop} (h : post (sp_pt a b t) M) : xw_Mo_point a b (nI t) M post := h
/-- the height of step j -/
def sp_hN (la d n j : Nat) : Nat := la + d * j / (n - 1)
theorem sp_hN_mono {la d n i j : Nat} (h : i ≤ j) : sp_hN la d n i ≤ sp_hN la d n j := Nat.add_le_add_left (Nat.div_le_div_right (Nat.mul_le_mul_left _ h)) _
theorem sp_hN_last {la d n j : Nat} (hn : 2 ≤ n) (hj : j < n) : sp_hN la d n j ≤ la + d := by
  refine Nat.le_trans (sp_hN_mono (show j ≤ n - 1 by omega)) ?_
  unfold sp_hN
  rw [Nat.mul_div_cancel _ (by omega)]
  exact Nat.le_refl _
/-- t is the first point that reaches height h -/
def fstT (a b : Int32) (h : Nat) (t : Nat) : Prop := t ≤ 255 ∧ nI h ≤ sp_lt (sp_pt a b t) ∧ ∀ u, u < t → ¬ nI h ≤ sp_lt (sp_pt a b u)
theorem fstT_uniq {a b : Int32} {h t u : Nat} (h1 : fstT a b h t) (h2 : fstT a b h u) : t = u := by
  rcases Nat.lt_trichotomy t u with w | w | w
  · exact absurd h1.2.1 (h2.2.2 t w)
  · exact w
  · exact absurd h2.2.1 (h1.2.2 u w)
theorem le_up {h i : Nat} {x : Int32} (hh : h ≤ i) (hi : i < 1000) (q : nI i ≤ x) : nI h ≤ x := by
  rw [ile, nI_toInt (by omega)] at *
  omega
theorem p_climb63 {a b c : Int32} {n la d t : Nat} (hn : 2 ≤ n) (hn2 : n ≤ 12) (hla : la + d < 256) {x10 x11 : Int32} {post : Int32 → xM → Prop} {k : Int32 → Int32 → xM → Prop} : ∀ (m j : Nat) (last : Int32) (M : xM), j + m = n →
    (∀ j' last' M', j ≤ j' → j' ≤ n → (∀ i, j ≤ i → i < j' → nI (sp_hN la d n i) ≤ x11) → (j' = n ∨ ¬ nI (sp_hN la d n j') ≤ x11) → (∀ g i, ¬ (g = 8 ∧ i = 15) → M' g i = M g i) → (∀ i, i < j → M' 8 15 i = M 8 15 i) → (∀ i, j ≤ i → i < j' → M' 8 15 i = x10) → ((j' = j ∧ last' = last) ∨ (j < j' ∧ last' = nI t)) → k (nI j') last' M') → xw_Ra_climb_63 a b (nI n) (nI la) (nI d) (nI (n - 1)) (nI t) x10 x11 post k (m + 1) (nI j) last M := by
  intro m
  induction m with
  | zero =>
    intro j last M hj h
    obtain rfl : j = n := by omega
    unfold xw_Ra_climb_63
    exact ⟨fun _ => h j last M (Nat.le_refl _) (Nat.le_refl _) (fun i h1 h2 => by omega) (Or.inl rfl) (fun _ _ _ => rfl) (fun _ _ => rfl) (fun i h1 h2 => by omega) (Or.inl ⟨rfl, rfl⟩), fun z => absurd (nI_le (Nat.le_refl _) (by omega)) z⟩
  | succ m ih =>
    intro j last M hj h
    unfold xw_Ra_climb_63
    have hdj : d * j ≤ 255 * 12 := Nat.mul_le_mul (by omega) (by omega)
    rw [nI_clamp (by omega), nI_1, pk_mul, pk_div (by omega) (by omega) (by omega), nI_add]
    refine ⟨fun z => absurd ((nI_leI (by omega) (by omega)).mp z) (by omega), fun _ => ⟨nI_ne0 (by omega) (by omega), fun z => ?_, fun z => ⟨vp_in_nI (by omega) (by omega), ?_⟩⟩⟩
    · refine h j last M (Nat.le_refl _) (by omega) (fun i h1 h2 => by omega) (Or.inr (fun w => ?_)) (fun _ _ _ => rfl) (fun _ _ => rfl) (fun i h1 h2 => by omega) (Or.inl ⟨rfl, rfl⟩)
      unfold sp_hN at w
      rw [ile] at w; rw [ilt] at z; omega
    · have hz : nI (sp_hN la d n j) ≤ x11 := by
        unfold sp_hN
        rw [ile]; rw [ilt] at z; omega
      refine ih (j + 1) _ _ (by omega) (fun j' last' M' h1 h2 h3 h4 h5 h6 h7 h8 => h j' last' M' (by omega) h2 (fun i i1 i2 => ?_) h4 (fun g i hg => ?_) (fun i hi => ?_) (fun i i1 i2 => ?_) (Or.inr ⟨by omega, ?_⟩))
      · by_cases e : i = j
        · subst e; exact hz
        · exact h3 i (by omega) i2
      · rw [h5 g i hg, us_ne _ _ hg]
      · rw [h6 i (by omega), us_k _ (by omega)]
      · by_cases e : i = j
        · subst e
          rw [h6 i (by omega), us_v]
        · exact h7 i (by omega) i2
      · rcases h8 with ⟨-, w⟩ | ⟨-, w⟩
        · exact w
        · exact w
theorem p_climb33 {a b : Int32} {n la d : Nat} (hn : 2 ≤ n) (hn2 : n ≤ 12) (hla : la + d < 256) (hl : sp_lt (sp_pt a b 255) = nI (la + d)) {post : Int32 → xM → Prop} {k : Int32 → Int32 → Int32 → xM → Prop} : ∀ (m t j : Nat) (last : Int32) (M : xM), t + m = 256 → j ≤ n → (∀ i, i < j → ∃ u, fstT a b (sp_hN la d n i) u ∧ M 8 15 i = sp_pt a b u) → (j = 0 ∨ ∃ u, fstT a b (sp_hN la d n (j - 1)) u ∧ last = nI u) → (∀ i, j ≤ i → i < n → ∀ u, u < t → ¬ nI (sp_hN la d n i) ≤ sp_lt (sp_pt a b u)) →
    (∀ last' z M', (∀ g i, ¬ (g = 8 ∧ i = 15) → M' g i = M g i) → (∀ i, i < n → ∃ u, fstT a b (sp_hN la d n i) u ∧ M' 8 15 i = sp_pt a b u) → (∃ u, fstT a b (sp_hN la d n (n - 1)) u ∧ last' = nI u) → k (nI n) last' z M') → xw_Ra_climb_33 a b (nI n) (nI la) (nI d) (nI (n - 1)) post k (m + 1) (nI j) last (nI t) M := by
  intro m
  induction m with
  | zero =>
    intro t j last M ht hj h1 h2 h3 h
    obtain rfl : t = 256 := by omega
    have ej : j = n := by
      rcases Nat.lt_or_ge j n with w | w
      · refine absurd ?_ (h3 j (Nat.le_refl _) w 255 (by omega))
        rw [hl]
        exact nI_le (sp_hN_last hn w) (by omega)
      · omega
    subst ej
    unfold xw_Ra_climb_33
    exact ⟨fun _ => h last _ M (fun _ _ _ => rfl) h1 (h2.resolve_left (by omega)), fun z => absurd (by decide) z⟩
  | succ m ih =>
    intro t j last M ht hj h1 h2 h3 h
    unfold xw_Ra_climb_33
    rw [nI_1]
    refine ⟨fun z => absurd ((nI_ltI (a := 255) (by omega) (by omega)).mp z) (by omega), fun _ => ⟨fun z => ?_, fun z => p_pointC (i_ltC ⟨n - j + 1, ?_⟩)⟩⟩
    · have ej : j = n := by
        have := (nI_leI (by omega) (by omega)).mp z
        omega
      subst ej
      exact h last _ M (fun _ _ _ => rfl) h1 (h2.resolve_left (by omega))
    · refine p_climb63 (c := 0) hn hn2 hla (n - j) j last M (by omega) (fun j' last' M' q1 q2 q3 q4 q5 q6 q7 q8 => ?_)
      have hit : ∀ i, j ≤ i → i < j' → fstT a b (sp_hN la d n i) t := fun i i1 i2 => ⟨by omega, q3 i i1 i2, fun u hu => h3 i i1 (by omega) u hu⟩
      refine ih (t + 1) j' last' M' (by omega) q2 (fun i hi => ?_) ?_ (fun i i1 i2 u hu => ?_) (fun l z M2 w1 w2 w3 => h l z M2 (fun g i hg => by rw [w1 g i hg, q5 g i hg]) w2 w3)
      · rcases Nat.lt_or_ge i j with w | w
        · obtain ⟨u, hu1, hu2⟩ := h1 i w
          exact ⟨u, hu1, by rw [q6 i w]; exact hu2⟩
        · exact ⟨t, hit i w hi, q7 i w hi⟩
      · rcases q8 with ⟨e1, e2⟩ | ⟨e1, e2⟩
        · rw [e1, e2]; exact h2
        · exact Or.inr ⟨t, hit (j' - 1) (by omega) (by omega), e2⟩
      · by_cases e : u = t
        · subst e
          rcases q4 with w | w
          · omega
          · exact fun y => w (le_up (sp_hN_mono i1) (by have := sp_hN_last (la := la) (d := d) hn i2; omega) y)
        · exact h3 i (by omega) i2 u (by omega)
/-! the model's side -/
theorem p_ramp86 {a b c : Int32} {j : Int32} {hh : Nat} (hhl : nI hh ≤ sp_lt (sp_pt a b 255)) {post : Int32 → xM → Prop} {k : Int32 → xM → Prop} {M : xM} : ∀ (m t : Nat), t + m = 255 → (∀ u, u < t → ¬ nI hh ≤ sp_lt (sp_pt a b u)) → (∀ t, fstT a b hh t → k (nI t) M) → xw_Mo_ramp_86 a b c j (nI hh) post k (m + 1) (nI t) M := by
  intro m
  induction m with
  | zero =>
    intro t ht h1 h
    obtain rfl : t = 255 := by omega
    unfold xw_Mo_ramp_86
    exact ⟨fun _ => h 255 ⟨Nat.le_refl _, hhl, h1⟩, fun z => absurd (by decide) z⟩
  | succ m ih =>
    intro t ht h1 h
    unfold xw_Mo_ramp_86
    rw [nI_1]
    refine ⟨fun z => absurd ((nI_leI (a := 255) (by omega) (by omega)).mp z) (by omega), fun _ => p_pointM (i_ltM ⟨fun z => h t ⟨by omega, z, h1⟩, fun z => ih (t + 1) (by omega) (fun u hu => ?_) h⟩)⟩
    by_cases e : u = t
    · subst e; exact z
    · exact h1 u (by omega)
theorem p_ramp54 {a b : Int32} {n la d : Nat} (hn : 2 ≤ n) (hn2 : n ≤ 12) (hla : la + d < 256) (ha : sp_lt a = nI la) (hb : sp_lt b = nI (la + d)) (hl : sp_lt (sp_pt a b 255) = nI (la + d)) {post : Int32 → xM → Prop} {k : Int32 → Int32 → xM → Prop} : ∀ (m j : Nat) (last : Int32) (M : xM), j + m = n → (∀ i, i < j → ∃ u, fstT a b (sp_hN la d n i) u ∧ M 9 18 i = sp_pt a b u) → (j = 0 ∨ ∃ u, fstT a b (sp_hN la d n (j - 1)) u ∧ last = nI u) →
    (∀ last' M', (∀ g i, ¬ (g = 9 ∧ i = 18) → M' g i = M g i) → (∀ i, i < n → ∃ u, fstT a b (sp_hN la d n i) u ∧ M' 9 18 i = sp_pt a b u) → (∃ u, fstT a b (sp_hN la d n (n - 1)) u ∧ last' = nI u) → k last' (nI n) M') → xw_Mo_ramp_54 a b (nI n) post k (m + 1) last (nI j) M := by
  intro m
  induction m with
  | zero =>
    intro j last M hj h1 h2 h
    obtain rfl : j = n := by omega
    unfold xw_Mo_ramp_54
    exact ⟨fun _ => h last M (fun _ _ _ => rfl) h1 (h2.resolve_left (by omega)), fun z => absurd (nI_le (Nat.le_refl _) (by omega)) z⟩
  | succ m ih =>
    intro j last M hj h1 h2 h
    unfold xw_Mo_ramp_54
    have hdj : d * j ≤ 255 * 12 := Nat.mul_le_mul (by omega) (by omega)
    refine ⟨fun z => absurd ((nI_leI (by omega) (by omega)).mp z) (by omega), fun _ => i_ltM (i_ltM (i_ltM ?_))⟩
    rw [ha, hb, nI_clamp (by omega), nI_1, pk_sub (by omega), show la + d - la = d by omega, pk_mul, show (1 : Int32) = nI 1 from rfl, pk_sub (by omega), pk_div (by omega) (by omega) (by omega), nI_add]
    refine ⟨nI_ne0 (by omega) (by omega), 256, p_ramp86 (hh := sp_hN la d n j) ?_ 255 0 (by omega) (fun u hu => by omega) (fun t ht => p_pointM ⟨vp_in_nI (by omega) (by omega), ih (j + 1) _ _ (by omega) (fun i hi => ?_) (Or.inr ⟨t, ht, rfl⟩) (fun l M' w1 w2 w3 => h l M' (fun g i hg => by rw [w1 g i hg, us_ne _ _ hg]) w2 w3)⟩)⟩
    · rw [hl]
      exact nI_le (sp_hN_last hn (by omega)) (by omega)
    · by_cases e : i = j
      · subst e
        exact ⟨t, ht, us_v _ _ _ _ _⟩
      · obtain ⟨u, u1, u2⟩ := h1 i (by omega)
        exact ⟨u, u1, by rw [us_k _ e]; exact u2⟩
theorem op_ramp : ∀ (M : xM) (a b c : Int32), xInv M → xw_CA_ramp a b c M (fun r M1 => xw_Mo_ramp a b c M1 (fun q M2 => r = q ∧ xInv M2)) := by
  intro M a b c hI
  have bad : (¬ sp_col a ∨ ¬ sp_col b ∨ ¬ (2 ≤ c ∧ c ≤ 12)) → xw_Mo_ramp a b c (us M 8 0 8 (-1)) (fun q M2 => (-1 : Int32) = q ∧ xInv M2) := by
    intro h
    refine i_colM (xj_i (M := us M 8 0 8 (-1)) True (fun _ => ref_Mo (by decide) hI rfl) (fun J hJ => br' (fun h1 => i_colM (br' (fun h2 => i_in (br (fun h3 => ?_) (fun _ => hJ trivial))) (fun _ => hJ trivial))) (fun _ => hJ trivial)))
    rcases h with y | y | y
    · exact absurd h1 y
    · exact absurd h2 y
    · exact absurd h3 y
  refine i_colC (xj_i (M := M) (¬ sp_col a ∨ ¬ sp_col b ∨ ¬ (2 ≤ c ∧ c ≤ 12)) (fun h => i_refd (bad h)) (fun J hJ => br' (fun h1 => i_colC (br' (fun h2 => ⟨fun z => hJ (Or.inr (Or.inr (fun w => by have := w.1; simp only [ilt, ile] at *; omega))), fun hc1 => ⟨fun hc2 => i_ltC (i_ltC ?_), fun z => hJ (Or.inr (Or.inr (fun w => z w.2)))⟩⟩) (fun z => hJ (Or.inr (Or.inl z))))) (fun z => hJ (Or.inl z))))
  have hcc : 2 ≤ c ∧ c ≤ 12 := ⟨by simp only [ilt, ile] at *; omega, hc2⟩
  obtain ⟨n, n1, n2, rfl⟩ := nIr (l := 2) (h := 12) rfl rfl hcc
  obtain ⟨la, hla, ela⟩ := sp_lt_nI a
  obtain ⟨lb, hlb, elb⟩ := sp_lt_nI b
  refine ⟨fun hlt => ?_, fun hlt => i_refd ?_⟩
  · have hab : la < lb := by rw [ela, elb] at hlt; exact (nI_ltI (by omega) (by omega)).mp hlt
    obtain ⟨d, rfl⟩ : ∃ d, lb = la + d := ⟨lb - la, by omega⟩
    have hl : sp_lt (sp_pt a b 255) = nI (la + d) := by rw [sp_pt_255 h2]; exact elb
    have mo : ∀ {M1 : xM} {post : Int32 → xM → Prop}, (∀ last' M', (∀ g i, ¬ (g = 9 ∧ i = 18) → M' g i = M1 g i) → (∀ i, i < n → ∃ u, fstT a b (sp_hN la d n i) u ∧ M' 9 18 i = sp_pt a b u) → (∃ u, fstT a b (sp_hN la d n (n - 1)) u ∧ last' = nI u) → xw_Mo_ends last' (us M' 9 0 25 (nI n)) post) → xw_Mo_ramp a b (nI n) M1 post := by
      intro M1 post h
      refine i_colM (xj_i (M := M1) False (fun w => w.elim) (fun J hJ => br' (fun _ => i_colM (br' (fun _ => i_in (br (fun _ => i_ltM (i_ltM ⟨fun _ => ⟨n + 1, p_ramp54 n1 n2 hlb ela elb hl n 0 0 M1 (by omega) (fun i hi => by omega) (Or.inl rfl) h⟩, fun z => absurd hlt z⟩)) (fun z => absurd hcc z))) (fun z => absurd h2 z))) (fun z => absurd h1 z)))
    unfold xw_Ra_climb
    refine i_ltC (i_ltC ?_)
    have eg : (if (1 : Int32) < (nI n - 1) then (nI n - 1) else (1 : Int32)) = nI (n - 1) := by
      rw [show (1 : Int32) = nI 1 from rfl, pk_sub (by omega)]
      split
      · rfl
      · rename_i q
        have : n - 1 = 1 := by
          rcases Nat.lt_or_ge 1 (n - 1) with z | z
          · exact absurd ((nI_ltI (a := 1) (by omega) (by omega)).mpr z) q
          · omega
        rw [this]
    rw [eg, ela, elb, pk_sub (by omega), show la + d - la = d by omega]
    refine ⟨257, p_climb33 n1 n2 hlb hl 256 0 0 0 M (by omega) (by omega) (fun i hi => by omega) (Or.inl rfl) (fun i _ _ u hu => by omega) (fun last z M1 w1 w2 w3 => i_taken (mo (fun last' M2 v1 v2 v3 => ?_)))⟩
    obtain ⟨u, u1, u2⟩ := w3
    obtain ⟨v, x1, x2⟩ := v3
    have euv := fstT_uniq u1 x1
    subst euv
    rw [x2, u2]
    refine i_ok ⟨u, by have := u1.1; omega, rfl⟩ ⟨rfl, ?_⟩
    have f8 : ∀ i, ¬ i = 0 → ¬ i = 14 → ¬ i = 15 → M2 8 i = M 8 i := fun i i0 i14 i15 => by
      rw [v1 8 i (by omega), us_i _ i0, us_i _ i14, w1 8 i (by omega)]
    have f9 : ∀ i, ¬ i = 18 → M2 9 i = M 9 i := fun i i18 => by
      rw [v1 9 i (by omega)]
      show M1 9 i = M 9 i
      rw [w1 9 i (by omega)]
    have fg : ∀ g, g < 8 → M2 g = M g := fun g hg => by
      funext i
      rw [v1 g i (by omega), us_g _ (by omega), us_g _ (by omega), w1 g i (by omega)]
    have k9 : ∀ i, ¬ i = 0 → us (us M2 9 0 25 (nI n)) 9 0 0 0 9 i = M2 9 i := fun i i0 => by rw [us_i _ i0, us_i _ i0]
    have kg : ∀ g, ¬ g = 9 → us (us M2 9 0 25 (nI n)) 9 0 0 0 g = M2 g := fun g hg => by rw [us_g _ hg, us_g _ hg]
    have k0 : ∀ j, ¬ j = 0 → ¬ j = 25 → us (us M2 9 0 25 (nI n)) 9 0 0 0 9 0 j = M 9 0 j := fun j j0 j25 => by rw [us_k _ j0, us_k _ j25, f9 0 (by omega)]
    have em : mv (us (us M2 9 0 25 (nI n)) 9 0 0 0) = mv M := by
      funext x j
      unfold mv
      split <;> first | rw [k9 _ (by decide), f9 _ (by decide)] | skip
      dsimp only
      split <;> rw [k0 _ (by decide) (by decide)]
    refine hI.gen ?_ ?_ (hI.2.2.2.1.to ?_ ?_ ?_ ?_) ?_ ?_ (fun g g1 g8 => ?_) ?_ (fun i hi => ?_)
    · rw [us_v, kg 8 (by decide), v1 8 0 (by decide), us_v]
    · rw [em, kg 0 (by decide), fg 0 (by omega)]; exact hI.2.1
    · rw [kg 8 (by decide), f8 4 (by decide) (by decide) (by decide)]
    · rw [kg 8 (by decide), f8 10 (by decide) (by decide) (by decide)]
    · rw [k0 23 (by decide) (by decide)]
    · rw [k9 17 (by decide), f9 17 (by decide)]
    · rw [kg 8 (by decide), f8 11 (by decide) (by decide) (by decide), k0 24 (by decide) (by decide)]
      exact hI.2.2.2.2.1
    · refine ⟨n, n2, ?_, ?_, fun j hj => ?_⟩
      · rw [kg 8 (by decide), v1 8 14 (by decide), us_i _ (by decide), us_v]
      · rw [us_k _ (by decide), us_v]
      · rw [kg 8 (by decide), v1 8 15 (by decide), us_i _ (by decide), us_i _ (by decide), k9 18 (by decide)]
        obtain ⟨p, p1, p2⟩ := w2 j hj
        obtain ⟨q, q1, q2⟩ := v2 j hj
        have epq := fstT_uniq p1 q1
        subst epq
        rw [p2, q2]
        exact ⟨rfl, sp_pt_col a b p1.1⟩
    · rw [kg g (by omega), fg g (by omega)]
    · rw [kg 8 (by decide), f8 2 (by decide) (by decide) (by decide)]
    · rw [k9 i (by omega), f9 i (by omega)]
  · exact i_colM (xj_i (M := us M 8 0 8 (-6)) False (fun w => w.elim) (fun J hJ => br' (fun _ => i_colM (br' (fun _ => i_in (br (fun _ => i_ltM (i_ltM ⟨fun z => absurd z hlt, fun _ => ref_Mo (by decide) hI rfl⟩)) (fun z => absurd hcc z))) (fun z => absurd h2 z))) (fun z => absurd h1 z)))
