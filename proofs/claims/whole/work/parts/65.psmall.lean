/-! ===== places of the GRID ===== -/
def sp_gl (n i : Nat) : Int32 := nI (i * 255 / (n - 1))
def sp_pl (n p : Nat) : Int32 := sp_made (sp_gl n (p / (n * n))) (sp_gl n (p / n % n)) (sp_gl n (p % n))
theorem sp_gl_byte {n i : Nat} (h1 : 2 ≤ n) (hi : i < n) : ∃ j : Nat, j < 256 ∧ sp_gl n i = nI j := by
  refine ⟨_, ?_, rfl⟩
  have : i * 255 ≤ (n - 1) * 255 := Nat.mul_le_mul_right _ (by omega)
  have h2 : i * 255 / (n - 1) ≤ 255 := Nat.div_le_of_le_mul this
  omega
theorem pl_bounds {n p : Nat} (h1 : 2 ≤ n) (hp : p < n * n * n) : p / (n * n) < n ∧ p / n % n < n ∧ p % n < n :=
  ⟨Nat.div_lt_of_lt_mul (by rw [Nat.mul_comm] at hp; rw [Nat.mul_comm]; exact hp), Nat.mod_lt _ (by omega), Nat.mod_lt _ (by omega)⟩
theorem sp_pl_col {n p : Nat} (h1 : 2 ≤ n) (hp : p < n * n * n) : sp_col (sp_pl n p) := by
  obtain ⟨a, b, c⟩ := pl_bounds h1 hp
  exact sp_made_col (sp_gl_byte h1 a) (sp_gl_byte h1 b) (sp_gl_byte h1 c)
theorem n3le {n : Nat} (h2 : n ≤ 4) : n * n * n ≤ 64 := Nat.mul_le_mul (Nat.mul_le_mul h2 h2) h2
theorem i_joined {r g b : Int32} {M : xM} {post : Int32 → xM → Prop} (h : post (sp_made r g b) M) : xw_Rg_joined r g b M post := h
theorem i_made {r g b : Int32} {M : xM} {post : Int32 → xM → Prop} (h : post (sp_made r g b) M) : xw_Mo_made r g b M post := h
theorem p_level {n i : Nat} (h1 : 2 ≤ n) (h2 : n ≤ 4) (hi : i < n) {M : xM} (hM : M 0 12 0 = nI n) {post : Int32 → xM → Prop} (h : post (sp_gl n i) M) : xw_Gr_levelValue 0 (nI i) M post := by
  unfold xw_Gr_levelValue
  rw [hM]
  have eg : nI n - (1 : Int32) = nI (n - 1) := by rw [show (1 : Int32) = nI 1 from rfl, pk_sub (by omega)]
  have e : (if (1 : Int32) < (nI n - (1 : Int32)) then (nI n - (1 : Int32)) else (1 : Int32)) = nI (n - 1) := by
    rw [eg]
    split
    · rfl
    · rename_i q
      have : n - 1 = 1 := by
        rcases Nat.lt_or_ge 1 (n - 1) with z | z
        · exact absurd ((nI_ltI (a := 1) (by omega) (by omega)).mpr z) q
        · omega
      rw [this]; rfl
  rw [e, show (255 : Int32) = nI 255 from rfl, pk_mul, pk_div (by omega) (by omega) (by omega)]
  exact ⟨nI_ne0 (by omega) (by omega), h⟩
theorem p_colourAt {n p : Nat} (h1 : 2 ≤ n) (h2 : n ≤ 4) (hp : p < n * n * n) {M : xM} (hM : M 0 12 0 = nI n) {post : Int32 → xM → Prop} (h : post (sp_pl n p) M) : xw_Gr_colourAt 0 (nI p) M post := by
  obtain ⟨b1, b2, b3⟩ := pl_bounds h1 hp
  have h64 := n3le h2
  have hnn : n * n ≤ 16 := Nat.mul_le_mul h2 h2
  have hnn1 : 1 ≤ n * n := Nat.mul_pos (by omega) (by omega)
  have hpn : p / n ≤ p := Nat.div_le_self _ _
  have e : (if (1 : Int32) < nI n then nI n else (1 : Int32)) = nI n := if_pos ((nI_ltI (a := 1) (by omega) (by omega)).mpr (by omega))
  unfold xw_Gr_colourAt
  rw [hM, e, pk_mul, pk_div (by omega) hnn1 (by omega), pk_rem (by omega) (by omega) (by omega), pk_div (by omega) (by omega) (by omega), pk_rem (by omega) (by omega) (by omega)]
  have z1 : ¬ nI n = 0 := nI_ne0 (by omega) (by omega)
  refine ⟨nI_ne0 hnn1 (by omega), p_level h1 h2 b1 hM ⟨z1, z1, p_level h1 h2 b2 hM ⟨z1, p_level h1 h2 b3 hM h⟩⟩⟩
theorem p_Mo_level {n i : Nat} (h1 : 2 ≤ n) (h2 : n ≤ 4) (hi : i < n) {M : xM} (hM : M 9 0 7 = nI n) {post : Int32 → xM → Prop} (h : post (sp_gl n i) M) : xw_Mo_gridLevel (nI i) M post := by
  unfold xw_Mo_gridLevel
  rw [hM, show (1 : Int32) = nI 1 from rfl, pk_sub (by omega), show (255 : Int32) = nI 255 from rfl, pk_mul, pk_div (by omega) (by omega) (by omega)]
  exact ⟨nI_ne0 (by omega) (by omega), h⟩
theorem p_placeOf {n p : Nat} (h1 : 2 ≤ n) (h2 : n ≤ 4) (hp : p < n * n * n) {M : xM} (hM : M 9 0 7 = nI n) {post : Int32 → xM → Prop} (h : post (sp_pl n p) M) : xw_Mo_placeOf (nI p) M post := by
  obtain ⟨b1, b2, b3⟩ := pl_bounds h1 hp
  have h64 := n3le h2
  have hnn : n * n ≤ 16 := Nat.mul_le_mul h2 h2
  have hnn1 : 1 ≤ n * n := Nat.mul_pos (by omega) (by omega)
  have hpn : p / n ≤ p := Nat.div_le_self _ _
  unfold xw_Mo_placeOf
  have z1 : ¬ nI n = 0 := nI_ne0 (by omega) (by omega)
  rw [hM, pk_mul, pk_div (by omega) hnn1 (by omega)]
  refine ⟨nI_ne0 hnn1 (by omega), p_Mo_level h1 h2 b1 hM ?_⟩
  rw [hM, pk_div (by omega) (by omega) (by omega), pk_rem (by omega) (by omega) (by omega)]
  refine ⟨z1, z1, p_Mo_level h1 h2 b2 hM ?_⟩
  rw [hM, pk_rem (by omega) (by omega) (by omega)]
  exact ⟨z1, p_Mo_level h1 h2 b3 hM h⟩
theorem op_place : ∀ (M : xM) (a : Int32), xInv M → xw_CA_place a M (fun r M1 => xw_Mo_place a M1 (fun q M2 => r = q ∧ xInv M2)) := by
  intro M a hI
  obtain ⟨h1, n, n1, n2, h2⟩ := hI.2.1.2.1
  have hC : M 0 12 0 = nI n := h1.trans h2
  have hM : M 9 0 7 = nI n := h2
  have h64 := n3le n2
  have mo : ∀ r : Int32, xw_Mo_in a (0 : Int32) (nI (n * n * n) - (1 : Int32)) M (fun (r4 : Int32) (M3 : xM) => ((r4 = 0) → ((fun q M2 => r = q ∧ xInv M2) (-1 : Int32) M3)) ∧ ((¬ r4 = 0) → (xw_Mo_placeOf a M3 (fun (r6 : Int32) (M5 : xM) => (fun q M2 => r = q ∧ xInv M2) r6 M5)))) → xw_Mo_place a M (fun q M2 => r = q ∧ xInv M2) := by
    intro r h
    unfold xw_Mo_place xw_Mo_places
    rw [hM, pk_mul, pk_mul]
    exact h
  unfold xw_CA_place xw_Gr_places
  rw [hC, pk_mul, pk_mul]
  rcases ix_cases a (n := n * n * n) (by omega) with ⟨q1, q2⟩ | ⟨q1, q2, q3⟩ | ⟨k, hk, rfl, q1, q2, q3⟩
  · exact ⟨fun _ => mo _ (i_in (br' (fun z => absurd z q2) (fun _ => ⟨rfl, hI⟩))), fun z => absurd q1 z⟩
  · exact ⟨fun z => absurd z q1, fun _ => ⟨fun _ => mo _ (i_in (br' (fun z => absurd z q3) (fun _ => ⟨rfl, hI⟩))), fun z => absurd q2 z⟩⟩
  · exact ⟨fun z => absurd z q1, fun _ => ⟨fun z => absurd z q2, fun _ => p_colourAt n1 n2 hk hC (mo _ (i_in (br' (fun _ => p_placeOf n1 n2 hk hM ⟨rfl, hI⟩) (fun z => absurd q3 z))))⟩⟩
/-! ===== CONTRAST ===== -/
def sp_br (a b : Int32) : Int32 := (if sp_lt a ≤ sp_lt b then sp_lt b else sp_lt a) + 13
def sp_dk (a b : Int32) : Int32 := (if sp_lt a ≤ sp_lt b then sp_lt a else sp_lt b) + 13
theorem w_brighter {a b : Int32} {M : xM} {post : Int32 → xM → Prop} (h : post (sp_br a b) M) : xw_Mo_brighter a b M post := by
  unfold xw_Mo_brighter
  refine i_ltM (i_ltM ⟨fun q => i_ltM ?_, fun q => i_ltM ?_⟩)
  · unfold sp_br at h; rw [if_pos q] at h; exact h
  · unfold sp_br at h; rw [if_neg q] at h; exact h
theorem w_darker {a b : Int32} {M : xM} {post : Int32 → xM → Prop} (h : post (sp_dk a b) M) : xw_Mo_darker a b M post := by
  unfold xw_Mo_darker
  refine i_ltM (i_ltM ⟨fun q => i_ltM ?_, fun q => i_ltM ?_⟩)
  · unfold sp_dk at h; rw [if_pos q] at h; exact h
  · unfold sp_dk at h; rw [if_neg q] at h; exact h
theorem sp_max {x y : Int32} : (if x < y then y else x) = (if x ≤ y then y else x) := by
  by_cases h : x ≤ y
  · rw [if_pos h]
    split
    · rfl
    · rename_i q; rw [ieq]; simp only [ilt, ile] at *; omega
  · rw [if_neg h, if_neg (fun q => h (by simp only [ilt, ile] at *; omega))]
theorem sp_min {x y : Int32} : (if y < x then y else x) = (if x ≤ y then x else y) := by
  by_cases h : x ≤ y
  · rw [if_pos h, if_neg (fun q => by simp only [ilt, ile] at *; omega)]
  · rw [if_neg h, if_pos (by simp only [ilt, ile] at *; omega)]
theorem sp_brdk (a b : Int32) : ∃ x y : Nat, 13 ≤ y ∧ y ≤ x ∧ x ≤ 268 ∧ sp_br a b = nI x ∧ sp_dk a b = nI y := by
  obtain ⟨x, hx, ex⟩ := sp_lt_nI a
  obtain ⟨y, hy, ey⟩ := sp_lt_nI b
  unfold sp_br sp_dk
  rw [ex, ey, show (13 : Int32) = nI 13 from rfl]
  by_cases h : x ≤ y
  · rw [if_pos (nI_le h (by omega)), if_pos (nI_le h (by omega)), nI_add, nI_add]
    exact ⟨y + 13, x + 13, by omega, by omega, by omega, rfl, rfl⟩
  · rw [if_neg (nI_ge (by omega) (by omega)), if_neg (nI_ge (by omega) (by omega)), nI_add, nI_add]
    exact ⟨x + 13, y + 13, by omega, by omega, by omega, rfl, rfl⟩
theorem p_euclid {post : Int32 → xM → Prop} {k : Int32 → Int32 → Int32 → xM → Prop} {M : xM} : ∀ (f x y t : Nat), y < 2 ^ f → x < 1000 → y < 1000 → t + 2 * f ≤ 32 → (∀ u v, k (nI (Nat.gcd x y)) u v M) → xw_CA_commonDivisor_7 post k (2 * f + 1) (nI x) (nI y) (nI t) M := by
  intro f
  induction f with
  | zero =>
    intro x y t hy hx hy2 ht h
    obtain rfl : y = 0 := by omega
    unfold xw_CA_commonDivisor_7
    rw [Nat.gcd_zero_right] at h
    refine ⟨fun _ => h _ _, fun _ => ⟨fun _ => h _ _, fun z => absurd rfl z⟩⟩
  | succ f ih =>
    intro x y t hy hx hy2 ht h
    show xw_CA_commonDivisor_7 post k (2 * f + 1 + 1 + 1) (nI x) (nI y) (nI t) M
    unfold xw_CA_commonDivisor_7
    have t0 : ∀ u : Nat, u < 32 → ¬ (32 : Int32) ≤ nI u := fun u hu => nI_ge (a := u) (b := 32) hu (by omega)
    refine ⟨fun q => absurd q (t0 t (by omega)), fun _ => ⟨fun q => ?_, fun q => ⟨q, ?_⟩⟩⟩
    · have : y = 0 := (nI_eq (a := y) (b := 0) (by omega) (by omega)).mp q
      subst this
      rw [Nat.gcd_zero_right] at h
      exact h _ _
    · have y0 : 0 < y := by
        rcases Nat.eq_zero_or_pos y with z | z
        · rw [z] at q; exact absurd rfl q
        · exact z
      have hg : Nat.gcd x y = Nat.gcd y (x % y) := by rw [Nat.gcd_comm x y, Nat.gcd_rec y x, Nat.gcd_comm]
      have hr : x % y < y := Nat.mod_lt _ y0
      rw [pk_rem (by omega) y0 (by omega), nI_1]
      unfold xw_CA_commonDivisor_7
      refine ⟨fun q => absurd q (t0 (t + 1) (by omega)), fun _ => ⟨fun q => ?_, fun q => ⟨q, ?_⟩⟩⟩
      · have e : x % y = 0 := (nI_eq (a := x % y) (b := 0) (by omega) (by omega)).mp q
        rw [hg, e, Nat.gcd_zero_right] at h
        exact h _ _
      · have r0 : 0 < x % y := by
          rcases Nat.eq_zero_or_pos (x % y) with z | z
          · rw [z] at q; exact absurd rfl q
          · exact z
        have hg2 : Nat.gcd y (x % y) = Nat.gcd (x % y) (y % (x % y)) := by rw [Nat.gcd_comm y (x % y), Nat.gcd_rec (x % y) y, Nat.gcd_comm]
        have hr2 : y % (x % y) < x % y := Nat.mod_lt _ r0
        have hr3 : y % (x % y) + x % y ≤ y := by
          have := Nat.mod_add_div y (x % y)
          have h1 : 1 ≤ y / (x % y) := Nat.div_pos (by omega) r0
          have h2 : x % y * 1 ≤ x % y * (y / (x % y)) := Nat.mul_le_mul_left _ h1
          omega
        have hp : 2 ^ (f + 1) = 2 * 2 ^ f := by rw [Nat.pow_succ]; omega
        rw [pk_rem (by omega) r0 (by omega), nI_1]
        exact ih (x % y) (y % (x % y)) (t + 1 + 1) (by omega) (by omega) (by omega) (by omega) (by rw [hg, hg2] at h; exact h)
theorem p_euclidM {x1 x2 x3 : Int32} {post : Int32 → xM → Prop} {k : Int32 → Int32 → xM → Prop} {M : xM} : ∀ (f x y : Nat), y < f → x < 1000 → y < 1000 → (∀ u, k (nI (Nat.gcd x y)) u M) → xw_Mo_contrast_39 x1 x2 x3 post k f (nI x) (nI y) M := by
  intro f
  induction f with
  | zero => intro x y h; omega
  | succ f ih =>
    intro x y hy hx hy2 h
    unfold xw_Mo_contrast_39
    refine ⟨fun q => ?_, fun q => ?_⟩
    · have : y = 0 := by
        have := (nI_leI (a := y) (b := 0) (by omega) (by omega)).mp q
        omega
      subst this
      rw [Nat.gcd_zero_right] at h
      exact h _
    · have y0 : 0 < y := by
        rcases Nat.eq_zero_or_pos y with z | z
        · subst z; exact absurd (by decide) q
        · exact z
      have hg : Nat.gcd x y = Nat.gcd y (x % y) := by rw [Nat.gcd_comm x y, Nat.gcd_rec y x, Nat.gcd_comm]
      have hr : x % y < y := Nat.mod_lt _ y0
      rw [pk_rem (by omega) y0 (by omega)]
      exact ⟨nI_ne0 y0 (by omega), ih y (x % y) (by omega) (by omega) (by omega) (by rw [hg] at h; exact h)⟩
theorem op_contrast : ∀ (M : xM) (a b c : Int32), xInv M → xw_CA_contrast a b c M (fun r M1 => xw_Mo_contrast a b c M1 (fun q M2 => r = q ∧ xInv M2)) := by
  intro M a b c hI
  have no : (¬ (0 ≤ a ∧ a ≤ 16777215) ∨ ¬ (0 ≤ b ∧ b ≤ 16777215) ∨ ¬ (0 ≤ c ∧ c ≤ 1)) → xw_Mo_contrast a b c M (fun q M2 => (-1 : Int32) = q ∧ xInv M2) := by
    intro hz
    unfold xw_Mo_contrast
    refine i_colM (br' (fun q1 => i_colM (br' (fun q2 => i_in (br (fun q3 => ?_) (fun _ => ⟨rfl, hI⟩))) (fun _ => ⟨rfl, hI⟩))) (fun _ => ⟨rfl, hI⟩))
    rcases hz with z | z | z
    · exact absurd q1 z
    · exact absurd q2 z
    · exact absurd q3 z
  unfold xw_CA_contrast
  refine i_colC (br' (fun h1 => i_colC (br' (fun h2 => ⟨fun q => no (Or.inr (Or.inr fun z => ?_)), fun q => ⟨fun q2 => ?_, fun q2 => no (Or.inr (Or.inr fun z => q2 z.2))⟩⟩) (fun h2 => no (Or.inr (Or.inl h2))))) (fun h1 => no (Or.inl h1)))
  · have := z.1; simp only [ilt, ile] at *; omega
  · refine i_ltC (i_ltC (i_ltC (i_ltC ?_)))
    rw [sp_max, sp_min]
    obtain ⟨x, y, b1, b2, b3, ex, ey⟩ := sp_brdk a b
    have e1 : (if sp_lt a ≤ sp_lt b then sp_lt b else sp_lt a) + (13 : Int32) = nI x := ex
    have e2 : (if sp_lt a ≤ sp_lt b then sp_lt a else sp_lt b) + (13 : Int32) = nI y := ey
    rw [e1, e2]
    have hg0 : 0 < Nat.gcd x y := Nat.gcd_pos_of_pos_left _ (by omega)
    have hg1 : Nat.gcd x y ≤ x := Nat.gcd_le_left _ (by omega)
    have hz : ¬ nI (Nat.gcd x y) = 0 := nI_ne0 hg0 (by omega)
    have eg : (if (1 : Int32) < nI (Nat.gcd x y) then nI (Nat.gcd x y) else (1 : Int32)) = nI (Nat.gcd x y) := by
      split
      · rfl
      · rename_i q9
        have : Nat.gcd x y = 1 := by
          rcases Nat.lt_or_ge 1 (Nat.gcd x y) with z | z
          · exact absurd ((nI_ltI (a := 1) (by omega) (by omega)).mpr z) q9
          · omega
        rw [this]; rfl
    have hc3 : 0 ≤ c ∧ c ≤ 1 := ⟨by simp only [ilt, ile] at *; omega, q2⟩
    have mod : ∀ r : Int32, (c = 0 → r = nI x / nI (Nat.gcd x y)) → (¬ c = 0 → r = nI y / nI (Nat.gcd x y)) → xw_Mo_contrast a b c M (fun q M2 => r = q ∧ xInv M2) := by
      intro r r1 r2
      unfold xw_Mo_contrast
      refine i_colM (br' (fun _ => i_colM (br' (fun _ => i_in (br (fun _ => ?_) (fun z => absurd hc3 z))) (fun z => absurd h2 z))) (fun z => absurd h1 z))
      refine w_brighter (w_darker ?_)
      rw [ex, ey]
      refine ⟨1000, p_euclidM 1000 x y (by omega) (by omega) (by omega) fun u => ⟨fun z => w_darker ⟨hz, ?_, hI⟩, fun z => w_brighter ⟨hz, ?_, hI⟩⟩⟩
      · rw [ey]; exact r2 z
      · rw [ex]; exact r1 z
    refine ⟨_, p_euclid 15 x y 0 (by omega) (by omega) (by omega) (by omega) fun u v => ?_⟩
    rw [eg]
    exact ⟨fun z => ⟨hz, mod _ (fun z2 => absurd z2 z) (fun _ => rfl)⟩, fun z => ⟨hz, mod _ (fun _ => rfl) (fun z2 => absurd z z2)⟩⟩
/-! ===== RISING ===== -/
def risF (L : Nat → Int32) : Nat → Nat → Prop
  | 0, _ => True
  | m + 1, j => L (j - 1) < L j ∧ risF L m (j + 1)
theorem op_rising : ∀ (M : xM) (a : Int32), xInv M → xw_CA_rising a M (fun r M1 => xw_Mo_rising a M1 (fun q M2 => r = q ∧ xInv M2)) := by
  intro M a hI
  obtain ⟨e, ok, eC, eM⟩ := hI.2.1.e
  obtain ⟨n, hn, g1, g2, g3⟩ := hI.2.2.2.2.2.1
  unfold xw_CA_rising
  refine i_sigC (br' (fun h1 => ⟨fun q => ?_, fun q => ?_⟩) (fun h1 => ?_))
  · obtain ⟨s, -, hs, rfl⟩ := nIr (l := 0) (h := 5) rfl rfl h1
    have hn0 : 0 < n := by
      rcases Nat.eq_zero_or_pos n with z | z
      · rw [g1, z] at q; exact absurd rfl q
      · exact z
    let L : Nat → Int32 := fun j => sp_lt (lk e s (M 9 18 j))
    -- the model's answer
    have mod : ∀ r : Int32, (risF L (n - 1) 1 → r = 1) → (¬ risF L (n - 1) 1 → r = 0) → xw_Mo_rising (nI s) M (fun q M2 => r = q ∧ xInv M2) := by
      intro r r1 r2
      unfold xw_Mo_rising
      refine i_sigM (br' (fun _ => ⟨fun _ => ⟨n, ?_⟩, fun z => absurd (g2 ▸ z) (nI_ne0 hn0 (by omega))⟩) (fun z => absurd h1 z))
      have loop : ∀ (m j : Nat), 1 ≤ j → j + m = n → (risF L m j → r = 1) → (¬ risF L m j → r = 0) → xw_Mo_rising_18 (nI s) (fun q M2 => r = q ∧ xInv M2) (fun (y11 : Int32) (M12 : xM) => (fun q M2 => r = q ∧ xInv M2) (1 : Int32) M12) (m + 1) (nI j) M := by
        intro m
        induction m with
        | zero =>
          intro j hj1 hj r1 r2
          unfold xw_Mo_rising_18
          rw [g2]
          exact ⟨fun _ => ⟨r1 trivial, hI⟩, fun z => absurd (nI_le (by omega) (by omega)) z⟩
        | succ m ih =>
          intro j hj1 hj r1 r2
          unfold xw_Mo_rising_18
          rw [g2]
          have ej : nI j - (1 : Int32) = nI (j - 1) := by rw [show (1 : Int32) = nI 1 from rfl, pk_sub hj1]
          refine ⟨fun z => absurd z (nI_ge (by omega) (by omega)), fun _ => ⟨vp_in_nI (by omega) (by omega), ?_⟩⟩
          refine p_Mo_seenOf hs ok.1 ok.2.1 eM.1 (i_ltM ⟨by rw [ej]; exact vp_in_nI (by omega) (by omega), ?_⟩)
          rw [ej]
          refine p_Mo_seenOf hs ok.1 ok.2.1 eM.1 (i_ltM ?_)
          rw [eM.2.1, nI_clamp (by omega), nI_clamp (by omega), nI_1]
          have hd : risF L (m + 1) j ↔ (L (j - 1) < L j ∧ risF L m (j + 1)) := Iff.rfl
          refine ⟨fun z => ih (j + 1) (by omega) (by omega) (fun w => r1 ⟨z, w⟩) (fun w => r2 (fun w2 => w w2.2)), fun z => ⟨r2 (fun w => z w.1), hI⟩⟩
      have := loop (n - 1) 1 (by omega) (by omega) r1 r2
      rw [show n - 1 + 1 = n by omega] at this
      exact this
    refine ⟨n + 1, ?_⟩
    have loop : ∀ (m j : Nat) (x : Int32), j + m = n → (j = 0 → x = -1) → (0 < j → x = L (j - 1)) → (∀ r : Int32, (risF L (if j = 0 then n - 1 else m) (if j = 0 then 1 else j) → r = 1) → (¬ risF L (if j = 0 then n - 1 else m) (if j = 0 then 1 else j) → r = 0) → xw_Mo_rising (nI s) M (fun q M2 => r = q ∧ xInv M2)) →
        xw_Ra_growsFor_5 0 (nI s) (fun (r4 : Int32) (M3 : xM) => ((r4 = 0) → ((fun r M1 => xw_Mo_rising (nI s) M1 (fun q M2 => r = q ∧ xInv M2)) (0 : Int32) M3)) ∧ ((¬ r4 = 0) → ((fun r M1 => xw_Mo_rising (nI s) M1 (fun q M2 => r = q ∧ xInv M2)) (1 : Int32) M3))) (fun (y5 : Int32) (y6 : Int32) (M7 : xM) => (fun (r4 : Int32) (M3 : xM) => ((r4 = 0) → ((fun r M1 => xw_Mo_rising (nI s) M1 (fun q M2 => r = q ∧ xInv M2)) (0 : Int32) M3)) ∧ ((¬ r4 = 0) → ((fun r M1 => xw_Mo_rising (nI s) M1 (fun q M2 => r = q ∧ xInv M2)) (1 : Int32) M3))) (1 : Int32) M7) (m + 1) x (nI j) M := by
      intro m
      induction m with
      | zero =>
        intro j x hj x0 x1 hr
        unfold xw_Ra_growsFor_5
        rw [g1]
        refine ⟨fun _ => ⟨fun z => absurd z (by decide), fun _ => hr 1 (fun _ => rfl) (fun z => ?_)⟩, fun z => absurd (nI_le (by omega) (by omega)) z⟩
        rw [if_neg (by omega)] at z
        exact absurd trivial z
      | succ m ih =>
        intro j x hj x0 x1 hr
        unfold xw_Ra_growsFor_5
        rw [g1]
        refine ⟨fun z => absurd z (nI_ge (by omega) (by omega)), fun _ => ⟨vp_in_nI (by omega) (by omega), ?_⟩⟩
        rw [nI_clamp (by omega), (g3 j (by omega)).1]
        refine p_look ok eC hs (g3 j (by omega)).2 (i_ltC ?_)
        rw [nI_1]
        refine ⟨fun z => ih (j + 1) _ (by omega) (fun w => by omega) (fun _ => rfl) (fun r r1 r2 => ?_), fun z => ⟨fun _ => hr 0 (fun w => ?_) (fun _ => rfl), fun w => absurd rfl w⟩⟩
        · by_cases j0 : j = 0
          · subst j0
            rw [if_neg (by omega), if_neg (by omega)] at r1 r2
            rw [show m = n - 1 by omega] at r1 r2
            exact mod r r1 r2
          · rw [if_neg (by omega), if_neg (by omega)] at r1 r2
            refine hr r (fun w => r1 ?_) (fun w => r2 (fun w2 => w ?_))
            · rw [if_neg j0, if_neg j0] at w; exact w.2
            · rw [if_neg j0, if_neg j0]
              have := x1 (by omega)
              exact ⟨by rw [this] at z; exact z, w2⟩
        · by_cases j0 : j = 0
          · rw [x0 j0] at z
            obtain ⟨t, ht, et⟩ := sp_lt_nI (lk e s (M 9 18 j))
            rw [et] at z
            exact absurd (by rw [ilt, nI_toInt (by omega)]; show (-1 : Int) < _; omega) z
          · rw [if_neg j0, if_neg j0] at w
            rw [x1 (by omega)] at z
            exact absurd w.1 z
    exact loop n 0 (-1) (by omega) (fun _ => rfl) (fun z => by omega) (fun r r1 r2 => mod r r1 r2)
  · have q2 : M 9 0 25 = 0 := g2.trans (g1 ▸ q)
    exact i_sigM (br' (fun _ => ⟨fun z => absurd q2 z, fun _ => ⟨rfl, hI⟩⟩) (fun z => absurd h1 z))
  · exact i_sigM (br' (fun z => absurd z h1) (fun _ => ⟨rfl, hI⟩))
