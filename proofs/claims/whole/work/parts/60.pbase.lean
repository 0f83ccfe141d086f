/-! ===== numbers ===== -/
theorem ilt {x y : Int32} : x < y ↔ x.toInt < y.toInt := Int32.lt_iff_toInt_lt
theorem ile {x y : Int32} : x ≤ y ↔ x.toInt ≤ y.toInt := Int32.le_iff_toInt_le
theorem ieq {x y : Int32} : x = y ↔ x.toInt = y.toInt := Int32.toInt_inj.symm
theorem irng (x : Int32) : -2147483648 ≤ x.toInt ∧ x.toInt < 2147483648 := ⟨Int32.le_toInt x, Int32.toInt_lt x⟩
/-- truth as an int -/
def b2 (p : Prop) [Decidable p] : Int32 := if p then 1 else 0
theorem b2_ne {p : Prop} [Decidable p] : ¬ b2 p = 0 ↔ p := by unfold b2; split <;> simp_all
theorem b2_eq {p : Prop} [Decidable p] : b2 p = 0 ↔ ¬ p := by unfold b2; split <;> simp_all
theorem b2_and {p : Prop} [Decidable p] : (b2 p &&& 1 = b2 p) ↔ True := by unfold b2; split <;> simp
theorem b2_or {p : Prop} [Decidable p] : b2 p = 0 ∨ b2 p = 1 := by unfold b2; split <;> simp
theorem cj {c : Prop} [Decidable c] {A B P : Prop} (h1 : c → (P ↔ A)) (h2 : ¬ c → (P ↔ B)) : ((c → A) ∧ (¬ c → B)) ↔ P := by
  by_cases h : c
  · simp [h, h1 h]
  · simp [h, h2 h]
/-! ===== memory ===== -/
theorem us_self (M : xM) (g i k : Nat) (v : Int32) : us M g i k v g i = upd (M g i) k v := by simp [us, uc]
theorem us_ne (M : xM) {g i k g' i' : Nat} (v : Int32) (h : ¬ (g' = g ∧ i' = i)) : us M g i k v g' i' = M g' i' := by simp [us, uc, h]
theorem upd_self (f : Nat → Int32) (k : Nat) (v : Int32) : upd f k v k = v := by simp [upd]
theorem upd_ne (f : Nat → Int32) {k j : Nat} (v : Int32) (h : j ≠ k) : upd f k v j = f j := by simp [upd, h]
/-! ===== colours ===== -/
def sp_th (c k : Int32) : Int32 := (c >>> (((16 : Int32) - ((8 : Int32) * k)) &&& 31)) &&& (255 : Int32)
def sp_made (r g b : Int32) : Int32 := ((r <<< ((16 : Int32) &&& 31)) ||| (g <<< ((8 : Int32) &&& 31))) ||| b
def sp_lt (c : Int32) : Int32 := ((((299 : Int32) * sp_th c 0) + ((587 : Int32) * sp_th c 1)) + ((114 : Int32) * sp_th c 2)) / (1000 : Int32)
def sp_col (c : Int32) : Prop := 0 ≤ c ∧ c ≤ 16777215
theorem sp_th2 (c : Int32) : sp_th c 2 = c &&& 255 := by
  show (c >>> ((0 : Int32) &&& 31)) &&& 255 = _
  rw [sb_shr0]
theorem sp_th_byte (c k : Int32) : ∃ j : Nat, j < 256 ∧ sp_th c k = nI j := pk_andE _ 8 (by decide)
theorem w_Rg_red (c : Int32) (M : xM) (post : Int32 → xM → Prop) : xw_Rg_red c M post ↔ post (sp_th c 0) M := Iff.rfl
theorem w_Rg_green (c : Int32) (M : xM) (post : Int32 → xM → Prop) : xw_Rg_green c M post ↔ post (sp_th c 1) M := Iff.rfl
theorem w_Rg_blue (c : Int32) (M : xM) (post : Int32 → xM → Prop) : xw_Rg_blue c M post ↔ post (sp_th c 2) M := by rw [sp_th2]; exact Iff.rfl
theorem w_Rg_joined (r g b : Int32) (M : xM) (post : Int32 → xM → Prop) : xw_Rg_joined r g b M post ↔ post (sp_made r g b) M := Iff.rfl
theorem w_Rg_lightOf (c : Int32) (M : xM) (post : Int32 → xM → Prop) : xw_Rg_lightOf c M post ↔ post (sp_lt c) M := by
  unfold xw_Rg_lightOf; simp only [w_Rg_red, w_Rg_green, w_Rg_blue]; exact Iff.rfl
theorem w_Mo_third (c k : Int32) (M : xM) (post : Int32 → xM → Prop) : xw_Mo_third c k M post ↔ post (sp_th c k) M := Iff.rfl
theorem w_Mo_made (r g b : Int32) (M : xM) (post : Int32 → xM → Prop) : xw_Mo_made r g b M post ↔ post (sp_made r g b) M := Iff.rfl
theorem w_Mo_lightOf (c : Int32) (M : xM) (post : Int32 → xM → Prop) : xw_Mo_lightOf c M post ↔ post (sp_lt c) M := by
  unfold xw_Mo_lightOf; simp only [w_Mo_third]; exact Iff.rfl
theorem w_Mo_in (a lo hi : Int32) (M : xM) (post : Int32 → xM → Prop) : xw_Mo_in a lo hi M post ↔ post (b2 (lo ≤ a ∧ a ≤ hi)) M := by
  unfold xw_Mo_in
  by_cases h1 : a < lo
  · have h2 : ¬ (lo ≤ a ∧ a ≤ hi) := by simp only [ilt, ile] at *; omega
    simp [h1, b2, h2]
  · by_cases h2 : hi < a
    · have h3 : ¬ (lo ≤ a ∧ a ≤ hi) := by simp only [ilt, ile] at *; omega
      simp [h1, h2, b2, h3]
    · have h3 : lo ≤ a ∧ a ≤ hi := by simp only [ilt, ile] at *; omega
      simp [h1, h2, b2, h3]
theorem w_Rg_isColour (c : Int32) (M : xM) (post : Int32 → xM → Prop) : xw_Rg_isColour c M post ↔ post (b2 (0 ≤ c ∧ c ≤ 16777215)) M := w_Mo_in c 0 16777215 M post
theorem w_Mo_isColour (c : Int32) (M : xM) (post : Int32 → xM → Prop) : xw_Mo_isColour c M post ↔ post (b2 (0 ≤ c ∧ c ≤ 16777215)) M := by
  unfold xw_Mo_isColour; simp only [w_Mo_in, b2_and, true_and]
theorem w_Mo_isSight (c : Int32) (M : xM) (post : Int32 → xM → Prop) : xw_Mo_isSight c M post ↔ post (b2 (0 ≤ c ∧ c ≤ 5)) M := by
  unfold xw_Mo_isSight; simp only [w_Mo_in, b2_and, true_and]
theorem w_Ey_isWeight (c : Int32) (M : xM) (post : Int32 → xM → Prop) : xw_Ey_isWeight c M post ↔ post (b2 (0 ≤ c ∧ c ≤ 10)) M := w_Mo_in c 0 10 M post
theorem w_lt_as {a lo hi hi' : Int32} (h : hi'.toInt = hi.toInt + 1) {M : xM} {post : Int32 → xM → Prop} : (((a < lo) → (post (0 : Int32) M)) ∧ ((¬ a < lo) → (((hi' ≤ a) → (post (0 : Int32) M)) ∧ ((¬ hi' ≤ a) → (post (1 : Int32) M))))) ↔ post (b2 (lo ≤ a ∧ a ≤ hi)) M := by
  rw [← w_Mo_in a lo hi M post]
  unfold xw_Mo_in
  have e : hi' ≤ a ↔ hi < a := by simp only [ilt, ile]; omega
  simp only [e]
theorem w_CA_isSheet (c : Int32) (M : xM) (post : Int32 → xM → Prop) : xw_CA_isSheet c M post ↔ post (b2 (0 ≤ c ∧ c ≤ 3)) M := w_lt_as (by decide)
theorem w_CA_isSight (c : Int32) (M : xM) (post : Int32 → xM → Prop) : xw_CA_isSight c M post ↔ post (b2 (0 ≤ c ∧ c ≤ 5)) M := w_lt_as (by decide)
theorem w_CA_isName (c : Int32) (M : xM) (post : Int32 → xM → Prop) : xw_CA_isName c M post ↔ post (b2 (0 ≤ c ∧ c ≤ 7)) M := w_lt_as (by decide)
theorem w_CA_isImage (c : Int32) (M : xM) (post : Int32 → xM → Prop) : xw_CA_isImage c M post ↔ post (b2 (0 ≤ c ∧ c ≤ 2)) M := w_lt_as (by decide)
theorem w_CA_isLeast (c : Int32) (M : xM) (post : Int32 → xM → Prop) : xw_CA_isLeastDistance c M post ↔ post (b2 (1 ≤ c ∧ c ≤ 2000000)) M := w_Mo_in c 1 2000000 M post
theorem w_Mo_ends (a : Int32) (M : xM) (post : Int32 → xM → Prop) : xw_Mo_ends a M post ↔ post a (us M 9 0 0 (if a < 0 then a else 0)) := by
  unfold xw_Mo_ends
  by_cases h : 0 ≤ a
  · have h2 : ¬ a < 0 := by simp only [ilt, ile] at *; omega
    simp [h, h2]
  · have h2 : a < 0 := by simp only [ilt, ile] at *; omega
    simp [h, h2]
theorem w_CA_refused (a : Int32) (M : xM) (post : Int32 → xM → Prop) : xw_CA_refused a M post ↔ post a (us M 8 0 8 a) := Iff.rfl
theorem w_CA_taken (a : Int32) (M : xM) (post : Int32 → xM → Prop) : xw_CA_taken a M post ↔ post a (us M 8 0 8 0) := Iff.rfl
/-! ===== bytes joined and parted ===== -/
theorem sp_made_nI {r g b : Nat} (hr : r < 256) (hg : g < 256) (hb : b < 256) : sp_made (nI r) (nI g) (nI b) = nI (65536 * r + 256 * g + b) := by
  unfold sp_made
  rw [pk_shlN (n := r) ((16 : Int32) &&& 31) 16 (by decide) (by omega), pk_shlN (n := g) ((8 : Int32) &&& 31) 8 (by decide) (by omega)]
  apply Int32.toBitVec_inj.mp
  apply BitVec.eq_of_toNat_eq
  rw [Int32.toBitVec_or, Int32.toBitVec_or, BitVec.toNat_or, BitVec.toNat_or, pk_tn (by omega), pk_tn (by omega), pk_tn (by omega), pk_tn (by omega)]
  have e1 : r * 2 ^ 16 ||| g * 2 ^ 8 = r * 2 ^ 16 + g * 2 ^ 8 := by
    have := Nat.two_pow_add_eq_or_of_lt (i := 16) (b := g * 2 ^ 8) (by omega) r
    rw [Nat.mul_comm] at this
    exact this.symm
  rw [e1]
  have e2 : r * 2 ^ 16 + g * 2 ^ 8 = 2 ^ 8 * (r * 2 ^ 8 + g) := by omega
  rw [e2, ← Nat.two_pow_add_eq_or_of_lt (i := 8) (b := b) hb]
  omega
theorem sp_th_nI {n : Nat} (hn : n < 2 ^ 31) (k : Nat) (hk : k < 3) : sp_th (nI n) (nI k) = nI (n / 2 ^ (16 - 8 * k) % 256) := by
  unfold sp_th
  rcases (show k = 0 ∨ k = 1 ∨ k = 2 by omega) with rfl | rfl | rfl
  · rw [pk_shrN hn _ 16 (by decide), pk_andN (by omega) 8 (by decide)]
  · rw [pk_shrN hn _ 8 (by decide), pk_andN (by omega) 8 (by decide)]
  · rw [pk_shrN hn _ 0 (by decide), pk_andN (by omega) 8 (by decide)]
theorem sp_th_made {r g b : Int32} (hr : ∃ j : Nat, j < 256 ∧ r = nI j) (hg : ∃ j : Nat, j < 256 ∧ g = nI j) (hb : ∃ j : Nat, j < 256 ∧ b = nI j) : sp_th (sp_made r g b) 0 = r ∧ sp_th (sp_made r g b) 1 = g ∧ sp_th (sp_made r g b) 2 = b := by
  obtain ⟨r, h1, rfl⟩ := hr
  obtain ⟨g, h2, rfl⟩ := hg
  obtain ⟨b, h3, rfl⟩ := hb
  rw [sp_made_nI h1 h2 h3]
  refine ⟨?_, ?_, ?_⟩
  · have := sp_th_nI (n := 65536 * r + 256 * g + b) (by omega) 0 (by omega)
    rw [show nI 0 = 0 from rfl] at this
    rw [this]; congr 1; omega
  · have := sp_th_nI (n := 65536 * r + 256 * g + b) (by omega) 1 (by omega)
    rw [show nI 1 = 1 from rfl] at this
    rw [this]; congr 1; omega
  · have := sp_th_nI (n := 65536 * r + 256 * g + b) (by omega) 2 (by omega)
    rw [show nI 2 = 2 from rfl] at this
    rw [this]; congr 1; omega
theorem sp_col_nI {c : Int32} (h : sp_col c) : ∃ n : Nat, n < 16777216 ∧ c = nI n := by
  obtain ⟨n, h1, h2⟩ := nI_of2 (n := 16777215) (M := 16777215) rfl (x := c) (by have := h.1; simp only [ilt, ile] at *; omega) h.2
  exact ⟨n, by omega, h2⟩
theorem sp_made_th {c : Int32} (h : sp_col c) : sp_made (sp_th c 0) (sp_th c 1) (sp_th c 2) = c := by
  obtain ⟨n, hn, rfl⟩ := sp_col_nI h
  have h0 := sp_th_nI (n := n) (by omega) 0 (by omega)
  have h1 := sp_th_nI (n := n) (by omega) 1 (by omega)
  have h2 := sp_th_nI (n := n) (by omega) 2 (by omega)
  rw [show nI 0 = 0 from rfl] at h0
  rw [show nI 1 = 1 from rfl] at h1
  rw [show nI 2 = 2 from rfl] at h2
  rw [h0, h1, h2, sp_made_nI (by omega) (by omega) (by omega)]
  congr 1
  omega
theorem sp_made_col {r g b : Int32} (hr : ∃ j : Nat, j < 256 ∧ r = nI j) (hg : ∃ j : Nat, j < 256 ∧ g = nI j) (hb : ∃ j : Nat, j < 256 ∧ b = nI j) : sp_col (sp_made r g b) := by
  obtain ⟨r, h1, rfl⟩ := hr
  obtain ⟨g, h2, rfl⟩ := hg
  obtain ⟨b, h3, rfl⟩ := hb
  rw [sp_made_nI h1 h2 h3]
  exact ⟨nI_pos' (by omega), nI_le (a := 65536 * r + 256 * g + b) (b := 16777215) (by omega) (by omega)⟩
theorem sp_lt_nI (c : Int32) : ∃ j : Nat, j < 256 ∧ sp_lt c = nI j := by
  obtain ⟨r, h1, e1⟩ := sp_th_byte c 0
  obtain ⟨g, h2, e2⟩ := sp_th_byte c 1
  obtain ⟨b, h3, e3⟩ := sp_th_byte c 2
  refine ⟨(299 * r + 587 * g + 114 * b) / 1000, by omega, ?_⟩
  unfold sp_lt
  rw [e1, e2, e3, show (299 : Int32) = nI 299 from rfl, show (587 : Int32) = nI 587 from rfl, show (114 : Int32) = nI 114 from rfl, show (1000 : Int32) = nI 1000 from rfl, pk_mul, pk_mul, pk_mul, nI_add, nI_add, pk_div (by omega) (by omega) (by omega)]
