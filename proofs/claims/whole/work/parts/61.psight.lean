/-! ===== what sights see ===== -/
def sp_ws (W : Nat → Int32) (o : Nat) (c : Int32) : Int32 := (((500 : Int32) + W o * sp_th c 0) + W (o + 1) * sp_th c 1) + W (o + 2) * sp_th c 2
def sp_cl (x : Int32) : Int32 := if x < 0 then 0 else if (255 : Int32) < x / 1000 then 255 else x / 1000
theorem sp_cl_byte (x : Int32) : ∃ j : Nat, j < 256 ∧ sp_cl x = nI j := by
  unfold sp_cl
  split
  · exact ⟨0, by omega, rfl⟩
  · rename_i h
    split
    · exact ⟨255, by omega, rfl⟩
    · rename_i h2
      obtain ⟨n, hn, rfl⟩ := nI_of h
      rw [show (1000 : Int32) = nI 1000 from rfl, pk_div hn (by omega) (by omega)] at h2 ⊢
      refine ⟨n / 1000, ?_, rfl⟩
      rw [show (255 : Int32) = nI 255 from rfl, nI_ltI (by omega) (by omega)] at h2
      omega
theorem sp_xor_sign (x : Int32) : 0 ≤ (x ^^^ (1000 : Int32)) ↔ 0 ≤ x := by
  have h1 : ∀ y : Int32, 0 ≤ y ↔ y.toBitVec.msb = false := by
    intro y
    rw [ile, BitVec.msb_eq_toInt, decide_eq_false_iff_not]
    show (0 : Int) ≤ y.toInt ↔ ¬ y.toInt < 0
    omega
  rw [h1, h1, Int32.toBitVec_xor, BitVec.msb_xor, show (1000 : Int32).toBitVec.msb = false by decide]
  simp
theorem sp_floor (x : Int32) (M : xM) (post : Int32 → xM → Prop) (h : post (sp_cl x) M) : xw_Ma_floorDiv x (1000 : Int32) M (fun (r8 : Int32) (M7 : xM) => post (if (0 : Int32) < (if r8 < (255 : Int32) then r8 else (255 : Int32)) then (if r8 < (255 : Int32) then r8 else (255 : Int32)) else (0 : Int32)) M7) := by
  unfold xw_Ma_floorDiv
  have low : ∀ r : Int32, r.toInt ≤ 0 → (if (0 : Int32) < (if r < (255 : Int32) then r else (255 : Int32)) then (if r < (255 : Int32) then r else (255 : Int32)) else (0 : Int32)) = 0 := by
    intro r hr
    have e1 : r < 255 := by rw [ilt]; show r.toInt < 255; omega
    have e2 : ¬ (0 : Int32) < r := by rw [ilt]; show ¬ (0 : Int) < r.toInt; omega
    simp [e1, e2]
  refine ⟨by decide, fun h1 => ?_, fun h1 => ?_⟩
  · rw [sp_xor_sign] at h1
    have h2 : ¬ x < 0 := by simp only [ilt, ile] at *; omega
    obtain ⟨n, hn, rfl⟩ := nI_of h2
    unfold sp_cl at h
    rw [if_neg h2] at h
    rw [show (1000 : Int32) = nI 1000 from rfl, pk_div hn (by omega) (by omega)] at h ⊢
    rw [show (255 : Int32) = nI 255 from rfl] at h ⊢
    by_cases h3 : n / 1000 < 255
    · have e1 : nI (n / 1000) < nI 255 := (nI_ltI (by omega) (by omega)).mpr h3
      have e2 : ¬ nI 255 < nI (n / 1000) := fun q => by have := (nI_ltI (by omega) (by omega)).mp q; omega
      rw [if_neg e2] at h
      simp only [if_pos e1]
      by_cases h4 : (0 : Int32) < nI (n / 1000)
      · rw [if_pos h4]; exact h
      · rw [if_neg h4]
        have : n / 1000 = 0 := by
          rcases Nat.eq_zero_or_pos (n / 1000) with q | q
          · exact q
          · exact absurd ((nI_ltI (a := 0) (by omega) (by omega)).mpr q) h4
        rw [this] at h; exact h
    · have e1 : ¬ nI (n / 1000) < nI 255 := fun q => h3 ((nI_ltI (by omega) (by omega)).mp q)
      simp only [if_neg e1]
      rw [if_pos (by decide)]
      by_cases h4 : nI 255 < nI (n / 1000)
      · rw [if_pos h4] at h; exact h
      · rw [if_neg h4] at h
        have : n / 1000 = 255 := by
          rcases Nat.lt_or_ge 255 (n / 1000) with q | q
          · exact absurd ((nI_ltI (by omega) (by omega)).mpr q) h4
          · omega
        rw [this] at h; exact h
  · rw [sp_xor_sign] at h1
    have h2 : x < 0 := by simp only [ilt, ile] at *; omega
    unfold sp_cl at h
    rw [if_pos h2] at h
    have hq : (x / 1000).toInt ≤ 0 ∧ -2147484 < (x / 1000).toInt := by
      have hx : x.toInt < 0 := by rw [ilt] at h2; exact h2
      have hr := irng x
      obtain ⟨n, hn⟩ : ∃ n : Nat, x.toInt = -(n : Int) := ⟨(-x.toInt).toNat, by omega⟩
      rw [Int32.toInt_div, hn, show (1000 : Int32).toInt = 1000 from rfl, Int.neg_tdiv, Int.tdiv_eq_ediv_of_nonneg (by omega)]
      rw [Int.bmod_eq_of_le (by omega) (by omega)]
      omega
    refine ⟨fun h3 => ?_, fun h3 => ?_⟩
    · dsimp only; rw [low _ hq.1]; exact h
    · dsimp only; rw [low]
      · exact h
      · rw [Int32.toInt_sub, show (1 : Int32).toInt = 1 from rfl, Int.bmod_eq_of_le (by omega) (by omega)]
        omega
theorem p_Ey_weakened {g o : Nat} (ho : o + 2 < 27) {c : Int32} {M : xM} {post : Int32 → xM → Prop} (h : post (sp_cl (sp_ws (M g 2) o c)) M) : xw_Ey_weakened g (nI o) c M post := by
  unfold xw_Ey_weakened
  rw [show (1 : Int32) = nI 1 from rfl, show (2 : Int32) = nI 2 from rfl, nI_add, nI_add]
  refine ⟨vp_in_nI (by omega) (by omega), ?_⟩
  rw [w_Rg_red]
  refine ⟨vp_in_nI (by omega) (by omega), ?_⟩
  rw [w_Rg_green]
  refine ⟨vp_in_nI (by omega) (by omega), ?_⟩
  rw [w_Rg_blue, nI_clamp (by omega), nI_clamp (by omega), nI_clamp (by omega)]
  apply sp_floor
  have e : M g 2 o * sp_th c 0 + M g 2 (o + 1) * sp_th c 1 + M g 2 (o + 2) * sp_th c 2 + 500 = sp_ws (M g 2) o c := by
    unfold sp_ws; grind
  rw [e]; exact h
/-! printed numbers -/
def sp_lev (n i : Nat) : Nat := (i * 255 + (n - 1) / 2) / (n - 1)
def sp_far (a b : Nat) : Nat := if b ≤ a then a - b else b - a
def sp_prN (n v : Nat) : Nat := if ((sp_lev n (if n - 1 ≤ v * (n - 1) / 255 then n - 1 else v * (n - 1) / 255 + 1) : Nat) : Int) - (v : Int) < (v : Int) - ((sp_lev n (v * (n - 1) / 255) : Nat) : Int) then sp_lev n (if n - 1 ≤ v * (n - 1) / 255 then n - 1 else v * (n - 1) / 255 + 1) else sp_lev n (v * (n - 1) / 255)
def sp_pmF (n v : Nat) : Nat → Nat → Nat → Nat
  | 0, _, best => best
  | m + 1, i, best => sp_pmF n v m (i + 1) (if sp_far v (sp_lev n i) < sp_far v (sp_lev n best) then i else best)
theorem sp_pm_ok : ∀ n, n < 17 → 2 ≤ n → ∀ v, v < 256 → sp_lev n (sp_pmF n v n 0 0) = sp_prN n v := by decide +kernel
theorem sp_prN_byte : ∀ n, n < 17 → 2 ≤ n → ∀ v, v < 256 → sp_prN n v < 256 := by decide +kernel
theorem sp_lev_eq {n i : Nat} (h1 : 2 ≤ n) (h2 : n ≤ 16) (hi : i ≤ 16) : ((nI i * (255 : Int32)) + ((nI n - (1 : Int32)) / (2 : Int32))) / (nI n - (1 : Int32)) = nI (sp_lev n i) := by
  rw [show (255 : Int32) = nI 255 from rfl, show (1 : Int32) = nI 1 from rfl, show (2 : Int32) = nI 2 from rfl, pk_sub (by omega), pk_mul, pk_div (by omega) (by omega) (by omega), nI_add, pk_div (by omega) (by omega) (by omega)]
  rfl
theorem sp_lev_le {n i : Nat} (h1 : 2 ≤ n) (h2 : n ≤ 16) (hi : i ≤ 16) : sp_lev n i ≤ 4096 := by
  unfold sp_lev
  calc (i * 255 + (n - 1) / 2) / (n - 1) ≤ i * 255 + (n - 1) / 2 := Nat.div_le_self _ _
    _ ≤ 4096 := by omega
theorem sp_far_eq {a b : Nat} (ha : a < 5000) (hb : b < 5000) {M : xM} {post : Int32 → xM → Prop} : xw_Mo_far (nI a) (nI b) M post ↔ post (nI (sp_far a b)) M := by
  unfold xw_Mo_far sp_far
  by_cases h : b ≤ a
  · have e : nI b ≤ nI a := nI_le h (by omega)
    simp only [e, h, if_true, true_implies, not_true, false_implies, and_true, pk_sub h]
  · have e : ¬ nI b ≤ nI a := nI_ge (by omega) (by omega)
    simp only [e, h, if_false, false_implies, not_false_eq_true, true_implies, true_and, pk_sub (show a ≤ b by omega)]
theorem p_Mo_printed_loop {n v : Nat} (h1 : 2 ≤ n) (h2 : n ≤ 16) (hv : v < 256) {post : Int32 → xM → Prop} {k : Int32 → Int32 → xM → Prop} {M : xM} (hM : M 9 0 5 = nI n) : ∀ (m i best : Nat), i + m = n → best < n → k (nI (sp_pmF n v m i best)) (nI n) M → xw_Mo_printed_4 (nI v) post k (m + 1) (nI best) (nI i) M := by
  intro m
  induction m with
  | zero =>
    intro i best hi hb h
    have hi : i = n := by omega
    subst hi
    unfold xw_Mo_printed_4
    rw [hM]
    refine ⟨fun _ => h, fun q => absurd (nI_le (Nat.le_refl _) (by omega)) q⟩
  | succ m ih =>
    intro i best hi hb h
    unfold xw_Mo_printed_4
    rw [hM]
    have hz : ¬ (nI n - (1 : Int32)) = 0 := by
      rw [show (1 : Int32) = nI 1 from rfl, pk_sub (by omega)]
      exact nI_ne0 (by omega) (by omega)
    refine ⟨fun q => absurd q (nI_ge (by omega) (by omega)), fun _ => ⟨hz, hz, ?_⟩⟩
    rw [sp_lev_eq h1 h2 (by omega), sp_lev_eq h1 h2 (by omega)]
    have l1 := sp_lev_le (i := i) h1 h2 (by omega)
    have l2 := sp_lev_le (i := best) h1 h2 (by omega)
    rw [sp_far_eq (by omega) (by omega), sp_far_eq (by omega) (by omega)]
    have f1 : sp_far v (sp_lev n i) < 5000 := by unfold sp_far; split <;> omega
    have f2 : sp_far v (sp_lev n best) < 5000 := by unfold sp_far; split <;> omega
    unfold sp_pmF at h
    refine ⟨fun q => ?_, fun q => ?_⟩
    · have q2 : ¬ sp_far v (sp_lev n i) < sp_far v (sp_lev n best) := by
        have := (nI_leI (by omega) (by omega)).mp q
        omega
      rw [if_neg q2] at h
      rw [nI_1]
      exact ih (i + 1) best (by omega) hb h
    · have q2 : sp_far v (sp_lev n i) < sp_far v (sp_lev n best) := by
        rcases Nat.lt_or_ge (sp_far v (sp_lev n i)) (sp_far v (sp_lev n best)) with q3 | q3
        · exact q3
        · exact absurd (nI_le q3 (by omega)) q
      rw [if_pos q2] at h
      rw [nI_1]
      exact ih (i + 1) i (by omega) (by omega) h
theorem sp_pmF_lt {n v : Nat} : ∀ (m i best : Nat), i + m = n → best < n → sp_pmF n v m i best < n
  | 0, i, best, _, hb => hb
  | m + 1, i, best, hi, hb => by
    unfold sp_pmF
    apply sp_pmF_lt m (i + 1) _ (by omega)
    split <;> omega
theorem p_Mo_printed {n v : Nat} (h1 : 2 ≤ n) (h2 : n ≤ 16) (hv : v < 256) {post : Int32 → xM → Prop} {M : xM} (hM : M 9 0 5 = nI n) (h : post (nI (sp_prN n v)) M) : xw_Mo_printed (nI v) M post := by
  unfold xw_Mo_printed
  refine ⟨n + 1, p_Mo_printed_loop h1 h2 hv hM n 0 0 (by omega) (by omega) ?_⟩
  have hz : ¬ (nI n - (1 : Int32)) = 0 := by
    rw [show (1 : Int32) = nI 1 from rfl, pk_sub (by omega)]
    exact nI_ne0 (by omega) (by omega)
  have hlt := sp_pmF_lt (n := n) (v := v) n 0 0 (by omega) (by omega)
  rw [hM, sp_lev_eq h1 h2 (by omega), sp_pm_ok n (by omega) h1 v hv]
  exact ⟨hz, h⟩
theorem p_Ey_printed {g n v : Nat} (h1 : 2 ≤ n) (h2 : n ≤ 16) (hv : v < 256) {post : Int32 → xM → Prop} {M : xM} (hM : M g 1 1 = nI n) (h : post (nI (sp_prN n v)) M) : xw_Ey_printed g (nI v) M post := by
  unfold xw_Ey_printed xj
  rw [hM]
  have e0 : ¬ nI n ≤ (1 : Int32) := nI_ge (a := 1) (by omega) (by omega)
  refine ⟨fun q => absurd q e0, fun _ => ?_⟩
  have eg : nI n - (1 : Int32) = nI (n - 1) := by rw [show (1 : Int32) = nI 1 from rfl, pk_sub (by omega)]
  have hz : ¬ nI (n - 1) = 0 := nI_ne0 (by omega) (by omega)
  rw [eg]
  have eb : nI v * nI (n - 1) / (255 : Int32) = nI (v * (n - 1) / 255) := by
    have : v * (n - 1) ≤ 255 * 15 := Nat.mul_le_mul (by omega) (by omega)
    rw [pk_mul, show (255 : Int32) = nI 255 from rfl, pk_div (by omega) (by omega) (by omega)]
  have hbel : v * (n - 1) / 255 ≤ 15 := by
    have : v * (n - 1) ≤ 255 * 15 := Nat.mul_le_mul (by omega) (by omega)
    omega
  dsimp only
  rw [eb]
  have key : ∀ i : Nat, i ≤ 16 → ((nI i * (255 : Int32)) + (nI (n - 1) / (2 : Int32))) / nI (n - 1) = nI (sp_lev n i) := fun i hi => by rw [← eg]; exact sp_lev_eq h1 h2 hi
  have last : ∀ a : Nat, a ≤ 16 → a = (if n - 1 ≤ v * (n - 1) / 255 then n - 1 else v * (n - 1) / 255 + 1) →
      (¬ nI (n - 1) = 0) ∧ ((¬ nI (n - 1) = 0) ∧ ((((((nI a * (255 : Int32)) + (nI (n - 1) / (2 : Int32))) / nI (n - 1)) - nI v) < (nI v - (((nI (v * (n - 1) / 255) * (255 : Int32)) + (nI (n - 1) / (2 : Int32))) / nI (n - 1))) → post (((nI a * (255 : Int32)) + (nI (n - 1) / (2 : Int32))) / nI (n - 1)) M) ∧ (¬ ((((nI a * (255 : Int32)) + (nI (n - 1) / (2 : Int32))) / nI (n - 1)) - nI v) < (nI v - (((nI (v * (n - 1) / 255) * (255 : Int32)) + (nI (n - 1) / (2 : Int32))) / nI (n - 1))) → post (((nI (v * (n - 1) / 255) * (255 : Int32)) + (nI (n - 1) / (2 : Int32))) / nI (n - 1)) M))) := by
    intro a ha ea
    rw [key a ha, key _ (by omega)]
    have l1 := sp_lev_le (i := a) h1 h2 ha
    have l2 := sp_lev_le (i := v * (n - 1) / 255) h1 h2 (by omega)
    have e1 : nI (sp_lev n a) - nI v < nI v - nI (sp_lev n (v * (n - 1) / 255)) ↔ ((sp_lev n a : Nat) : Int) - (v : Int) < (v : Int) - ((sp_lev n (v * (n - 1) / 255) : Nat) : Int) := by
      rw [ilt, pk_sub_toInt (by omega) (by omega), pk_sub_toInt (by omega) (by omega)]
    unfold sp_prN at h
    rw [← ea] at h
    refine ⟨hz, hz, fun q => ?_, fun q => ?_⟩
    · rw [e1] at q
      rw [if_pos q] at h; exact h
    · rw [e1] at q
      rw [if_neg q] at h; exact h
  refine ⟨fun q => ?_, fun q => ?_⟩
  · have q2 := (nI_leI (by omega) (by omega)).mp q
    exact last (n - 1) (by omega) (by rw [if_pos q2])
  · have q2 : ¬ n - 1 ≤ v * (n - 1) / 255 := fun z => q (nI_le z (by omega))
    rw [show nI (v * (n - 1) / 255) + (1 : Int32) = nI (v * (n - 1) / 255 + 1) from nI_1 _]
    exact last _ (by omega) (by rw [if_neg q2])
