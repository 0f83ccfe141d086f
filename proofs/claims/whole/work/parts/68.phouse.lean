/-! ===== the house ===== -/
theorem b2_congr {p q : Prop} [Decidable p] [Decidable q] (h : p ↔ q) : b2 p = b2 q := by
  unfold b2
  by_cases hp : p
  · rw [if_pos hp, if_pos (h.mp hp)]
  · rw [if_neg hp, if_neg (fun z => hp (h.mpr z))]
abbrev sp_wi (c f t : Int32) : Prop := ((sp_th f 0 ≤ sp_th c 0 ∧ sp_th c 0 ≤ sp_th t 0) ∧ (sp_th f 1 ≤ sp_th c 1 ∧ sp_th c 1 ≤ sp_th t 1)) ∧ (sp_th f 2 ≤ sp_th c 2 ∧ sp_th c 2 ≤ sp_th t 2)
theorem b2_t {p : Prop} [Decidable p] (h : p) : b2 p = 1 := if_pos h
theorem b2_f {p : Prop} [Decidable p] (h : ¬ p) : b2 p = 0 := if_neg h
theorem i_between {c f t : Int32} {M : xM} {post : Int32 → xM → Prop} (h : post (b2 (sp_wi c f t)) M) : xw_Rg_isBetween c f t M post := by
  unfold xw_Rg_isBetween
  have nl : ∀ {x y : Int32}, ¬ x < y → y ≤ x := fun {x y} h => by simp only [ilt, ile] at *; omega
  have ln : ∀ {x y : Int32}, x < y → ¬ y ≤ x := fun {x y} h => by simp only [ilt, ile] at *; omega
  have no : ¬ sp_wi c f t → post 0 M := fun z => by rw [b2_f z] at h; exact h
  refine (w_Rg_red _ _ _).mpr ((w_Rg_red _ _ _).mpr ⟨fun q => no fun z => ln q z.1.1.1, fun q1 => ?_⟩)
  refine (w_Rg_red _ _ _).mpr ((w_Rg_red _ _ _).mpr ⟨fun q => no fun z => ln q z.1.1.2, fun q2 => ?_⟩)
  refine (w_Rg_green _ _ _).mpr ((w_Rg_green _ _ _).mpr ⟨fun q => no fun z => ln q z.1.2.1, fun q3 => ?_⟩)
  refine (w_Rg_green _ _ _).mpr ((w_Rg_green _ _ _).mpr ⟨fun q => no fun z => ln q z.1.2.2, fun q4 => ?_⟩)
  refine (w_Rg_blue _ _ _).mpr ((w_Rg_blue _ _ _).mpr ⟨fun q => no fun z => ln q z.2.1, fun q5 => ?_⟩)
  refine (w_Rg_blue _ _ _).mpr ((w_Rg_blue _ _ _).mpr ⟨fun q => no fun z => ln q z.2.2, fun q6 => ?_⟩)
  rw [b2_t ⟨⟨⟨nl q1, nl q2⟩, ⟨nl q3, nl q4⟩⟩, ⟨nl q5, nl q6⟩⟩] at h
  exact h
theorem p_within {c f t : Int32} {M : xM} {post : Int32 → xM → Prop} (h : post (b2 (sp_wi c f t)) M) : xw_Mo_isWithin c f t M post := by
  have r0 : (0 : Int32) + (1 : Int32) = 1 := by decide
  have r1 : (1 : Int32) + (1 : Int32) = 2 := by decide
  have r2 : (2 : Int32) + (1 : Int32) = 3 := by decide
  have k3 : ∀ v : Int32, (v = b2 (sp_wi c f t)) → (v &&& 1 = v) ∧ post v M := fun v hv => by rw [hv]; exact ⟨b2_and.mpr trivial, h⟩
  have st2 : ∀ v : Int32, (v = 0 → ¬ sp_wi c f t) → (v = 1 → (sp_wi c f t ↔ (sp_th f 2 ≤ sp_th c 2 ∧ sp_th c 2 ≤ sp_th t 2))) → (v = 0 ∨ v = 1) → xw_Mo_isWithin_5 c f t post (fun (y9 : Int32) (y10 : Int32) (M11 : xM) => (y9 &&& 1 = y9) ∧ (post y9 M11)) 2 v 2 M := by
    intro v h0 h1 h01
    unfold xw_Mo_isWithin_5
    rw [r2]
    refine ⟨fun z => absurd z (by decide), fun _ => ⟨fun z => ?_, fun z => ?_⟩⟩
    · unfold xw_Mo_isWithin_5
      exact ⟨fun _ => k3 0 (b2_f (h0 z)).symm, fun z => absurd (by decide) z⟩
    · have hv : v = 1 := h01.resolve_left z
      refine (w_Mo_third _ _ _ _).mpr ((w_Mo_third _ _ _ _).mpr ((w_Mo_third _ _ _ _).mpr (i_in (br' (fun q => ?_) (fun q => ?_)))))
      · unfold xw_Mo_isWithin_5
        exact ⟨fun _ => k3 1 (b2_t ((h1 hv).mpr q)).symm, fun z => absurd (by decide) z⟩
      · unfold xw_Mo_isWithin_5
        exact ⟨fun _ => k3 0 (b2_f (fun w => q ((h1 hv).mp w))).symm, fun z => absurd (by decide) z⟩
  have st1 : ∀ v : Int32, (v = 0 → ¬ sp_wi c f t) → (v = 1 → (sp_th f 0 ≤ sp_th c 0 ∧ sp_th c 0 ≤ sp_th t 0)) → (v = 0 ∨ v = 1) → xw_Mo_isWithin_5 c f t post (fun (y9 : Int32) (y10 : Int32) (M11 : xM) => (y9 &&& 1 = y9) ∧ (post y9 M11)) 3 v 1 M := by
    intro v h0 h1 h01
    unfold xw_Mo_isWithin_5
    rw [r1]
    refine ⟨fun z => absurd z (by decide), fun _ => ⟨fun z => st2 0 (fun _ => h0 z) (fun w => absurd w (by decide)) (Or.inl rfl), fun z => ?_⟩⟩
    have hv : v = 1 := h01.resolve_left z
    refine (w_Mo_third _ _ _ _).mpr ((w_Mo_third _ _ _ _).mpr ((w_Mo_third _ _ _ _).mpr (i_in (br' (fun q => ?_) (fun q => ?_)))))
    · exact st2 1 (fun w => absurd w (by decide)) (fun _ => ⟨fun w => w.2, fun w => ⟨⟨h1 hv, q⟩, w⟩⟩) (Or.inr rfl)
    · exact st2 0 (fun _ w => q w.1.2) (fun w => absurd w (by decide)) (Or.inl rfl)
  unfold xw_Mo_isWithin
  refine ⟨4, ?_⟩
  unfold xw_Mo_isWithin_5
  rw [r0]
  refine ⟨fun z => absurd z (by decide), fun _ => ⟨fun z => absurd z (by decide), fun z => ?_⟩⟩
  refine (w_Mo_third _ _ _ _).mpr ((w_Mo_third _ _ _ _).mpr ((w_Mo_third _ _ _ _).mpr (i_in (br' (fun q => ?_) (fun q => ?_)))))
  · exact st1 1 (fun w => absurd w (by decide)) (fun _ => q) (Or.inr rfl)
  · exact st1 0 (fun _ w => q w.1.1) (fun w => absurd w (by decide)) (Or.inl rfl)
theorem p_has {n : Nat} (hn : n ≤ 12) {a : Int32} {M : xM} (hM : M 0 3 0 = nI n) {post : Int32 → xM → Prop} (h : post (b2 (0 ≤ a ∧ a ≤ nI n - 1)) M) : xw_Ho_has 0 a M post := by
  unfold xw_Ho_has
  rw [hM]
  rcases ix_cases a (n := n) (by omega) with ⟨q1, q2⟩ | ⟨q1, q2, q3⟩ | ⟨k, hk, rfl, q1, q2, q3⟩
  · rw [b2_f q2] at h; exact ⟨fun _ => h, fun z => absurd q1 z⟩
  · rw [b2_f q3] at h; exact ⟨fun z => absurd z q1, fun _ => ⟨fun _ => h, fun z => absurd q2 z⟩⟩
  · rw [b2_t q3] at h; exact ⟨fun z => absurd z q1, fun _ => ⟨fun z => absurd z q2, fun _ => h⟩⟩
theorem p_isIn {n : Nat} {a : Int32} {M : xM} (hM : M 9 0 9 = nI n) {post : Int32 → xM → Prop} (h : post (b2 (0 ≤ a ∧ a ≤ nI n - 1)) M) : xw_Mo_isIn a M post := by
  unfold xw_Mo_isIn
  rw [hM]
  exact i_in ⟨b2_and.mpr trivial, h⟩
theorem in_nI {n : Nat} (hn : n ≤ 100) {a : Int32} (h : 0 ≤ a ∧ a ≤ nI n - 1) : ∃ k : Nat, k < n ∧ a = nI k := by
  rcases ix_cases a (n := n) (by omega) with ⟨q1, q2⟩ | ⟨q1, q2, q3⟩ | ⟨k, hk, e, q1, q2, q3⟩
  · exact absurd h q2
  · exact absurd h q3
  · exact ⟨k, hk, e⟩
abbrev sp_na (nm bf bt : Nat → Int32) (k : Nat) (c : Int32) : Prop := nm k = -1 ∨ sp_wi c (bf (nm k).toNatClampNeg) (bt (nm k).toNatClampNeg)
theorem p_boxHolds {j : Nat} (hj : j < 8) {c : Int32} {M : xM} {post : Int32 → xM → Prop} (h : post (b2 (sp_wi c (M 0 7 j) (M 0 8 j))) M) : xw_Ho_boxHolds 0 (nI j) c M post := by
  unfold xw_Ho_boxHolds
  rw [nI_clamp (by omega)]
  exact ⟨vp_in_nI hj (by omega), vp_in_nI hj (by omega), i_between ⟨b2_and.mpr trivial, h⟩⟩
theorem p_nameAllows {k : Nat} (hk : k < 12) {c : Int32} {M : xM} (hm : M 0 6 k = -1 ∨ ∃ j : Nat, j < 8 ∧ M 0 6 k = nI j) {post : Int32 → xM → Prop} (h : post (b2 (sp_na (M 0 6) (M 0 7) (M 0 8) k c)) M) : xw_Ho_nameAllows 0 (nI k) c M post := by
  unfold xw_Ho_nameAllows
  rw [nI_clamp (by omega)]
  have hin : vp_in (nI k) 12 := vp_in_nI hk (by omega)
  refine ⟨hin, fun q => ?_, fun q => ⟨hin, ?_⟩⟩
  · rw [b2_t (Or.inl q)] at h; exact h
  · obtain ⟨j, hj, ej⟩ := hm.resolve_left q
    have e : sp_na (M 0 6) (M 0 7) (M 0 8) k c ↔ sp_wi c (M 0 7 j) (M 0 8 j) := by
      unfold sp_na
      rw [ej, nI_clamp (by omega)]
      exact ⟨fun z => z.resolve_left (by rw [← ej]; exact q), Or.inr⟩
    rw [ej]
    refine p_boxHolds hj (br' (fun z => ?_) (fun z => ?_))
    · rw [b2_t (e.mpr z)] at h; exact h
    · rw [b2_f (fun w => z (e.mp w))] at h; exact h
theorem p_isNamed {k : Nat} (hk : k < 12) {c : Int32} {M : xM} (hm : M 9 8 k = -1 ∨ ∃ j : Nat, j < 8 ∧ M 9 8 k = nI j) {post : Int32 → xM → Prop} (h : post (b2 (sp_na (M 9 8) (M 9 9) (M 9 10) k c)) M) : xw_Mo_isNamed (nI k) c M post := by
  unfold xw_Mo_isNamed
  rw [nI_clamp (by omega)]
  have hin : vp_in (nI k) 12 := vp_in_nI hk (by omega)
  refine ⟨hin, fun q => ?_, fun q => ?_⟩
  · rw [b2_t (Or.inl q)] at h; exact h
  · obtain ⟨j, hj, ej⟩ := hm.resolve_left q
    have hj8 : vp_in (M 9 8 k) 8 := by rw [ej]; exact vp_in_nI hj (by omega)
    refine ⟨hin, hj8, hin, hj8, p_within (br' (fun z => ?_) (fun z => ?_))⟩
    · rw [b2_t (Or.inr z)] at h; exact h
    · rw [b2_f (fun w => w.elim (fun w => q w) z)] at h; exact h
theorem upd_cong {f g : Nat → Int32} {k j : Nat} {v : Int32} (h : f j = g j) : upd f k v j = upd g k v j := by
  unfold upd; split
  · rfl
  · exact h
theorem upd_pred {P : Int32 → Prop} {f : Nat → Int32} {k j : Nat} {v : Int32} (hv : P v) (h : P (f j)) : P (upd f k v j) := by
  unfold upd; split
  · exact hv
  · exact h
theorem na_iff {M : xM} (h : vHouse (M 0) (mv M)) {k : Nat} (hk : k < 12) (c : Int32) : sp_na (M 0 6) (M 0 7) (M 0 8) k c ↔ sp_na (M 9 8) (M 9 9) (M 9 10) k c := by
  obtain ⟨n, q, hn, hq, ⟨n1, n2⟩, ⟨q1, q2⟩, hc, hr, hb, hp⟩ := h
  have e : M 0 6 k = M 9 8 k := (hc k hk).2.2
  unfold sp_na
  rw [e]
  rcases (hr k hk).2.2 with z | ⟨j, hj, ej⟩
  · have z : M 9 8 k = -1 := z
    exact ⟨fun _ => Or.inl z, fun _ => Or.inl z⟩
  · have ej : M 9 8 k = nI j := ej
    rw [ej, nI_clamp (by omega)]
    have h1 : M 0 7 j = M 9 9 j := (hb j hj).1
    have h2 : M 0 8 j = M 9 10 j := (hb j hj).2
    rw [h1, h2]
theorem b01 {z : Int32} (h : z = 0 ∨ z = 1) : z &&& 1 = z := by rcases h with rfl | rfl <;> decide
theorem op_add : ∀ (M : xM) (a z : Int32), (z = 0 ∨ z = 1) → xInv M → xw_CA_add a z M (fun r M1 => xw_Mo_add a z M1 (fun q M2 => r = q ∧ xInv M2)) := by
  intro M a z hz hI
  obtain ⟨n, q, hn, hq, ⟨n1, n2⟩, ⟨q1, q2⟩, hc, hr, hb, hp⟩ := hI.2.1.2.2
  have n1 : M 9 0 9 = nI n := n1
  have n2 : M 0 3 0 = nI n := n2
  unfold xw_CA_add
  refine i_colC (br (fun h1 => ⟨fun h2 => ?_, fun h2 => i_refd ?_⟩) (fun h1 => i_refd ?_))
  · have hn' : n < 12 := by rw [n2] at h2; exact (nI_ltI (a := n) (b := 12) (by omega) (by omega)).mp h2
    have hin : vp_in (nI n) 12 := vp_in_nI hn' (by omega)
    unfold xw_Ho_takeIn
    show vp_in (M 0 3 0) 12 ∧ (z &&& 1 = z) ∧ vp_in (M 0 3 0) 12 ∧ vp_in (M 0 3 0) 12 ∧ xw_CA_taken ((M 0 3 0 + 1) - 1) (us (us (us (us M 0 4 (M 0 3 0).toNatClampNeg a) 0 5 (M 0 3 0).toNatClampNeg z) 0 6 (M 0 3 0).toNatClampNeg (-1)) 0 3 0 (M 0 3 0 + 1)) _
    rw [n2, nI_clamp (by omega), nI_1, show nI (n + 1) - (1 : Int32) = nI n from nI_pred n]
    refine ⟨hin, b01 hz, hin, hin, i_taken (i_colM (br (fun _ => ⟨fun _ => ?_, fun w => ?_⟩) (fun w => absurd h1 w)))⟩
    · show vp_in (M 9 0 9) 12 ∧ (z &&& 1 = z) ∧ vp_in (M 9 0 9) 12 ∧ vp_in (M 9 0 9) 12 ∧ xw_Mo_ends ((M 9 0 9 + 1) - 1) (us (us (us (us (us (us (us (us (us M 0 4 n a) 0 5 n z) 0 6 n (-1)) 0 3 0 (nI (n + 1))) 8 0 8 0) 9 6 (M 9 0 9).toNatClampNeg a) 9 7 (M 9 0 9).toNatClampNeg z) 9 8 (M 9 0 9).toNatClampNeg (-1)) 9 0 9 (M 9 0 9 + 1)) _
      rw [n1, nI_clamp (by omega), nI_1, show nI (n + 1) - (1 : Int32) = nI n from nI_pred n]
      refine ⟨hin, b01 hz, hin, hin, i_ok ⟨n, by omega, rfl⟩ ⟨rfl, rfl, ⟨hI.2.1.1, hI.2.1.2.1, ?_⟩, hI.2.2⟩⟩
      refine ⟨n + 1, q, by omega, hq, ⟨rfl, rfl⟩, ⟨q1, q2⟩, fun k hk => ⟨upd_cong (hc k hk).1, upd_cong (hc k hk).2.1, upd_cong (hc k hk).2.2⟩, fun k hk => ⟨upd_pred (P := sp_col) h1 (hr k hk).1, upd_pred (P := fun x => x = 0 ∨ x = 1) hz (hr k hk).2.1, upd_pred (P := fun x => x = -1 ∨ ∃ j : Nat, j < 8 ∧ x = nI j) (Or.inl rfl) (hr k hk).2.2⟩, hb, fun p hp' => ?_⟩
      obtain ⟨t1, x, y, t2, t3, t4⟩ := hp p hp'
      exact ⟨t1, x, y, t2, by omega, t4⟩
    · have w : M 9 0 9 = 12 := w
      rw [n1, show (12 : Int32) = nI 12 from rfl, nI_eq (by omega) (by omega)] at w
      omega
  · have hn' : n = 12 := by
      rw [n2] at h2
      rcases Nat.lt_or_ge n 12 with w | w
      · exact absurd ((nI_ltI (a := n) (b := 12) (by omega) (by omega)).mpr w) h2
      · omega
    subst hn'
    exact i_colM (br (fun _ => ⟨fun w => absurd n1 w, fun _ => ref_Mo (by decide) hI rfl⟩) (fun w => absurd h1 w))
  · exact i_colM (br (fun w => absurd w h1) (fun _ => ref_Mo (by decide) hI rfl))
theorem op_fix : ∀ (M : xM) (a z : Int32), (z = 0 ∨ z = 1) → xInv M → xw_CA_fix a z M (fun r M1 => xw_Mo_fix a z M1 (fun q M2 => r = q ∧ xInv M2)) := by
  intro M a z hz hI
  obtain ⟨n, q, hn, hq, ⟨n1, n2⟩, ⟨q1, q2⟩, hc, hr, hb, hp⟩ := hI.2.1.2.2
  have n1 : M 9 0 9 = nI n := n1
  have n2 : M 0 3 0 = nI n := n2
  unfold xw_CA_fix
  refine p_has hn n2 (br (fun h1 => ?_) (fun h1 => i_refd ?_))
  · obtain ⟨k, hk, rfl⟩ := in_nI (by omega) h1
    have hin : vp_in (nI k) 12 := vp_in_nI (by omega) (by omega)
    rw [nI_clamp (by omega)]
    refine ⟨b01 hz, hin, i_taken (p_isIn (n := n) (by exact n1) (br (fun _ => ⟨b01 hz, hin, ?_⟩) (fun w => absurd h1 w)))⟩
    rw [nI_clamp (by omega)]
    refine i_ok ⟨0, by omega, rfl⟩ ⟨rfl, rfl, ⟨hI.2.1.1, hI.2.1.2.1, ?_⟩, hI.2.2⟩
    exact ⟨n, q, hn, hq, ⟨n1, n2⟩, ⟨q1, q2⟩, fun j hj => ⟨(hc j hj).1, upd_cong (hc j hj).2.1, (hc j hj).2.2⟩, fun j hj => ⟨(hr j hj).1, upd_pred (P := fun x => x = 0 ∨ x = 1) hz (hr j hj).2.1, (hr j hj).2.2⟩, hb, hp⟩
  · exact p_isIn (n := n) (by exact n1) (br (fun w => absurd w h1) (fun _ => ref_Mo (by decide) hI rfl))
theorem op_set : ∀ (M : xM) (a b : Int32), xInv M → xw_CA_set a b M (fun r M1 => xw_Mo_set a b M1 (fun q M2 => r = q ∧ xInv M2)) := by
  intro M a b hI
  have hH := hI.2.1.2.2
  obtain ⟨n, q, hn, hq, ⟨n1, n2⟩, ⟨q1, q2⟩, hc, hr, hb, hp⟩ := id hH
  have n1 : M 9 0 9 = nI n := n1
  have n2 : M 0 3 0 = nI n := n2
  unfold xw_CA_set
  refine p_has hn n2 (i_colC ?_)
  unfold xj
  refine br' (fun h1 => br' (fun h2 => ?_) (fun h2 => ⟨fun w => absurd (b2_ne.mp w) h2, fun _ => i_refd ?_⟩)) (fun h1 => i_refd ?_)
  · obtain ⟨k, hk, rfl⟩ := in_nI (by omega) h2
    have hin : vp_in (nI k) 12 := vp_in_nI (by omega) (by omega)
    have nm9 : M 9 8 k = -1 ∨ ∃ j : Nat, j < 8 ∧ M 9 8 k = nI j := (hr k (by omega)).2.2
    have nm0 : M 0 6 k = -1 ∨ ∃ j : Nat, j < 8 ∧ M 0 6 k = nI j := by
      have e : M 0 6 k = M 9 8 k := (hc k (by omega)).2.2
      rw [e]; exact nm9
    have nai := na_iff hH (k := k) (by omega) b
    refine p_nameAllows (by omega) nm0 (br (fun h3 => ?_) (fun h3 => i_refd ?_))
    · rw [nI_clamp (by omega)]
      have ef : M 0 5 k = M 9 7 k := (hc k (by omega)).2.1
      have ec : M 0 4 k = M 9 6 k := (hc k (by omega)).1
      refine ⟨fun _ => ⟨hin, fun h4 => ⟨hin, hin, i_taken ?_⟩, fun h4 => i_refd ?_⟩, fun w => absurd h2 (b2_eq.mp w)⟩
      · refine i_colM (br (fun _ => p_isIn (n := n) (by exact n1) (br (fun _ => p_isNamed (by omega) (by exact nm9) (br (fun _ => ⟨hin, ?_⟩) (fun w => absurd (nai.mp h3) w))) (fun w => absurd h2 w))) (fun w => absurd h1 w))
        rw [nI_clamp (by omega)]
        refine ⟨fun _ => ⟨hin, hin, ?_⟩, fun w => absurd (show M 9 7 k = 0 from ef.symm.trans h4) w⟩
        obtain ⟨v, hv, ev⟩ := sp_col_nI (hr k (by omega)).1
        refine i_ok ⟨v, by omega, ev⟩ ⟨ec, rfl, ⟨hI.2.1.1, hI.2.1.2.1, ?_⟩, hI.2.2⟩
        exact ⟨n, q, hn, hq, ⟨n1, n2⟩, ⟨q1, q2⟩, fun j hj => ⟨upd_cong (hc j hj).1, (hc j hj).2⟩, fun j hj => ⟨upd_pred (P := sp_col) h1 (hr j hj).1, (hr j hj).2⟩, hb, hp⟩
      · refine i_colM (br (fun _ => p_isIn (n := n) (by exact n1) (br (fun _ => p_isNamed (by omega) (by exact nm9) (br (fun _ => ⟨hin, ?_⟩) (fun w => absurd (nai.mp h3) w))) (fun w => absurd h2 w))) (fun w => absurd h1 w))
        rw [nI_clamp (by omega)]
        exact ⟨fun w => absurd (ef.trans w) h4, fun _ => ref_Mo (by decide) hI rfl⟩
    · exact i_colM (br (fun _ => p_isIn (n := n) (by exact n1) (br (fun _ => p_isNamed (by omega) (by exact nm9) (br (fun w => absurd (nai.mpr w) h3) (fun _ => ref_Mo (by decide) hI rfl))) (fun w => absurd h2 w))) (fun w => absurd h1 w))
  · exact i_colM (br (fun _ => p_isIn (n := n) (by exact n1) (br (fun w => absurd w h2) (fun _ => ref_Mo (by decide) hI rfl))) (fun w => absurd h1 w))
  · exact i_colM (br (fun w => absurd w h1) (fun _ => ref_Mo (by decide) hI rfl))
