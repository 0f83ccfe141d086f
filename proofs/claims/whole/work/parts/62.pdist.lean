/-! ===== the numbers seen, DISTANCE, APART ===== -/
def sp_sn (W : Nat → Int32) (n s : Nat) (c : Int32) (k : Nat) : Int32 := if s = 0 then sp_th c (nI k) else if s < 4 then sp_cl (sp_ws W (9 * (s - 1) + 3 * k) c) else if s = 4 then sp_lt c else nI (sp_prN n (sp_th c (nI k)).toNatClampNeg)
def sp_look (W : Nat → Int32) (n s : Nat) (c : Int32) : Int32 := sp_made (sp_sn W n s c 0) (sp_sn W n s c 1) (sp_sn W n s c 2)
theorem sp_sn_byte (W : Nat → Int32) {n s : Nat} (h1 : 2 ≤ n) (h2 : n ≤ 16) (c : Int32) (k : Nat) : ∃ j : Nat, j < 256 ∧ sp_sn W n s c k = nI j := by
  unfold sp_sn
  split
  · exact sp_th_byte _ _
  · split
    · exact sp_cl_byte _
    · split
      · exact sp_lt_nI _
      · obtain ⟨v, hv, e⟩ := sp_th_byte c (nI k)
        rw [e, nI_clamp (by omega)]
        exact ⟨_, sp_prN_byte n (by omega) h1 v hv, rfl⟩
theorem p_Mo_weakThird {s k : Nat} (hs1 : 1 ≤ s) (hs : s ≤ 3) (hk : k < 3) {c : Int32} {M : xM} {post : Int32 → xM → Prop} (h : post (sp_cl (sp_ws (M 9 4) (9 * (s - 1) + 3 * k) c)) M) : xw_Mo_weakThird (nI s) c (nI k) M post := by
  have hix : ∀ j : Nat, ((((9 : Int32) * nI s) - (9 : Int32)) + ((3 : Int32) * nI k)) + nI j = nI (9 * (s - 1) + 3 * k + j) := by
    intro j
    rw [show (9 : Int32) = nI 9 from rfl, show (3 : Int32) = nI 3 from rfl, pk_mul, pk_sub (by omega), pk_mul, nI_add, nI_add]
    congr 1; omega
  have i0 := hix 0
  have i1 := hix 1
  have i2 := hix 2
  rw [show nI 0 = (0 : Int32) from rfl] at i0
  rw [show nI 1 = (1 : Int32) from rfl] at i1
  rw [show nI 2 = (2 : Int32) from rfl] at i2
  have r0 : (0 : Int32) + (1 : Int32) = 1 := by decide
  have r1 : (1 : Int32) + (1 : Int32) = 2 := by decide
  have r2 : (2 : Int32) + (1 : Int32) = 3 := by decide
  unfold xw_Mo_weakThird
  refine ⟨4, ?_⟩
  unfold xw_Mo_weakThird_8
  refine ⟨fun q => absurd q (by decide), fun _ => ⟨by rw [i0]; exact vp_in_nI (by omega) (by omega), ?_⟩⟩
  rw [w_Mo_third, r0]
  unfold xw_Mo_weakThird_8
  refine ⟨fun q => absurd q (by decide), fun _ => ⟨by rw [i1]; exact vp_in_nI (by omega) (by omega), ?_⟩⟩
  rw [w_Mo_third, r1]
  unfold xw_Mo_weakThird_8
  refine ⟨fun q => absurd q (by decide), fun _ => ⟨by rw [i2]; exact vp_in_nI (by omega) (by omega), ?_⟩⟩
  rw [w_Mo_third, r2]
  unfold xw_Mo_weakThird_8
  refine ⟨fun _ => ?_, fun q => absurd (by decide) q⟩
  rw [i0, i1, i2, nI_clamp (by omega), nI_clamp (by omega), nI_clamp (by omega)]
  have e : (((500 : Int32) + (M 9 4 (9 * (s - 1) + 3 * k + 0) * sp_th c 0)) + (M 9 4 (9 * (s - 1) + 3 * k + 1) * sp_th c 1)) + (M 9 4 (9 * (s - 1) + 3 * k + 2) * sp_th c 2) = sp_ws (M 9 4) (9 * (s - 1) + 3 * k) c := rfl
  rw [e]
  generalize sp_ws (M 9 4) (9 * (s - 1) + 3 * k) c = x at h
  unfold sp_cl at h
  unfold xj
  refine ⟨fun q => ?_, fun q => ?_⟩
  · rw [if_pos q] at h
    exact ⟨fun z => absurd z (by decide), fun _ => h⟩
  · rw [if_neg q] at h
    obtain ⟨n, hn, rfl⟩ := nI_of q
    rw [show (1000 : Int32) = nI 1000 from rfl, pk_div hn (by omega) (by omega)] at h ⊢
    refine ⟨fun _ => ⟨fun z => ?_, fun z => ?_⟩, fun z => absurd (nI_pos' (by omega)) z⟩
    · rw [if_neg (by simp only [ilt, ile] at *; omega)] at h
      exact h
    · rw [if_pos (by simp only [ilt, ile] at *; omega)] at h
      exact h
theorem p_Mo_seenThird {s k n : Nat} (hs : s ≤ 5) (hk : k < 3) (h1 : 2 ≤ n) (h2 : n ≤ 16) {c : Int32} {M : xM} {post : Int32 → xM → Prop} (hM : M 9 0 5 = nI n) (h : post (sp_sn (M 9 4) n s c k) M) : xw_Mo_seenThird (nI s) c (nI k) M post := by
  unfold xw_Mo_seenThird
  unfold sp_sn at h
  refine ⟨fun q => ⟨fun q2 => ⟨fun q3 => ?_, fun q3 => ?_⟩, fun q2 => ?_⟩, fun q => ?_⟩
  · have a1 : s ≠ 0 := fun e => q (by rw [e]; rfl)
    have a2 : ¬ s < 4 := fun e => nI_ge (a := s) (b := 4) e (by omega) q2
    have a3 : s ≠ 4 := fun e => q3 (by rw [e]; rfl)
    rw [if_neg a1, if_neg a2, if_neg a3] at h
    rw [w_Mo_third]
    obtain ⟨v, hv, e⟩ := sp_th_byte c (nI k)
    rw [e, nI_clamp (by omega)] at h
    rw [e]
    exact p_Mo_printed h1 h2 hv hM h
  · have a3 : s = 4 := (nI_eq (a := s) (b := 4) (by omega) (by omega)).mp q3
    subst a3
    rw [w_Mo_lightOf]
    exact h
  · have a1 : s ≠ 0 := fun e => q (by rw [e]; rfl)
    have a2 : s < 4 := by
      rcases Nat.lt_or_ge s 4 with z | z
      · exact z
      · exact absurd (nI_le z (by omega)) q2
    rw [if_neg a1, if_pos a2] at h
    exact p_Mo_weakThird (by omega) (by omega) hk h
  · have a1 : s = 0 := (nI_eq (a := s) (b := 0) (by omega) (by omega)).mp q
    rw [if_pos a1] at h
    rw [w_Mo_third]
    exact h
theorem p_Mo_seenOf {s n : Nat} (hs : s ≤ 5) (h1 : 2 ≤ n) (h2 : n ≤ 16) {c : Int32} {M : xM} {post : Int32 → xM → Prop} (hM : M 9 0 5 = nI n) (h : post (sp_look (M 9 4) n s c) M) : xw_Mo_seenOf (nI s) c M post := by
  unfold xw_Mo_seenOf
  refine p_Mo_seenThird (k := 0) hs (by omega) h1 h2 hM ?_
  refine p_Mo_seenThird (k := 1) hs (by omega) h1 h2 hM ?_
  refine p_Mo_seenThird (k := 2) hs (by omega) h1 h2 hM ?_
  rw [w_Mo_made]
  exact h
theorem sp_ws_cong {W W' : Nat → Int32} (hW : ∀ k, k < 27 → W k = W' k) {o : Nat} (ho : o + 2 < 27) (c : Int32) : sp_ws W o c = sp_ws W' o c := by
  unfold sp_ws; rw [hW o (by omega), hW (o + 1) (by omega), hW (o + 2) (by omega)]
theorem sp_sn_cong {W W' : Nat → Int32} (hW : ∀ k, k < 27 → W k = W' k) (n : Nat) {s k : Nat} (c : Int32) (hk : k < 3) : sp_sn W n s c k = sp_sn W' n s c k := by
  unfold sp_sn
  split
  · rfl
  · split
    · rw [sp_ws_cong hW (by omega)]
    · rfl
theorem sp_look_cong {W W' : Nat → Int32} (hW : ∀ k, k < 27 → W k = W' k) (n s : Nat) (c : Int32) : sp_look W n s c = sp_look W' n s c := by
  unfold sp_look; rw [sp_sn_cong hW n c (by omega), sp_sn_cong hW n c (by omega), sp_sn_cong hW n c (by omega)]
theorem p_Ey_look {g s n : Nat} (hs : s ≤ 5) (h1 : 2 ≤ n) (h2 : n ≤ 16) {c : Int32} (hc : sp_col c) {M : xM} {post : Int32 → xM → Prop} (hM : M g 1 1 = nI n) (h : post (sp_look (M g 2) n s c) M) : xw_Ey_look g (nI s) c M post := by
  unfold xw_Ey_look xj
  have low : (s = 0 ∨ s = 4 ∨ s = 5) → ((¬ nI s = (4 : Int32)) → (((¬ nI s = (5 : Int32)) → (post c M)) ∧ ((nI s = (5 : Int32)) → (xw_Rg_red c M (fun (r4 : Int32) (M3 : xM) => xw_Ey_printed g r4 M3 (fun (r6 : Int32) (M5 : xM) => xw_Rg_green c M5 (fun (r8 : Int32) (M7 : xM) => xw_Ey_printed g r8 M7 (fun (r10 : Int32) (M9 : xM) => xw_Rg_blue c M9 (fun (r12 : Int32) (M11 : xM) => xw_Ey_printed g r12 M11 (fun (r14 : Int32) (M13 : xM) => xw_Rg_joined r6 r10 r14 M13 (fun (r16 : Int32) (M15 : xM) => post r16 M15))))))))))) ∧ ((nI s = (4 : Int32)) → (xw_Rg_lightOf c M (fun (r18 : Int32) (M17 : xM) => xw_Rg_joined r18 r18 r18 M17 (fun (r20 : Int32) (M19 : xM) => post r20 M19)))) := by
    intro hz
    unfold sp_look sp_sn at h
    refine ⟨fun q => ⟨fun q2 => ?_, fun q2 => ?_⟩, fun q => ?_⟩
    · have a0 : s = 0 := by
        rcases hz with e | e | e
        · exact e
        · exact absurd (by rw [e]; rfl) q
        · exact absurd (by rw [e]; rfl) q2
      subst a0
      have e := sp_made_th hc
      simp only [if_true] at h
      rw [show nI 0 = (0 : Int32) from rfl, show nI 1 = (1 : Int32) from rfl, show nI 2 = (2 : Int32) from rfl, e] at h
      exact h
    · have a5 : s = 5 := (nI_eq (a := s) (b := 5) (by omega) (by omega)).mp q2
      subst a5
      simp only [show ¬ (5 = 0) by omega, show ¬ (5 < 4) by omega, show ¬ (5 = 4) by omega, if_false] at h
      rw [show nI 0 = (0 : Int32) from rfl, show nI 1 = (1 : Int32) from rfl, show nI 2 = (2 : Int32) from rfl] at h
      obtain ⟨v0, hv0, e0⟩ := sp_th_byte c 0
      obtain ⟨v1, hv1, e1⟩ := sp_th_byte c 1
      obtain ⟨v2, hv2, e2⟩ := sp_th_byte c 2
      rw [e0, e1, e2, nI_clamp (by omega), nI_clamp (by omega), nI_clamp (by omega)] at h
      rw [w_Rg_red, e0]
      refine p_Ey_printed h1 h2 hv0 hM ?_
      rw [w_Rg_green, e1]
      refine p_Ey_printed h1 h2 hv1 hM ?_
      rw [w_Rg_blue, e2]
      refine p_Ey_printed h1 h2 hv2 hM ?_
      rw [w_Rg_joined]
      exact h
    · have a4 : s = 4 := (nI_eq (a := s) (b := 4) (by omega) (by omega)).mp q
      subst a4
      simp only [show ¬ (4 = 0) by omega, show ¬ (4 < 4) by omega, if_false, if_true] at h
      rw [w_Rg_lightOf, w_Rg_joined]
      exact h
  refine ⟨fun q => ?_, fun q => ⟨fun q2 => ?_, fun q2 => ?_⟩⟩
  · have : s < 1 := (nI_ltI (a := s) (b := 1) (by omega) (by omega)).mp q
    exact low (by omega)
  · have : 3 < s := (nI_ltI (a := 3) (b := s) (by omega) (by omega)).mp q2
    exact low (by omega)
  · have b1 : 1 ≤ s := by
      rcases Nat.lt_or_ge s 1 with z | z
      · exact absurd ((nI_ltI (a := s) (b := 1) (by omega) (by omega)).mpr z) q
      · exact z
    have b2 : s ≤ 3 := by
      rcases Nat.lt_or_ge 3 s with z | z
      · exact absurd ((nI_ltI (a := 3) (b := s) (by omega) (by omega)).mpr z) q2
      · exact z
    have e0 : (nI s - (1 : Int32)) * (9 : Int32) = nI (9 * (s - 1)) := by
      rw [show (1 : Int32) = nI 1 from rfl, show (9 : Int32) = nI 9 from rfl, pk_sub (by omega), pk_mul, Nat.mul_comm]
    rw [e0, show (3 : Int32) = nI 3 from rfl, show (6 : Int32) = nI 6 from rfl, nI_add, nI_add]
    unfold sp_look sp_sn at h
    simp only [show ¬ (s = 0) by omega, show s < 4 by omega, if_false, if_true] at h
    refine p_Ey_weakened (by omega) ?_
    refine p_Ey_weakened (by omega) ?_
    refine p_Ey_weakened (by omega) ?_
    rw [w_Rg_joined]
    exact h
/-! DISTANCE -/
def sp_d (W wt : Nat → Int32) (n s : Nat) (a b : Int32) : Int32 :=
  (((wt 0 * (sp_sn W n s a 0 - sp_sn W n s b 0)) * (sp_sn W n s a 0 - sp_sn W n s b 0)) + ((wt 1 * (sp_sn W n s a 1 - sp_sn W n s b 1)) * (sp_sn W n s a 1 - sp_sn W n s b 1))) + ((wt 2 * (sp_sn W n s a 2 - sp_sn W n s b 2)) * (sp_sn W n s a 2 - sp_sn W n s b 2))
theorem sp_d_symm (W wt : Nat → Int32) (n s : Nat) (a b : Int32) : sp_d W wt n s a b = sp_d W wt n s b a := by unfold sp_d; grind
theorem sp_sq {w x y : Int32} (hw : ∃ j : Nat, j ≤ 10 ∧ w = nI j) (hx : ∃ j : Nat, j < 256 ∧ x = nI j) (hy : ∃ j : Nat, j < 256 ∧ y = nI j) : ∃ j : Nat, j ≤ 650250 ∧ (w * (x - y)) * (x - y) = nI j := by
  obtain ⟨w, hw, rfl⟩ := hw
  obtain ⟨x, hx, rfl⟩ := hx
  obtain ⟨y, hy, rfl⟩ := hy
  rcases Nat.le_total y x with h | h
  · rw [pk_sub h, pk_mul, pk_mul]
    refine ⟨_, ?_, rfl⟩
    calc w * (x - y) * (x - y) ≤ 10 * 255 * 255 := Nat.mul_le_mul (Nat.mul_le_mul hw (by omega)) (by omega)
      _ = 650250 := by decide
  · have e : (nI w * (nI x - nI y)) * (nI x - nI y) = (nI w * (nI y - nI x)) * (nI y - nI x) := by grind
    rw [e, pk_sub h, pk_mul, pk_mul]
    refine ⟨_, ?_, rfl⟩
    calc w * (y - x) * (y - x) ≤ 10 * 255 * 255 := Nat.mul_le_mul (Nat.mul_le_mul hw (by omega)) (by omega)
      _ = 650250 := by decide
theorem sp_d_nI {W wt : Nat → Int32} {n s : Nat} (h1 : 2 ≤ n) (h2 : n ≤ 16) (hw : ∀ k, k < 3 → ∃ j : Nat, j ≤ 10 ∧ wt k = nI j) (a b : Int32) : ∃ j : Nat, j ≤ 1950750 ∧ sp_d W wt n s a b = nI j := by
  obtain ⟨j0, k0, e0⟩ := sp_sq (hw 0 (by omega)) (sp_sn_byte W (s := s) h1 h2 a 0) (sp_sn_byte W (s := s) h1 h2 b 0)
  obtain ⟨j1, k1, e1⟩ := sp_sq (hw 1 (by omega)) (sp_sn_byte W (s := s) h1 h2 a 1) (sp_sn_byte W (s := s) h1 h2 b 1)
  obtain ⟨j2, k2, e2⟩ := sp_sq (hw 2 (by omega)) (sp_sn_byte W (s := s) h1 h2 a 2) (sp_sn_byte W (s := s) h1 h2 b 2)
  refine ⟨j0 + j1 + j2, by omega, ?_⟩
  unfold sp_d
  rw [e0, e1, e2, nI_add, nI_add]
theorem p_Mo_distanceOf {s n : Nat} (hs : s ≤ 5) (h1 : 2 ≤ n) (h2 : n ≤ 16) {a b : Int32} {M : xM} {post : Int32 → xM → Prop} (hM : M 9 0 5 = nI n) (h : post (sp_d (M 9 4) (M 9 5) n s a b) M) : xw_Mo_distanceOf (nI s) a b M post := by
  have r0 : (0 : Int32) + (1 : Int32) = 1 := by decide
  have r1 : (1 : Int32) + (1 : Int32) = 2 := by decide
  have r2 : (2 : Int32) + (1 : Int32) = 3 := by decide
  unfold xw_Mo_distanceOf
  refine ⟨4, ?_⟩
  unfold xw_Mo_distanceOf_6
  refine ⟨fun q => absurd q (by decide), fun _ => ?_⟩
  refine p_Mo_seenThird (k := 0) hs (by omega) h1 h2 hM ?_
  refine p_Mo_seenThird (k := 0) hs (by omega) h1 h2 hM ?_
  refine ⟨vp_in_nI (n := 0) (by omega) (by omega), ?_⟩
  rw [r0]
  unfold xw_Mo_distanceOf_6
  refine ⟨fun q => absurd q (by decide), fun _ => ?_⟩
  refine p_Mo_seenThird (k := 1) hs (by omega) h1 h2 hM ?_
  refine p_Mo_seenThird (k := 1) hs (by omega) h1 h2 hM ?_
  refine ⟨vp_in_nI (n := 1) (by omega) (by omega), ?_⟩
  rw [r1]
  unfold xw_Mo_distanceOf_6
  refine ⟨fun q => absurd q (by decide), fun _ => ?_⟩
  refine p_Mo_seenThird (k := 2) hs (by omega) h1 h2 hM ?_
  refine p_Mo_seenThird (k := 2) hs (by omega) h1 h2 hM ?_
  refine ⟨vp_in_nI (n := 2) (by omega) (by omega), ?_⟩
  rw [r2]
  unfold xw_Mo_distanceOf_6
  refine ⟨fun _ => ?_, fun q => absurd (by decide) q⟩
  have e : (0 : Int32) + M 9 5 (0 : Int32).toNatClampNeg * (sp_sn (M 9 4) n s a 0 - sp_sn (M 9 4) n s b 0) * (sp_sn (M 9 4) n s a 0 - sp_sn (M 9 4) n s b 0) = M 9 5 0 * (sp_sn (M 9 4) n s a 0 - sp_sn (M 9 4) n s b 0) * (sp_sn (M 9 4) n s a 0 - sp_sn (M 9 4) n s b 0) := by
    rw [Int32.zero_add]; rfl
  rw [e]
  exact h
theorem p_Ey_weighed {g s n : Nat} {W : Nat → Int32} (h1 : 2 ≤ n) (h2 : n ≤ 16) {a b : Int32} {M : xM} {wt : Nat → Int32} {post : Int32 → xM → Prop} (e2 : M g 1 2 = wt 0) (e3 : M g 1 3 = wt 1) (e4 : M g 1 4 = wt 2) (h : post (sp_d W wt n s a b) M) : xw_Ey_weighed g (sp_look W n s a) (sp_look W n s b) M post := by
  unfold xw_Ey_weighed
  obtain ⟨a0, a1, a2⟩ := sp_th_made (sp_sn_byte W (s := s) h1 h2 a 0) (sp_sn_byte W (s := s) h1 h2 a 1) (sp_sn_byte W (s := s) h1 h2 a 2)
  obtain ⟨b0, b1, b2⟩ := sp_th_made (sp_sn_byte W (s := s) h1 h2 b 0) (sp_sn_byte W (s := s) h1 h2 b 1) (sp_sn_byte W (s := s) h1 h2 b 2)
  simp only [w_Rg_red, w_Rg_green, w_Rg_blue]
  unfold sp_look
  rw [a0, a1, a2, b0, b1, b2, e2, e3, e4]
  exact h
/-! APART: the least over the sights that count -/
abbrev sp_ct (cnt : Int32) (s : Nat) : Prop := ((cnt >>> (nI s &&& 31)) &&& (1 : Int32)) = (1 : Int32)
theorem sp_ct_01 (cnt : Int32) (s : Nat) : ((cnt >>> (nI s &&& 31)) &&& (1 : Int32)) = 0 ∨ ((cnt >>> (nI s &&& 31)) &&& (1 : Int32)) = 1 := by
  obtain ⟨j, hj, e⟩ := pk_andE (cnt >>> (nI s &&& 31)) (m := 1) 1 (by decide)
  rw [e]
  rcases (show j = 0 ∨ j = 1 by omega) with rfl | rfl
  · exact Or.inl rfl
  · exact Or.inr rfl
/-- from sight s on, m sights, the least so far -/
def sp_apF (D : Nat → Int32) (cnt : Int32) : Nat → Nat → Int32 → Int32
  | 0, _, x => x
  | m + 1, s, x => sp_apF D cnt m (s + 1) (if sp_ct cnt s then (if D s < x then D s else x) else x)
