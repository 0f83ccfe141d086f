/-! ===== image, back ===== -/
def xImg (M : xM) : Prop := ∀ t, t < 3 → vImage (M (1 + t)) (iv M (200 * t)) (M 8 2 t) (M 9 19 t)
theorem im_iff (M : xM) : (vImage (M 1) (iv M 0) (M 8 2 0) (M 9 19 0) ∧ vImage (M 2) (iv M 200) (M 8 2 1) (M 9 19 1) ∧ vImage (M 3) (iv M 400) (M 8 2 2) (M 9 19 2)) ↔ xImg M := by
  constructor
  · rintro ⟨h0, h1, h2⟩ s hs
    rcases (show s = 0 ∨ s = 1 ∨ s = 2 by omega) with rfl | rfl | rfl
    · exact h0
    · exact h1
    · exact h2
  · intro h
    exact ⟨h 0 (by omega), h 1 (by omega), h 2 (by omega)⟩
theorem agC_rfl (C : Nat → Nat → Int32) : agC C C := ⟨fun _ _ _ => rfl, fun _ _ => rfl, ⟨rfl, rfl⟩, fun _ _ => ⟨rfl, rfl, rfl⟩, fun _ _ => ⟨rfl, rfl⟩, fun _ _ => ⟨rfl, rfl, rfl⟩, rfl⟩
theorem agM_iv {M M' : xM} {b : Nat} (h : ∀ j, b ≤ j → j < b + 159 → M' 9 20 j = M 9 20 j) : agM (iv M b) (iv M' b) :=
  ⟨fun j hj => ⟨h _ (by omega) (by omega), h _ (by omega) (by omega), h _ (by omega) (by omega)⟩, fun j hj => ⟨h _ (by omega) (by omega), h _ (by omega) (by omega)⟩, fun j hj => ⟨h _ (by omega) (by omega), h _ (by omega) (by omega), h _ (by omega) (by omega)⟩, fun j hj => h _ (by omega) (by omega), fun j hj => h _ (by omega) (by omega), fun j hj => h _ (by omega) (by omega)⟩
theorem xInv.img {M M' : xM} (h : xInv M) (hst : M' 8 0 8 = M' 9 0 0) (h0 : M' 0 = M 0) (hm : mv M' = mv M) (hi : xImg M') (hg : ∀ g, 4 ≤ g → g < 8 → M' g = M g) (h8 : ∀ i, (i = 4 ∨ i = 10 ∨ i = 11 ∨ i = 14 ∨ i = 15) → M' 8 i = M 8 i) (h90 : ∀ k, 23 ≤ k → k ≤ 25 → M' 9 0 k = M 9 0 k) (h9 : ∀ i, ((1 ≤ i ∧ i ≤ 3) ∨ i = 17 ∨ i = 18) → M' 9 i = M 9 i) : xInv M' := by
  obtain ⟨-, k1, -, k3, k4, k5, k6⟩ := h
  refine ⟨hst, by rw [h0, hm]; exact k1, (im_iff M').mpr hi, ?_, ?_, ?_, ?_⟩
  · unfold vChosen; rw [h8 4 (by omega), h8 10 (by omega), h90 23 (by omega) (by omega), h9 17 (by omega)]; exact k3
  · rw [h8 11 (by omega), h90 24 (by omega) (by omega)]; exact k4
  · unfold vRamp; rw [h8 14 (by omega), h8 15 (by omega), h90 25 (by omega) (by omega), h9 18 (by omega)]; exact k5
  · rw [hg 4 (by omega) (by omega), hg 5 (by omega) (by omega), hg 6 (by omega) (by omega), hg 7 (by omega) (by omega), h9 1 (by omega), h9 2 (by omega), h9 3 (by omega)]; exact k6
theorem i_imgC {c : Int32} {M : xM} {post : Int32 → xM → Prop} (h : post (b2 (0 ≤ c ∧ c ≤ 2)) M) : xw_CA_isImage c M post := (w_CA_isImage _ _ _).mpr h
theorem op_image : ∀ (M : xM) (a : Int32), xInv M → xw_CA_image a M (fun r M1 => xw_Mo_image a M1 (fun q M2 => r = q ∧ xInv M2)) := by
  intro M a hI
  refine i_imgC (br (fun h => ?_) (fun h => i_refd ?_))
  · obtain ⟨k, -, hk, rfl⟩ := nIr (l := 0) (h := 2) rfl rfl h
    have hin : vp_in (nI k) 3 := vp_in_nI (by omega) (by omega)
    obtain ⟨n, q, hn, hq, ⟨n1, n2⟩, ⟨q1, q2⟩, hc, hr, hb, hp⟩ := hI.2.1.2.2
    have hf : ∀ t, t < 12 → M 9 7 t = 0 ∨ M 9 7 t = 1 := fun t ht => (hr t ht).2.1
    rw [nI_clamp (by omega)]
    refine ⟨hin, p_Ke_copy (by omega) (fun t ht => ?_) (fun M1 a1 a2 => ⟨hin, i_taken ?_⟩)⟩
    · have e : M 0 5 t = M 9 7 t := (hc t ht).2.1
      rw [e]; exact b01 (hf t ht)
    · have e9 : M1 9 = M 9 := a1 9 (by omega)
      have e8 : M1 8 = M 8 := a1 8 (by omega)
      have e0 : M1 0 = M 0 := a1 0 (by omega)
      refine p_Mo_image (by omega) (fun t ht => ?_) (fun M' b1 b2 b3 b4 b5 b6 => i_ok ⟨0, by omega, rfl⟩ ⟨rfl, ?_⟩)
      · show M1 9 7 t = 0 ∨ M1 9 7 t = 1
        rw [e9]; exact hf t ht
      · have c9 : ∀ i, ¬ i = 0 → ¬ i = 19 → ¬ i = 20 → us M' 9 0 0 0 9 i = M 9 i := fun i i0 i19 i20 => by
          rw [us_i _ i0, b2 i i0 i19 i20]
          show M1 9 i = M 9 i
          rw [e9]
        have c90 : ∀ j, ¬ j = 0 → ¬ j = 29 → us M' 9 0 0 0 9 0 j = M 9 0 j := fun j j0 j29 => by
          rw [us_k _ j0, b3 j j29]
          show M1 9 0 j = M 9 0 j
          rw [e9]
        have cg : ∀ g, ¬ g = 9 → ¬ g = 8 → us M' 9 0 0 0 g = M1 g := fun g g9 g8 => by
          rw [us_g _ g9, b1 g g9, us_g _ g8, us_g _ g8]
        have c8 : ∀ i, ¬ i = 0 → ¬ i = 2 → us M' 9 0 0 0 8 i = M 8 i := fun i i0 i2 => by
          rw [us_g _ (by decide), b1 8 (by decide), us_i _ i0, us_i _ i2, e8]
        have c82 : us M' 9 0 0 0 8 2 = upd (M 8 2) k 1 := by
          rw [us_g _ (by decide), b1 8 (by decide), us_i _ (by decide), us_self, e8]
        have c919 : us M' 9 0 0 0 9 19 = upd (M 9 19) k 1 := by
          rw [us_i _ (by decide), b4]
          show upd (M1 9 19) k 1 = _
          rw [e9]
        have em : mv (us (us M1 8 2 k 1) 8 0 8 0) = mv M := by
          refine mv_to (fun j _ => ?_) (fun i _ _ => ?_)
          · show M1 9 0 j = M 9 0 j
            rw [e9]
          · show M1 9 i = M 9 i
            rw [e9]
        have em2 : mv (us M' 9 0 0 0) = mv M := by
          funext x j
          unfold mv
          split <;> first | rw [c9 _ (by decide) (by decide) (by decide)] | skip
          dsimp only
          split <;> rw [c90 _ (by decide) (by decide)]
        refine hI.img ?_ ?_ em2 (fun t ht => ?_) (fun g g4 g8 => ?_) (fun i hi => c8 i (by omega) (by omega)) (fun j j1 j2 => c90 j (by omega) (by omega)) (fun i hi => c9 i (by omega) (by omega) (by omega))
        · rw [us_v, us_g _ (by decide), b1 8 (by decide), us_v]
        · rw [cg 0 (by omega) (by omega), e0]
        · rw [c82, c919, cg (1 + t) (by omega) (by omega)]
          have hiv : iv (us M' 9 0 0 0) (200 * t) = iv M' (200 * t) := iv_to (us_i _ (by decide)) _
          rw [hiv]
          by_cases e : t = k
          · subst e
            rw [upd_self, upd_self]
            rw [em] at b6
            exact ⟨rfl, Or.inr ⟨rfl, hI.2.1.ag a2 b6⟩⟩
          · rw [upd_ne _ _ e, upd_ne _ _ e, a1 (1 + t) (by omega)]
            obtain ⟨w1, w2⟩ := (im_iff M).mp hI.2.2.1 t ht
            refine ⟨w1, w2.imp id (fun w => ⟨w.1, w.2.ag (agC_rfl _) (agM_iv fun j j1 j2 => ?_)⟩)⟩
            rw [b5 j (by omega)]
            show M1 9 20 j = M 9 20 j
            rw [e9]
        · rw [cg g (by omega) (by omega), a1 g (by omega)]
  · exact i_in (br (fun q => absurd q h) (fun _ => ref_Mo (by decide) hI rfl))
theorem op_back : ∀ (M : xM) (a : Int32), xInv M → xw_CA_back a M (fun r M1 => xw_Mo_back a M1 (fun q M2 => r = q ∧ xInv M2)) := by
  intro M a hI
  refine i_imgC (br (fun h => ?_) (fun h => i_refd ?_))
  · obtain ⟨k, -, hk, rfl⟩ := nIr (l := 0) (h := 2) rfl rfl h
    have hin : vp_in (nI k) 3 := vp_in_nI (by omega) (by omega)
    obtain ⟨w1, w2⟩ := (im_iff M).mp hI.2.2.1 k (by omega)
    rw [nI_clamp (by omega)]
    refine ⟨hin, fun z => ⟨hin, ?_⟩, fun z => i_refd ?_⟩
    · have z9 : ¬ M 9 19 k = 0 := fun y => z (w1.trans y)
      have hK := (w2.resolve_left z9).2
      obtain ⟨n, q, hn, hq, ⟨n1, n2⟩, ⟨q1, q2⟩, hc, hr, hb, hp⟩ := hK.2.2
      have hf : ∀ t, t < 12 → M 9 20 (200 * k + 130 + t) = 0 ∨ M 9 20 (200 * k + 130 + t) = 1 := fun t ht => (hr t ht).2.1
      refine p_Ke_copy (by omega) (fun t ht => ?_) (fun M1 a1 a2 => i_taken ?_)
      · have e : M (1 + k) 5 t = M 9 20 (200 * k + 130 + t) := (hc t ht).2.1
        rw [e]; exact b01 (hf t ht)
      · have e9 : M1 9 = M 9 := a1 9 (by omega)
        have e8 : M1 8 = M 8 := a1 8 (by omega)
        refine p_Mo_back (by omega) ?_ (fun t ht => ?_) (fun M' b1 b2 b3 b4 => i_ok ⟨0, by omega, rfl⟩ ⟨rfl, ?_⟩)
        · show ¬ M1 9 19 k = 0
          rw [e9]; exact z9
        · show M1 9 20 _ = 0 ∨ M1 9 20 _ = 1
          rw [e9]; exact hf t ht
        · have cg : ∀ g, ¬ g = 9 → ¬ g = 8 → us M' 9 0 0 0 g = M1 g := fun g g9 g8 => by
            rw [us_g _ g9, b1 g g9, us_g _ g8]
          refine hI.now ?_ ?_ (fun g i g1 g8 => ?_) (fun i hi => ?_) (fun j j1 j2 => ?_) (fun i hi => ?_)
          · rw [us_v, us_g _ (by decide), b1 8 (by decide), us_v]
          · rw [cg 0 (by omega) (by omega)]
            refine hK.ag a2 ?_
            have e : iv (us M1 8 0 8 0) (200 * k) = iv M (200 * k) := iv_to (by show M1 9 20 = M 9 20; rw [e9]) _
            rw [e] at b4
            have em : mv (us M' 9 0 0 0) = mv M' := by
              refine mv_to (fun j hj => us_k _ hj) (fun i _ _ => us_i _ (by omega))
            rw [em]; exact b4
          · rw [cg g (by omega) (by omega), a1 g (by omega)]
          · rw [us_g _ (by decide), b1 8 (by decide), us_i _ (by omega), e8]
          · rw [us_k _ (by omega), b3 j (by omega) (by omega) (by omega) (by omega) (by omega) (by omega)]
            show M1 9 0 j = M 9 0 j
            rw [e9]
          · rw [us_i _ (by omega), b2 i (by omega) (by omega)]
            show M1 9 i = M 9 i
            rw [e9]
    · refine i_in (br (fun _ => ⟨hin, ?_⟩) (fun y => absurd h y))
      rw [nI_clamp (by omega)]
      exact ⟨fun y => absurd (w1.symm.trans z) y, fun _ => ref_Mo (by decide) hI rfl⟩
  · exact i_in (br (fun q => absurd q h) (fun _ => ref_Mo (by decide) hI rfl))
