/-! ===== best: the call ===== -/
theorem fx_to {M M' : xM} (h7 : M' 9 7 = M 9 7) (h6 : M' 9 6 = M 9 6) (e : xE) (L p : Nat) : ∀ i, fx M' e L p i = fx M e L p i
  | 0 => rfl
  | i + 1 => by
    unfold fx
    rw [h7, h6, fx_to h7 h6 e L p i]
theorem mv_to' {M M' : xM} (h0 : ∀ k, 5 ≤ k → k ≤ 10 → M' 9 0 k = M 9 0 k) (h9 : ∀ i, 4 ≤ i → i ≤ 13 → M' 9 i = M 9 i) : mv M' = mv M := by
  funext a k
  unfold mv
  split <;> first | rw [h9 _ (by omega) (by omega)] | skip
  dsimp only
  split <;> rw [h0 _ (by omega) (by omega)]
theorem xInv.best {M X : xM} (h : xInv M) (hst : X 8 0 8 = X 9 0 0) (hg : ∀ g t, ¬ (g = 8 ∧ (t = 0 ∨ (4 ≤ t ∧ t ≤ 10))) → ¬ (g = 9 ∧ (t = 0 ∨ (14 ≤ t ∧ t ≤ 17))) → X g t = M g t) (h90 : ∀ k, 1 ≤ k → ¬ k = 23 → X 9 0 k = M 9 0 k) (hch : vChosen X) : xInv X := by
  have e0 : X 0 = M 0 := funext fun i => hg 0 i (by omega) (by omega)
  have e1 : X 1 = M 1 := funext fun i => hg 1 i (by omega) (by omega)
  have e2 : X 2 = M 2 := funext fun i => hg 2 i (by omega) (by omega)
  have e3 : X 3 = M 3 := funext fun i => hg 3 i (by omega) (by omega)
  have em : mv X = mv M := mv_to' (fun k k1 k2 => h90 k (by omega) (by omega)) (fun i i1 i2 => hg 9 i (by omega) (by omega))
  have ei := iv_to (hg 9 20 (by omega) (by omega))
  obtain ⟨-, k1, k2, -, k4, k5, k6⟩ := h
  refine ⟨hst, by rw [e0, em]; exact k1, ?_, hch, ?_, ?_, ?_⟩
  · rw [e1, e2, e3, ei, ei, ei, hg 8 2 (by omega) (by omega), hg 9 19 (by omega) (by omega)]; exact k2
  · rw [hg 8 11 (by omega) (by omega), h90 24 (by omega) (by omega)]; exact k4
  · unfold vRamp; rw [hg 8 14 (by omega) (by omega), hg 8 15 (by omega) (by omega), h90 25 (by omega) (by omega), hg 9 18 (by omega) (by omega)]; exact k5
  · rw [hg 4 0 (by omega) (by omega), hg 4 1 (by omega) (by omega), hg 5 0 (by omega) (by omega), hg 5 1 (by omega) (by omega), hg 6 0 (by omega) (by omega), hg 6 1 (by omega) (by omega), hg 7 0 (by omega) (by omega), hg 7 1 (by omega) (by omega), hg 9 1 (by omega) (by omega), hg 9 2 (by omega) (by omega), hg 9 3 (by omega) (by omega)]; exact k6
theorem op_best : ∀ (M : xM) (a : Int32), xInv M → xw_CA_best a M (fun r M1 => xw_Mo_best a M1 (fun q M2 => r = q ∧ xInv M2)) := by
  intro M a hI
  obtain ⟨e, n, q, L, hm⟩ := mC.of hI.2.1
  obtain ⟨ok, eC, eM, hn, -, n1, n2, -, -, hL, hL2, g1, g2, hH⟩ := id hm
  obtain ⟨n', q', hn', hq', -, -, hcc, hr, -, -⟩ := hH
  have hcol : ∀ k, k < 12 → sp_col (M 9 6 k) := fun k hk => (hr k hk).1
  have h46 : ∀ k, k < 12 → M 0 4 k = M 9 6 k := fun k hk => (hcc k hk).1
  have h57 : ∀ k, k < 12 → M 0 5 k = M 9 7 k := fun k hk => (hcc k hk).2.1
  have h64 := n3le hL2
  have h8 : 8 ≤ L * L * L := Nat.mul_le_mul (Nat.mul_le_mul hL hL) hL
  have h4 : nI L = 4 ↔ L = 4 := nI_eq (b := 4) (by omega) (by omega)
  unfold xw_CA_best
  rw [g2]
  refine xj2 (fun v M' => M' = M ∧ v = if L = 4 then 4 else 5) (fun v M' hPv => ?_) (fun J hJ => ⟨fun z => hJ _ _ ⟨rfl, (if_neg (fun w => z (h4.mpr w))).symm⟩, fun z => hJ _ _ ⟨rfl, (if_pos (h4.mp z)).symm⟩⟩)
  obtain ⟨hM', hv⟩ := hPv
  rw [hM']
  refine rng3.mpr ⟨fun h => ?_, fun h => i_refd ?_⟩
  · have h5 : 1 ≤ a ∧ a ≤ 5 := ⟨h.1, by
      have := h.2
      rw [hv] at this
      split at this
      · rw [ile] at *; exact Int.le_trans this (by decide)
      · exact this⟩
    obtain ⟨w, w1, w5, rfl⟩ := nIr (l := 1) (h := 5) rfl rfl h5
    have hw4 : L = 4 → w ≤ 4 := fun z => by
      have := h.2
      rw [hv, if_pos z] at this
      exact (nI_leI (b := 4) (by omega) (by omega)).mp this
    unfold xw_Ch_choose xw_Gr_places
    have gg : (us M 8 4 6 (nI w)) 0 12 0 = nI L := g2
    rw [gg, pk_mul, pk_mul]
    refine p_chMeas (M0 := M) (M1 := us (us (us M 8 4 6 (nI w)) 8 4 7 (nI (L * L * L))) 8 4 8 (-1)) (e := e) ok eC hL hL2 rfl hn w5 g2 rfl rfl n2 h57 h46 hcol (fun M5 a1 a2 a3 => ?_)
    have b9 : ∀ t, M5 9 t = M 9 t := fun t => by
      rw [a1 9 t (by omega), us_ne _ _ (by omega), us_ne _ _ (by omega), us_ne _ _ (by omega)]
    have b6 : M5 8 4 6 = nI w := by rw [a1 8 4 (by omega)]; rfl
    have b7 : M5 8 4 7 = nI (L * L * L) := by rw [a1 8 4 (by omega)]; rfl
    have b8 : M5 8 4 8 = -1 := by rw [a1 8 4 (by omega)]; rfl
    have ho : chO M5 (L * L * L) w (fun p => fx M e L p n) (fun a b => ap e (sp_pl L a) (sp_pl L b)) := ⟨h64, w5, by omega, b6, b7, a2, a3, fun p => fx_0 ok n, fun a b => ap_0 ok _ _⟩
    refine p_extend ho w 6 0 0 (fun _ => 0) M5 _ (by omega) w1 (by omega) (by omega) (fun j hj => by omega) (fun j hj => by omega) ⟨fun _ _ _ => rfl, fun _ _ => rfl⟩ (fun j hj => by omega) (by rw [b8]; exact bst.start 1) (fun M6 c1 _ c3 => i_taken ?_)
    have d9 : ∀ t, (us M6 8 0 8 0) 9 t = M 9 t := fun t => by
      rw [us_ne _ _ (by omega), c1.1 9 t (by omega)]; exact b9 t
    have eM' : eyM (us M6 8 0 8 0) e := by
      unfold eyM at *
      rw [d9 0, d9 4, d9 5]; exact eM
    refine p_Mo_best (M1 := us M6 8 0 8 0) (e := e) ok eM' hL hL2 rfl hn w1 w5 hw4 (by rw [d9 0]; exact g1) (by rw [d9 0]; exact n1) (fun g M' d1 d2 => ?_)
    rw [show (fun p => fx (us M6 8 0 8 0) e L p n) = (fun p => fx M e L p n) from funext fun p => fx_to (d9 7) (d9 6) e L p n] at d2
    obtain ⟨u1, ⟨s, u2⟩, u3⟩ := bst.uniq (by omega) h64 c3 d2
    have hg0 : 0 ≤ g.toInt := by
      rw [← u1, u2]
      exact vK_0 (fun p => fx_0 ok n) (fun a b => ap_0 ok _ _) w
    obtain ⟨j, hj, ej⟩ := nI_of (x := g) (fun z => by rw [ilt, show (0 : Int32).toInt = 0 from rfl] at z; omega)
    refine i_ok ⟨j, hj, ej⟩ ⟨u1, ?_⟩
    refine hI.best ?_ (fun g t k1 k2 => ?_) (fun k k1 k2 => ?_) ⟨w, w5, ?_, ?_, fun k hk => ?_⟩
    · rw [us_ne _ _ (by decide), us_ne _ _ (by decide), us_self, upd_self, d1 8 0 (by decide), us_self, upd_self]
    · rw [us_ne _ _ (by omega), us_ne _ _ (by omega), d1 g t (by omega), us_ne _ _ (by omega), c1.1 g t (by omega), a1 g t (by omega), us_ne _ _ (by omega), us_ne _ _ (by omega), us_ne _ _ (by omega)]
    · rw [us_self, upd_ne _ _ (by omega), us_self, upd_ne _ _ k2, d1 9 0 (by decide), d9]
    · rw [us_ne _ _ (by decide), us_ne _ _ (by decide), d1 8 4 (by decide), us_ne _ _ (by decide), c1.2 6 (by decide)]; exact b6
    · rw [us_self, upd_ne _ _ (by decide), us_self, upd_self]
    · rw [us_ne _ _ (by decide), us_ne _ _ (by decide), us_ne _ _ (by decide), us_ne _ _ (by decide), d1 8 10 (by decide), us_ne _ _ (by decide)]
      exact u3 k hk
  · unfold xw_Mo_best
    have gg : (us M 8 0 8 (-1)) 9 0 7 = nI L := g1
    dsimp only
    rw [gg]
    refine xj2 (fun v' M' => M' = us M 8 0 8 (-1) ∧ v' = v) (fun v' M' hPv => ?_) (fun J hJ => ⟨fun z => hJ _ _ ⟨rfl, by rw [hv, if_neg (fun w => z (h4.mpr w))]⟩, fun z => hJ _ _ ⟨rfl, by rw [hv, if_pos (h4.mp z)]⟩⟩)
    obtain ⟨hM2, rfl⟩ := hPv
    rw [hM2]
    exact i_in (br (fun z => absurd z h) (fun _ => ref_Mo (by decide) hI rfl))
