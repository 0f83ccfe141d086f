/-! ===== name, box, count, of, unmet ===== -/
theorem xj_i {F : (xM → Prop) → Prop} {B : xM → Prop} {M : xM} (P : Prop) (hB : P → B M) (hF : ∀ J : xM → Prop, (P → J M) → F J) : xj F B := hF B hB
theorem i_nameC {c : Int32} {M : xM} {post : Int32 → xM → Prop} (h : post (b2 (0 ≤ c ∧ c ≤ 7)) M) : xw_CA_isName c M post := (w_CA_isName _ _ _).mpr h
theorem op_name : ∀ (M : xM) (a b : Int32), xInv M → xw_CA_name a b M (fun r M1 => xw_Mo_name a b M1 (fun q M2 => r = q ∧ xInv M2)) := by
  intro M a b hI
  have hH := hI.2.1.2.2
  obtain ⟨n, q, hn, hq, ⟨n1, n2⟩, ⟨q1, q2⟩, hc, hr, hb, hp⟩ := id hH
  have n1 : M 9 0 9 = nI n := n1
  have n2 : M 0 3 0 = nI n := n2
  have rg : (-1 ≤ b ∧ b ≤ 7) ↔ (b = -1 ∨ (0 ≤ b ∧ b ≤ 7)) := by
    have e1 : (-1 : Int32).toInt = -1 := rfl
    have e0 : (0 : Int32).toInt = 0 := rfl
    have e7 : (7 : Int32).toInt = 7 := rfl
    simp only [ile, ieq, e1, e0, e7]
    omega
  refine xj_i (M := M) (b = -1 ∨ (0 ≤ b ∧ b ≤ 7)) (fun hb' => ?_) (fun J hJ => ⟨fun e => hJ (Or.inl e), fun e => i_nameC (br (fun h => hJ (Or.inr h)) (fun h => i_refd ?_))⟩)
  · refine p_has hn n2 (br (fun h1 => ?_) (fun h1 => i_refd ?_))
    · obtain ⟨k, hk, rfl⟩ := in_nI (by omega) h1
      have hin : vp_in (nI k) 12 := vp_in_nI (by omega) (by omega)
      have ec : M 0 4 k = M 9 6 k := (hc k (by omega)).1
      have nms : b = -1 ∨ ∃ j : Nat, j < 8 ∧ b = nI j := by
        rcases hb' with z | z
        · exact Or.inl z
        · obtain ⟨j, -, hj, ej⟩ := nIr (l := 0) (h := 7) rfl rfl z
          exact Or.inr ⟨j, by omega, ej⟩
      rw [nI_clamp (by omega)]
      have good : (b = -1 ∨ sp_wi (M 9 6 k) (M 9 9 b.toNatClampNeg) (M 9 10 b.toNatClampNeg)) → xw_Mo_name (nI k) b (us (us M 0 6 k b) 8 0 8 0) (fun q M2 => (0 : Int32) = q ∧ xInv M2) := by
        intro hg
        refine i_in (br (fun _ => p_isIn (n := n) (by exact n1) (br (fun _ => ?_) (fun w => absurd h1 w))) (fun w => absurd (rg.mpr hb') w))
        rw [nI_clamp (by omega)]
        refine xj_i (M := us (us M 0 6 k b) 8 0 8 0) True (fun _ => ⟨hin, i_ok ⟨0, by omega, rfl⟩ ⟨rfl, rfl, ⟨hI.2.1.1, hI.2.1.2.1, ?_⟩, hI.2.2⟩⟩) (fun J hJ => ⟨fun _ => hJ trivial, fun z => ?_⟩)
        · exact ⟨n, q, hn, hq, ⟨n1, n2⟩, ⟨q1, q2⟩, fun j hj => ⟨(hc j hj).1, (hc j hj).2.1, upd_cong (hc j hj).2.2⟩, fun j hj => ⟨(hr j hj).1, (hr j hj).2.1, upd_pred (P := fun x => x = -1 ∨ ∃ j : Nat, j < 8 ∧ x = nI j) nms (hr j hj).2.2⟩, hb, hp⟩
        · have b8 : vp_in b 8 := by
            obtain ⟨j, hj, ej⟩ := nms.resolve_left z
            rw [ej]; exact vp_in_nI hj (by omega)
          exact ⟨hin, b8, b8, p_within (br (fun _ => hJ trivial) (fun w => absurd (hg.resolve_left z) w))⟩
      refine xj_i (M := M) (b = -1 ∨ sp_wi (M 9 6 k) (M 9 9 b.toNatClampNeg) (M 9 10 b.toNatClampNeg)) (fun hg => ⟨hin, i_taken (good hg)⟩) (fun J hJ => ⟨fun z => hJ (Or.inl z), fun z => ⟨hin, ?_⟩⟩)
      obtain ⟨j, hj, rfl⟩ := nms.resolve_left z
      have h7 : M 0 7 j = M 9 9 j := (hb j hj).1
      have h8 : M 0 8 j = M 9 10 j := (hb j hj).2
      rw [nI_clamp (by omega)] at hJ
      refine p_boxHolds hj ?_
      rw [h7, h8, ec]
      refine br (fun w => hJ (Or.inr w)) (fun w => i_refd ?_)
      refine i_in (br (fun _ => p_isIn (n := n) (by exact n1) (br (fun _ => ?_) (fun w => absurd h1 w))) (fun w => absurd (rg.mpr hb') w))
      rw [nI_clamp (by omega), nI_clamp (by omega)]
      refine xj_i (M := us M 8 0 8 (-1)) False (fun w => w.elim) (fun J hJ => ⟨fun y => absurd y z, fun y => ⟨hin, vp_in_nI hj (by omega), vp_in_nI hj (by omega), p_within (br (fun y => absurd y w) (fun _ => ref_Mo (by decide) hI rfl))⟩⟩)
    · exact i_in (br (fun _ => p_isIn (n := n) (by exact n1) (br (fun w => absurd w h1) (fun _ => ref_Mo (by decide) hI rfl))) (fun w => absurd (rg.mpr hb') w))
  · exact i_in (br (fun w => absurd (rg.mp w) (fun y => y.elim e h)) (fun _ => ref_Mo (by decide) hI rfl))
/-! box -/
theorem p_leaveOut {n : Nat} (hn : n ≤ 12) {M : xM} (hM : M 0 3 0 = nI n) {a f t : Int32} {post : Int32 → xM → Prop} {k : Int32 → xM → Prop} : ∀ m j, j + m = n → (∀ i, j ≤ i → i < n → M 0 6 i = a → ¬ sp_wi (M 0 4 i) f t → post 1 M) → ((∀ i, j ≤ i → i < n → M 0 6 i = a → sp_wi (M 0 4 i) f t) → k (nI n) M) → xw_Ho_wouldLeaveOut_3 0 a f t post k (m + 1) (nI j) M := by
  intro m
  induction m with
  | zero =>
    intro j hj hE hN
    obtain rfl : j = n := by omega
    unfold xw_Ho_wouldLeaveOut_3
    rw [hM]
    exact ⟨fun _ => hN (fun i h1 h2 => by omega), fun z => absurd (nI_le (Nat.le_refl _) (by omega)) z⟩
  | succ m ih =>
    intro j hj hE hN
    unfold xw_Ho_wouldLeaveOut_3
    rw [hM, nI_clamp (by omega), nI_1]
    have hin : vp_in (nI j) 12 := vp_in_nI (by omega) (by omega)
    refine ⟨fun z => absurd ((nI_leI (by omega) (by omega)).mp z) (by omega), fun _ => ⟨hin, fun z => ?_, fun z => ⟨hin, i_between (br (fun w => ?_) (fun w => hE j (by omega) (by omega) z w))⟩⟩⟩
    · refine ih (j + 1) (by omega) (fun i h1 => hE i (by omega)) (fun h => hN (fun i h1 h2 h3 => ?_))
      by_cases e : i = j
      · subst e; exact absurd h3 z
      · exact h i (by omega) h2 h3
    · refine ih (j + 1) (by omega) (fun i h1 => hE i (by omega)) (fun h => hN (fun i h1 h2 h3 => ?_))
      by_cases e : i = j
      · subst e; exact w
      · exact h i (by omega) h2 h3
theorem p_box69 {n : Nat} (hn : n ≤ 12) {M : xM} (hM : M 9 0 9 = nI n) {a f t : Int32} {post : Int32 → xM → Prop} {k : Int32 → xM → Prop} : ∀ m j, j + m = n → (∀ i, j ≤ i → i < n → M 9 8 i = a → ¬ sp_wi (M 9 6 i) f t → xw_Mo_ends (-1) M post) → ((∀ i, j ≤ i → i < n → M 9 8 i = a → sp_wi (M 9 6 i) f t) → k (nI n) M) → xw_Mo_box_69 a f t post k (m + 1) (nI j) M := by
  intro m
  induction m with
  | zero =>
    intro j hj hE hN
    obtain rfl : j = n := by omega
    unfold xw_Mo_box_69
    rw [hM]
    exact ⟨fun _ => hN (fun i h1 h2 => by omega), fun z => absurd (nI_le (Nat.le_refl _) (by omega)) z⟩
  | succ m ih =>
    intro j hj hE hN
    unfold xw_Mo_box_69
    rw [hM, nI_clamp (by omega), nI_1]
    have hin : vp_in (nI j) 12 := vp_in_nI (by omega) (by omega)
    refine ⟨fun z => absurd ((nI_leI (by omega) (by omega)).mp z) (by omega), fun _ => ⟨hin, fun z => ?_, fun z => ⟨hin, p_within (br (fun w => ?_) (fun w => hE j (by omega) (by omega) z w))⟩⟩⟩
    · refine ih (j + 1) (by omega) (fun i h1 => hE i (by omega)) (fun h => hN (fun i h1 h2 h3 => ?_))
      by_cases e : i = j
      · subst e; exact absurd h3 z
      · exact h i (by omega) h2 h3
    · refine ih (j + 1) (by omega) (fun i h1 => hE i (by omega)) (fun h => hN (fun i h1 h2 h3 => ?_))
      by_cases e : i = j
      · subst e; exact w
      · exact h i (by omega) h2 h3
theorem wi_self {f t : Int32} : sp_wi f f t ↔ (sp_th f 0 ≤ sp_th t 0 ∧ sp_th f 1 ≤ sp_th t 1 ∧ sp_th f 2 ≤ sp_th t 2) := by
  unfold sp_wi
  have h : ∀ x : Int32, x ≤ x := fun x => by rw [ile]; omega
  exact ⟨fun w => ⟨w.1.1.2, w.1.2.2, w.2.2⟩, fun w => ⟨⟨⟨h _, w.1⟩, ⟨h _, w.2.1⟩⟩, ⟨h _, w.2.2⟩⟩⟩
theorem p_box33 {a f t : Int32} {M : xM} {post : Int32 → xM → Prop} {k : Int32 → xM → Prop} (hE : ¬ sp_wi f f t → xw_Mo_ends (-1) M post) (hN : sp_wi f f t → k 3 M) : xw_Mo_box_33 a f t post k 4 0 M := by
  unfold xw_Mo_box_33
  refine ⟨fun z => absurd z (by decide), fun _ => (w_Mo_third _ _ _ _).mpr ((w_Mo_third _ _ _ _).mpr ⟨fun h0 => ?_, fun h0 => hE (fun w => h0 (wi_self.mp w).1)⟩)⟩
  rw [show (0 : Int32) + 1 = 1 from rfl]
  unfold xw_Mo_box_33
  refine ⟨fun z => absurd z (by decide), fun _ => (w_Mo_third _ _ _ _).mpr ((w_Mo_third _ _ _ _).mpr ⟨fun h1 => ?_, fun h0 => hE (fun w => h0 (wi_self.mp w).2.1)⟩)⟩
  rw [show (1 : Int32) + 1 = 2 from rfl]
  unfold xw_Mo_box_33
  refine ⟨fun z => absurd z (by decide), fun _ => (w_Mo_third _ _ _ _).mpr ((w_Mo_third _ _ _ _).mpr ⟨fun h2 => ?_, fun h0 => hE (fun w => h0 (wi_self.mp w).2.2)⟩)⟩
  rw [show (2 : Int32) + 1 = 3 from rfl]
  unfold xw_Mo_box_33
  exact ⟨fun _ => hN (wi_self.mpr ⟨h0, h1, h2⟩), fun z => absurd (by decide) z⟩
def boxOk (nm co : Nat → Int32) (n : Nat) (a f t : Int32) : Prop := (0 ≤ a ∧ a ≤ 7) ∧ sp_col f ∧ sp_col t ∧ sp_wi f f t ∧ ∀ i, i < n → nm i = a → sp_wi (co i) f t
theorem p_CA_box {n : Nat} (hn : n ≤ 12) {M : xM} (hM : M 0 3 0 = nI n) {a f t : Int32} {post : Int32 → xM → Prop} (hB : ¬ boxOk (M 0 6) (M 0 4) n a f t → post (-1) (us M 8 0 8 (-1))) (hG : boxOk (M 0 6) (M 0 4) n a f t → post 0 (us (us (us M 0 7 a.toNatClampNeg f) 0 8 a.toNatClampNeg t) 8 0 8 0)) : xw_CA_box a f t M post := by
  unfold xw_CA_box
  refine i_nameC (xj_i (M := M) (¬ boxOk (M 0 6) (M 0 4) n a f t) (fun h => i_refd (hB h)) (fun J hJ => br' (fun h1 => i_colC (br' (fun h2 => i_colC (br' (fun h3 => i_between (br' (fun h4 => ?_) (fun h => hJ fun w => h w.2.2.2.1))) (fun h => hJ fun w => h w.2.2.1))) (fun h => hJ fun w => h w.2.1))) (fun h => hJ fun w => h w.1)))
  unfold xw_Ho_wouldLeaveOut
  refine ⟨n + 1, p_leaveOut hn hM n 0 (by omega) (fun i _ hi e w => ⟨fun z => absurd z (by decide), fun _ => hJ fun y => w (y.2.2.2.2 i hi e)⟩) (fun h => ⟨fun _ => ?_, fun z => absurd rfl z⟩)⟩
  obtain ⟨j, -, hj, rfl⟩ := nIr (l := 0) (h := 7) rfl rfl h1
  have hin : vp_in (nI j) 8 := vp_in_nI (by omega) (by omega)
  exact ⟨hin, hin, i_taken (hG ⟨h1, h2, h3, h4, fun i hi => h i (by omega) hi⟩)⟩
theorem p_Mo_box {n : Nat} (hn : n ≤ 12) {M : xM} (hM : M 9 0 9 = nI n) {a f t : Int32} {post : Int32 → xM → Prop} (hB : ¬ boxOk (M 9 8) (M 9 6) n a f t → xw_Mo_ends (-1) M post) (hG : boxOk (M 9 8) (M 9 6) n a f t → xw_Mo_ends 0 (us (us M 9 9 a.toNatClampNeg f) 9 10 a.toNatClampNeg t) post) : xw_Mo_box a f t M post := by
  unfold xw_Mo_box
  refine i_in (xj_i (M := M) (¬ boxOk (M 9 8) (M 9 6) n a f t) (fun h => hB h) (fun J hJ => br' (fun h1 => i_colM (br' (fun h2 => i_colM (br (fun h3 => ?_) (fun h => hJ fun w => h w.2.2.1))) (fun h => hJ fun w => h w.2.1))) (fun h => hJ fun w => h w.1)))
  refine ⟨4, p_box33 (fun h => hB fun w => h w.2.2.2.1) (fun h4 => ⟨n + 1, p_box69 hn hM n 0 (by omega) (fun i _ hi e w => hB fun y => w (y.2.2.2.2 i hi e)) (fun h => ?_)⟩)⟩
  obtain ⟨j, -, hj, rfl⟩ := nIr (l := 0) (h := 7) rfl rfl h1
  have hin : vp_in (nI j) 8 := vp_in_nI (by omega) (by omega)
  exact ⟨hin, hin, hG ⟨h1, h2, h3, h4, fun i hi => h i (by omega) hi⟩⟩
theorem op_box : ∀ (M : xM) (a b c : Int32), xInv M → xw_CA_box a b c M (fun r M1 => xw_Mo_box a b c M1 (fun q M2 => r = q ∧ xInv M2)) := by
  intro M a b c hI
  obtain ⟨n, q, hn, hq, ⟨n1, n2⟩, ⟨q1, q2⟩, hc, hr, hb, hp⟩ := hI.2.1.2.2
  have n1 : M 9 0 9 = nI n := n1
  have n2 : M 0 3 0 = nI n := n2
  have e : boxOk (M 0 6) (M 0 4) n a b c ↔ boxOk (M 9 8) (M 9 6) n a b c := by
    unfold boxOk
    have e1 : ∀ i, i < n → M 0 6 i = M 9 8 i := fun i hi => (hc i (by omega)).2.2
    have e2 : ∀ i, i < n → M 0 4 i = M 9 6 i := fun i hi => (hc i (by omega)).1
    refine ⟨fun w => ⟨w.1, w.2.1, w.2.2.1, w.2.2.2.1, fun i hi h => ?_⟩, fun w => ⟨w.1, w.2.1, w.2.2.1, w.2.2.2.1, fun i hi h => ?_⟩⟩
    · have := w.2.2.2.2 i hi (by rw [e1 i hi]; exact h)
      rw [e2 i hi] at this; exact this
    · rw [e2 i hi]
      exact w.2.2.2.2 i hi (by rw [← e1 i hi]; exact h)
  refine p_CA_box hn n2 (fun h => ?_) (fun h => ?_)
  · exact p_Mo_box hn (by exact n1) (fun _ => ref_Mo (by decide) hI rfl) (fun w => absurd (e.mpr w) h)
  · refine p_Mo_box hn (by exact n1) (fun w => absurd (e.mp h) w) (fun _ => ?_)
    refine i_ok ⟨0, by omega, rfl⟩ ⟨rfl, rfl, ⟨hI.2.1.1, hI.2.1.2.1, ?_⟩, hI.2.2⟩
    exact ⟨n, q, hn, hq, ⟨n1, n2⟩, ⟨q1, q2⟩, hc, hr, fun k hk => ⟨upd_cong (hb k hk).1, upd_cong (hb k hk).2⟩, hp⟩
