/-! ===== settle: the model's side, and the call ===== -/
theorem xj2 {F : (Int32 → xM → Prop) → Prop} {B : Int32 → xM → Prop} (P : Int32 → xM → Prop) (hB : ∀ v M, P v M → B v M) (hF : ∀ J : Int32 → xM → Prop, (∀ v M, P v M → J v M) → F J) : xj F B := hF B hB
theorem upd_id {f : Nat → Int32} {k : Nat} {v : Int32} (h : f k = v) : upd f k v = f := by
  funext j
  by_cases ej : j = k
  · subst ej; rw [upd_self, h]
  · rw [upd_ne _ _ ej]
theorem cn_zero : ∀ n, cn (fun _ => false) n = 0
  | 0 => rfl
  | n + 1 => by unfold cn; rw [cn_zero n]; rfl
theorem p_settle29 {M0 : xM} {e : xE} {n q L : Nat} (hm : mC M0 e n q L) (h24 : M0 9 0 24 = 0) {d : Int32} {post : Int32 → xM → Prop} {k : Int32 → Int32 → xM → Prop} : ∀ (t x : Nat) (c : Nat → Int32) (r : Nat) (s : Int32) (c' : Nat → Int32) (M : xM), stl M0 e n q L d t c r s c' → x + t ≤ 50 → (∀ k, k < 12 → sp_col (c k)) → (∀ u, ¬ u = 6 → M 9 u = M0 9 u) → (∀ k, k < 12 → M 9 6 k = c k) →
    (∀ y M', (∀ g u, ¬ g = 9 → M' g u = M g u) → (∀ u, ¬ u = 0 → ¬ u = 6 → M' 9 u = M0 9 u) → M' 9 0 = upd (M0 9 0) 24 s → (∀ k, k < 12 → M' 9 6 k = c' k) → (∀ k, k < 12 → sp_col (c' k)) → r < t → k (nI (x + r)) y M') → xw_Mo_settle_29 d post k (t + 1) (nI x) (nrst e n c d) M := by
  have hn : n ≤ 12 := hm.2.2.2.1
  have hL : 2 ≤ L := hm.2.2.2.2.2.2.2.2.2.1
  intro t
  induction t with
  | zero => intro x c r s c' M hst; exact hst.elim
  | succ t ih =>
    intro x c r s c' M hst hx hc h93 h96 h
    have hz : M 9 0 24 = 0 := by rw [h93 0 (by decide)]; exact h24
    rcases hst with ⟨h1, rfl, rfl, rfl⟩ | ⟨a, b, ha, hb, hr, w⟩
    · unfold xw_Mo_settle_29
      rw [h1]
      exact ⟨fun _ => h _ M (fun _ _ _ => rfl) (fun u h1 h2 => h93 u h2) (by rw [h93 0 (by decide), upd_id h24]) h96 hc (by omega), fun w => absurd rfl w⟩
    · have stuckstep : r = 0 ∧ s = 1 ∧ c' = c → xw_Mo_settle_29 d post k (t + 1) (nI x) (nI (a * 12 + b)) (us M 9 0 24 1) := by
        rintro ⟨rfl, rfl, rfl⟩
        unfold xw_Mo_settle_29
        refine ⟨fun w => absurd w (nI_m1 (by omega)), fun _ => ⟨fun _ => h _ _ (fun g u hg => us_ne _ _ (fun w => hg w.1)) (fun u h1 h2 => ?_) ?_ (fun k hk => ?_) hc (by omega), fun w => ?_⟩⟩
        · rw [us_ne _ _ (by omega)]; exact h93 u h2
        · rw [us_self, h93 0 (by decide)]
        · rw [us_ne _ _ (by decide)]; exact h96 k hk
        · rw [us_self, upd_self] at w; exact absurd w (by decide)
      unfold xw_Mo_settle_29
      rw [hr, show (12 : Int32) = nI 12 from rfl, pk_rem (by omega) (by omega) (by omega), pk_div (by omega) (by omega) (by omega), show (a * 12 + b) / 12 = a by omega, show (a * 12 + b) % 12 = b by omega]
      refine ⟨fun w => absurd w (nI_m1 (by omega)), fun _ => ⟨fun w => absurd hz w, fun _ => ⟨vp_in_nI (by omega) (by omega), ?_⟩⟩⟩
      rw [nI_clamp (by omega), h93 7 (by decide)]
      refine xj2 (fun v M' => M' = M ∧ ∃ i : Nat, v = nI i ∧ i < n ∧ ((M0 9 7 b = 0 ∧ i = b) ∨ (¬ M0 9 7 b = 0 ∧ i = a))) (fun v M' hP => ?_) (fun J hJ => ⟨fun z => hJ _ _ ⟨rfl, b, rfl, hb, Or.inl ⟨z, rfl⟩⟩, fun z => hJ _ _ ⟨rfl, a, rfl, by omega, Or.inr ⟨z, rfl⟩⟩⟩)
      obtain ⟨hM', i, rfl, hi, hor⟩ := hP
      rw [hM']
      refine xj2 (fun v M' => (v = 1 ∧ M' = M ∧ r = 0 ∧ s = 1 ∧ c' = c) ∨ (v = 0 ∧ ∃ f r1, M' = us M 9 6 i f ∧ sp_col f ∧ r = r1 + 1 ∧ stl M0 e n q L d t (upd c i f) r1 s c')) (fun v M' hP => ?_) (fun J hJ => xj_i (M := M) (r = 0 ∧ s = 1 ∧ c' = c) (fun hq => hJ 1 M (Or.inl ⟨rfl, rfl, hq⟩)) (fun J4 hJ4 => ⟨fun z => absurd ((nI_eq (b := 50) (by omega) (by omega)).mp z) (by omega), fun _ => ⟨vp_in_nI (by omega) (by omega), ?_⟩⟩))
      · rcases hP with ⟨rfl, hMM, hq⟩ | ⟨rfl, f, r1, hMM, hfc, hr1, hst'⟩
        · rw [hMM]
          exact ⟨by decide, fun w => absurd (by rw [us_self, upd_self] at w; exact w) (show ¬ (1 : Int32) = 0 by decide), fun _ => stuckstep hq⟩
        · rw [hMM, us_id (show us M 9 6 i f 9 0 24 = 0 by rw [us_ne _ _ (by decide)]; exact hz)]
          have g93 : ∀ u, ¬ u = 6 → us M 9 6 i f 9 u = M0 9 u := fun u hu => by rw [us_ne _ _ (by omega)]; exact h93 u hu
          have g96 : ∀ k, k < 12 → us M 9 6 i f 9 6 k = upd c i f k := fun k hk => by rw [us_self]; exact upd_cong (h96 k hk)
          refine ⟨by decide, fun _ => p_nearest hm g93 g96 ?_, fun w => absurd (show us M 9 6 i f 9 0 24 = 0 by rw [us_ne _ _ (by decide)]; exact hz) w⟩
          rw [nI_1]
          refine ih (x + 1) (upd c i f) r1 s c' _ hst' (by omega) (fun k hk => upd_pred (P := sp_col) hfc (hc k hk)) g93 g96 (fun y M'' k1 k2 k3 k4 k5 k6 => ?_)
          rw [show x + 1 + r1 = x + r by omega]
          exact h y M'' (fun g u hg => by rw [k1 g u hg, us_ne _ _ (fun w => hg w.1)]) k2 k3 k4 k5 (by omega)
      · rw [nI_clamp (by omega), h93 7 (by decide)]
        rcases w with ⟨zb, za, hq⟩ | ⟨i', hor', hfr, f, l, hR, w⟩
        · have hfx : ¬ M0 9 7 i = 0 := by
            rcases hor with ⟨-, rfl⟩ | ⟨-, rfl⟩
            · exact zb
            · exact za
          exact ⟨fun _ => hJ4 hq, fun w => absurd w hfx⟩
        · have ei : i' = i := by
            rcases hor with ⟨z, rfl⟩ | ⟨z, rfl⟩
            · rcases hor' with ⟨-, w⟩ | ⟨w, -⟩
              · exact w
              · exact absurd z w
            · rcases hor' with ⟨w, -⟩ | ⟨-, w⟩
              · exact absurd w z
              · exact w
          rw [ei] at hfr hR w
          refine ⟨fun z => absurd hfr z, fun _ => p_moves hm hi hc h93 h96 (fun f' l' hR' => ?_)⟩
          obtain ⟨u1, u2⟩ := isR.uniq hR hR'
          subst u1
          refine ⟨fun hf => ?_, fun hf => ?_⟩
          · have el : l' = -1 := by
              rcases u2 with ⟨-, -, w⟩ | ⟨-, p, p1, p2, p3, -⟩
              · exact w
              · exact absurd (p3.symm.trans hf) (col_ne (cnd_col hL (hc i (by omega)) p1))
            rw [el]
            refine ⟨fun w => absurd rfl w, fun _ => hJ4 ?_⟩
            rcases w with ⟨-, w⟩ | ⟨w, -⟩
            · exact w
            · exact absurd hf w
          · obtain ⟨j, hj, ej⟩ := mvR_l hm.1 hR' hf
            refine ⟨fun _ => hJ 0 _ (Or.inr ⟨rfl, ?_⟩), fun w => absurd w (by rw [ej]; exact nI_m1 (by omega))⟩
            rcases w with ⟨w, -⟩ | ⟨-, r1, w1, w2⟩
            · exact absurd w hf
            · exact ⟨f, r1, rfl, (mvR_col hL (hc i (by omega)) hR hf).1, w1, w2⟩
theorem op_settle : ∀ (M : xM) (a : Int32), xInv M → xw_CA_settle a M (fun r M1 => xw_Mo_settle a M1 (fun q M2 => r = q ∧ xInv M2)) := by
  intro M d hI
  obtain ⟨e, n, q, L, hm⟩ := mC.of hI.2.1
  have hn : n ≤ 12 := hm.2.2.2.1
  obtain ⟨n', q', hn', hq', -, -, hcc, hr, -, -⟩ := hI.2.1.2.2
  have hcol : ∀ k, k < 12 → sp_col (M 9 6 k) := fun k hk => (hr k hk).1
  have h46 : ∀ k, k < 12 → M 0 4 k = M 9 6 k := fun k hk => (hcc k hk).1
  have hm0 : mC (us M 8 11 2 0) e n q L := hm
  have hmB : mC (us M 9 0 24 0) e n q L := hm
  unfold xw_CA_settle
  refine i_least (br' (fun h1 => ?_) (fun h1 => i_refd ?_))
  · unfold xw_Mv_moveAll xw_Mv_lookAtHouse
    refine ⟨n + 1, p_lookHouse hm0 (c := M 9 6) n 0 _ (by omega) ⟨fun _ _ _ _ => rfl, h46, fun k hk => absurd hk (by omega), hcol⟩ (fun M1 hS1 => ⟨n + 1, p_moveAll12 hm0 rfl n 0 (M 9 6) (fun _ => false) M1 (by rw [cn_zero]; omega) (by omega) (fun i _ w => by cases w) hS1 (fun r s c' M' hst hS' => i_taken ?_)⟩)⟩
    have g9 : ∀ u, (us (us M' 8 11 2 s) 8 0 8 0) 9 u = M 9 u := fun u => by
      rw [us_ne _ _ (by omega), us_ne _ _ (by omega), hS'.1 9 u (by omega) (by omega), us_ne _ _ (by omega)]
    refine i_in (br (fun _ => ?_) (fun w => absurd h1 w))
    have h93 : ∀ u, ¬ u = 6 → (us (us (us M' 8 11 2 s) 8 0 8 0) 9 0 24 0) 9 u = us M 9 0 24 0 9 u := fun u _ => by
      by_cases eu : u = 0
      · subst eu; rw [us_self, us_self, g9]
      · rw [us_ne _ _ (by omega), g9, us_ne _ _ (by omega)]
    have h96 : ∀ k, k < 12 → (us (us (us M' 8 11 2 s) 8 0 8 0) 9 0 24 0) 9 6 k = M 9 6 k := fun k _ => by
      rw [us_ne _ _ (by decide), g9]
    have hst' : stl (us M 9 0 24 0) e n q L d (n + 1) (M 9 6) r s c' := stl_to (M := us M 8 11 2 0) (fun t h1 h2 => by rw [us_ne _ _ (by omega), us_ne _ _ (by omega)]) e n q L d _ _ _ _ _ hst
    refine p_nearest hmB h93 h96 ⟨n + 1 + 1, p_settle29 hmB rfl (n + 1) 0 (M 9 6) r s c' _ hst' (by omega) hcol h93 h96 (fun y M2 k1 k2 k3 k4 k5 k6 => i_ok ⟨0 + r, by omega, rfl⟩ ⟨rfl, ?_⟩)⟩
    refine hI.col (c := c') ?_ (fun t ht => ?_) (fun g t h1 h2 => ?_) (fun t ht => ?_) ?_ (fun t h1 h2 => ?_) (fun k h1 h2 => ?_) (fun k hk => ?_) (fun k hk => ?_) k5
    · rw [us_ne _ _ (by decide), us_self, upd_self, k1 8 0 (by decide), us_ne _ _ (by decide), us_self, upd_self]
    · rw [us_ne _ _ (by omega), k1 0 t (by decide), us_ne _ _ (by omega), us_ne _ _ (by omega), us_ne _ _ (by omega), hS'.1 0 t (by omega) (by omega), us_ne _ _ (by omega)]
    · rw [us_ne _ _ (by omega), k1 g t (by omega), us_ne _ _ (by omega), us_ne _ _ (by omega), us_ne _ _ (by omega), hS'.1 g t (by omega) (by omega), us_ne _ _ (by omega)]
    · rw [us_ne _ _ (by omega), k1 8 t (by decide), us_ne _ _ (by omega), us_ne _ _ (by omega), us_ne _ _ (by omega), hS'.1 8 t (by omega) (by omega), us_ne _ _ (by omega)]
    · rw [us_ne _ _ (by decide), k1 8 11 (by decide), us_ne _ _ (by decide), us_ne _ _ (by decide), us_self, upd_self, us_self, upd_ne _ _ (by decide), k3, upd_self]
    · rw [us_ne _ _ (by omega), k2 t (by omega) h2, us_ne _ _ (by omega)]
    · rw [us_self, upd_ne _ _ (by omega), k3, upd_ne _ _ h2, us_self, upd_ne _ _ h2]
    · rw [us_ne _ _ (by decide), k1 0 4 (by decide), us_ne _ _ (by decide), us_ne _ _ (by decide), us_ne _ _ (by decide)]
      exact hS'.2.1 k hk
    · rw [us_ne _ _ (by decide)]
      exact k4 k hk
  · exact i_in (br (fun w => absurd w h1) (fun _ => ref_Mo (by decide) hI rfl))
