/-! ===== the model's images ===== -/
/-- what was put away so far: cells, lengths, places -/
def kp (M0 M : xM) (b p : Nat) (S : List (Nat × Nat × Nat)) : Prop := (∀ g, ¬ g = 9 → M g = M0 g) ∧ (∀ i, ¬ i = 0 → ¬ i = 20 → M 9 i = M0 9 i) ∧ (∀ j, ¬ j = 29 → M 9 0 j = M0 9 0 j) ∧ M 9 0 29 = nI (b + p) ∧ (∀ j, (j < b ∨ b + p ≤ j) → M 9 20 j = M0 9 20 j) ∧ ∀ x, x ∈ S → x.2.2 + x.2.1 ≤ p ∧ ∀ j, j < x.2.1 → M 9 20 (b + x.2.2 + j) = M0 9 x.1 j
theorem p_keeps_loop {i n b : Nat} (hb : b + n ≤ 600) (hi : ¬ i = 20) {post : xM → Prop} {k : Int32 → xM → Prop} : ∀ (m j : Nat) (M : xM), j + m = n → M 9 0 29 = nI b →
    (∀ M', (∀ g, ¬ g = 9 → M' g = M g) → (∀ t, ¬ t = 20 → M' 9 t = M 9 t) → (∀ t, (t < b + j ∨ b + n ≤ t) → M' 9 20 t = M 9 20 t) → (∀ t, j ≤ t → t < n → M' 9 20 (b + t) = M 9 i t) → k (nI n) M') → xw_Mo_keeps_2 9 i n (nI n) post k (m + 1) (nI j) M := by
  intro m
  induction m with
  | zero =>
    intro j M hj hM h
    obtain rfl : j = n := by omega
    unfold xw_Mo_keeps_2
    exact ⟨fun _ => h M (fun _ _ => rfl) (fun _ _ => rfl) (fun _ _ => rfl) (fun t h1 h2 => by omega), fun z => absurd (nI_le (Nat.le_refl _) (by omega)) z⟩
  | succ m ih =>
    intro j M hj hM h
    unfold xw_Mo_keeps_2
    rw [hM, nI_add, nI_clamp (by omega), nI_clamp (by omega), nI_1]
    refine ⟨fun z => absurd ((nI_leI (by omega) (by omega)).mp z) (by omega), fun _ => ⟨vp_in_nI (by omega) (by omega), vp_in_nI (by omega) (by omega), ih (j + 1) _ (by omega) hM (fun M' a1 a2 a3 a4 => h M' (fun g hg => ?_) (fun t ht => ?_) (fun t ht => ?_) (fun t t1 t2 => ?_))⟩⟩
    · rw [a1 g hg, us_g _ hg]
    · rw [a2 t ht, us_i _ ht]
    · rw [a3 t (by omega), us_k _ (by omega)]
    · by_cases e : t = j
      · subst e
        rw [a3 _ (by omega), us_v]
      · rw [a4 t (by omega) t2, us_i _ hi]
theorem p_keeps {M0 M : xM} {b p i n : Nat} {S : List (Nat × Nat × Nat)} (hK : kp M0 M b p S) (hb : b + p + n ≤ 600) (hi : ¬ i = 20) (hi0 : ¬ i = 0) {post : xM → Prop} (h : ∀ M', kp M0 M' b (p + n) ((i, n, p) :: S) → post M') : xw_Mo_keeps 9 i n (nI n) M post := by
  obtain ⟨k1, k2, k3, k4, k5, k6⟩ := hK
  unfold xw_Mo_keeps
  refine ⟨n + 1, p_keeps_loop (b := b + p) (by omega) hi n 0 M (by omega) k4 (fun M' a1 a2 a3 a4 => ?_)⟩
  have e29 : M' 9 0 29 = nI (b + p) := by rw [a2 0 (by decide)]; exact k4
  rw [e29, nI_add]
  refine h _ ⟨fun g hg => ?_, fun i' h0 h20 => ?_, fun j hj => ?_, ?_, fun j hj => ?_, fun x hx => ?_⟩
  · rw [us_g _ hg, a1 g hg, k1 g hg]
  · rw [us_i _ h0, a2 i' h20, k2 i' h0 h20]
  · rw [us_k _ hj, a2 0 (by decide), k3 j hj]
  · rw [us_v]; congr 1; omega
  · rw [us_i _ (by decide), a3 j (by omega), k5 j (by omega)]
  · rcases List.mem_cons.mp hx with e | hx
    · subst e
      refine ⟨Nat.le_refl _, fun j hj => ?_⟩
      have hj : j < n := hj
      rw [us_i _ (by decide)]
      show M' 9 20 (b + p + j) = M0 9 i j
      rw [a4 j (by omega) hj, k2 i hi0 hi]
    · obtain ⟨w1, w2⟩ := k6 x hx
      refine ⟨by omega, fun j hj => ?_⟩
      rw [us_i _ (by decide), a3 _ (by omega)]
      exact w2 j hj
/-- the flags -/
theorem p_image122 {M0 : xM} {b p : Nat} (hb : b + p + 12 ≤ 600) (hf : ∀ t, t < 12 → M0 9 7 t = 0 ∨ M0 9 7 t = 1) {post : Int32 → xM → Prop} {k : Int32 → xM → Prop} : ∀ (m j : Nat) (M : xM), j + m = 12 → M 9 0 29 = nI (b + p) → M 9 7 = M0 9 7 →
    (∀ M', (∀ g, ¬ g = 9 → M' g = M g) → (∀ t, ¬ t = 20 → M' 9 t = M 9 t) → (∀ t, (t < b + p + j ∨ b + p + 12 ≤ t) → M' 9 20 t = M 9 20 t) → (∀ t, j ≤ t → t < 12 → M' 9 20 (b + p + t) = M0 9 7 t) → k (nI 12) M') → xw_Mo_image_122 post k (m + 1) (nI j) M := by
  intro m
  induction m with
  | zero =>
    intro j M hj hM h7 h
    obtain rfl : j = 12 := by omega
    unfold xw_Mo_image_122
    exact ⟨fun _ => h M (fun _ _ => rfl) (fun _ _ => rfl) (fun _ _ => rfl) (fun t h1 h2 => by omega), fun z => absurd (by decide) z⟩
  | succ m ih =>
    intro j M hj hM h7 h
    have step : ∀ v : Int32, v = M0 9 7 j → xw_Mo_image_122 post k (m + 1) (nI (j + 1)) (us M 9 20 (b + p + j) v) := by
      intro v hv
      refine ih (j + 1) _ (by omega) hM h7 (fun M' a1 a2 a3 a4 => h M' (fun g hg => ?_) (fun t ht => ?_) (fun t ht => ?_) (fun t t1 t2 => ?_))
      · rw [a1 g hg, us_g _ hg]
      · rw [a2 t ht, us_i _ ht]
      · rw [a3 t (by omega), us_k _ (by omega)]
      · by_cases e : t = j
        · subst e
          rw [a3 _ (by omega), us_v, hv]
        · exact a4 t (by omega) t2
    unfold xw_Mo_image_122
    rw [hM, nI_add, nI_clamp (by omega), nI_clamp (by omega), nI_1, h7]
    have hin : vp_in (nI (b + p + j)) 600 := vp_in_nI (by omega) (by omega)
    refine ⟨fun z => absurd ((nI_leI (a := 12) (by omega) (by omega)).mp z) (by omega), fun _ => ⟨vp_in_nI (by omega) (by omega), fun z => ⟨hin, step 0 z.symm⟩, fun z => ⟨hin, step 1 ((hf j (by omega)).resolve_left z).symm⟩⟩⟩
/-- the whole of image k, on the model's side -/
theorem p_Mo_image {M : xM} {k : Nat} (hk : k < 3) (hf : ∀ t, t < 12 → M 9 7 t = 0 ∨ M 9 7 t = 1) {post : Int32 → xM → Prop} (h : ∀ M', (∀ g, ¬ g = 9 → M' g = M g) → (∀ i, ¬ i = 0 → ¬ i = 19 → ¬ i = 20 → M' 9 i = M 9 i) → (∀ j, ¬ j = 29 → M' 9 0 j = M 9 0 j) → M' 9 19 = upd (M 9 19) k 1 → (∀ j, (j < 200 * k ∨ 200 * k + 159 ≤ j) → M' 9 20 j = M 9 20 j) → agM (mv M) (iv M' (200 * k)) → xw_Mo_ends 0 M' post) : xw_Mo_image (nI k) M post := by
  have hin : vp_in (nI k) 3 := vp_in_nI (by omega) (by omega)
  have hb : 200 * k ≤ 400 := by omega
  have rg : (0 : Int32) ≤ nI k ∧ nI k ≤ 2 := ⟨nI_pos' (by omega), nI_le (b := 2) (by omega) (by omega)⟩
  unfold xw_Mo_image
  refine i_in (br (fun _ => ⟨hin, ?_⟩) (fun z => absurd rg z))
  rw [nI_clamp (by omega), show (200 : Int32) = nI 200 from rfl, pk_mul]
  let M0 : xM := us (us M 9 19 k (1 : Int32)) 9 0 29 (nI (200 * k))
  have K0 : kp M0 M0 (200 * k) 0 [] := ⟨fun _ _ => rfl, fun _ _ _ => rfl, fun _ _ => rfl, us_v _ _ _ _ _, fun _ _ => rfl, fun x hx => absurd hx (by simp)⟩
  refine p_keeps (n := 12) K0 (by omega) (by decide) (by decide) (fun M1 K1 => ?_)
  refine p_keeps (n := 12) K1 (by omega) (by decide) (by decide) (fun M2 K2 => ?_)
  refine p_keeps (n := 8) K2 (by omega) (by decide) (by decide) (fun M3 K3 => ?_)
  refine p_keeps (n := 8) K3 (by omega) (by decide) (by decide) (fun M4 K4 => ?_)
  refine p_keeps (n := 20) K4 (by omega) (by decide) (by decide) (fun M5 K5 => ?_)
  refine p_keeps (n := 20) K5 (by omega) (by decide) (by decide) (fun M6 K6 => ?_)
  refine p_keeps (n := 20) K6 (by omega) (by decide) (by decide) (fun M7 K7 => ?_)
  refine p_keeps (n := 27) K7 (by omega) (by decide) (by decide) (fun M8 K8 => ?_)
  refine p_keeps (n := 3) K8 (by omega) (by decide) (by decide) (fun M9 K9 => ?_)
  obtain ⟨k1, k2, k3, k4, k5, k6⟩ : kp M0 M9 (200 * k) 130 [(5, 3, 127), (4, 27, 100), (13, 20, 80), (12, 20, 60), (11, 20, 40), (10, 8, 32), (9, 8, 24), (8, 12, 12), (6, 12, 0)] := K9
  have m7 : M0 9 7 = M 9 7 := rfl
  refine ⟨13, p_image122 (M0 := M0) (b := 200 * k) (p := 130) (by omega) (fun t ht => by rw [m7]; exact hf t ht) 12 0 M9 (by omega) k4 (k2 7 (by decide) (by decide)) (fun M' a1 a2 a3 a4 => ?_)⟩
  have e29 : M' 9 0 29 = nI (200 * k + 130) := by rw [a2 0 (by decide)]; exact k4
  have e0 : ∀ j, ¬ j = 29 → M' 9 0 j = M 9 0 j := fun j hj => by
    rw [a2 0 (by decide), k3 j hj]
    show us _ 9 0 29 _ 9 0 j = _
    rw [us_k _ hj]
    rfl
  show vp_in (M' 9 0 29 + 12) 600 ∧ vp_in (M' 9 0 29 + 13) 600 ∧ vp_in (M' 9 0 29 + 14) 600 ∧ vp_in (M' 9 0 29 + 15) 600 ∧ vp_in (M' 9 0 29 + 16) 600 ∧ xw_Mo_ends 0 (us (us (us (us (us M' 9 20 (M' 9 0 29 + 12).toNatClampNeg (M' 9 0 9)) 9 20 (M' 9 0 29 + 13).toNatClampNeg (M' 9 0 10)) 9 20 (M' 9 0 29 + 14).toNatClampNeg (M' 9 0 5)) 9 20 (M' 9 0 29 + 15).toNatClampNeg (M' 9 0 6)) 9 20 (M' 9 0 29 + 16).toNatClampNeg (M' 9 0 7)) _
  rw [e29, show (12 : Int32) = nI 12 from rfl, show (13 : Int32) = nI 13 from rfl, show (14 : Int32) = nI 14 from rfl, show (15 : Int32) = nI 15 from rfl, show (16 : Int32) = nI 16 from rfl, nI_add, nI_add, nI_add, nI_add, nI_add, nI_clamp (by omega), nI_clamp (by omega), nI_clamp (by omega), nI_clamp (by omega), nI_clamp (by omega), e0 9 (by decide), e0 10 (by decide), e0 5 (by decide), e0 6 (by decide), e0 7 (by decide)]
  refine ⟨vp_in_nI (by omega) (by omega), vp_in_nI (by omega) (by omega), vp_in_nI (by omega) (by omega), vp_in_nI (by omega) (by omega), vp_in_nI (by omega) (by omega), h _ (fun g hg => ?_) (fun i i0 i19 i20 => ?_) (fun j hj => ?_) ?_ (fun j hj => ?_) ?_⟩
  · simp only [us_g _ hg]
    rw [a1 g hg, k1 g hg]
    show us (us M 9 19 k 1) 9 0 29 _ g = M g
    simp only [us_g _ hg]
  · simp only [us_i _ i20]
    rw [a2 i i20, k2 i i0 i20]
    show us (us M 9 19 k 1) 9 0 29 _ 9 i = M 9 i
    rw [us_i _ i0, us_i _ i19]
  · simp only [us_i _ (show ¬ 0 = 20 by decide)]
    exact e0 j hj
  · simp only [us_i _ (show ¬ 19 = 20 by decide)]
    rw [a2 19 (by decide), k2 19 (by decide) (by decide)]
    show us (us M 9 19 k 1) 9 0 29 _ 9 19 = _
    rw [us_i _ (by decide), us_self]
  · rw [us_k _ (by omega), us_k _ (by omega), us_k _ (by omega), us_k _ (by omega), us_k _ (by omega), a3 j (by omega), k5 j (by omega)]
    rfl
  · have lo : ∀ t, t < 142 → us (us (us (us (us M' 9 20 (200 * k + 130 + 12) (M 9 0 9)) 9 20 (200 * k + 130 + 13) (M 9 0 10)) 9 20 (200 * k + 130 + 14) (M 9 0 5)) 9 20 (200 * k + 130 + 15) (M 9 0 6)) 9 20 (200 * k + 130 + 16) (M 9 0 7) 9 20 (200 * k + t) = M' 9 20 (200 * k + t) := by
      intro t ht
      rw [us_k _ (by omega), us_k _ (by omega), us_k _ (by omega), us_k _ (by omega), us_k _ (by omega)]
    have lo2 : ∀ t, t < 130 → M' 9 20 (200 * k + t) = M9 9 20 (200 * k + t) := fun t ht => a3 _ (by omega)
    have mc : ∀ i, ¬ i = 0 → ¬ i = 19 → M0 9 i = M 9 i := fun i i0 i19 => by
      show us (us M 9 19 k 1) 9 0 29 _ 9 i = M 9 i
      rw [us_i _ i0, us_i _ i19]
    have get : ∀ (i n p : Nat), (i, n, p) ∈ [(5, 3, 127), (4, 27, 100), (13, 20, 80), (12, 20, 60), (11, 20, 40), (10, 8, 32), (9, 8, 24), (8, 12, 12), (6, 12, 0)] → ∀ j, j < n → p + n ≤ 130 → ¬ i = 0 → ¬ i = 19 → us (us (us (us (us M' 9 20 (200 * k + 130 + 12) (M 9 0 9)) 9 20 (200 * k + 130 + 13) (M 9 0 10)) 9 20 (200 * k + 130 + 14) (M 9 0 5)) 9 20 (200 * k + 130 + 15) (M 9 0 6)) 9 20 (200 * k + 130 + 16) (M 9 0 7) 9 20 (200 * k + p + j) = M 9 i j := by
      intro i n p hx j hj hp i0 i19
      rw [Nat.add_assoc (200 * k) p j, lo (p + j) (by omega), lo2 (p + j) (by omega), ← Nat.add_assoc (200 * k) p j, ← mc i i0 i19]
      exact (k6 (i, n, p) hx).2 j hj
    refine ⟨fun j hj => ⟨?_, ?_, ?_⟩, fun j hj => ⟨?_, ?_⟩, fun j hj => ⟨?_, ?_, ?_⟩, fun j hj => ?_, fun j hj => ?_, fun j hj => ?_⟩
    · exact get 6 12 0 (by simp) j hj (by decide) (by decide) (by decide)
    · exact get 8 12 12 (by simp) j hj (by decide) (by decide) (by decide)
    · show us _ 9 20 _ _ 9 20 (200 * k + 130 + j) = M 9 7 j
      rw [Nat.add_assoc (200 * k) 130 j, lo (130 + j) (by omega), ← Nat.add_assoc (200 * k) 130 j, a4 j (by omega) hj]
      rfl
    · exact get 9 8 24 (by simp) j hj (by decide) (by decide) (by decide)
    · exact get 10 8 32 (by simp) j hj (by decide) (by decide) (by decide)
    · exact get 11 20 40 (by simp) j hj (by decide) (by decide) (by decide)
    · exact get 12 20 60 (by simp) j hj (by decide) (by decide) (by decide)
    · exact get 13 20 80 (by simp) j hj (by decide) (by decide) (by decide)
    · exact get 4 27 100 (by simp) j hj (by decide) (by decide) (by decide)
    · exact get 5 3 127 (by simp) j hj (by decide) (by decide) (by decide)
    · show us _ 9 20 _ _ 9 20 (200 * k + 142 + j) = _
      rcases (show j = 0 ∨ j = 1 ∨ j = 2 ∨ j = 3 ∨ j = 4 by omega) with rfl | rfl | rfl | rfl | rfl
      · rw [us_k _ (by omega), us_k _ (by omega), us_k _ (by omega), us_k _ (by omega), us_v]; rfl
      · rw [us_k _ (by omega), us_k _ (by omega), us_k _ (by omega), us_v]; rfl
      · rw [us_k _ (by omega), us_k _ (by omega), us_v]; rfl
      · rw [us_k _ (by omega), us_v]; rfl
      · rw [us_v]; rfl
