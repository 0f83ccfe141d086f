/-! ===== brought back ===== -/
def bk (M0 M : xM) (b p : Nat) (S : List (Nat × Nat × Nat)) : Prop := (∀ g, ¬ g = 9 → M g = M0 g) ∧ (∀ i, ¬ i = 0 → (∀ x, x ∈ S → ¬ i = x.1) → M 9 i = M0 9 i) ∧ (∀ j, ¬ j = 29 → M 9 0 j = M0 9 0 j) ∧ M 9 0 29 = nI (b + p) ∧ (∀ x, x ∈ S → ¬ x.1 = 20 ∧ ¬ x.1 = 0) ∧ ∀ x, x ∈ S → ∀ j, j < x.2.1 → M 9 x.1 j = M0 9 20 (b + x.2.2 + j)
theorem p_brings_loop {i n b : Nat} (hb : b + n ≤ 600) (hi : ¬ i = 20) (hi0 : ¬ i = 0) {post : xM → Prop} {k : Int32 → xM → Prop} : ∀ (m j : Nat) (M : xM), j + m = n → M 9 0 29 = nI b →
    (∀ M', (∀ g, ¬ g = 9 → M' g = M g) → (∀ t, ¬ t = i → M' 9 t = M 9 t) → (∀ t, t < j → M' 9 i t = M 9 i t) → (∀ t, j ≤ t → t < n → M' 9 i t = M 9 20 (b + t)) → k (nI n) M') → xw_Mo_brings_2 9 i n (nI n) post k (m + 1) (nI j) M := by
  intro m
  induction m with
  | zero =>
    intro j M hj hM h
    obtain rfl : j = n := by omega
    unfold xw_Mo_brings_2
    exact ⟨fun _ => h M (fun _ _ => rfl) (fun _ _ => rfl) (fun _ _ => rfl) (fun t h1 h2 => by omega), fun z => absurd (nI_le (Nat.le_refl _) (by omega)) z⟩
  | succ m ih =>
    intro j M hj hM h
    unfold xw_Mo_brings_2
    rw [hM, nI_add, nI_clamp (by omega), nI_clamp (by omega), nI_1]
    refine ⟨fun z => absurd ((nI_leI (by omega) (by omega)).mp z) (by omega), fun _ => ⟨vp_in_nI (by omega) (by omega), vp_in_nI (by omega) (by omega), ih (j + 1) _ (by omega) ?_ (fun M' a1 a2 a3 a4 => h M' (fun g hg => ?_) (fun t ht => ?_) (fun t ht => ?_) (fun t t1 t2 => ?_))⟩⟩
    · rw [us_i _ (fun z => hi0 z.symm)]; exact hM
    · rw [a1 g hg, us_g _ hg]
    · rw [a2 t ht, us_i _ ht]
    · rw [a3 t (by omega), us_k _ (by omega)]
    · by_cases e : t = j
      · subst e
        rw [a3 _ (by omega), us_v]
      · rw [a4 t (by omega) t2, us_i _ (fun z => hi z.symm)]
theorem p_brings {M0 M : xM} {b p i n : Nat} {S : List (Nat × Nat × Nat)} (hK : bk M0 M b p S) (hb : b + p + n ≤ 600) (hi : ¬ i = 20) (hi0 : ¬ i = 0) (hS : ∀ x, x ∈ S → ¬ i = x.1) {post : xM → Prop} (h : ∀ M', bk M0 M' b (p + n) ((i, n, p) :: S) → post M') : xw_Mo_brings 9 i n (nI n) M post := by
  obtain ⟨k1, k2, k3, k4, k5, k6⟩ := hK
  unfold xw_Mo_brings
  refine ⟨n + 1, p_brings_loop (b := b + p) (by omega) hi hi0 n 0 M (by omega) k4 (fun M' a1 a2 a3 a4 => ?_)⟩
  have e29 : M' 9 0 29 = nI (b + p) := by rw [a2 0 (fun z => hi0 z.symm)]; exact k4
  have e20 : M 9 20 = M0 9 20 := k2 20 (by decide) (fun x hx z => (k5 x hx).1 z.symm)
  rw [e29, nI_add]
  refine h _ ⟨fun g hg => ?_, fun i' h0 hs => ?_, fun j hj => ?_, ?_, fun x hx => ?_, fun x hx => ?_⟩
  · rw [us_g _ hg, a1 g hg, k1 g hg]
  · rw [us_i _ h0, a2 i' (hs (i, n, p) List.mem_cons_self), k2 i' h0 (fun x hx => hs x (List.mem_cons_of_mem _ hx))]
  · rw [us_k _ hj, a2 0 (fun z => hi0 z.symm), k3 j hj]
  · rw [us_v]; congr 1; omega
  · rcases List.mem_cons.mp hx with e | hx
    · subst e; exact ⟨hi, hi0⟩
    · exact k5 x hx
  · rcases List.mem_cons.mp hx with e | hx
    · subst e
      intro j hj
      have hj : j < n := hj
      show us _ 9 0 29 _ 9 i j = M0 9 20 (b + p + j)
      rw [us_i _ hi0, a4 j (by omega) hj, e20]
    · intro j hj
      rw [us_i _ (k5 x hx).2, a2 _ (fun z => hS x hx z.symm)]
      exact k6 x hx j hj
theorem p_back131 {b : Nat} (hb : b + 12 ≤ 600) {post : Int32 → xM → Prop} {k : Int32 → xM → Prop} : ∀ (m j : Nat) (M : xM), j + m = 12 → M 9 0 29 = nI b → (∀ t, t < 12 → M 9 20 (b + t) = 0 ∨ M 9 20 (b + t) = 1) →
    (∀ M', (∀ g, ¬ g = 9 → M' g = M g) → (∀ t, ¬ t = 7 → M' 9 t = M 9 t) → (∀ t, t < j → M' 9 7 t = M 9 7 t) → (∀ t, j ≤ t → t < 12 → M' 9 7 t = M 9 20 (b + t)) → k (nI 12) M') → xw_Mo_back_131 post k (m + 1) (nI j) M := by
  intro m
  induction m with
  | zero =>
    intro j M hj hM hf h
    obtain rfl : j = 12 := by omega
    unfold xw_Mo_back_131
    exact ⟨fun _ => h M (fun _ _ => rfl) (fun _ _ => rfl) (fun _ _ => rfl) (fun t h1 h2 => by omega), fun z => absurd (by decide) z⟩
  | succ m ih =>
    intro j M hj hM hf h
    have step : ∀ v : Int32, v = M 9 20 (b + j) → xw_Mo_back_131 post k (m + 1) (nI (j + 1)) (us M 9 7 j v) := by
      intro v hv
      refine ih (j + 1) _ (by omega) hM hf (fun M' a1 a2 a3 a4 => h M' (fun g hg => ?_) (fun t ht => ?_) (fun t ht => ?_) (fun t t1 t2 => ?_))
      · rw [a1 g hg, us_g _ hg]
      · rw [a2 t ht, us_i _ ht]
      · rw [a3 t (by omega), us_k _ (by omega)]
      · by_cases e : t = j
        · subst e
          rw [a3 _ (by omega), us_v, hv]
        · rw [a4 t (by omega) t2, us_i _ (by decide)]
    unfold xw_Mo_back_131
    rw [hM, nI_add, nI_clamp (by omega), nI_clamp (by omega), nI_1]
    have hin : vp_in (nI j) 12 := vp_in_nI (by omega) (by omega)
    refine ⟨fun z => absurd ((nI_leI (a := 12) (by omega) (by omega)).mp z) (by omega), fun _ => ⟨vp_in_nI (by omega) (by omega), fun z => ⟨hin, step 0 ((hf j (by omega)).resolve_right z).symm⟩, fun z => ⟨hin, step 1 z.symm⟩⟩⟩
theorem p_Mo_back {M : xM} {k : Nat} (hk : k < 3) (hkept : ¬ M 9 19 k = 0) (hf : ∀ t, t < 12 → M 9 20 (200 * k + 130 + t) = 0 ∨ M 9 20 (200 * k + 130 + t) = 1) {post : Int32 → xM → Prop} (h : ∀ M', (∀ g, ¬ g = 9 → M' g = M g) → (∀ i, ¬ i = 0 → ¬ (4 ≤ i ∧ i ≤ 13) → M' 9 i = M 9 i) → (∀ j, ¬ j = 29 → ¬ j = 9 → ¬ j = 10 → ¬ j = 5 → ¬ j = 6 → ¬ j = 7 → M' 9 0 j = M 9 0 j) → agM (iv M (200 * k)) (mv M') → xw_Mo_ends 0 M' post) : xw_Mo_back (nI k) M post := by
  have hin : vp_in (nI k) 3 := vp_in_nI (by omega) (by omega)
  have hb : 200 * k ≤ 400 := by omega
  have rg : (0 : Int32) ≤ nI k ∧ nI k ≤ 2 := ⟨nI_pos' (by omega), nI_le (b := 2) (by omega) (by omega)⟩
  unfold xw_Mo_back
  refine i_in (br (fun _ => ⟨hin, ?_⟩) (fun z => absurd rg z))
  rw [nI_clamp (by omega), show (200 : Int32) = nI 200 from rfl, pk_mul]
  refine ⟨fun _ => ?_, fun z => absurd z hkept⟩
  let M0 : xM := us M 9 0 29 (nI (200 * k))
  have K0 : bk M0 M0 (200 * k) 0 [] := ⟨fun _ _ => rfl, fun _ _ _ => rfl, fun _ _ => rfl, us_v _ _ _ _ _, fun x hx => absurd hx (by simp), fun x hx => absurd hx (by simp)⟩
  refine p_brings (n := 12) K0 (by omega) (by decide) (by decide) (by simp) (fun M1 K1 => ?_)
  refine p_brings (n := 12) K1 (by omega) (by decide) (by decide) (by simp) (fun M2 K2 => ?_)
  refine p_brings (n := 8) K2 (by omega) (by decide) (by decide) (by simp) (fun M3 K3 => ?_)
  refine p_brings (n := 8) K3 (by omega) (by decide) (by decide) (by simp) (fun M4 K4 => ?_)
  refine p_brings (n := 20) K4 (by omega) (by decide) (by decide) (by simp) (fun M5 K5 => ?_)
  refine p_brings (n := 20) K5 (by omega) (by decide) (by decide) (by simp) (fun M6 K6 => ?_)
  refine p_brings (n := 20) K6 (by omega) (by decide) (by decide) (by simp) (fun M7 K7 => ?_)
  refine p_brings (n := 27) K7 (by omega) (by decide) (by decide) (by simp) (fun M8 K8 => ?_)
  refine p_brings (n := 3) K8 (by omega) (by decide) (by decide) (by simp) (fun M9 K9 => ?_)
  obtain ⟨k1, k2, k3, k4, k5, k6⟩ : bk M0 M9 (200 * k) 130 [(5, 3, 127), (4, 27, 100), (13, 20, 80), (12, 20, 60), (11, 20, 40), (10, 8, 32), (9, 8, 24), (8, 12, 12), (6, 12, 0)] := K9
  have e20 : M9 9 20 = M 9 20 := (k2 20 (by decide) (by simp)).trans rfl
  refine ⟨13, p_back131 (b := 200 * k + 130) (by omega) 12 0 M9 (by omega) k4 (fun t ht => by rw [e20]; exact hf t ht) (fun M' a1 a2 a3 a4 => ?_)⟩
  have e29 : M' 9 0 29 = nI (200 * k + 130) := by rw [a2 0 (by decide)]; exact k4
  have e0 : ∀ j, ¬ j = 29 → M' 9 0 j = M 9 0 j := fun j hj => by
    rw [a2 0 (by decide), k3 j hj]
    show us _ 9 0 29 _ 9 0 j = _
    rw [us_k _ hj]
  have e20' : M' 9 20 = M 9 20 := (a2 20 (by decide)).trans e20
  show vp_in (M' 9 0 29 + 12) 600 ∧ vp_in (M' 9 0 29 + 13) 600 ∧ vp_in (M' 9 0 29 + 14) 600 ∧ vp_in (M' 9 0 29 + 15) 600 ∧ vp_in (M' 9 0 29 + 16) 600 ∧ xw_Mo_ends 0 (us (us (us (us (us M' 9 0 9 (M' 9 20 (M' 9 0 29 + 12).toNatClampNeg)) 9 0 10 (M' 9 20 (M' 9 0 29 + 13).toNatClampNeg)) 9 0 5 (M' 9 20 (M' 9 0 29 + 14).toNatClampNeg)) 9 0 6 (M' 9 20 (M' 9 0 29 + 15).toNatClampNeg)) 9 0 7 (M' 9 20 (M' 9 0 29 + 16).toNatClampNeg)) _
  rw [e29, show (12 : Int32) = nI 12 from rfl, show (13 : Int32) = nI 13 from rfl, show (14 : Int32) = nI 14 from rfl, show (15 : Int32) = nI 15 from rfl, show (16 : Int32) = nI 16 from rfl, nI_add, nI_add, nI_add, nI_add, nI_add, nI_clamp (by omega), nI_clamp (by omega), nI_clamp (by omega), nI_clamp (by omega), nI_clamp (by omega), e20']
  refine ⟨vp_in_nI (by omega) (by omega), vp_in_nI (by omega) (by omega), vp_in_nI (by omega) (by omega), vp_in_nI (by omega) (by omega), vp_in_nI (by omega) (by omega), h _ (fun g hg => ?_) (fun i i0 ib => ?_) (fun j h29 h9 h10 h5 h6 h7 => ?_) ?_⟩
  · simp only [us_g _ hg]
    rw [a1 g hg, k1 g hg]
    show us M 9 0 29 _ g = M g
    rw [us_g _ hg]
  · simp only [us_i _ i0]
    rw [a2 i (by omega), k2 i i0 (by simp; omega)]
    show us M 9 0 29 _ 9 i = M 9 i
    rw [us_i _ i0]
  · rw [us_k _ h7, us_k _ h6, us_k _ h5, us_k _ h10, us_k _ h9]
    exact e0 j h29
  · have get : ∀ (i n p : Nat), (i, n, p) ∈ [(5, 3, 127), (4, 27, 100), (13, 20, 80), (12, 20, 60), (11, 20, 40), (10, 8, 32), (9, 8, 24), (8, 12, 12), (6, 12, 0)] → ∀ j, j < n → ¬ i = 7 → ¬ i = 0 → us (us (us (us (us M' 9 0 9 (M 9 20 (200 * k + 130 + 12))) 9 0 10 (M 9 20 (200 * k + 130 + 13))) 9 0 5 (M 9 20 (200 * k + 130 + 14))) 9 0 6 (M 9 20 (200 * k + 130 + 15))) 9 0 7 (M 9 20 (200 * k + 130 + 16)) 9 i j = M 9 20 (200 * k + p + j) := by
      intro i n p hx j hj i7 i0
      rw [us_i _ i0, us_i _ i0, us_i _ i0, us_i _ i0, us_i _ i0, a2 i i7]
      exact k6 (i, n, p) hx j hj
    refine ⟨fun j hj => ⟨?_, ?_, ?_⟩, fun j hj => ⟨?_, ?_⟩, fun j hj => ⟨?_, ?_, ?_⟩, fun j hj => ?_, fun j hj => ?_, fun j hj => ?_⟩
    · exact get 6 12 0 (by simp) j hj (by decide) (by decide)
    · exact get 8 12 12 (by simp) j hj (by decide) (by decide)
    · show us _ 9 0 7 _ 9 7 j = M 9 20 (200 * k + 130 + j)
      rw [us_i _ (by decide), us_i _ (by decide), us_i _ (by decide), us_i _ (by decide), us_i _ (by decide), a4 j (by omega) hj, e20]
    · exact get 9 8 24 (by simp) j hj (by decide) (by decide)
    · exact get 10 8 32 (by simp) j hj (by decide) (by decide)
    · exact get 11 20 40 (by simp) j hj (by decide) (by decide)
    · exact get 12 20 60 (by simp) j hj (by decide) (by decide)
    · exact get 13 20 80 (by simp) j hj (by decide) (by decide)
    · exact get 4 27 100 (by simp) j hj (by decide) (by decide)
    · exact get 5 3 127 (by simp) j hj (by decide) (by decide)
    · rcases (show j = 0 ∨ j = 1 ∨ j = 2 ∨ j = 3 ∨ j = 4 by omega) with rfl | rfl | rfl | rfl | rfl
      · show us _ 9 0 7 _ 9 0 9 = M 9 20 (200 * k + 142 + 0)
        rw [us_k _ (by decide), us_k _ (by decide), us_k _ (by decide), us_k _ (by decide), us_v]
      · show us _ 9 0 7 _ 9 0 10 = M 9 20 (200 * k + 142 + 1)
        rw [us_k _ (by decide), us_k _ (by decide), us_k _ (by decide), us_v]
      · show us _ 9 0 7 _ 9 0 5 = M 9 20 (200 * k + 142 + 2)
        rw [us_k _ (by decide), us_k _ (by decide), us_v]
      · show us _ 9 0 7 _ 9 0 6 = M 9 20 (200 * k + 142 + 3)
        rw [us_k _ (by decide), us_v]
      · show us _ 9 0 7 _ 9 0 7 = M 9 20 (200 * k + 142 + 4)
        rw [us_v]
