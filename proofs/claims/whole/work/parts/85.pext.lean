/-! ===== best: the class's search ===== -/
def upN (s : Nat → Nat) (k p : Nat) : Nat → Nat := fun j => if j = k then p else s j
theorem upN_self (s : Nat → Nat) (k p : Nat) : upN s k p k = p := if_pos rfl
theorem upN_ne (s : Nat → Nat) {k p j : Nat} (h : ¬ j = k) : upN s k p j = s j := if_neg h
def chO (M0 : xM) (P n : Nat) (F : Nat → Int32) (B : Nat → Nat → Int32) : Prop := P ≤ 64 ∧ n ≤ 5 ∧ n ≤ P ∧ M0 8 4 6 = nI n ∧ M0 8 4 7 = nI P ∧ (∀ p, p < P → M0 8 7 p = F p) ∧ (¬ n = 1 → ∀ a b, a < b → b < P → M0 8 8 (a * 64 + b) = B a b) ∧ (∀ p, 0 ≤ (F p).toInt) ∧ ∀ p q, 0 ≤ (B p q).toInt
def chS (M0 M : xM) : Prop := (∀ g t, ¬ (g = 8 ∧ (t = 4 ∨ t = 9 ∨ t = 10)) → M g t = M0 g t) ∧ ∀ k, ¬ k = 8 → M 8 4 k = M0 8 4 k
theorem p_leastWith {M0 : xM} {P n : Nat} {F : Nat → Int32} {B : Nat → Nat → Int32} (ho : chO M0 P n F B) {s : Nat → Nat} {k p : Nat} (hk : k < n) (hp : p < P) (hsp : ∀ j, j < k → s j < p) {M : xM} (hS : chS M0 M) (h9 : ∀ j, j < k → M 8 9 j = nI (s j)) {x : Int32} {post : Int32 → xM → Prop} (h : ∀ y, ((y.toInt ≤ (M 8 4 8).toInt ∧ (vB B s p k x).toInt ≤ y.toInt) ∨ y = vB B s p k x) → post y M) : xw_Ch_leastWith (nI k) (nI p) x M post := by
  obtain ⟨hP, hn, hnP, -, -, hF, hB, -, -⟩ := ho
  have loop : ∀ {K : Int32 → Int32 → xM → Prop} (m j : Nat), j + m = k → (∀ y u, ((y.toInt ≤ (M 8 4 8).toInt ∧ (vB B s p k x).toInt ≤ y.toInt) ∨ y = vB B s p k x) → K y u M) → xw_Ch_leastWith_6 (nI k) (nI p) post K (m + 1) (vB B s p j x) (nI j) M := by
    intro K m
    induction m with
    | zero =>
      intro j hj hK
      obtain rfl : j = k := by omega
      unfold xw_Ch_leastWith_6
      exact ⟨fun _ => hK _ _ (Or.inr rfl), fun z => absurd (nI_le (Nat.le_refl _) (by omega)) z⟩
    | succ m ih =>
      intro j hj hK
      have hsj := hsp j (by omega)
      unfold xw_Ch_leastWith_6
      refine ⟨fun z => absurd ((nI_leI (by omega) (by omega)).mp z) (by omega), fun _ => ⟨fun z => hK _ _ (Or.inl ⟨ile.mp z, vB_le k (by omega)⟩), fun z => ⟨vp_in_nI (by omega) (by omega), ?_⟩⟩⟩
      rw [nI_clamp (by omega), h9 j (by omega), show (64 : Int32) = nI 64 from rfl, pk_mul, nI_add, nI_clamp (by omega), nI_1, hS.1 8 8 (by decide), hB (by omega) (s j) p hsj hp]
      exact ⟨vp_in_nI (by omega) (by omega), ih (j + 1) (by omega) hK⟩
  exact ⟨k + 1, loop k 0 (by omega) (fun y _ hy => h y hy)⟩
theorem p_extend {M0 : xM} {P n : Nat} {F : Nat → Int32} {B : Nat → Nat → Int32} (ho : chO M0 P n F B) : ∀ (dp f k fr : Nat) (s : Nat → Nat) (M : xM) (post : xM → Prop), k + dp = n → 1 ≤ dp → dp ≤ f → fr + dp ≤ P → (∀ j, j < k → s j < fr) → (∀ j, j + 1 < k → s j < s (j + 1)) → chS M0 M → (∀ j, j < k → M 8 9 j = nI (s j)) → bst P n F B (k + 1) (cd s k * 64 + fr) (M 8 4 8) (M 8 10) →
    (∀ M', chS M0 M' → (∀ j, j < k → M' 8 9 j = nI (s j)) → bst P n F B k (cd s k + 1) (M' 8 4 8) (M' 8 10) → post M') → xw_Ch_extend f (nI k) (nI fr) (vK F B s k) M post := by
  obtain ⟨hP, hn, hnP, h46, h47, hF, hB, hF0, hB0⟩ := id ho
  intro dp
  induction dp with
  | zero => intro f k fr s M post _ h1; omega
  | succ dp ih =>
    intro f k fr s M post hk _ hf hfr hsf hsi hS h9 hb hpost
    obtain ⟨f, rfl⟩ : ∃ f', f = f' + 1 := ⟨f - 1, by omega⟩
    have c64 : ∀ s', sS P n s' → ∀ j, j < n → s' j < 64 := fun s' hs' j hj => Nat.lt_of_lt_of_le (hs'.2 j hj) hP
    have s64 : ∀ j, j < k → s j < 64 := fun j hj => by have := hsf j hj; omega
    have loop : ∀ (m p : Nat) (M : xM), p + m = P - (n - k) + 1 → fr ≤ p → chS M0 M → (∀ j, j < k → M 8 9 j = nI (s j)) → bst P n F B (k + 1) (cd s k * 64 + p) (M 8 4 8) (M 8 10) → xw_Ch_extend_22 (nI k) (vK F B s k) (nI (P - (n - k))) (xw_Ch_extend f) post (fun (_ : Int32) (M6 : xM) => post M6) (m + 1) (nI p) M := by
      intro m
      induction m with
      | zero =>
        intro p M hm hp hS h9 hb
        unfold xw_Ch_extend_22
        refine ⟨fun _ => hpost M hS h9 (hb.skip hF0 hB0 (fun s' hs' w => Or.inl ?_) (fun s' hs' w => ?_)), fun z => absurd (nI_lt (by omega) (by omega)) z⟩
        · have := sS_hi hs' (i := k) (by omega)
          show cd s' k * 64 + s' k < _
          omega
        · have w : cd s' k * 64 + s' k < cd s k * 64 + p := w
          omega
      | succ m ihm =>
        intro p M hm hp hS h9 hb
        have hpP : p < P := by omega
        have hsp : ∀ j, j < k → s j < p := fun j hj => Nat.lt_of_lt_of_le (hsf j hj) hp
        -- the set with p at k
        have c0 : ∀ j, j < k → upN s k p j = s j := fun j hj => upN_ne s (by omega)
        have hcd : cd (upN s k p) (k + 1) = cd s k * 64 + p := by
          show cd (upN s k p) k * 64 + upN s k p k = _
          rw [cd_cong k c0, upN_self]
        have hvK : vK F B (upN s k p) (k + 1) = vB B s p k (mn (vK F B s k) (F p)) := by
          show vB B (upN s k p) (upN s k p k) k (mn (vK F B (upN s k p) k) (F (upN s k p k))) = _
          rw [upN_self, vK_cong k c0]
          exact vB_cong k c0
        have n64 : ∀ j, j < k + 1 → upN s k p j < 64 := fun j hj => by
          by_cases ej : j = k
          · subst ej; rw [upN_self]; omega
          · rw [upN_ne s ej]; exact s64 j (by omega)
        unfold xw_Ch_extend_22
        refine ⟨fun z => absurd z (nI_nlt (by omega) (by omega)), fun _ => ⟨fun z => hpost M hS h9 (hb.skip hF0 hB0 (fun s' hs' w => ?_) (fun s' hs' w => ?_)), fun z => ⟨vp_in_nI (by omega) (by omega), ?_⟩⟩⟩
        · have hk64 := c64 s' hs' k (by omega)
          rcases Nat.lt_or_ge (cd s' k) (cd s k) with q | q
          · refine Or.inl ?_
            show cd s' k * 64 + s' k < _
            omega
          · refine Or.inr ?_
            have e := cd_inj k (fun j hj => c64 s' hs' j (by omega)) s64 (show cd s' k = cd s k by omega)
            have a := vK_le (F := F) (B := B) (s := s') (i := k) n (by omega)
            rw [vK_cong k e] at a
            rw [ile] at z
            omega
        · have w : cd s' k * 64 + s' k < cd s k * 64 + p := w
          omega
        · rw [nI_clamp (by omega), nI_clamp (by omega), hS.1 8 7 (by decide), hF p hpP]
          refine p_leastWith (x := mn (vK F B s k) (F p)) ho (by omega) hpP hsp hS h9 (fun y hy => ⟨fun z => ?_, fun z => ⟨vp_in_nI (by omega) (by omega), ?_⟩⟩)
          · rw [nI_1]
            refine ihm (p + 1) M (by omega) (by omega) hS h9 (hb.skip hF0 hB0 (fun s' hs' w => ?_) (fun s' hs' w => by omega))
            rcases Nat.lt_or_ge (cd s' (k + 1)) (cd s k * 64 + p) with q | q
            · exact Or.inl q
            · refine Or.inr ?_
              have e := cd_inj (k + 1) (fun j hj => c64 s' hs' j (by omega)) n64 (show cd s' (k + 1) = cd (upN s k p) (k + 1) by omega)
              have a := vK_le (F := F) (B := B) (s := s') (i := k + 1) n (by omega)
              rw [vK_cong (k + 1) e, hvK] at a
              rw [ile] at z
              rcases hy with ⟨y1, y2⟩ | y1
              · omega
              · rw [y1] at z; omega
          · have ey : y = vB B s p k (mn (vK F B s k) (F p)) := by
              rcases hy with ⟨y1, -⟩ | y1
              · rw [ile] at z; exact absurd y1 z
              · exact y1
            have hS1 : chS M0 (us M 8 9 k (nI p)) := ⟨fun g t hgt => by rw [us_ne _ _ (by omega)]; exact hS.1 g t hgt, fun j hj => by rw [us_ne _ _ (by decide)]; exact hS.2 j hj⟩
            have h91 : ∀ j, j < k + 1 → us M 8 9 k (nI p) 8 9 j = nI (upN s k p j) := fun j hj => by
              rw [us_self]
              by_cases ej : j = k
              · subst ej; rw [upd_self, upN_self]
              · rw [upd_ne _ _ ej, upN_ne s ej]; exact h9 j (by omega)
            have e6 : us M 8 9 k (nI p) 8 4 6 = nI n := by rw [us_ne _ _ (by decide), hS.2 6 (by decide)]; exact h46
            have e48 : us M 8 9 k (nI p) 8 4 8 = M 8 4 8 := by rw [us_ne _ _ (by decide)]
            have e10 : us M 8 9 k (nI p) 8 10 = M 8 10 := us_ne _ _ (by decide)
            have si1 : ∀ j, j + 1 < k + 1 → upN s k p j < upN s k p (j + 1) := fun j hj => by
              rw [upN_ne s (show ¬ j = k by omega)]
              by_cases ej : j + 1 = k
              · rw [ej, upN_self]; exact hsp j (by omega)
              · rw [upN_ne s ej]; exact hsi j (by omega)
            rw [e6, nI_1, nI_1]
            refine ⟨fun z2 => ?_, fun z2 => ?_⟩
            · have hkn : k + 1 = n := by have := (nI_leI (by omega) (by omega)).mp z2; omega
              have hs0 : sS P n (upN s k p) := ⟨fun j hj => si1 j (by omega), fun j hj => by
                by_cases ej : j = k
                · subst ej; rw [upN_self]; exact hpP
                · rw [upN_ne s ej]; have := hsp j (by omega); omega⟩
              have e6' : us (us M 8 9 k (nI p)) 8 4 8 y 8 4 6 = nI n := by rw [us_self, upd_ne _ _ (by decide)]; exact e6
              unfold xw_Ch_keepTrial
              rw [e6', nI_clamp (by omega), show (0 : Int32).toNatClampNeg = 0 from rfl]
              refine ⟨by decide, ⟨by decide, by decide, nI_pos (by omega), by omega, by omega⟩, ?_⟩
              have hb' : bst P n F B n (cd (upN s k p) n + 1) (vK F B (upN s k p) n) (va_cpy (us M 8 9 k (nI p) 8 9) (M 8 10) 0 0 n) := by
                refine bst.take hP hs0 (g := M 8 4 8) (lat := M 8 10) ?_ ?_ (fun j hj => ?_)
                · rw [← hkn, hcd]; rw [← hkn] at hb; exact hb
                · rw [← hkn, hvK, ← ey]; rw [ile] at z; omega
                · rw [pk_cpy_in (by omega) (by omega), show 0 + (j - 0) = j by omega]
                  exact h91 j (by omega)
              have l9 : us (us M 8 9 k (nI p)) 8 4 8 y 8 9 = us M 8 9 k (nI p) 8 9 := us_ne _ _ (by decide)
              have l10 : us (us M 8 9 k (nI p)) 8 4 8 y 8 10 = M 8 10 := by rw [us_ne _ _ (by decide)]; exact e10
              rw [l9, l10]
              refine ihm (p + 1) _ (by omega) (by omega) ⟨fun g t hgt => ?_, fun j hj => ?_⟩ (fun j hj => ?_) ?_
              · rw [uc_ne _ _ (by omega), us_ne _ _ (by omega)]; exact hS1.1 g t hgt
              · rw [uc_ne _ _ (by decide), us_self, upd_ne _ _ hj]; exact hS1.2 j hj
              · rw [uc_ne _ _ (by decide), l9, h91 j (by omega), c0 j hj]
              · rw [uc_self, uc_ne _ _ (by decide), us_self, upd_self, show cd s k * 64 + (p + 1) = cd (upN s k p) n + 1 by rw [← hkn, hcd]; omega, show k + 1 = n from hkn, show y = vK F B (upN s k p) n by rw [← hkn, hvK]; exact ey]
                exact hb'
            · have hkn : k + 1 < n := by
                rcases Nat.lt_or_ge (k + 1) n with q | q
                · exact q
                · exact absurd (nI_le q (by omega)) z2
              rw [show y = vK F B (upN s k p) (k + 1) by rw [hvK]; exact ey]
              refine ih f (k + 1) (p + 1) (upN s k p) _ _ (by omega) (by omega) (by omega) (by omega) (fun j hj => ?_) si1 hS1 h91 ?_ (fun M' g1 g2 g3 => ?_)
              · by_cases ej : j = k
                · subst ej; rw [upN_self]; omega
                · rw [upN_ne s ej]; have := hsp j (by omega); omega
              · rw [e48, e10, hcd]
                refine hb.skip hF0 hB0 (fun s' hs' w => Or.inl ?_) (fun s' hs' w => ?_)
                · have w : (cd s' k * 64 + s' k) * 64 + s' (k + 1) < (cd s k * 64 + p) * 64 + (p + 1) := w
                  have a := hs'.1 k (by omega)
                  have b := c64 s' hs' k (by omega)
                  have b2 := c64 s' hs' (k + 1) (by omega)
                  show cd s' k * 64 + s' k < _
                  omega
                · have w : cd s' k * 64 + s' k < cd s k * 64 + p := w
                  have b := c64 s' hs' (k + 1) (by omega)
                  show (cd s' k * 64 + s' k) * 64 + s' (k + 1) < _
                  omega
              · refine ihm (p + 1) M' (by omega) (by omega) g1 (fun j hj => by rw [g2 j (by omega), c0 j hj]) ?_
                rw [hcd] at g3
                exact g3
    unfold xw_Ch_extend
    rw [hS.2 7 (by decide), hS.2 6 (by decide), h46, h47, pk_sub (by omega), pk_sub (by omega)]
    exact ⟨fun _ => ⟨P - (n - k) + 1 - fr + 1, loop _ fr M (by omega) (Nat.le_refl _) hS h9 hb⟩, fun z => absurd ((nI_ltI (b := 5) (by omega) (by omega)).mpr (by omega)) z⟩
