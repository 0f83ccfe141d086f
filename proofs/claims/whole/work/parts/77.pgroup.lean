/-! ===== group ===== -/
def cN (f : Nat → Int32) : Nat → Nat
  | 0 => 0
  | m + 1 => cN f m + (if f m = 0 then 0 else 1)
theorem cN_le (f : Nat → Int32) : ∀ m, cN f m ≤ m
  | 0 => Nat.le_refl _
  | m + 1 => by
    unfold cN
    have := cN_le f m
    split <;> omega
theorem cN_lt {f : Nat → Int32} {k : Nat} (hf : f k = 0) : ∀ m, k < m → cN f m < m
  | 0, h => by omega
  | m + 1, h => by
    unfold cN
    by_cases e : k = m
    · subst e
      rw [if_pos hf]
      have := cN_le f k
      omega
    · have := cN_lt hf m (by omega)
      split <;> omega
theorem cN_cong {f g : Nat → Int32} : ∀ m, (∀ k, k < m → (f k = 0 ↔ g k = 0)) → cN f m = cN g m
  | 0, _ => rfl
  | m + 1, h => by
    unfold cN
    rw [cN_cong m (fun k hk => h k (by omega))]
    by_cases e : f m = 0
    · rw [if_pos e, if_pos ((h m (by omega)).mp e)]
    · rw [if_neg e, if_neg (fun z => e ((h m (by omega)).mpr z))]
theorem cN_upd {f : Nat → Int32} {k : Nat} (hf : f k = 0) : ∀ m, k < m → cN (upd f k 1) m = cN f m + 1
  | 0, h => by omega
  | m + 1, h => by
    unfold cN
    by_cases e : k = m
    · subst e
      rw [upd_self, if_neg (by decide), if_pos hf, cN_cong k (fun j hj => by rw [upd_ne _ _ (by omega)])]
    · rw [cN_upd hf m (by omega), upd_ne _ _ (by omega)]
      omega
theorem cN_mono {f g : Nat → Int32} : ∀ m, (∀ k, k < m → g k = 0 → f k = 0) → cN f m ≤ cN g m
  | 0, _ => Nat.le_refl _
  | m + 1, h => by
    unfold cN
    have := cN_mono m (fun k hk => h k (by omega))
    by_cases e : g m = 0
    · rw [if_pos e, if_pos (h m (by omega) e)]; omega
    · rw [if_neg e]; split <;> omega
theorem cN_strict {f g : Nat → Int32} {j : Nat} (hj : f j = 0) (hg : ¬ g j = 0) : ∀ m, j < m → (∀ k, k < m → g k = 0 → f k = 0) → cN f m + 1 ≤ cN g m
  | 0, h, _ => by omega
  | m + 1, h, hh => by
    unfold cN
    by_cases e : j = m
    · subst e
      have := cN_mono j (fun k hk => hh k (by omega))
      rw [if_pos hj, if_neg hg]; omega
    · have := cN_strict hj hg m (by omega) (fun k hk => hh k (by omega))
      by_cases e2 : g m = 0
      · rw [if_pos e2, if_pos (hh m (by omega) e2)]; omega
      · rw [if_neg e2]; split <;> omega
theorem cN_one {f : Nat → Int32} {i : Nat} : ∀ m, i < m → (∀ k, k < m → (f k = 0 ↔ ¬ k = i)) → cN f m = 1
  | 0, h, _ => by omega
  | m + 1, h, hh => by
    unfold cN
    by_cases e : i = m
    · subst e
      rw [if_neg (fun z => ((hh i (by omega)).mp z) rfl)]
      have : ∀ k, k ≤ i → cN f k = 0 := by
        intro k
        induction k with
        | zero => intro _; rfl
        | succ k ih => intro hk; unfold cN; rw [ih (by omega), if_pos ((hh k (by omega)).mpr (by omega))]
      rw [this i (Nat.le_refl _)]
    · rw [cN_one m (by omega) (fun k hk => hh k (by omega)), if_pos ((hh m (by omega)).mpr (fun z => e z.symm))]
/-- near by: N of the house -/
abbrev nR : Type := Nat → Nat → Prop
def nCl (N : nR) (n : Nat) (T : Nat → Prop) : Prop := ∀ j k, j < n → k < n → T j → N j k → T k
def nLow (N : nR) (n i l : Nat) : Prop := ∃ S : Nat → Prop, S i ∧ nCl N n S ∧ (∀ T : Nat → Prop, T i → nCl N n T → ∀ k, S k → T k) ∧ S l ∧ (∀ k, S k → l ≤ k)
theorem nLow_uniq {N : nR} {n i l l' : Nat} (h : nLow N n i l) (h' : nLow N n i l') : l = l' := by
  obtain ⟨S, s1, s2, s3, s4, s5⟩ := h
  obtain ⟨S', t1, t2, t3, t4, t5⟩ := h'
  have a := s5 l' (t3 S s1 s2 l' t4)
  have b := t5 l (s3 S' t1 t2 l s4)
  omega
/-! the class -/
def gS (N : nR) (n i : Nat) (M : xM) (found : Nat) : Prop := (∀ k, k < n → M 8 18 k = 0 ∨ M 8 18 k = 1) ∧ cN (M 8 18) n = found ∧ (∀ x, x < found → ∃ k, k < n ∧ M 8 19 x = nI k ∧ M 8 18 k = 1) ∧ (∀ k, k < n → M 8 18 k = 1 → ∃ x, x < found ∧ M 8 19 x = nI k) ∧ (∀ T : Nat → Prop, T i → nCl N n T → ∀ k, k < n → M 8 18 k = 1 → T k) ∧ M 8 18 i = 1
theorem p_reach {e : xE} (ok : eyOk e) {s n i a : Nat} {d : Int32} {c : Nat → Int32} (hn : n ≤ 12) (ha : a < n) {post : Int32 → xM → Prop} {k : Int32 → Int32 → xM → Prop} : ∀ (m j found : Nat) (M : xM), j + m = n → eyC M e → M 0 3 0 = nI n → (∀ t, t < n → M 8 17 t = lk e s (c t)) → gS (fun x y => ¬ d ≤ dd e s (c x) (c y)) n i M found → M 8 18 a = 1 →
    (∀ M' found', (∀ g t, ¬ (g = 8 ∧ (t = 18 ∨ t = 19)) → M' g t = M g t) → gS (fun x y => ¬ d ≤ dd e s (c x) (c y)) n i M' found' → found ≤ found' → (∀ x, x < found → M' 8 19 x = M 8 19 x) → (∀ t, t < n → M 8 18 t = 1 → M' 8 18 t = 1) → (∀ t, j ≤ t → t < n → ¬ d ≤ dd e s (c a) (c t) → M' 8 18 t = 1) → k (nI found') (nI n) M') → xw_Gp_reachFrom_7 0 (nI a) d post k (m + 1) (nI found) (nI j) M := by
  intro m
  induction m with
  | zero =>
    intro j found M hj hE hM hv hS h18 h
    obtain rfl : j = n := by omega
    unfold xw_Gp_reachFrom_7
    rw [hM]
    exact ⟨fun _ => h M found (fun _ _ _ => rfl) hS (Nat.le_refl _) (fun _ _ => rfl) (fun _ _ q => q) (fun t h1 h2 => by omega), fun z => absurd (nI_le (Nat.le_refl _) (by omega)) z⟩
  | succ m ih =>
    intro j found M hj hE hM hv hS h18 h
    unfold xw_Gp_reachFrom_7
    obtain ⟨s1, s2, s3, s4, s5, s6⟩ := id hS
    have hf : found ≤ 12 := by have := cN_le (M 8 18) n; omega
    have hin : vp_in (nI j) 12 := vp_in_nI (by omega) (by omega)
    rw [hM, nI_clamp (by omega), nI_clamp (by omega), nI_clamp (by omega), nI_1, nI_1, hv j (by omega), hv a ha]
    refine ⟨fun z => absurd ((nI_leI (by omega) (by omega)).mp z) (by omega), fun _ => ⟨hin, fun z => ?_, fun z => ⟨vp_in_nI (by omega) (by omega), hin, p_weighed ok hE ⟨fun w => ?_, fun w => ⟨hin, ?_⟩⟩⟩⟩⟩
    · refine ih (j + 1) found M (by omega) hE hM hv hS h18 (fun M' f' q1 q2 q3 q4 q5 q6 => h M' f' q1 q2 q3 q4 q5 (fun t t1 t2 t3 => ?_))
      by_cases et : t = j
      · subst et; exact q5 t t2 ((s1 t t2).resolve_left z)
      · exact q6 t (by omega) t2 t3
    · refine ih (j + 1) found M (by omega) hE hM hv hS h18 (fun M' f' q1 q2 q3 q4 q5 q6 => h M' f' q1 q2 q3 q4 q5 (fun t t1 t2 t3 => ?_))
      by_cases et : t = j
      · subst et; exact absurd w t3
      · exact q6 t (by omega) t2 t3
    · have hlt : found < n := by rw [← s2]; exact cN_lt z n (by omega)
      refine ⟨vp_in_nI (by omega) (by omega), ?_⟩
      have e18 : us (us M 8 18 j 1) 8 19 found (nI j) 8 18 = upd (M 8 18) j 1 := by rw [us_i _ (by decide), us_self]
      have e19 : us (us M 8 18 j 1) 8 19 found (nI j) 8 19 = upd (M 8 19) found (nI j) := by rw [us_self, us_i _ (by decide)]
      have up : ∀ t, M 8 18 t = 1 → upd (M 8 18) j 1 t = 1 := fun t ht => upd_pred (P := fun v => v = 1) rfl ht
      refine ih (j + 1) (found + 1) _ (by omega) (hE.to rfl rfl) hM hv ?_ (by rw [e18]; exact up a h18) (fun M' f' q1 q2 q3 q4 q5 q6 => h M' f' (fun g t hg => ?_) q2 (by omega) (fun x hx => ?_) (fun t t1 t2 => ?_) (fun t t1 t2 t3 => ?_))
      · unfold gS
        rw [e18, e19]
        refine ⟨fun t ht => upd_pred (P := fun v => v = 0 ∨ v = 1) (Or.inr rfl) (s1 t ht), by rw [cN_upd z n (by omega), s2], fun x hx => ?_, fun t ht h1 => ?_, fun T T1 T2 t ht h1 => ?_, up i s6⟩
        · by_cases ex : x = found
          · subst ex
            exact ⟨j, by omega, upd_self _ _ _, upd_self _ _ _⟩
          · obtain ⟨y, y1, y2, y3⟩ := s3 x (by omega)
            exact ⟨y, y1, by rw [upd_ne _ _ ex]; exact y2, up y y3⟩
        · by_cases et : t = j
          · subst et
            exact ⟨found, by omega, upd_self _ _ _⟩
          · rw [upd_ne _ _ et] at h1
            obtain ⟨x, x1, x2⟩ := s4 t ht h1
            exact ⟨x, by omega, by rw [upd_ne _ _ (by omega)]; exact x2⟩
        · by_cases et : t = j
          · subst et
            exact T2 a t ha ht (s5 T T1 T2 a ha h18) w
          · rw [upd_ne _ _ et] at h1
            exact s5 T T1 T2 t ht h1
      · rw [q1 g t hg, us_ne _ _ (fun w => hg ⟨w.1, Or.inr w.2⟩), us_ne _ _ (fun w => hg ⟨w.1, Or.inl w.2⟩)]
      · rw [q4 x (by omega), e19, upd_ne _ _ (by omega)]
      · exact q5 t t1 (by rw [e18]; exact up t t2)
      · by_cases et : t = j
        · subst et
          exact q5 t t2 (by rw [e18]; exact upd_self _ _ _)
        · exact q6 t (by omega) t2 t3
theorem p_low87 {e : xE} (ok : eyOk e) {s n i : Nat} {d : Int32} {c : Nat → Int32} (hn : n ≤ 12) {post : Int32 → xM → Prop} {k : Int32 → Int32 → Int32 → xM → Prop} : ∀ (m at' found lo : Nat) (M : xM), at' + m = n → eyC M e → M 0 3 0 = nI n → (∀ t, t < n → M 8 17 t = lk e s (c t)) → gS (fun x y => ¬ d ≤ dd e s (c x) (c y)) n i M found → at' ≤ found → (lo < n ∧ M 8 18 lo = 1) → (∀ x, x < at' → ∀ a, a < n → M 8 19 x = nI a → lo ≤ a ∧ ∀ t, t < n → ¬ d ≤ dd e s (c a) (c t) → M 8 18 t = 1) →
    (∀ M' x l y, (∀ g t, ¬ (g = 8 ∧ (t = 18 ∨ t = 19)) → M' g t = M g t) → nLow (fun x y => ¬ d ≤ dd e s (c x) (c y)) n i l → k x (nI l) y M') → i < n → xw_Gp_lowestWith_87 0 d (nI n) post k (m + 1) (nI found) (nI lo) (nI at') M := by
  intro m
  have fin : ∀ (at' found lo : Nat) (M : xM), gS (fun x y => ¬ d ≤ dd e s (c x) (c y)) n i M found → found ≤ at' → (lo < n ∧ M 8 18 lo = 1) → (∀ x, x < at' → ∀ a, a < n → M 8 19 x = nI a → lo ≤ a ∧ ∀ t, t < n → ¬ d ≤ dd e s (c a) (c t) → M 8 18 t = 1) → i < n → nLow (fun x y => ¬ d ≤ dd e s (c x) (c y)) n i lo := by
    intro at' found lo M hS hf hlo hx hi
    obtain ⟨s1, s2, s3, s4, s5, s6⟩ := hS
    refine ⟨fun t => t < n ∧ M 8 18 t = 1, ⟨hi, s6⟩, fun x y hx' hy h1 h2 => ⟨hy, ?_⟩, fun T T1 T2 t ht => s5 T T1 T2 t ht.1 ht.2, hlo, fun t ht => ?_⟩
    · obtain ⟨z, z1, z2⟩ := s4 x hx' h1.2
      exact (hx z (by omega) x hx' z2).2 y hy h2
    · obtain ⟨z, z1, z2⟩ := s4 t ht.1 ht.2
      exact (hx z (by omega) t ht.1 z2).1
  induction m with
  | zero =>
    intro at' found lo M hj hE hM hv hS haf hlo hx h hi
    obtain rfl : at' = n := by omega
    have hf : found ≤ at' := by have := cN_le (M 8 18) at'; have := hS.2.1; omega
    unfold xw_Gp_lowestWith_87
    exact ⟨fun _ => h M _ lo _ (fun _ _ _ => rfl) (fin at' found lo M hS hf hlo hx hi), fun z => absurd (nI_le (Nat.le_refl _) (by omega)) z⟩
  | succ m ih =>
    intro at' found lo M hj hE hM hv hS haf hlo hx h hi
    have hf : found ≤ n := by have := cN_le (M 8 18) n; have := hS.2.1; omega
    unfold xw_Gp_lowestWith_87
    rw [nI_clamp (by omega), nI_1]
    refine ⟨fun z => absurd ((nI_leI (by omega) (by omega)).mp z) (by omega), fun _ => ⟨fun z => ?_, fun z => ?_⟩⟩
    · exact h M _ lo _ (fun _ _ _ => rfl) (fin at' found lo M hS ((nI_leI (by omega) (by omega)).mp z) hlo hx hi)
    · have hin : vp_in (nI at') 12 := vp_in_nI (by omega) (by omega)
      have haf' : at' < found := by
        rcases Nat.lt_or_ge at' found with w | w
        · exact w
        · exact absurd (nI_le w (by omega)) z
      obtain ⟨a, ha, ea, ra⟩ := hS.2.2.1 at' haf'
      rw [ea]
      obtain ⟨lo', elo, hlo'⟩ : ∃ lo', (if nI a < nI lo then nI a else nI lo) = nI lo' ∧ ((lo' = a ∧ a ≤ lo) ∨ (lo' = lo ∧ lo ≤ a)) := by
        by_cases w : a < lo
        · exact ⟨a, if_pos ((nI_ltI (by omega) (by omega)).mpr w), Or.inl ⟨rfl, by omega⟩⟩
        · exact ⟨lo, if_neg (fun y => w ((nI_ltI (by omega) (by omega)).mp y)), Or.inr ⟨rfl, by omega⟩⟩
      rw [elo]
      refine ⟨hin, hin, n + 1, p_reach ok (s := s) (c := c) (i := i) hn ha n 0 found M (by omega) hE hM hv hS ra (fun M' f' q1 q2 q3 q4 q5 q6 => ?_)⟩
      refine ih (at' + 1) f' lo' M' (by omega) (hE.to (q1 0 1 (by decide)) (q1 0 2 (by decide))) (by rw [q1 0 3 (by decide)]; exact hM) (fun t ht => by rw [q1 8 17 (by decide)]; exact hv t ht) q2 (by omega) ?_ (fun x hx' b hb eb => ?_) (fun M2 x l y w1 w2 => h M2 x l y (fun g t hg => by rw [w1 g t hg, q1 g t hg]) w2) hi
      · rcases hlo' with ⟨w1, w2⟩ | ⟨w1, w2⟩
        · rw [w1]; exact ⟨ha, q5 a ha ra⟩
        · rw [w1]; exact ⟨hlo.1, q5 lo hlo.1 hlo.2⟩
      · rw [q4 x (by omega)] at eb
        by_cases ex : x = at'
        · subst ex
          have eab : a = b := (nI_eq (by omega) (by omega)).mp (ea.symm.trans eb)
          subst eab
          exact ⟨by omega, fun t ht w => q6 t (by omega) ht w⟩
        · obtain ⟨v1, v2⟩ := hx x (by omega) b hb eb
          exact ⟨by omega, fun t ht w => q5 t ht (v2 t ht w)⟩
theorem p_low12 {e : xE} (ok : eyOk e) {s n i : Nat} (hs : s ≤ 5) {d : Int32} (hn : n ≤ 12) (hi : i < n) {post : Int32 → xM → Prop} {k : Int32 → xM → Prop} : ∀ (m j : Nat) (M : xM), j + m = n → eyC M e → (∀ t, t < 12 → sp_col (M 0 4 t)) →
    (∀ M', (∀ g t, ¬ (g = 8 ∧ (t = 17 ∨ t = 18)) → M' g t = M g t) → (∀ t, t < j → M' 8 17 t = M 8 17 t ∧ M' 8 18 t = M 8 18 t) → (∀ t, j ≤ t → t < n → M' 8 17 t = lk e s (M 0 4 t) ∧ M' 8 18 t = (if t = i then 1 else 0)) → k (nI n) M') → xw_Gp_lowestWith_12 0 (nI s) d (nI i) (nI n) post k (m + 1) (nI j) M := by
  intro m
  induction m with
  | zero =>
    intro j M hj hE hc h
    obtain rfl : j = n := by omega
    unfold xw_Gp_lowestWith_12
    exact ⟨fun _ => h M (fun _ _ _ => rfl) (fun _ _ => ⟨rfl, rfl⟩) (fun t h1 h2 => by omega), fun z => absurd (nI_le (Nat.le_refl _) (by omega)) z⟩
  | succ m ih =>
    intro j M hj hE hc h
    have hin : vp_in (nI j) 12 := vp_in_nI (by omega) (by omega)
    have step : ∀ v : Int32, v = (if j = i then 1 else 0) → xw_Gp_lowestWith_12 0 (nI s) d (nI i) (nI n) post k (m + 1) (nI (j + 1)) (us (us M 8 17 j (lk e s (M 0 4 j))) 8 18 j v) := by
      intro v hv
      have e17 : us (us M 8 17 j (lk e s (M 0 4 j))) 8 18 j v 8 17 = upd (M 8 17) j (lk e s (M 0 4 j)) := by rw [us_i _ (by decide), us_self]
      have e18 : us (us M 8 17 j (lk e s (M 0 4 j))) 8 18 j v 8 18 = upd (M 8 18) j v := by rw [us_self, us_i _ (by decide)]
      refine ih (j + 1) _ (by omega) (hE.to rfl rfl) hc (fun M' q1 q2 q3 => h M' (fun g t hg => ?_) (fun t ht => ?_) (fun t t1 t2 => ?_))
      · rw [q1 g t hg, us_ne _ _ (fun w => hg ⟨w.1, Or.inr w.2⟩), us_ne _ _ (fun w => hg ⟨w.1, Or.inl w.2⟩)]
      · obtain ⟨w1, w2⟩ := q2 t (by omega)
        rw [w1, w2, e17, e18, upd_ne _ _ (by omega), upd_ne _ _ (by omega)]
        exact ⟨rfl, rfl⟩
      · by_cases et : t = j
        · subst et
          obtain ⟨w1, w2⟩ := q2 t (by omega)
          rw [w1, w2, e17, e18, upd_self, upd_self]
          exact ⟨rfl, hv⟩
        · exact q3 t (by omega) t2
    unfold xw_Gp_lowestWith_12
    rw [nI_clamp (by omega), nI_1]
    refine ⟨fun z => absurd ((nI_leI (by omega) (by omega)).mp z) (by omega), fun _ => ⟨hin, p_look ok hE hs (hc j (by omega)) ⟨hin, fun z => ⟨hin, step 0 ?_⟩, fun z => ⟨hin, step 1 ?_⟩⟩⟩⟩
    · rw [if_neg (fun w => z (by rw [w]))]
    · rw [if_pos ((nI_eq (by omega) (by omega)).mp z)]
theorem p_lowest {e : xE} (ok : eyOk e) {s n i : Nat} (hs : s ≤ 5) {d : Int32} (hn : n ≤ 12) (hi : i < n) {M : xM} (hE : eyC M e) (hM : M 0 3 0 = nI n) (hc : ∀ t, t < 12 → sp_col (M 0 4 t)) {post : Int32 → xM → Prop} (h : ∀ M' l, (∀ g t, ¬ (g = 8 ∧ 17 ≤ t) → M' g t = M g t) → nLow (fun x y => ¬ d ≤ dd e s (M 0 4 x) (M 0 4 y)) n i l → post (nI l) M') : xw_Gp_lowestWith 0 (nI s) d (nI i) M post := by
  unfold xw_Gp_lowestWith
  rw [hM]
  refine ⟨n + 1, p_low12 ok hs hn hi n 0 M (by omega) hE hc (fun M1 q1 q2 q3 => ⟨n + 1, ?_⟩)⟩
  rw [show (0 : Int32).toNatClampNeg = 0 from rfl]
  have e18 : us M1 8 19 0 (nI i) 8 18 = M1 8 18 := us_i _ (by decide)
  have e19 : us M1 8 19 0 (nI i) 8 19 = upd (M1 8 19) 0 (nI i) := us_self _ _ _ _ _
  have f18 : ∀ t, t < n → M1 8 18 t = (if t = i then 1 else 0) := fun t ht => (q3 t (by omega) ht).2
  have e1 : M1 8 18 i = 1 := by rw [f18 i hi, if_pos rfl]
  have o18 : ∀ t, t < n → M1 8 18 t = 1 → t = i := fun t ht w => by
    rw [f18 t ht] at w
    by_cases et : t = i
    · exact et
    · rw [if_neg et] at w; exact absurd w (by decide)
  refine p_low87 ok (s := s) (c := M 0 4) (i := i) hn n 0 1 i _ (by omega) (hE.to (q1 0 1 (by decide)) (q1 0 2 (by decide))) ?_ (fun t ht => ?_) ?_ (by omega) ⟨hi, by rw [e18]; exact e1⟩ (fun x hx => by omega) (fun M2 x l y w1 w2 => h M2 l (fun g t hg => ?_) w2) hi
  · show M1 0 3 0 = nI n
    rw [q1 0 3 (by decide)]; exact hM
  · show M1 8 17 t = _
    exact (q3 t (by omega) ht).1
  · unfold gS
    rw [e18, e19]
    refine ⟨fun t ht => ?_, cN_one n hi (fun t ht => ?_), fun x hx => ⟨i, hi, ?_, e1⟩, fun t ht w => ⟨0, by omega, ?_⟩, fun T T1 T2 t ht w => ?_, e1⟩
    · rw [f18 t ht]; split
      · exact Or.inr rfl
      · exact Or.inl rfl
    · rw [f18 t ht]; split
      · rename_i w; exact ⟨fun z => absurd z (by decide), fun z => absurd w z⟩
      · rename_i w; exact ⟨fun _ => w, fun _ => rfl⟩
    · obtain rfl : x = 0 := by omega
      exact upd_self _ _ _
    · rw [o18 t ht w]; exact upd_self _ _ _
    · rw [o18 t ht w]; exact T1
  · rw [w1 g t (by omega), us_ne _ _ (by omega), q1 g t (by omega)]
