/-! ===== best: sets in the order of rows ===== -/
def cd (s : Nat → Nat) : Nat → Nat
  | 0 => 0
  | k + 1 => cd s k * 64 + s k
def sS (P n : Nat) (s : Nat → Nat) : Prop := (∀ k, k + 1 < n → s k < s (k + 1)) ∧ ∀ k, k < n → s k < P
def mn (x y : Int32) : Int32 := if y < x then y else x
def vB (B : Nat → Nat → Int32) (s : Nat → Nat) (p : Nat) : Nat → Int32 → Int32
  | 0, x => x
  | j + 1, x => mn (vB B s p j x) (B (s j) p)
def vK (F : Nat → Int32) (B : Nat → Nat → Int32) (s : Nat → Nat) : Nat → Int32
  | 0 => 2000000
  | k + 1 => vB B s (s k) k (mn (vK F B s k) (F (s k)))
theorem mn_l (x y : Int32) : (mn x y).toInt ≤ x.toInt := by
  unfold mn; split
  · rename_i h; rw [ilt] at h; omega
  · exact Int.le_refl _
theorem mn_r (x y : Int32) : (mn x y).toInt ≤ y.toInt := by
  unfold mn; split
  · exact Int.le_refl _
  · rename_i h; rw [ilt] at h; omega
theorem mn_0 {x y : Int32} (hx : 0 ≤ x.toInt) (hy : 0 ≤ y.toInt) : 0 ≤ (mn x y).toInt := by
  unfold mn; split
  · exact hy
  · exact hx
theorem vB_le {B : Nat → Nat → Int32} {s : Nat → Nat} {p : Nat} {x : Int32} {i : Nat} : ∀ j, i ≤ j → (vB B s p j x).toInt ≤ (vB B s p i x).toInt
  | 0, h => by obtain rfl : i = 0 := by omega
               exact Int.le_refl _
  | j + 1, h => by
    by_cases e : i = j + 1
    · subst e; exact Int.le_refl _
    · show (mn (vB B s p j x) (B (s j) p)).toInt ≤ _
      exact Int.le_trans (mn_l _ _) (vB_le j (by omega))
theorem vB_cong {B : Nat → Nat → Int32} {s s' : Nat → Nat} {p : Nat} {x : Int32} : ∀ j, (∀ i, i < j → s i = s' i) → vB B s p j x = vB B s' p j x
  | 0, _ => rfl
  | j + 1, h => by
    unfold vB
    rw [vB_cong j (fun i hi => h i (by omega)), h j (by omega)]
theorem vB_0 {B : Nat → Nat → Int32} (hB : ∀ p q, 0 ≤ (B p q).toInt) {s : Nat → Nat} {p : Nat} {x : Int32} (hx : 0 ≤ x.toInt) : ∀ j, 0 ≤ (vB B s p j x).toInt
  | 0 => hx
  | j + 1 => mn_0 (vB_0 hB hx j) (hB _ _)
theorem vK_le {F : Nat → Int32} {B : Nat → Nat → Int32} {s : Nat → Nat} {i : Nat} : ∀ j, i ≤ j → (vK F B s j).toInt ≤ (vK F B s i).toInt
  | 0, h => by obtain rfl : i = 0 := by omega
               exact Int.le_refl _
  | j + 1, h => by
    by_cases e : i = j + 1
    · subst e; exact Int.le_refl _
    · refine Int.le_trans (Int.le_trans (vB_le j (Nat.zero_le _)) (mn_l _ _)) (vK_le j (by omega))
theorem vK_cong {F : Nat → Int32} {B : Nat → Nat → Int32} {s s' : Nat → Nat} : ∀ j, (∀ i, i < j → s i = s' i) → vK F B s j = vK F B s' j
  | 0, _ => rfl
  | j + 1, h => by
    unfold vK
    rw [vK_cong j (fun i hi => h i (by omega)), h j (by omega)]
    exact vB_cong j (fun i hi => h i (by omega))
theorem vK_0 {F : Nat → Int32} {B : Nat → Nat → Int32} (hF : ∀ p, 0 ≤ (F p).toInt) (hB : ∀ p q, 0 ≤ (B p q).toInt) {s : Nat → Nat} : ∀ j, 0 ≤ (vK F B s j).toInt
  | 0 => (by decide : 0 ≤ (2000000 : Int32).toInt)
  | j + 1 => vB_0 hB (mn_0 (vK_0 hF hB j) (hF _)) j
theorem cd_inj {s s' : Nat → Nat} : ∀ n, (∀ k, k < n → s k < 64) → (∀ k, k < n → s' k < 64) → cd s n = cd s' n → ∀ k, k < n → s k = s' k
  | 0, _, _, _, k, hk => by omega
  | n + 1, h1, h2, e, k, hk => by
    unfold cd at e
    have a := h1 n (by omega)
    have b := h2 n (by omega)
    by_cases ek : k = n
    · subst ek; omega
    · exact cd_inj n (fun k hk => h1 k (by omega)) (fun k hk => h2 k (by omega)) (by omega) k (by omega)
theorem cd_cong {s s' : Nat → Nat} : ∀ n, (∀ k, k < n → s k = s' k) → cd s n = cd s' n
  | 0, _ => rfl
  | n + 1, h => by
    unfold cd
    rw [cd_cong n (fun k hk => h k (by omega)), h n (by omega)]
theorem cd_pre {s s' : Nat → Nat} {i : Nat} : ∀ n, i ≤ n → (∀ k, k < n → s k < 64) → (∀ k, k < n → s' k < 64) → cd s n ≤ cd s' n → cd s i ≤ cd s' i
  | 0, h, _, _, e => by obtain rfl : i = 0 := by omega
                        exact e
  | n + 1, h, h1, h2, e => by
    by_cases ei : i = n + 1
    · subst ei; exact e
    · unfold cd at e
      have a := h1 n (by omega)
      have b := h2 n (by omega)
      exact cd_pre n (by omega) (fun k hk => h1 k (by omega)) (fun k hk => h2 k (by omega)) (by omega)
theorem cd_mono {s s' : Nat → Nat} {i : Nat} (h : cd s i ≤ cd s' i) : ∀ n, i ≤ n → (∀ k, i ≤ k → k < n → s k ≤ s' k) → cd s n ≤ cd s' n
  | 0, hi, _ => by obtain rfl : i = 0 := by omega
                   exact h
  | n + 1, hi, hs => by
    by_cases ei : i = n + 1
    · subst ei; exact h
    · unfold cd
      have a := cd_mono h n (by omega) (fun k h1 h2 => hs k h1 (by omega))
      have b := hs n (by omega) (by omega)
      omega
theorem cd_lt {s : Nat → Nat} : ∀ n, (∀ k, k < n → s k < 64) → cd s n < 64 ^ n
  | 0, _ => (by decide : 0 < 64 ^ 0)
  | n + 1, h => by
    unfold cd
    have a := cd_lt n (fun k hk => h k (by omega))
    have b := h n (by omega)
    rw [Nat.pow_succ]
    omega
/-- a set's numbers are no smaller, no larger than these -/
theorem sS_up {P n : Nat} {s : Nat → Nat} (h : sS P n s) {i : Nat} : ∀ j, i + j < n → s i + j ≤ s (i + j)
  | 0, _ => Nat.le_refl _
  | j + 1, hj => by
    have a := sS_up h (i := i) j (by omega)
    have b := h.1 (i + j) (by omega)
    show s i + (j + 1) ≤ s (i + j + 1)
    omega
theorem sS_hi {P n : Nat} {s : Nat → Nat} (h : sS P n s) {i : Nat} (hi : i < n) : s i + (n - i) ≤ P := by
  have a := sS_up h (i := i) (n - 1 - i) (by omega)
  have b := h.2 (i + (n - 1 - i)) (by omega)
  omega
/-- the best of the sets whose first k numbers are ahead of T -/
def bst (P n : Nat) (F : Nat → Int32) (B : Nat → Nat → Int32) (k T : Nat) (g : Int32) (lat : Nat → Int32) : Prop :=
  (g = -1 ∧ ∀ s, sS P n s → ¬ cd s k < T) ∨ ∃ s, sS P n s ∧ cd s k < T ∧ vK F B s n = g ∧ (∀ j, j < n → lat j = nI (s j)) ∧ (∀ s', sS P n s' → cd s' k < T → (vK F B s' n).toInt ≤ g.toInt) ∧ ∀ s', sS P n s' → cd s' n < cd s n → (vK F B s' n).toInt < g.toInt
theorem bst.skip {P n : Nat} {F : Nat → Int32} {B : Nat → Nat → Int32} (hF : ∀ p, 0 ≤ (F p).toInt) (hB : ∀ p q, 0 ≤ (B p q).toInt) {k T k' T' : Nat} {g : Int32} {lat : Nat → Int32} (h : bst P n F B k T g lat) (h1 : ∀ s, sS P n s → cd s k' < T' → cd s k < T ∨ (vK F B s n).toInt ≤ g.toInt) (h2 : ∀ s, sS P n s → cd s k < T → cd s k' < T') : bst P n F B k' T' g lat := by
  rcases h with ⟨hg, h⟩ | ⟨s, s1, s2, s3, s4, s5, s6⟩
  · refine Or.inl ⟨hg, fun s hs w => ?_⟩
    rcases h1 s hs w with q | q
    · exact h s hs q
    · have := vK_0 hF hB (s := s) n
      rw [hg, show (-1 : Int32).toInt = -1 from rfl] at q
      omega
  · refine Or.inr ⟨s, s1, h2 s s1 s2, s3, s4, fun s' hs' w => ?_, s6⟩
    rcases h1 s' hs' w with q | q
    · exact s5 s' hs' q
    · exact q
theorem bst.take {P n : Nat} (hP : P ≤ 64) {F : Nat → Int32} {B : Nat → Nat → Int32} {g : Int32} {lat lat' : Nat → Int32} {s : Nat → Nat} (hs : sS P n s) (h : bst P n F B n (cd s n) g lat) (hg : g.toInt < (vK F B s n).toInt) (hl : ∀ j, j < n → lat' j = nI (s j)) : bst P n F B n (cd s n + 1) (vK F B s n) lat' := by
  have key : ∀ s', sS P n s' → cd s' n < cd s n → (vK F B s' n).toInt < (vK F B s n).toInt := by
    intro s' hs' w
    rcases h with ⟨_, h⟩ | ⟨u, u1, u2, u3, u4, u5, u6⟩
    · exact absurd w (h s' hs')
    · have := u5 s' hs' w; omega
  refine Or.inr ⟨s, hs, by omega, rfl, hl, fun s' hs' w => ?_, key⟩
  rcases Nat.lt_or_ge (cd s' n) (cd s n) with q | q
  · have := key s' hs' q; omega
  · have e : cd s' n = cd s n := by omega
    rw [vK_cong n (cd_inj n (fun k hk => Nat.lt_of_lt_of_le (hs'.2 k hk) hP) (fun k hk => Nat.lt_of_lt_of_le (hs.2 k hk) hP) e)]
    exact Int.le_refl _
theorem bst.uniq {P n : Nat} (hn : n ≤ P) (hP : P ≤ 64) {F : Nat → Int32} {B : Nat → Nat → Int32} {g g' : Int32} {lat lat' : Nat → Int32} (h : bst P n F B 0 1 g lat) (h' : bst P n F B 0 1 g' lat') : g = g' ∧ (∃ s, g = vK F B s n) ∧ ∀ j, j < n → lat j = lat' j := by
  have hid : sS P n (fun k => k) := ⟨fun k _ => by show k < k + 1; omega, fun k hk => by show k < P; omega⟩
  rcases h with ⟨_, h⟩ | ⟨s, s1, s2, s3, s4, s5, s6⟩
  · exact absurd (show cd (fun k => k) 0 < 1 by decide) (h _ hid)
  · rcases h' with ⟨_, h⟩ | ⟨u, u1, u2, u3, u4, u5, u6⟩
    · exact absurd (show cd (fun k => k) 0 < 1 by decide) (h _ hid)
    · have a := s5 u u1 u2
      have b := u5 s s1 s2
      rw [u3] at a
      rw [s3] at b
      have eg : g = g' := by rw [ieq]; omega
      subst eg
      have ec : cd s n = cd u n := by
        rcases Nat.lt_trichotomy (cd s n) (cd u n) with w | w | w
        · have := u6 s s1 w; rw [s3] at this; omega
        · exact w
        · have := s6 u u1 w; rw [u3] at this; omega
      have es := cd_inj n (fun k hk => Nat.lt_of_lt_of_le (s1.2 k hk) hP) (fun k hk => Nat.lt_of_lt_of_le (u1.2 k hk) hP) ec
      exact ⟨rfl, ⟨s, s3.symm⟩, fun j hj => by rw [s4 j hj, u4 j hj, es j hj]⟩
theorem bst.start {P n : Nat} {F : Nat → Int32} {B : Nat → Nat → Int32} {lat : Nat → Int32} (k : Nat) : bst P n F B k 0 (-1) lat := Or.inl ⟨rfl, fun s _ w => by omega⟩
