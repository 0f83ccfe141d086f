/-! ===== settle ===== -/
/-- the two that are nearest, nearer than d -/
def nr1 (A : Nat → Nat → Int32) (i : Nat) : Nat → Nat → Int32 → Int32 → Int32 × Int32
  | 0, _, x, l => (x, l)
  | m + 1, k, x, l => if A i k < l then nr1 A i m (k + 1) (nI (i * 12 + k)) (A i k) else nr1 A i m (k + 1) x l
def nr2 (A : Nat → Nat → Int32) (n : Nat) : Nat → Nat → Int32 → Int32 → Int32 × Int32
  | 0, _, x, l => (x, l)
  | m + 1, i, x, l => nr2 A n m (i + 1) (nr1 A i (n - (i + 1)) (i + 1) x l).1 (nr1 A i (n - (i + 1)) (i + 1) x l).2
def nrst (e : xE) (n : Nat) (c : Nat → Int32) (d : Int32) : Int32 := (nr2 (fun i k => ap e (c i) (c k)) n n 0 (-1) d).1
abbrev nrP (A : Nat → Nat → Int32) (n : Nat) (d x l : Int32) : Prop := (x = -1 ∧ l = d) ∨ ∃ a b : Nat, a < b ∧ b < n ∧ x = nI (a * 12 + b) ∧ l = A a b ∧ A a b < d
theorem nr1_P {A : Nat → Nat → Int32} {n i : Nat} {d : Int32} : ∀ (m k : Nat) (x l : Int32), i < k → k + m = n → nrP A n d x l → nrP A n d (nr1 A i m k x l).1 (nr1 A i m k x l).2
  | 0, _, _, _, _, _, h => h
  | m + 1, k, x, l, h1, h2, h => by
    unfold nr1
    split
    · rename_i hl
      refine nr1_P m (k + 1) _ _ (by omega) (by omega) (Or.inr ⟨i, k, h1, by omega, rfl, rfl, ?_⟩)
      rcases h with ⟨-, w⟩ | ⟨a, b, -, -, -, w, w2⟩
      · rw [← w]; exact hl
      · rw [w] at hl
        rw [ilt] at *
        omega
    · exact nr1_P m (k + 1) x l (by omega) (by omega) h
theorem nr2_P {A : Nat → Nat → Int32} {n : Nat} {d : Int32} : ∀ (m i : Nat) (x l : Int32), i + m = n → nrP A n d x l → nrP A n d (nr2 A n m i x l).1 (nr2 A n m i x l).2
  | 0, _, _, _, _, h => h
  | m + 1, i, x, l, h2, h => by
    unfold nr2
    exact nr2_P m (i + 1) _ _ (by omega) (nr1_P (n - (i + 1)) (i + 1) x l (by omega) (by omega) h)
theorem nrst_P (e : xE) (n : Nat) (c : Nat → Int32) (d : Int32) : nrst e n c d = -1 ∨ ∃ a b : Nat, a < b ∧ b < n ∧ nrst e n c d = nI (a * 12 + b) ∧ ap e (c a) (c b) < d := by
  rcases nr2_P (A := fun i k => ap e (c i) (c k)) (n := n) (d := d) n 0 (-1) d (by omega) (Or.inl ⟨rfl, rfl⟩) with ⟨h, -⟩ | ⟨a, b, h1, h2, h3, -, h4⟩
  · exact Or.inl h
  · exact Or.inr ⟨a, b, h1, h2, h3, h4⟩
theorem p_near26 {M0 : xM} {e : xE} {n q L : Nat} (hm : mC M0 e n q L) {c : Nat → Int32} {M : xM} (hS : clS M0 e n c M) {i : Nat} (hi : i < n) {post : Int32 → xM → Prop} {k : Int32 → Int32 → Int32 → xM → Prop} : ∀ (m j : Nat) (x l : Int32), j + m = n → k (nr1 (fun i k => ap e (c i) (c k)) i m j x l).1 (nr1 (fun i k => ap e (c i) (c k)) i m j x l).2 (nI n) M → xw_Mv_nearestTwo_26 0 (nI i) post k (m + 1) x l (nI j) M := by
  have hn : n ≤ 12 := hm.2.2.2.1
  have hM : M 0 3 0 = nI n := by rw [hS.1 0 3 (by decide) (by decide)]; exact hm.2.2.2.2.2.2.1
  have hE' : eyC M e := hm.2.1.to (hS.1 0 1 (by decide) (by decide)) (hS.1 0 2 (by decide) (by decide))
  intro m
  induction m with
  | zero =>
    intro j x l hj h
    obtain rfl : j = n := by omega
    unfold xw_Mv_nearestTwo_26
    rw [hM]
    exact ⟨fun _ => h, fun z => absurd (nI_le (Nat.le_refl _) (by omega)) z⟩
  | succ m ih =>
    intro j x l hj h
    unfold xw_Mv_nearestTwo_26
    rw [hM, nI_1]
    refine ⟨fun z => absurd ((nI_leI (by omega) (by omega)).mp z) (by omega), fun _ => ?_⟩
    refine p_leastOfViews hm.1 hE' (hS.2.2.1 i hi) (hS.2.2.1 j (by omega)) (by omega) (by omega) (by omega) (by omega) ?_
    unfold nr1 at h
    refine ⟨fun z => ih (j + 1) x l (by omega) ?_, fun z => ?_⟩
    · rw [if_neg (by rw [ile] at z; rw [ilt]; omega)] at h
      exact h
    · rw [if_pos (by rw [ile] at z; rw [ilt]; omega)] at h
      rw [show (12 : Int32) = nI 12 from rfl, pk_mul, nI_add]
      exact ih (j + 1) _ _ (by omega) h
theorem p_near8 {M0 : xM} {e : xE} {n q L : Nat} (hm : mC M0 e n q L) {c : Nat → Int32} {M : xM} (hS : clS M0 e n c M) {post : Int32 → xM → Prop} {k : Int32 → Int32 → Int32 → xM → Prop} : ∀ (m i : Nat) (x l : Int32), i + m = n → k (nr2 (fun i k => ap e (c i) (c k)) n m i x l).1 (nr2 (fun i k => ap e (c i) (c k)) n m i x l).2 (nI n) M → xw_Mv_nearestTwo_8 0 post k (m + 1) x l (nI i) M := by
  have hn : n ≤ 12 := hm.2.2.2.1
  have hM : M 0 3 0 = nI n := by rw [hS.1 0 3 (by decide) (by decide)]; exact hm.2.2.2.2.2.2.1
  intro m
  induction m with
  | zero =>
    intro i x l hj h
    obtain rfl : i = n := by omega
    unfold xw_Mv_nearestTwo_8
    rw [hM]
    exact ⟨fun _ => h, fun z => absurd (nI_le (Nat.le_refl _) (by omega)) z⟩
  | succ m ih =>
    intro i x l hj h
    unfold xw_Mv_nearestTwo_8
    rw [hM, nI_1]
    refine ⟨fun z => absurd ((nI_leI (by omega) (by omega)).mp z) (by omega), fun _ => ⟨n - (i + 1) + 1, ?_⟩⟩
    exact p_near26 hm hS (by omega) (n - (i + 1)) (i + 1) x l (by omega) (ih (i + 1) _ _ (by omega) h)
theorem p_nearestTwo {M0 : xM} {e : xE} {n q L : Nat} (hm : mC M0 e n q L) {c : Nat → Int32} {M : xM} (hS : clS M0 e n c M) {d : Int32} {post : Int32 → xM → Prop} (h : post (nrst e n c d) M) : xw_Mv_nearestTwo 0 d M post :=
  ⟨n + 1, p_near8 hm hS n 0 (-1) d (by omega) h⟩
theorem eyM.to' {M0 M : xM} {e : xE} (h : eyM M0 e) (h93 : ∀ t, ¬ t = 6 → M 9 t = M0 9 t) : eyM M e := by
  unfold eyM at *
  rw [h93 0 (by decide), h93 4 (by decide), h93 5 (by decide)]; exact h
theorem p_near22 {M0 : xM} {e : xE} {n q L : Nat} (hm : mC M0 e n q L) {c : Nat → Int32} {M : xM} (h93 : ∀ t, ¬ t = 6 → M 9 t = M0 9 t) (h96 : ∀ k, k < 12 → M 9 6 k = c k) {i : Nat} (hi : i < n) {post : Int32 → xM → Prop} {k : Int32 → Int32 → Int32 → xM → Prop} : ∀ (m j : Nat) (x l : Int32), j + m = n → k (nr1 (fun i k => ap e (c i) (c k)) i m j x l).1 (nr1 (fun i k => ap e (c i) (c k)) i m j x l).2 (nI n) M → xw_Mo_nearest_22 (nI i) post k (m + 1) x l (nI j) M := by
  have hn : n ≤ 12 := hm.2.2.2.1
  have hM : M 9 0 9 = nI n := by rw [h93 0 (by decide)]; exact hm.2.2.2.2.2.1
  have hE' : eyM M e := hm.2.2.1.to' h93
  intro m
  induction m with
  | zero =>
    intro j x l hj h
    obtain rfl : j = n := by omega
    unfold xw_Mo_nearest_22
    rw [hM]
    exact ⟨fun _ => h, fun z => absurd (nI_le (Nat.le_refl _) (by omega)) z⟩
  | succ m ih =>
    intro j x l hj h
    unfold xw_Mo_nearest_22
    rw [hM, nI_1, nI_clamp (by omega), nI_clamp (by omega), h96 i (by omega), h96 j (by omega)]
    refine ⟨fun z => absurd ((nI_leI (by omega) (by omega)).mp z) (by omega), fun _ => ⟨vp_in_nI (by omega) (by omega), vp_in_nI (by omega) (by omega), p_Mo_apartOf hm.1 hE' ?_⟩⟩
    unfold nr1 at h
    refine ⟨fun z => ?_, fun z => ih (j + 1) x l (by omega) ?_⟩
    · rw [if_pos z] at h
      rw [show (12 : Int32) = nI 12 from rfl, pk_mul, nI_add, Nat.mul_comm 12 i]
      exact ih (j + 1) _ _ (by omega) h
    · rw [if_neg z] at h
      exact h
theorem p_near7 {M0 : xM} {e : xE} {n q L : Nat} (hm : mC M0 e n q L) {c : Nat → Int32} {M : xM} (h93 : ∀ t, ¬ t = 6 → M 9 t = M0 9 t) (h96 : ∀ k, k < 12 → M 9 6 k = c k) {post : Int32 → xM → Prop} {k : Int32 → Int32 → Int32 → xM → Prop} : ∀ (m i : Nat) (x l : Int32), i + m = n → k (nr2 (fun i k => ap e (c i) (c k)) n m i x l).1 (nr2 (fun i k => ap e (c i) (c k)) n m i x l).2 (nI n) M → xw_Mo_nearest_7 post k (m + 1) x l (nI i) M := by
  have hn : n ≤ 12 := hm.2.2.2.1
  have hM : M 9 0 9 = nI n := by rw [h93 0 (by decide)]; exact hm.2.2.2.2.2.1
  intro m
  induction m with
  | zero =>
    intro i x l hj h
    obtain rfl : i = n := by omega
    unfold xw_Mo_nearest_7
    rw [hM]
    exact ⟨fun _ => h, fun z => absurd (nI_le (Nat.le_refl _) (by omega)) z⟩
  | succ m ih =>
    intro i x l hj h
    unfold xw_Mo_nearest_7
    rw [hM, nI_1]
    refine ⟨fun z => absurd ((nI_leI (by omega) (by omega)).mp z) (by omega), fun _ => ⟨n - (i + 1) + 1, ?_⟩⟩
    exact p_near22 hm h93 h96 (by omega) (n - (i + 1)) (i + 1) x l (by omega) (ih (i + 1) _ _ (by omega) h)
theorem p_nearest {M0 : xM} {e : xE} {n q L : Nat} (hm : mC M0 e n q L) {c : Nat → Int32} {M : xM} (h93 : ∀ t, ¬ t = 6 → M 9 t = M0 9 t) (h96 : ∀ k, k < 12 → M 9 6 k = c k) {d : Int32} {post : Int32 → xM → Prop} (h : post (nrst e n c d) M) : xw_Mo_nearest d M post :=
  ⟨n + 1, p_near7 hm h93 h96 n 0 (-1) d (by omega) h⟩
/-! how it goes -/
def stl (M0 : xM) (e : xE) (n q L : Nat) (d : Int32) : Nat → (Nat → Int32) → Nat → Int32 → (Nat → Int32) → Prop
  | 0, _, _, _, _ => False
  | t + 1, c, r, s, c' => (nrst e n c d = -1 ∧ r = 0 ∧ s = 0 ∧ c' = c) ∨ ∃ a b : Nat, a < b ∧ b < n ∧ nrst e n c d = nI (a * 12 + b) ∧ ((¬ M0 9 7 b = 0 ∧ ¬ M0 9 7 a = 0 ∧ r = 0 ∧ s = 1 ∧ c' = c) ∨ ∃ i : Nat, ((M0 9 7 b = 0 ∧ i = b) ∨ (¬ M0 9 7 b = 0 ∧ i = a)) ∧ M0 9 7 i = 0 ∧ ∃ f l, mvR (-1) M0 e n q L d c i (L * L * L + 1) f l ∧ ((f = -1 ∧ r = 0 ∧ s = 1 ∧ c' = c) ∨ (¬ f = -1 ∧ ∃ r1, r = r1 + 1 ∧ stl M0 e n q L d t (upd c i f) r1 s c')))
theorem pMay_to {M M' : xM} (h : ∀ t, 7 ≤ t → t ≤ 13 → M' 9 t = M 9 t) : pMay M' = pMay M := by
  unfold pMay pOk
  rw [h 8 (by omega) (by omega), h 9 (by omega) (by omega), h 10 (by omega) (by omega), h 11 (by omega) (by omega), h 12 (by omega) (by omega), h 13 (by omega) (by omega)]
theorem stl_to {M M' : xM} (h : ∀ t, 7 ≤ t → t ≤ 13 → M' 9 t = M 9 t) (e : xE) (n q L : Nat) (d : Int32) : ∀ (t : Nat) (c : Nat → Int32) (r : Nat) (s : Int32) (c' : Nat → Int32), stl M e n q L d t c r s c' → stl M' e n q L d t c r s c' := by
  intro t
  induction t with
  | zero => intro c r s c' w; exact w
  | succ t ih =>
    intro c r s c' w
    have hmv : mvR (-1) M' = mvR (-1) M := by unfold mvR; rw [pMay_to h]
    unfold stl at w ⊢
    rw [h 7 (by omega) (by omega), hmv]
    rcases w with w | ⟨a, b, h1, h2, h3, w | ⟨i, h4, h5, f, l, h6, w | ⟨h7, r1, h8, h9⟩⟩⟩
    · exact Or.inl w
    · exact Or.inr ⟨a, b, h1, h2, h3, Or.inl w⟩
    · exact Or.inr ⟨a, b, h1, h2, h3, Or.inr ⟨i, h4, h5, f, l, h6, Or.inl w⟩⟩
    · exact Or.inr ⟨a, b, h1, h2, h3, Or.inr ⟨i, h4, h5, f, l, h6, Or.inr ⟨h7, r1, h8, ih _ _ _ _ h9⟩⟩⟩
/-! how many were moved -/
def cn (m : Nat → Bool) : Nat → Nat
  | 0 => 0
  | n + 1 => cn m n + if m n then 1 else 0
theorem cn_le (m : Nat → Bool) : ∀ n, cn m n ≤ n
  | 0 => Nat.le_refl _
  | n + 1 => by
    have := cn_le m n
    unfold cn
    split <;> omega
theorem cn_lt {m : Nat → Bool} {i : Nat} (hm : m i = false) : ∀ n, i < n → cn m n < n
  | 0, h => by omega
  | n + 1, h => by
    unfold cn
    by_cases e : i = n
    · subst e
      have := cn_le m i
      rw [hm]
      simp
      omega
    · have := cn_lt hm n (by omega)
      split <;> omega
theorem cn_same {m m' : Nat → Bool} : ∀ n, (∀ k, k < n → m' k = m k) → cn m' n = cn m n
  | 0, _ => rfl
  | n + 1, h => by
    unfold cn
    rw [h n (by omega), cn_same n (fun k hk => h k (by omega))]
theorem cn_upd {m : Nat → Bool} {i : Nat} (hm : m i = false) : ∀ n, i < n → cn (fun k => if k = i then true else m k) n = cn m n + 1
  | 0, h => by omega
  | n + 1, h => by
    unfold cn
    by_cases e : i = n
    · subst e
      rw [cn_same (m := m) i (fun k hk => if_neg (by omega)), hm]
      simp
    · rw [cn_upd hm n (by omega), if_neg (show ¬ n = i by omega)]
      omega
theorem us_id {M : xM} {g i k : Nat} {v : Int32} (h : M g i k = v) : us M g i k v = M := by
  funext g' i'
  by_cases w : g' = g ∧ i' = i
  · obtain ⟨rfl, rfl⟩ := w
    rw [us_self]
    funext j
    by_cases ej : j = k
    · subst ej; rw [upd_self, h]
    · rw [upd_ne _ _ ej]
  · rw [us_ne _ _ w]
theorem p_moveAll12 {M0 : xM} {e : xE} {n q L : Nat} (hm : mC M0 e n q L) (h24 : M0 8 11 2 = 0) {d : Int32} {post : Int32 → xM → Prop} {k : Int32 → xM → Prop} : ∀ (t x : Nat) (c : Nat → Int32) (mb : Nat → Bool) (M : xM), cn mb n + t = n → x + t ≤ 12 → (∀ i, i < n → mb i = true → ∀ k, k < n → ¬ k = i → d ≤ ap e (c i) (c k)) → clS M0 e n c M → (∀ r s c' M', stl M0 e n q L d (t + 1) c r s c' → clS M0 e n c' M' → post (nI (x + r)) (us M' 8 11 2 s)) → xw_Mv_moveAll_12 0 d post k (t + 1) (nI x) M := by
  have hn : n ≤ 12 := hm.2.2.2.1
  have hL : 2 ≤ L := hm.2.2.2.2.2.2.2.2.2.1
  have hcc : ∀ k, k < 12 → M0 0 5 k = M0 9 7 k := by
    obtain ⟨n', q', hn', hq', -, -, hcc, -⟩ := hm.2.2.2.2.2.2.2.2.2.2.2.2.2
    exact fun k hk => (hcc k hk).2.1
  intro t
  induction t with
  | zero =>
    intro x c mb M hcn hx hmb hS h
    unfold xw_Mv_moveAll_12
    refine ⟨fun z => absurd ((nI_leI (a := 50) (by omega) (by omega)).mp z) (by omega), fun _ => p_nearestTwo hm hS ?_⟩
    rcases nrst_P e n c d with hr | ⟨a, b, ha, hb, hr, hd⟩
    · rw [hr]
      refine ⟨fun w => absurd rfl w, fun _ => ?_⟩
      have := h 0 0 c M (Or.inl ⟨hr, rfl, rfl, rfl⟩) hS
      rw [us_id (by rw [hS.1 8 11 (by decide) (by decide)]; exact h24)] at this
      exact this
    · have hmb' : mb a = true := by
        cases w : mb a with
        | true => rfl
        | false => have := cn_lt w n (by omega); omega
      have := hmb a (by omega) hmb' b hb (by omega)
      rw [ilt] at hd; rw [ile] at this; omega
  | succ t ih =>
    intro x c mb M hcn hx hmb hS h
    unfold xw_Mv_moveAll_12
    refine ⟨fun z => absurd ((nI_leI (a := 50) (by omega) (by omega)).mp z) (by omega), fun _ => p_nearestTwo hm hS ?_⟩
    rcases nrst_P e n c d with hr | ⟨a, b, ha, hb, hr, hd⟩
    · rw [hr]
      refine ⟨fun w => absurd rfl w, fun _ => ?_⟩
      have := h 0 0 c M (Or.inl ⟨hr, rfl, rfl, rfl⟩) hS
      rw [us_id (by rw [hS.1 8 11 (by decide) (by decide)]; exact h24)] at this
      exact this
    · have hmf : ∀ i j, i < n → j < n → ¬ j = i → ap e (c i) (c j) < d → mb i = false := by
        intro i j h1 h2 h3 h4
        cases w : mb i with
        | false => rfl
        | true => have := hmb i h1 w j h2 h3
                  rw [ilt] at h4; rw [ile] at this; omega
      have hma : mb a = false := hmf a b (by omega) hb (by omega) hd
      have hmb2 : mb b = false := hmf b a hb (by omega) (by omega) (by rw [ap_symm]; exact hd)
      have hr' := hr
      rw [hr, show (12 : Int32) = nI 12 from rfl, pk_rem (by omega) (by omega) (by omega), pk_div (by omega) (by omega) (by omega), show (a * 12 + b) / 12 = a by omega, show (a * 12 + b) % 12 = b by omega]
      refine ⟨fun _ => ?_, fun w => absurd w (nI_m1 (by omega))⟩
      have sh : ∀ i, i < n → mb i = false → ((M0 9 7 b = 0 ∧ i = b) ∨ (¬ M0 9 7 b = 0 ∧ i = a)) → M0 9 7 i = 0 → xw_Mv_shift 0 (nI i) d M (fun (r7 : Int32) (M6 : xM) => ((¬ r7 = (-1 : Int32)) → (xw_Mv_moveAll_12 0 d post k (t + 1) (nI x + (1 : Int32)) M6)) ∧ ((r7 = (-1 : Int32)) → (post (nI x) (us M6 8 11 2 (1 : Int32))))) := by
        intro i hi hbi hor hfr
        refine p_shift hm hi hS (fun M' f l hR hS' => ?_)
        obtain ⟨l', hR'⟩ := isR.z' (-1) hR
        rcases hS' with ⟨hf, hS'⟩ | ⟨hf, hS'⟩
        · rw [if_pos hf]
          exact ⟨fun w => absurd rfl w, fun _ => h 0 1 c M' (Or.inr ⟨a, b, ha, hb, hr', Or.inr ⟨i, hor, hfr, f, l', hR', Or.inl ⟨hf, rfl, rfl, rfl⟩⟩⟩) hS'⟩
        · rw [if_neg hf]
          obtain ⟨j, hj, ej⟩ := mvR_l hm.1 hR hf
          have hl1 : ¬ l = -1 := by rw [ej]; exact nI_m1 (by omega)
          have hmay := (mvR_col hL (hS.2.2.2 i (by omega)) hR hf).2
          refine ⟨fun _ => ?_, fun w => absurd w hl1⟩
          rw [nI_1]
          refine ih (x + 1) (upd c i f) (fun k => if k = i then true else mb k) M' (by rw [cn_upd hbi n hi]; omega) (by omega) (fun y hy hyb z hz hzy => ?_) hS' (fun r s c' M'' hst hS'' => ?_)
          · by_cases ey : y = i
            · subst ey
              rw [upd_self, upd_ne _ _ hzy]
              exact hmay.2.2 z hz hzy
            · rw [if_neg ey] at hyb
              rw [upd_ne _ _ ey]
              by_cases ez : z = i
              · subst ez
                rw [upd_self, ap_symm]
                exact hmay.2.2 y hy ey
              · rw [upd_ne _ _ ez]
                exact hmb y hy hyb z hz hzy
          · rw [show x + 1 + r = x + (r + 1) by omega]
            exact h (r + 1) s c' M'' (Or.inr ⟨a, b, ha, hb, hr', Or.inr ⟨i, hor, hfr, f, l', hR', Or.inr ⟨hf, r, rfl, hst⟩⟩⟩) hS''
      unfold xw_Mv_laterFree
      rw [nI_clamp (by omega), nI_clamp (by omega), hS.1 0 5 (by decide) (by decide), hcc b (by omega), hcc a (by omega)]
      refine ⟨vp_in_nI (by omega) (by omega), fun zb => ⟨vp_in_nI (by omega) (by omega), fun za => ⟨fun w => absurd w (nI_m1 (by omega)), fun _ => sh a (by omega) hma (Or.inr ⟨zb, rfl⟩) za⟩, fun za => ⟨fun _ => ?_, fun w => absurd rfl w⟩⟩, fun zb => ⟨fun w => absurd w (nI_m1 (by omega)), fun _ => sh b hb hmb2 (Or.inl ⟨zb, rfl⟩) zb⟩⟩
      exact h 0 1 c M (Or.inr ⟨a, b, ha, hb, hr', Or.inl ⟨zb, za, rfl, rfl, rfl⟩⟩) hS
