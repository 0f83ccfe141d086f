/-! ===== move ===== -/
theorem nI_m1 {n : Nat} (h : n < 2147483648) : ¬ nI n = -1 := fun z => by
  rw [ieq, nI_toInt h, show (-1 : Int32).toInt = -1 from rfl] at z
  omega
/-- the first of the least, of those that may be -/
def isR (z : Int32) (cs aw : Nat → Int32) (MB : Nat → Prop) (K : Nat) (f l : Int32) : Prop := (f = -1 ∧ l = z ∧ ∀ q, q < K → ¬ MB q) ∨ (∃ q, q < K ∧ MB q ∧ f = cs q ∧ l = aw q ∧ (∀ p, p < K → MB p → aw q ≤ aw p) ∧ ∀ p, p < q → MB p → ¬ aw p ≤ aw q)
theorem isR.zero (z : Int32) (cs aw : Nat → Int32) (MB : Nat → Prop) : isR z cs aw MB 0 (-1) z := Or.inl ⟨rfl, rfl, fun q hq => by omega⟩
theorem isR.skip {z : Int32} {cs aw : Nat → Int32} {MB : Nat → Prop} {K K' : Nat} {f l : Int32} (h : isR z cs aw MB K f l) (hK : K ≤ K') (hn : ∀ q, K ≤ q → q < K' → ¬ MB q) : isR z cs aw MB K' f l := by
  rcases h with ⟨h1, h2, h3⟩ | ⟨q, h1, h2, h3, h4, h5, h6⟩
  · refine Or.inl ⟨h1, h2, fun q hq => ?_⟩
    rcases Nat.lt_or_ge q K with w | w
    · exact h3 q w
    · exact hn q w hq
  · refine Or.inr ⟨q, by omega, h2, h3, h4, fun p hp hm => ?_, h6⟩
    rcases Nat.lt_or_ge p K with w | w
    · exact h5 p w hm
    · exact absurd hm (hn p w hp)
theorem isR.skip1 {z : Int32} {cs aw : Nat → Int32} {MB : Nat → Prop} {K : Nat} {f l : Int32} (h : isR z cs aw MB K f l) (hn : ¬ MB K) : isR z cs aw MB (K + 1) f l :=
  h.skip (by omega) (fun q h1 h2 => by obtain rfl : q = K := by omega
                                       exact hn)
theorem isR.far {z : Int32} {cs aw : Nat → Int32} {MB : Nat → Prop} {K : Nat} {f l : Int32} (h : isR z cs aw MB K f l) (hz : z ≤ aw K → ¬ MB K) (hl : l ≤ aw K) : isR z cs aw MB (K + 1) f l := by
  rcases id h with ⟨h1, h2, h3⟩ | ⟨q, h1, h2, h3, h4, h5, h6⟩
  · exact h.skip1 (hz (h2 ▸ hl))
  · refine Or.inr ⟨q, by omega, h2, h3, h4, fun p hp hm => ?_, h6⟩
    rcases Nat.lt_or_ge p K with w | w
    · exact h5 p w hm
    · obtain rfl : p = K := by omega
      rw [← h4]; exact hl
theorem isR.take {z : Int32} {cs aw : Nat → Int32} {MB : Nat → Prop} {K : Nat} {f l : Int32} (h : isR z cs aw MB K f l) (hcs : ∀ q, q < K → ¬ cs q = -1) (hl : f = -1 ∨ ¬ l ≤ aw K) (hm : MB K) : isR z cs aw MB (K + 1) (cs K) (aw K) := by
  have key : ∀ p, p < K → MB p → ¬ aw p ≤ aw K := by
    intro p hp hmp
    rcases h with ⟨h1, h2, h3⟩ | ⟨q, h1, h2, h3, h4, h5, h6⟩
    · exact absurd hmp (h3 p hp)
    · have a := h5 p hp hmp
      rcases hl with hl | hl
      · exact absurd (h3.symm.trans hl) (hcs q h1)
      · rw [h4] at hl
        simp only [ile] at *
        omega
  refine Or.inr ⟨K, by omega, hm, rfl, rfl, fun p hp hmp => ?_, key⟩
  rcases Nat.lt_or_ge p K with w | w
  · have := key p w hmp
    simp only [ile] at *
    omega
  · obtain rfl : p = K := by omega
    simp only [ile]
    omega
theorem isR.uniq {z z' : Int32} {cs aw : Nat → Int32} {MB : Nat → Prop} {K : Nat} {f l f' l' : Int32} (h : isR z cs aw MB K f l) (h' : isR z' cs aw MB K f' l') : f = f' ∧ ((f = -1 ∧ l = z ∧ l' = z') ∨ (l = l' ∧ ∃ q, q < K ∧ MB q ∧ f = cs q ∧ l = aw q)) := by
  rcases h with ⟨h1, h2, h3⟩ | ⟨q, h1, h2, h3, h4, h5, h6⟩
  · rcases h' with ⟨g1, g2, g3⟩ | ⟨p, g1, g2, g3, g4, g5, g6⟩
    · exact ⟨h1.trans g1.symm, Or.inl ⟨h1, h2, g2⟩⟩
    · exact absurd g2 (h3 p g1)
  · rcases h' with ⟨g1, g2, g3⟩ | ⟨p, g1, g2, g3, g4, g5, g6⟩
    · exact absurd h2 (g3 q h1)
    · have e : q = p := by
        rcases Nat.lt_trichotomy q p with w | w | w
        · exact absurd (h5 p g1 g2) (g6 q w h2)
        · exact w
        · exact absurd (g5 q h1 h2) (h6 p w g2)
      subst e
      exact ⟨h3.trans g3.symm, Or.inr ⟨h4.trans g4.symm, q, h1, h2, h3, h4⟩⟩
theorem isR.z' {z : Int32} (z' : Int32) {cs aw : Nat → Int32} {MB : Nat → Prop} {K : Nat} {f l : Int32} (h : isR z cs aw MB K f l) : ∃ l', isR z' cs aw MB K f l' := by
  rcases h with ⟨h1, h2, h3⟩ | ⟨q, h⟩
  · exact ⟨z', Or.inl ⟨h1, rfl, h3⟩⟩
  · exact ⟨_, Or.inr ⟨q, h⟩⟩
/-! what a colour of the house may become -/
theorem lk0 (e : xE) {c : Int32} (hc : sp_col c) : lk e 0 c = c := sp_made_th hc
theorem p_weighed0 {e : xE} (ok : eyOk e) {M : xM} (hE : eyC M e) {a b : Int32} (ha : sp_col a) (hb : sp_col b) {post : Int32 → xM → Prop} (h : post (dd e 0 a b) M) : xw_Ey_weighed 0 a b M post := by
  have := p_weighed (s := 0) ok hE h
  rw [lk0 e ha, lk0 e hb] at this
  exact this
abbrev pOk (M0 : xM) (c : Nat → Int32) (i : Nat) (v : Int32) (p : Nat) : Prop := (M0 9 11 p = nI i → sp_met v (c (M0 9 12 p).toNatClampNeg) (M0 9 13 p)) ∧ (M0 9 12 p = nI i → sp_met v (c (M0 9 11 p).toNatClampNeg) (M0 9 13 p))
def pMay (M0 : xM) (e : xE) (n q : Nat) (d : Int32) (c : Nat → Int32) (i : Nat) (v : Int32) : Prop := sp_na (M0 9 8) (M0 9 9) (M0 9 10) i v ∧ (∀ p, p < q → pOk M0 c i v p) ∧ ∀ k, k < n → ¬ k = i → d ≤ ap e v (c k)
/-- what stands: the house of M0, in both -/
def mC (M0 : xM) (e : xE) (n q L : Nat) : Prop := eyOk e ∧ eyC M0 e ∧ eyM M0 e ∧ n ≤ 12 ∧ q ≤ 20 ∧ M0 9 0 9 = nI n ∧ M0 0 3 0 = nI n ∧ M0 9 0 10 = nI q ∧ M0 0 3 6 = nI q ∧ 2 ≤ L ∧ L ≤ 4 ∧ M0 9 0 7 = nI L ∧ M0 0 12 0 = nI L ∧ vHouse (M0 0) (mv M0)
theorem mC.of {M : xM} (h : vKept (M 0) (mv M)) : ∃ e : xE, ∃ n q L : Nat, mC M e n q L := by
  obtain ⟨e, ok, eC, eM⟩ := h.e
  obtain ⟨g1, l, l1, l2, g2⟩ := h.2.1
  obtain ⟨n, q, hn, hq, ⟨n1, n2⟩, ⟨q1, q2⟩, -⟩ := h.2.2
  exact ⟨e, n, q, l, ok, eC, eM, hn, hq, n1, n2, q1, q2, l1, l2, g2, g1.trans g2, h.2.2⟩
theorem pOk_pair {M0 : xM} {e : xE} {n q L : Nat} (h : mC M0 e n q L) {p : Nat} (hp : p < q) : ∃ x y : Nat, x < y ∧ y < n ∧ M0 0 9 p = nI x ∧ M0 0 10 p = nI y ∧ M0 0 11 p = M0 9 13 p ∧ ((M0 9 11 p = nI x ∧ M0 9 12 p = nI y) ∨ (M0 9 11 p = nI y ∧ M0 9 12 p = nI x)) ∧ ∀ (c : Nat → Int32) (i : Nat) (v : Int32), i < n → (pOk M0 c i v p ↔ ((x = i → sp_met v (c y) (M0 9 13 p)) ∧ (y = i → sp_met v (c x) (M0 9 13 p)))) := by
  obtain ⟨-, -, -, hn, hq, n1, -, q1, -, -, -, -, -, hH⟩ := h
  obtain ⟨n', q', hn', hq', ⟨n1', n2'⟩, ⟨q1', q2'⟩, hc, hr, hb, hpp⟩ := hH
  have e1 : n' = n := (nI_eq (by omega) (by omega)).mp (n1'.symm.trans n1)
  have e2 : q' = q := (nI_eq (by omega) (by omega)).mp (q1'.symm.trans q1)
  subst e1 e2
  obtain ⟨t, x, y, hxy, hyn, c1, c2, hm⟩ := hpp p hp
  have hm : (M0 9 11 p = nI x ∧ M0 9 12 p = nI y) ∨ (M0 9 11 p = nI y ∧ M0 9 12 p = nI x) := hm
  refine ⟨x, y, hxy, hyn, c1, c2, t, hm, fun c i v hi => ?_⟩
  unfold pOk
  rcases hm with ⟨m1, m2⟩ | ⟨m1, m2⟩
  · rw [m1, m2, nI_eq (by omega) (by omega), nI_eq (by omega) (by omega), nI_clamp (by omega), nI_clamp (by omega)]
  · rw [m1, m2, nI_eq (by omega) (by omega), nI_eq (by omega) (by omega), nI_clamp (by omega), nI_clamp (by omega)]
    exact ⟨fun w => ⟨w.2, w.1⟩, fun w => ⟨w.2, w.1⟩⟩
theorem p_pairs2 {M0 : xM} {e : xE} {n q L : Nat} (hm : mC M0 e n q L) {c : Nat → Int32} {i : Nat} (hi : i < n) {v : Int32} {M : xM} (h03 : ∀ t, ¬ t = 4 → M 0 t = M0 0 t) (h04 : ∀ k, k < 12 → M 0 4 k = c k) {post : Int32 → xM → Prop} {k : Int32 → xM → Prop} : ∀ (m j : Nat), j + m = q → (∀ p, j ≤ p → p < q → ¬ pOk M0 c i v p → post 0 M) → ((∀ p, j ≤ p → p < q → pOk M0 c i v p) → k (nI q) M) → xw_Ho_pairsAllow_2 0 (nI i) v post k (m + 1) (nI j) M := by
  have hn : n ≤ 12 := hm.2.2.2.1
  have hq : q ≤ 20 := hm.2.2.2.2.1
  have hM : M 0 3 6 = nI q := by rw [h03 3 (by decide)]; exact hm.2.2.2.2.2.2.2.2.1
  intro m
  induction m with
  | zero =>
    intro j hj hE hN
    obtain rfl : j = q := by omega
    unfold xw_Ho_pairsAllow_2
    rw [hM]
    exact ⟨fun _ => hN (fun r h1 h2 => by omega), fun z => absurd (nI_le (Nat.le_refl _) (by omega)) z⟩
  | succ m ih =>
    intro j hj hE hN
    obtain ⟨x, y, hxy, hyn, c1, c2, t, -, hok⟩ := pOk_pair hm (p := j) (by omega)
    have next : pOk M0 c i v j → xw_Ho_pairsAllow_2 0 (nI i) v post k (m + 1) (nI (j + 1)) M := fun w => ih (j + 1) (by omega) (fun p h1 => hE p (by omega)) (fun h => hN fun r h1 h2 => by
      by_cases er : r = j
      · subst er; exact w
      · exact h r (by omega) h2)
    have stop : ¬ pOk M0 c i v j → post 0 M := hE j (Nat.le_refl _) (by omega)
    unfold xw_Ho_pairsAllow_2 xw_Ho_partnerOf
    have hin : vp_in (nI j) 20 := vp_in_nI (by omega) (by omega)
    dsimp only
    rw [hM, nI_clamp (by omega), nI_1, h03 9 (by decide), h03 10 (by decide), h03 11 (by decide), c1, c2, t, nI_eq (by omega) (by omega), nI_eq (by omega) (by omega)]
    refine ⟨fun z => absurd ((nI_leI (by omega) (by omega)).mp z) (by omega), fun _ => ⟨hin, fun zx => ⟨hin, fun zy => ⟨fun _ => next ((hok c i v hi).mpr ⟨fun w => absurd w zx, fun w => absurd w zy⟩), fun w => absurd rfl w⟩, fun zy => ⟨hin, fun w => absurd w (nI_m1 (by omega)), fun _ => ⟨vp_in_nI (by omega) (by omega), hin, ?_⟩⟩⟩, fun zx => ⟨hin, fun w => absurd w (nI_m1 (by omega)), fun _ => ⟨vp_in_nI (by omega) (by omega), hin, ?_⟩⟩⟩⟩
    · rw [nI_clamp (by omega), h04 x (by omega)]
      refine p_reaches (br (fun w => next ((hok c i v hi).mpr ⟨fun w' => absurd w' zx, fun _ => w⟩)) (fun w => stop (fun y' => w (((hok c i v hi).mp y').2 zy))))
    · rw [nI_clamp (by omega), h04 y (by omega)]
      refine p_reaches (br (fun w => next ((hok c i v hi).mpr ⟨fun _ => w, fun w' => absurd (zx.trans w'.symm) (by omega)⟩)) (fun w => stop (fun y' => w (((hok c i v hi).mp y').1 zx))))
theorem p_mayBe56 {M0 : xM} {e : xE} {n q L : Nat} (hm : mC M0 e n q L) {c : Nat → Int32} {i : Nat} (hi : i < n) {v : Int32} {M : xM} (h93 : ∀ t, ¬ t = 6 → M 9 t = M0 9 t) (h96 : ∀ k, k < 12 → M 9 6 k = c k) {post : Int32 → xM → Prop} {k : Int32 → xM → Prop} : ∀ (m j : Nat), j + m = q → (∀ p, j ≤ p → p < q → ¬ pOk M0 c i v p → post 0 M) → ((∀ p, j ≤ p → p < q → pOk M0 c i v p) → k (nI q) M) → xw_Mo_mayBe_56 (nI i) v post k (m + 1) (nI j) M := by
  have hn : n ≤ 12 := hm.2.2.2.1
  have hq : q ≤ 20 := hm.2.2.2.2.1
  have hM : M 9 0 10 = nI q := by rw [h93 0 (by decide)]; exact hm.2.2.2.2.2.2.2.1
  intro m
  induction m with
  | zero =>
    intro j hj hE hN
    obtain rfl : j = q := by omega
    unfold xw_Mo_mayBe_56
    rw [hM]
    exact ⟨fun _ => hN (fun r h1 h2 => by omega), fun z => absurd (nI_le (Nat.le_refl _) (by omega)) z⟩
  | succ m ih =>
    intro j hj hE hN
    obtain ⟨x, y, hxy, hyn, -, -, -, hmp, -⟩ := pOk_pair hm (p := j) (by omega)
    obtain ⟨a, b, hab, han, hbn, m1, m2⟩ : ∃ a b : Nat, ¬ a = b ∧ a < n ∧ b < n ∧ M0 9 11 j = nI a ∧ M0 9 12 j = nI b := by
      rcases hmp with ⟨m1, m2⟩ | ⟨m1, m2⟩
      · exact ⟨x, y, by omega, by omega, hyn, m1, m2⟩
      · exact ⟨y, x, by omega, hyn, by omega, m1, m2⟩
    have hok : pOk M0 c i v j ↔ ((a = i → sp_met v (c b) (M0 9 13 j)) ∧ (b = i → sp_met v (c a) (M0 9 13 j))) := by
      unfold pOk
      rw [m1, m2, nI_eq (by omega) (by omega), nI_eq (by omega) (by omega), nI_clamp (by omega), nI_clamp (by omega)]
    have next : pOk M0 c i v j → xw_Mo_mayBe_56 (nI i) v post k (m + 1) (nI (j + 1)) M := fun w => ih (j + 1) (by omega) (fun p h1 => hE p (by omega)) (fun h => hN fun r h1 h2 => by
      by_cases er : r = j
      · subst er; exact w
      · exact h r (by omega) h2)
    have stop : ¬ pOk M0 c i v j → post 0 M := hE j (Nat.le_refl _) (by omega)
    unfold xw_Mo_mayBe_56
    have hin : vp_in (nI j) 20 := vp_in_nI (by omega) (by omega)
    rw [hM, nI_clamp (by omega), nI_1, h93 11 (by decide), h93 12 (by decide), m1, m2, nI_eq (by omega) (by omega), nI_eq (by omega) (by omega)]
    refine ⟨fun z => absurd ((nI_leI (by omega) (by omega)).mp z) (by omega), fun _ => ⟨hin, ?_⟩⟩
    refine xj_i (M := M) (a = i ∨ b = i) (fun hor => ⟨hin, ?_⟩) (fun J hJ => ⟨fun z => hJ (Or.inl z), fun z => ⟨hin, fun z2 => hJ (Or.inr z2), fun z2 => next (hok.mpr ⟨fun w => absurd w z, fun w => absurd w z2⟩)⟩⟩)
    unfold xj
    dsimp only
    rw [h93 11 (by decide), h93 12 (by decide), h93 13 (by decide), m1, m2, nI_eq (by omega) (by omega), nI_clamp (by omega), nI_clamp (by omega), h96 a (by omega), h96 b (by omega)]
    refine ⟨fun z => ⟨hin, vp_in_nI (by omega) (by omega), hin, p_isMet (br (fun w => next (hok.mpr ⟨fun w' => absurd w' z, fun _ => w⟩)) (fun w => stop (fun y' => w ((hok.mp y').2 (hor.resolve_left z)))))⟩, fun z => ⟨hin, vp_in_nI (by omega) (by omega), hin, p_isMet (br (fun w => next (hok.mpr ⟨fun _ => w, fun w' => absurd (z.trans w'.symm) hab⟩)) (fun w => stop (fun y' => w ((hok.mp y').1 z))))⟩⟩
theorem p_mayBe14 {M0 : xM} {e : xE} {n q L : Nat} (hm : mC M0 e n q L) {c : Nat → Int32} {i : Nat} (hi : i < n) {v d : Int32} {M : xM} (h93 : ∀ t, ¬ t = 6 → M 9 t = M0 9 t) (h96 : ∀ k, k < 12 → M 9 6 k = c k) {post : Int32 → xM → Prop} {k : Int32 → xM → Prop} : ∀ (m j : Nat), j + m = n → (∀ t, j ≤ t → t < n → ¬ t = i → ¬ d ≤ ap e v (c t) → post 0 M) → ((∀ t, j ≤ t → t < n → ¬ t = i → d ≤ ap e v (c t)) → k (nI n) M) → xw_Mo_mayBe_14 (nI i) v d post k (m + 1) (nI j) M := by
  have hn : n ≤ 12 := hm.2.2.2.1
  have hM : M 9 0 9 = nI n := by rw [h93 0 (by decide)]; exact hm.2.2.2.2.2.1
  have hE' : eyM M e := by
    have := hm.2.2.1
    unfold eyM at *
    rw [h93 0 (by decide), h93 4 (by decide), h93 5 (by decide)]; exact this
  intro m
  induction m with
  | zero =>
    intro j hj hE hN
    obtain rfl : j = n := by omega
    unfold xw_Mo_mayBe_14
    rw [hM]
    exact ⟨fun _ => hN (fun r h1 h2 => by omega), fun z => absurd (nI_le (Nat.le_refl _) (by omega)) z⟩
  | succ m ih =>
    intro j hj hE hN
    unfold xw_Mo_mayBe_14
    rw [hM, nI_clamp (by omega), nI_1, nI_eq (by omega) (by omega), h96 j (by omega)]
    refine ⟨fun z => absurd ((nI_leI (by omega) (by omega)).mp z) (by omega), fun _ => ⟨fun z => ih (j + 1) (by omega) (fun t h1 => hE t (by omega)) (fun h => hN fun t h1 h2 h3 => ?_), fun z => ⟨vp_in_nI (by omega) (by omega), p_Mo_apartOf hm.1 hE' ⟨fun w => ih (j + 1) (by omega) (fun t h1 => hE t (by omega)) (fun h => hN fun t h1 h2 h3 => ?_), fun w => hE j (Nat.le_refl _) (by omega) z w⟩⟩⟩⟩
    · by_cases et : t = j
      · subst et; exact absurd z h3
      · exact h t (by omega) h2 h3
    · by_cases et : t = j
      · subst et; exact w
      · exact h t (by omega) h2 h3
theorem p_mayBe {M0 : xM} {e : xE} {n q L : Nat} (hm : mC M0 e n q L) {c : Nat → Int32} {i : Nat} (hi : i < n) {v d : Int32} {M : xM} (h93 : ∀ t, ¬ t = 6 → M 9 t = M0 9 t) (h96 : ∀ k, k < 12 → M 9 6 k = c k) {post : Int32 → xM → Prop} (hT : pMay M0 e n q d c i v → post 1 M) (hF : ¬ pMay M0 e n q d c i v → post 0 M) : xw_Mo_mayBe (nI i) v d M post := by
  have hn : n ≤ 12 := hm.2.2.2.1
  have nm9 : M 9 8 i = -1 ∨ ∃ j : Nat, j < 8 ∧ M 9 8 i = nI j := by
    rw [h93 8 (by decide)]
    obtain ⟨n', q', hn', hq', -, -, hc, hr, -⟩ := hm.2.2.2.2.2.2.2.2.2.2.2.2.2
    exact (hr i (by omega)).2.2
  refine p_isNamed (by omega) nm9 ?_
  rw [h93 8 (by decide), h93 9 (by decide), h93 10 (by decide)]
  refine br (fun h1 => ⟨n + 1, p_mayBe14 hm hi h93 h96 n 0 (by omega) (fun t _ h2 h3 h4 => hF fun w => h4 (w.2.2 t h2 h3)) (fun h2 => ⟨q + 1, p_mayBe56 hm hi h93 h96 q 0 (by omega) (fun p _ h3 h4 => hF fun w => h4 (w.2.1 p h3)) (fun h3 => hT ⟨h1, fun p hp => h3 p (by omega) hp, fun t ht => h2 t (by omega) ht⟩)⟩)⟩) (fun h1 => hF fun w => h1 w.1)
/-! the class: far from the others -/
def clS (M0 : xM) (e : xE) (n : Nat) (c : Nat → Int32) (M : xM) : Prop := (∀ g t, ¬ (g = 0 ∧ t = 4) → ¬ (g = 8 ∧ (t = 12 ∨ t = 13)) → M g t = M0 g t) ∧ (∀ k, k < 12 → M 0 4 k = c k) ∧ (∀ k, k < n → vw M e 8 12 k (c k)) ∧ ∀ k, k < 12 → sp_col (c k)
theorem vw.to {M M' : xM} {e : xE} {g i r : Nat} {c : Int32} (h : vw M e g i r c) (hM : M' g i = M g i) : vw M' e g i r c := by
  unfold vw at *; rw [hM]; exact h
theorem p_far16 {M0 : xM} {e : xE} {n q L : Nat} (hm : mC M0 e n q L) {c : Nat → Int32} {i : Nat} (hi : i < n) {v d : Int32} {M : xM} (hS : clS M0 e n c M) (hv : vw M e 8 13 0 v) {post : Int32 → xM → Prop} {k : Int32 → xM → Prop} : ∀ (m j : Nat), j + m = n → (∀ t, j ≤ t → t < n → ¬ t = i → ¬ d ≤ ap e v (c t) → post 0 M) → ((∀ t, j ≤ t → t < n → ¬ t = i → d ≤ ap e v (c t)) → k (nI n) M) → xw_Mv_isFarFromOthers_16 0 (nI i) d post k (m + 1) (nI j) M := by
  have hn : n ≤ 12 := hm.2.2.2.1
  have hM : M 0 3 0 = nI n := by rw [hS.1 0 3 (by decide) (by decide)]; exact hm.2.2.2.2.2.2.1
  have hE' : eyC M e := hm.2.1.to (hS.1 0 1 (by decide) (by decide)) (hS.1 0 2 (by decide) (by decide))
  intro m
  induction m with
  | zero =>
    intro j hj hE hN
    obtain rfl : j = n := by omega
    unfold xw_Mv_isFarFromOthers_16
    rw [hM]
    exact ⟨fun _ => hN (fun r h1 h2 => by omega), fun z => absurd (nI_le (Nat.le_refl _) (by omega)) z⟩
  | succ m ih =>
    intro j hj hE hN
    unfold xw_Mv_isFarFromOthers_16
    rw [hM, nI_1, nI_eq (by omega) (by omega)]
    refine ⟨fun z => absurd ((nI_leI (by omega) (by omega)).mp z) (by omega), fun _ => ⟨fun z => ih (j + 1) (by omega) (fun t h1 => hE t (by omega)) (fun h => hN fun t h1 h2 h3 => ?_), fun z => p_leastOfViews (r1 := 0) hm.1 hE' hv (hS.2.2.1 j (by omega)) (by omega) (by omega) (by omega) (by omega) ⟨fun w => ih (j + 1) (by omega) (fun t h1 => hE t (by omega)) (fun h => hN fun t h1 h2 h3 => ?_), fun w => hE j (Nat.le_refl _) (by omega) z w⟩⟩⟩
    · by_cases et : t = j
      · subst et; exact absurd z h3
      · exact h t (by omega) h2 h3
    · by_cases et : t = j
      · subst et; exact w
      · exact h t (by omega) h2 h3
theorem p_far {M0 : xM} {e : xE} {n q L : Nat} (hm : mC M0 e n q L) {c : Nat → Int32} {i : Nat} (hi : i < n) {v d : Int32} (hv : sp_col v) {M : xM} (hS : clS M0 e n c M) {post : Int32 → xM → Prop} (hT : ∀ M', clS M0 e n c M' → (∀ t, t < n → ¬ t = i → d ≤ ap e v (c t)) → post 1 M') (hF : ∀ M', clS M0 e n c M' → ¬ (∀ t, t < n → ¬ t = i → d ≤ ap e v (c t)) → post 0 M') : xw_Mv_isFarFromOthers 0 (nI i) v d M post := by
  have hE' : eyC M e := hm.2.1.to (hS.1 0 1 (by decide) (by decide)) (hS.1 0 2 (by decide) (by decide))
  unfold xw_Mv_isFarFromOthers
  refine p_lookWithAll (r := 0) hm.1 hv (by omega) (by omega) (by decide) (by decide) hE' (fun M' q1 q2 q3 => ?_)
  have hS' : clS M0 e n c M' := ⟨fun g t h1 h2 => by rw [q1 g t (fun w => h2 ⟨w.1, Or.inr w.2⟩)]; exact hS.1 g t h1 h2, fun k hk => by rw [q1 0 4 (by decide)]; exact hS.2.1 k hk, fun k hk => (hS.2.2.1 k hk).to (q1 8 12 (by decide)), hS.2.2.2⟩
  exact ⟨n + 1, p_far16 hm hi hS' q3 n 0 (by omega) (fun t _ h2 h3 h4 => hF M' hS' fun w => h4 (w t h2 h3)) (fun h => hT M' hS' fun t h2 h3 => h t (by omega) h2 h3)⟩
/-! shift and moves -/
def cnd (L : Nat) (c : Nat → Int32) (i : Nat) (x : Nat) : Int32 := if x = 0 then c i else sp_pl L (x - 1)
theorem cnd_col {L : Nat} (h2 : 2 ≤ L) {c : Nat → Int32} {i : Nat} (hc : sp_col (c i)) {x : Nat} (hx : x < L * L * L + 1) : sp_col (cnd L c i x) := by
  unfold cnd
  split
  · exact hc
  · exact sp_pl_col h2 (by omega)
theorem col_ne {v : Int32} (h : sp_col v) : ¬ v = -1 := fun w => by
  rw [w] at h
  exact absurd h.1 (by decide)
theorem dd_lt {e : xE} (ok : eyOk e) (s : Nat) (a b : Int32) : ¬ (2000000 : Int32) ≤ dd e s a b := by
  obtain ⟨j, hj, ej⟩ := dd_nI ok s a b
  rw [ej]
  exact fun w => absurd ((nI_leI (a := 2000000) (by omega) (by omega)).mp w) (by omega)
theorem p_shift21 {M0 : xM} {e : xE} {n q L : Nat} (hm : mC M0 e n q L) {c : Nat → Int32} {i : Nat} (hi : i < n) {d : Int32} {post : Int32 → xM → Prop} {k : Int32 → Int32 → Int32 → xM → Prop} : ∀ (m x : Nat) (f l : Int32) (M : xM), x + m = L * L * L + 1 → clS M0 e n c M → isR 2000000 (cnd L c i) (fun x => dd e 0 (c i) (cnd L c i x)) (fun x => pMay M0 e n q d c i (cnd L c i x)) x f l →
    (∀ M' f' l' y, clS M0 e n c M' → isR 2000000 (cnd L c i) (fun x => dd e 0 (c i) (cnd L c i x)) (fun x => pMay M0 e n q d c i (cnd L c i x)) (L * L * L + 1) f' l' → k f' l' y M') → xw_Mv_shift_21 0 (nI i) d (c i) post k (m + 1) f l (nI x - 1) M := by
  have hn : n ≤ 12 := hm.2.2.2.1
  have hL : 2 ≤ L := hm.2.2.2.2.2.2.2.2.2.1
  have hL2 : L ≤ 4 := hm.2.2.2.2.2.2.2.2.2.2.1
  have h64 := n3le hL2
  intro m
  induction m with
  | zero =>
    intro x f l M hx hS hR h
    obtain rfl : x = L * L * L + 1 := by omega
    have hM : M 0 12 0 = nI L := by rw [hS.1 0 12 (by decide) (by decide)]; exact hm.2.2.2.2.2.2.2.2.2.2.2.2.1
    unfold xw_Mv_shift_21 xw_Gr_places
    rw [hM, pk_mul, pk_mul, nI_pred]
    exact ⟨fun _ => h M f l _ hS hR, fun z => absurd (nI_le (Nat.le_refl _) (by omega)) z⟩
  | succ m ih =>
    intro x f l M hx hS hR h
    have hM : M 0 12 0 = nI L := by rw [hS.1 0 12 (by decide) (by decide)]; exact hm.2.2.2.2.2.2.2.2.2.2.2.2.1
    have hE' : eyC M e := hm.2.1.to (hS.1 0 1 (by decide) (by decide)) (hS.1 0 2 (by decide) (by decide))
    have hcol : sp_col (cnd L c i x) := cnd_col hL (hS.2.2.2 i (by omega)) (by omega)
    have hci := hS.2.2.2 i (by omega)
    obtain ⟨n', q', hn', hq', -, -, hcc, hr, -⟩ := hm.2.2.2.2.2.2.2.2.2.2.2.2.2
    have nxt : nI x - 1 + 1 = nI (x + 1) - 1 := by
      rw [nI_pred]; exact Int32.sub_add_cancel _ _
    have step : ∀ (f' l' : Int32) (M' : xM), clS M0 e n c M' → isR 2000000 (cnd L c i) (fun x => dd e 0 (c i) (cnd L c i x)) (fun x => pMay M0 e n q d c i (cnd L c i x)) (x + 1) f' l' → xw_Mv_shift_21 0 (nI i) d (c i) post k (m + 1) f' l' (nI x - 1 + 1) M' := fun f' l' M' s1 s2 => by
      rw [nxt]; exact ih (x + 1) f' l' M' (by omega) s1 s2 h
    have body : ∀ v, v = cnd L c i x → (xw_Ey_weighed 0 (c i) v M (fun (r7 : Int32) (M6 : xM) => ((l ≤ r7) → (xw_Mv_shift_21 0 (nI i) d (c i) post k (m + 1) f l (nI x - 1 + (1 : Int32)) M6)) ∧ ((¬ l ≤ r7) → (xw_Ho_nameAllows 0 (nI i) v M6 (fun (r9 : Int32) (M8 : xM) => ((r9 = 0) → (xw_Mv_shift_21 0 (nI i) d (c i) post k (m + 1) f l (nI x - 1 + (1 : Int32)) M8)) ∧ ((¬ r9 = 0) → (xw_Ho_pairsAllow 0 (nI i) v M8 (fun (r11 : Int32) (M10 : xM) => ((r11 = 0) → (xw_Mv_shift_21 0 (nI i) d (c i) post k (m + 1) f l (nI x - 1 + (1 : Int32)) M10)) ∧ ((¬ r11 = 0) → (xw_Mv_isFarFromOthers 0 (nI i) v d M10 (fun (r13 : Int32) (M12 : xM) => ((r13 = 0) → (xw_Mv_shift_21 0 (nI i) d (c i) post k (m + 1) f l (nI x - 1 + (1 : Int32)) M12)) ∧ ((¬ r13 = 0) → (xw_Mv_shift_21 0 (nI i) d (c i) post k (m + 1) v r7 (nI x - 1 + (1 : Int32)) M12))))))))))))) := by
      rintro v rfl
      have nm0 : M 0 6 i = -1 ∨ ∃ j : Nat, j < 8 ∧ M 0 6 i = nI j := by
        rw [hS.1 0 6 (by decide) (by decide)]
        have e1 : M0 0 6 i = M0 9 8 i := (hcc i (by omega)).2.2
        rw [e1]; exact (hr i (by omega)).2.2
      refine p_weighed0 hm.1 hE' hci hcol ⟨fun z => step f l M hS (hR.far (fun w => absurd w (dd_lt hm.1 _ _ _)) z), fun z => p_nameAllows (by omega) nm0 ?_⟩
      rw [hS.1 0 6 (by decide) (by decide), hS.1 0 7 (by decide) (by decide), hS.1 0 8 (by decide) (by decide)]
      have nai := na_iff hm.2.2.2.2.2.2.2.2.2.2.2.2.2 (k := i) (by omega) (cnd L c i x)
      refine br' (fun h1 => ?_) (fun h1 => step f l M hS (hR.skip1 (fun w => h1 (nai.mpr w.1))))
      refine ⟨q + 1, p_pairs2 hm hi (fun t ht => hS.1 0 t (by omega) (by omega)) hS.2.1 q 0 (by omega) (fun p _ p2 p3 => ⟨fun _ => step f l M hS (hR.skip1 (fun w => p3 (w.2.1 p p2))), fun w => absurd rfl w⟩) (fun h2 => ⟨fun w => absurd w (by decide), fun _ => p_far hm hi hcol hS (fun M' hS' h3 => ⟨fun w => absurd w (by decide), fun _ => step _ _ M' hS' ?_⟩) (fun M' hS' h3 => ⟨fun _ => step f l M' hS' (hR.skip1 (fun w => h3 w.2.2)), fun w => absurd rfl w⟩)⟩)⟩
      exact hR.take (fun p hp => col_ne (cnd_col hL hci (by omega))) (Or.inr z) ⟨nai.mp h1, fun p hp => h2 p (by omega) hp, h3⟩
    unfold xw_Mv_shift_21 xw_Gr_places
    rw [hM, pk_mul, pk_mul]
    have hlt : ¬ nI (L * L * L) ≤ nI x - 1 := by
      have e1 : (nI x - 1).toInt = (x : Int) - 1 := by
        rw [show (1 : Int32) = nI 1 from rfl]; exact pk_sub_toInt (by omega) (by omega)
      rw [ile, e1, nI_toInt (by omega)]; omega
    refine ⟨fun z => absurd z hlt, fun _ => ?_⟩
    unfold xj
    dsimp only
    by_cases hx0 : x = 0
    · subst hx0
      refine ⟨fun z => absurd (by decide) z, fun _ => body (c i) (by unfold cnd; rw [if_pos rfl])⟩
    · obtain ⟨y, rfl⟩ : ∃ y, x = y + 1 := ⟨x - 1, by omega⟩
      rw [nI_pred] at *
      refine ⟨fun _ => p_colourAt hL hL2 (by omega) hM (body _ (by unfold cnd; rw [if_neg (by omega)]; rfl)), fun z => absurd z (nI_m1 (by omega))⟩
theorem p_shift {M0 : xM} {e : xE} {n q L : Nat} (hm : mC M0 e n q L) {c : Nat → Int32} {i : Nat} (hi : i < n) {d : Int32} {M : xM} (hS : clS M0 e n c M) {post : Int32 → xM → Prop} (h : ∀ M' f l, isR 2000000 (cnd L c i) (fun x => dd e 0 (c i) (cnd L c i x)) (fun x => pMay M0 e n q d c i (cnd L c i x)) (L * L * L + 1) f l → ((f = -1 ∧ clS M0 e n c M') ∨ (¬ f = -1 ∧ clS M0 e n (upd c i f) M')) → post (if f = -1 then -1 else l) M') : xw_Mv_shift 0 (nI i) d M post := by
  have hn : n ≤ 12 := hm.2.2.2.1
  have hL : 2 ≤ L := hm.2.2.2.2.2.2.2.2.2.1
  have hin : vp_in (nI i) 12 := vp_in_nI (by omega) (by omega)
  unfold xw_Mv_shift
  rw [nI_clamp (by omega), hS.2.1 i (by omega)]
  refine ⟨hin, L * L * L + 1 + 1, p_shift21 hm hi (L * L * L + 1) 0 (-1) 2000000 M (by omega) hS (isR.zero _ _ _ _) (fun M' f l y hS' hR => ⟨fun z => ⟨hin, ?_⟩, fun z => ?_⟩)⟩
  · have hfc : sp_col f := by
      rcases id hR with ⟨w, -⟩ | ⟨q', q1, -, q3, -⟩
      · exact absurd w z
      · rw [q3]; exact cnd_col hL (hS.2.2.2 i (by omega)) q1
    have hE' : eyC (us M' 0 4 i f) e := hm.2.1.to (hS'.1 0 1 (by decide) (by decide)) (hS'.1 0 2 (by decide) (by decide))
    refine p_lookWithAll hm.1 hfc (by omega) (by omega) (by decide) (by decide) hE' (fun M2 q1 q2 q3 => ?_)
    have hp := h M2 f l hR (Or.inr ⟨z, ⟨fun g t h1 h2 => ?_, fun k hk => ?_, fun k hk => ?_, fun k hk => ?_⟩⟩)
    · rw [if_neg z] at hp; exact hp
    · rw [q1 g t (fun w => h2 ⟨w.1, Or.inl w.2⟩), us_ne _ _ (fun w => h1 w)]
      exact hS'.1 g t h1 h2
    · rw [q1 0 4 (by decide), us_self]
      exact upd_cong (hS'.2.1 k hk)
    · by_cases ek : k = i
      · subst ek
        rw [upd_self]; exact q3
      · rw [upd_ne _ _ ek]
        intro s hs hct
        rw [q2 _ (by omega)]
        exact hS'.2.2.1 k hk s hs hct
    · exact upd_pred (P := sp_col) hfc (hS'.2.2.2 k hk)
  · have hp := h M' f l hR (Or.inl ⟨z, hS'⟩)
    rw [if_pos z] at hp
    exact hp
