/-! ===== APART on both sides ===== -/
abbrev xE : Type := Nat × (Nat → Int32) × (Nat → Int32) × Int32
def dd (e : xE) (s : Nat) (a b : Int32) : Int32 := sp_d e.2.1 e.2.2.1 e.1 s a b
def lk (e : xE) (s : Nat) (c : Int32) : Int32 := sp_look e.2.1 e.1 s c
def ap (e : xE) (a b : Int32) : Int32 := sp_apF (fun s => dd e s a b) e.2.2.2 6 0 2000000
def eyOk (e : xE) : Prop := 2 ≤ e.1 ∧ e.1 ≤ 16 ∧ (∀ k, k < 3 → ∃ j : Nat, j ≤ 10 ∧ e.2.2.1 k = nI j) ∧ ∃ j : Nat, 1 ≤ j ∧ j ≤ 63 ∧ e.2.2.2 = nI j
def eyC (M : xM) (e : xE) : Prop := M 0 1 1 = nI e.1 ∧ (∀ k, k < 27 → M 0 2 k = e.2.1 k) ∧ M 0 1 2 = e.2.2.1 0 ∧ M 0 1 3 = e.2.2.1 1 ∧ M 0 1 4 = e.2.2.1 2 ∧ M 0 1 5 = e.2.2.2
def eyM (M : xM) (e : xE) : Prop := M 9 0 5 = nI e.1 ∧ M 9 4 = e.2.1 ∧ M 9 5 = e.2.2.1 ∧ M 9 0 6 = e.2.2.2
theorem eyC.to {M M' : xM} {e : xE} (h : eyC M e) (h1 : M' 0 1 = M 0 1) (h2 : M' 0 2 = M 0 2) : eyC M' e := by
  unfold eyC at *; rw [h1, h2]; exact h
theorem sp_ct_some : ∀ j, j < 64 → 1 ≤ j → ∃ s, s < 6 ∧ sp_ct (nI j) s := by decide +kernel
theorem dd_nI {e : xE} (h : eyOk e) (s : Nat) (a b : Int32) : ∃ j : Nat, j ≤ 1950750 ∧ dd e s a b = nI j := sp_d_nI h.1 h.2.1 h.2.2.1 a b
theorem dd_symm (e : xE) (s : Nat) (a b : Int32) : dd e s a b = dd e s b a := sp_d_symm _ _ _ _ _ _
theorem sp_apF_le {D : Nat → Int32} {cnt : Int32} : ∀ (m s : Nat) (x : Int32), (sp_apF D cnt m s x).toInt ≤ x.toInt
  | 0, _, _ => Int.le_refl _
  | m + 1, s, x => by
    unfold sp_apF
    refine Int.le_trans (sp_apF_le m (s + 1) _) ?_
    split
    · split
      · rename_i h; rw [ilt] at h; omega
      · exact Int.le_refl _
    · exact Int.le_refl _
theorem sp_apF_leD {D : Nat → Int32} {cnt : Int32} : ∀ (m s : Nat) (x : Int32) (t : Nat), s ≤ t → t < s + m → sp_ct cnt t → (sp_apF D cnt m s x).toInt ≤ (D t).toInt
  | 0, s, _, t, h1, h2, _ => by omega
  | m + 1, s, x, t, h1, h2, hc => by
    unfold sp_apF
    by_cases e : t = s
    · subst e
      refine Int.le_trans (sp_apF_le m (t + 1) _) ?_
      rw [if_pos hc]
      split
      · exact Int.le_refl _
      · rename_i h; rw [ilt] at h; omega
    · exact sp_apF_leD m (s + 1) _ t (by omega) (by omega) hc
theorem sp_apF_ge {D : Nat → Int32} {cnt : Int32} (hD : ∀ s, 0 ≤ (D s).toInt) : ∀ (m s : Nat) (x : Int32), 0 ≤ x.toInt → 0 ≤ (sp_apF D cnt m s x).toInt
  | 0, _, _, h => h
  | m + 1, s, x, h => by
    unfold sp_apF
    apply sp_apF_ge hD m (s + 1)
    split
    · split
      · exact hD s
      · exact h
    · exact h
theorem ap_nI {e : xE} (h : eyOk e) (a b : Int32) : ∃ j : Nat, j ≤ 1950750 ∧ ap e a b = nI j := by
  obtain ⟨j, j1, j2, ej⟩ := h.2.2.2
  obtain ⟨s, hs, hc⟩ := sp_ct_some j (by omega) j1
  obtain ⟨d, hd, ed⟩ := dd_nI h s a b
  have hpos : ∀ s, 0 ≤ (dd e s a b).toInt := fun s => by
    obtain ⟨d, hd, ed⟩ := dd_nI h s a b
    rw [ed, nI_toInt (by omega)]; omega
  have h1 : 0 ≤ (ap e a b).toInt := sp_apF_ge hpos 6 0 2000000 (by decide)
  have h2 : (ap e a b).toInt ≤ (dd e s a b).toInt := sp_apF_leD 6 0 2000000 s (by omega) (by omega) (by rw [ej]; exact hc)
  rw [ed, nI_toInt (by omega)] at h2
  refine ⟨(ap e a b).toInt.toNat, by omega, ?_⟩
  rw [ieq, nI_toInt (by omega)]
  omega
theorem ap_symm (e : xE) (a b : Int32) : ap e a b = ap e b a := by
  unfold ap
  rw [show (fun s => dd e s a b) = (fun s => dd e s b a) from funext fun s => dd_symm e s a b]
theorem w_Ey_counts (g s : Nat) (M : xM) (post : Int32 → xM → Prop) : xw_Ey_counts g (nI s) M post ↔ post (b2 (sp_ct (M g 1 5) s)) M := by
  unfold xw_Ey_counts b2
  by_cases h : sp_ct (M g 1 5) s
  · rw [if_pos h]; exact ⟨fun q => q.2 h, fun q => ⟨fun z => absurd h z, fun _ => q⟩⟩
  · rw [if_neg h]; exact ⟨fun q => q.1 h, fun q => ⟨fun _ => q, fun z => absurd z h⟩⟩
theorem p_look {e : xE} (hk : eyOk e) {M : xM} (hE : eyC M e) {s : Nat} (hs : s ≤ 5) {c : Int32} (hc : sp_col c) {post : Int32 → xM → Prop} (h : post (lk e s c) M) : xw_Ey_look 0 (nI s) c M post := by
  refine p_Ey_look hs hk.1 hk.2.1 hc hE.1 ?_
  rw [sp_look_cong hE.2.1]
  exact h
theorem p_weighed {e : xE} (hk : eyOk e) {M : xM} (hE : eyC M e) {s : Nat} {a b : Int32} {post : Int32 → xM → Prop} (h : post (dd e s a b) M) : xw_Ey_weighed 0 (lk e s a) (lk e s b) M post :=
  p_Ey_weighed hk.1 hk.2.1 hE.2.2.1 hE.2.2.2.1 hE.2.2.2.2.1 h
theorem n6le {s : Nat} (hs : s ≤ 6) : (6 : Int32) ≤ nI s ↔ 6 ≤ s := by
  rw [show (6 : Int32) = nI 6 from rfl, nI_leI (by omega) (by omega)]
theorem p_leastDistance_loop {e : xE} (hk : eyOk e) {M : xM} (hE : eyC M e) {a b : Int32} (ha : sp_col a) (hb : sp_col b) {post : Int32 → xM → Prop} {k : Int32 → Int32 → xM → Prop} : ∀ (m s : Nat) (x : Int32), s + m = 6 → k (sp_apF (fun s => dd e s a b) e.2.2.2 m s x) (nI 6) M → xw_Ey_leastDistance_6 0 a b post k (m + 1) x (nI s) M := by
  intro m
  induction m with
  | zero =>
    intro s x hs h
    obtain rfl : s = 6 := by omega
    unfold xw_Ey_leastDistance_6
    exact ⟨fun _ => h, fun q => absurd (by decide) q⟩
  | succ m ih =>
    intro s x hs h
    unfold xw_Ey_leastDistance_6
    refine ⟨fun q => absurd ((n6le (by omega)).mp q) (by omega), fun _ => ?_⟩
    rw [w_Ey_counts, hE.2.2.2.2.2, nI_1]
    unfold sp_apF at h
    refine ⟨fun q => ?_, fun q => ?_⟩
    · rw [b2_eq] at q
      rw [if_neg q] at h
      exact ih (s + 1) x (by omega) h
    · rw [b2_ne] at q
      rw [if_pos q] at h
      refine p_look hk hE (by omega) ha ?_
      refine p_look hk hE (by omega) hb ?_
      refine p_weighed hk hE ?_
      exact ih (s + 1) _ (by omega) h
theorem p_leastDistance {e : xE} (hk : eyOk e) {M : xM} (hE : eyC M e) {a b : Int32} (ha : sp_col a) (hb : sp_col b) {post : Int32 → xM → Prop} (h : post (ap e a b) M) : xw_Ey_leastDistance 0 a b M post := by
  unfold xw_Ey_leastDistance
  exact ⟨7, p_leastDistance_loop hk hE ha hb 6 0 _ (by omega) h⟩
/-- what the class's views hold of a colour -/
def vw (M : xM) (e : xE) (g i r : Nat) (c : Int32) : Prop := ∀ s, s < 6 → sp_ct e.2.2.2 s → M g i (r * 6 + s) = lk e s c
theorem p_lookWithAll_loop {e : xE} (hk : eyOk e) {c : Int32} (hc : sp_col c) {g i n r : Nat} (hn : r * 6 + 6 ≤ n) (hn2 : n < 10000) (h1 : ¬ (0 = g ∧ 1 = i)) (h2 : ¬ (0 = g ∧ 2 = i)) {post : xM → Prop} {k : Int32 → xM → Prop} : ∀ (m s : Nat) (M : xM), s + m = 6 → eyC M e →
    (∀ M', (∀ g' i', ¬ (g' = g ∧ i' = i) → M' g' i' = M g' i') → (∀ j, (j < r * 6 + s ∨ r * 6 + 6 ≤ j) → M' g i j = M g i j) → (∀ t, s ≤ t → t < 6 → sp_ct e.2.2.2 t → M' g i (r * 6 + t) = lk e t c) → k (nI 6) M') → xw_Ey_lookWithAll_3 0 g i n c (nI r) post k (m + 1) (nI s) M := by
  intro m
  induction m with
  | zero =>
    intro s M hs hE h
    obtain rfl : s = 6 := by omega
    unfold xw_Ey_lookWithAll_3
    exact ⟨fun _ => h M (fun _ _ _ => rfl) (fun _ _ => rfl) (fun t h1 h2 => by omega), fun q => absurd (by decide) q⟩
  | succ m ih =>
    intro s M hs hE h
    unfold xw_Ey_lookWithAll_3
    refine ⟨fun q => absurd ((n6le (by omega)).mp q) (by omega), fun _ => ?_⟩
    rw [w_Ey_counts, hE.2.2.2.2.2, nI_1]
    have ix : (nI r * (6 : Int32)) + nI s = nI (r * 6 + s) := by rw [show (6 : Int32) = nI 6 from rfl, pk_mul, nI_add]
    rw [ix]
    refine ⟨fun q => ?_, fun q => ?_⟩
    · rw [b2_eq] at q
      refine ih (s + 1) M (by omega) hE fun M' k1 k2 k3 => h M' k1 (fun j hj => k2 j (by omega)) (fun t t1 t2 t3 => ?_)
      by_cases et : t = s
      · subst et; exact absurd t3 q
      · exact k3 t (by omega) t2 t3
    · rw [b2_ne] at q
      refine p_look hk hE (by omega) hc ⟨vp_in_nI (by omega) (by omega), ?_⟩
      rw [nI_clamp (by omega)]
      refine ih (s + 1) _ (by omega) (hE.to (us_ne M _ h1) (us_ne M _ h2)) fun M' k1 k2 k3 => h M' (fun g' i' hg => by rw [k1 g' i' hg, us_ne M _ hg]) (fun j hj => ?_) (fun t t1 t2 t3 => ?_)
      · rw [k2 j (by omega), us_self, upd_ne _ _ (by omega)]
      · by_cases et : t = s
        · subst et
          rw [k2 _ (by omega), us_self, upd_self]
        · exact k3 t (by omega) t2 t3
theorem p_lookWithAll {e : xE} (hk : eyOk e) {c : Int32} (hc : sp_col c) {g i n r : Nat} (hn : r * 6 + 6 ≤ n) (hn2 : n < 10000) (h1 : ¬ (0 = g ∧ 1 = i)) (h2 : ¬ (0 = g ∧ 2 = i)) {post : xM → Prop} {M : xM} (hE : eyC M e)
    (h : ∀ M', (∀ g' i', ¬ (g' = g ∧ i' = i) → M' g' i' = M g' i') → (∀ j, (j < r * 6 ∨ r * 6 + 6 ≤ j) → M' g i j = M g i j) → vw M' e g i r c → post M') : xw_Ey_lookWithAll 0 c g i n (nI r) M post := by
  unfold xw_Ey_lookWithAll
  exact ⟨7, p_lookWithAll_loop hk hc hn hn2 h1 h2 6 0 M (by omega) hE fun M' k1 k2 k3 => h M' k1 (fun j hj => k2 j (by omega)) (fun t t1 t2 => k3 t (by omega) t1 t2)⟩
theorem p_leastOfViews {e : xE} (hk : eyOk e) {M : xM} (hE : eyC M e) {g1 i1 n1 r1 g2 i2 n2 r2 : Nat} {a b : Int32} (hv1 : vw M e g1 i1 r1 a) (hv2 : vw M e g2 i2 r2 b) (hn1 : r1 * 6 + 6 ≤ n1) (hn2 : r2 * 6 + 6 ≤ n2) (hm1 : n1 < 10000) (hm2 : n2 < 10000) {post : Int32 → xM → Prop} (h : post (ap e a b) M) : xw_Ey_leastOfViews 0 g1 i1 n1 (nI r1) g2 i2 n2 (nI r2) M post := by
  have loop : ∀ {k : Int32 → Int32 → xM → Prop} (m s : Nat) (x : Int32), s + m = 6 → k (sp_apF (fun s => dd e s a b) e.2.2.2 m s x) (nI 6) M → xw_Ey_leastOfViews_7 0 g1 i1 n1 g2 i2 n2 (nI r1) (nI r2) post k (m + 1) x (nI s) M := by
    intro k m
    induction m with
    | zero =>
      intro s x hs h
      obtain rfl : s = 6 := by omega
      unfold xw_Ey_leastOfViews_7
      exact ⟨fun _ => h, fun q => absurd (by decide) q⟩
    | succ m ih =>
      intro s x hs h
      unfold xw_Ey_leastOfViews_7
      refine ⟨fun q => absurd ((n6le (by omega)).mp q) (by omega), fun _ => ?_⟩
      rw [w_Ey_counts, hE.2.2.2.2.2, nI_1]
      have ix : ∀ r : Nat, (nI r * (6 : Int32)) + nI s = nI (r * 6 + s) := fun r => by rw [show (6 : Int32) = nI 6 from rfl, pk_mul, nI_add]
      unfold sp_apF at h
      refine ⟨fun q => ?_, fun q => ?_⟩
      · rw [b2_eq] at q
        rw [if_neg q] at h
        exact ih (s + 1) x (by omega) h
      · rw [b2_ne] at q
        rw [if_pos q] at h
        rw [ix, ix]
        refine ⟨vp_in_nI (by omega) (by omega), vp_in_nI (by omega) (by omega), ?_⟩
        rw [nI_clamp (by omega), nI_clamp (by omega), hv1 s (by omega) q, hv2 s (by omega) q]
        refine p_weighed hk hE ?_
        exact ih (s + 1) _ (by omega) h
  unfold xw_Ey_leastOfViews
  exact ⟨7, loop 6 0 _ (by omega) h⟩
/-! the model's side -/
theorem p_Mo_dist {e : xE} (hk : eyOk e) {M : xM} (hE : eyM M e) {s : Nat} (hs : s ≤ 5) {a b : Int32} {post : Int32 → xM → Prop} (h : post (dd e s a b) M) : xw_Mo_distanceOf (nI s) a b M post := by
  refine p_Mo_distanceOf hs hk.1 hk.2.1 hE.1 ?_
  rw [hE.2.1, hE.2.2.1]
  exact h
theorem p_Mo_apartOf {e : xE} (hk : eyOk e) {M : xM} (hE : eyM M e) {a b : Int32} {post : Int32 → xM → Prop} (h : post (ap e a b) M) : xw_Mo_apartOf a b M post := by
  have loop : ∀ {k : Int32 → Int32 → xM → Prop} (m s : Nat) (x x' : Int32), s + m = 6 → ((x = -1 ∧ x' = 2000000) ∨ (x = x' ∧ 0 ≤ x.toInt)) → (∀ r, ((r = -1 ∧ sp_apF (fun s => dd e s a b) e.2.2.2 m s x' = 2000000) ∨ (r = sp_apF (fun s => dd e s a b) e.2.2.2 m s x' ∧ 0 ≤ r.toInt)) → k r (nI 6) M) → xw_Mo_apartOf_5 a b post k (m + 1) x (nI s) M := by
    intro k m
    induction m with
    | zero =>
      intro s x x' hs hx h
      obtain rfl : s = 6 := by omega
      unfold xw_Mo_apartOf_5
      exact ⟨fun _ => h x hx, fun q => absurd (by decide) q⟩
    | succ m ih =>
      intro s x x' hs hx h
      unfold xw_Mo_apartOf_5
      refine ⟨fun q => absurd ((n6le (by omega)).mp q) (by omega), fun _ => ?_⟩
      rw [hE.2.2.2, nI_1]
      unfold sp_apF at h
      have hc01 := sp_ct_01 e.2.2.2 s
      obtain ⟨d, hd, ed⟩ := dd_nI hk s a b
      refine ⟨fun q => ?_, fun q => ?_⟩
      · have hc : sp_ct e.2.2.2 s := by rcases hc01 with z | z
                                        · exact absurd z q
                                        · exact z
        rw [if_pos hc] at h
        refine p_Mo_dist hk hE (by omega) ?_
        refine ⟨fun z => ?_, fun z => ⟨fun z2 => ?_, fun z2 => ?_⟩⟩
        · have hx' : x' = 2000000 := by
            rcases hx with ⟨_, e2⟩ | ⟨_, e2⟩
            · exact e2
            · rw [z] at e2; exact absurd e2 (by decide)
          refine ih (s + 1) _ _ (by omega) (Or.inr ⟨?_, ?_⟩) h
          · rw [hx', if_pos]
            rw [ed, ilt, nI_toInt (by omega)]
            show (d : Int) < 2000000
            omega
          · rw [ed, nI_toInt (by omega)]; omega
        · have hx' : x = x' ∧ 0 ≤ x.toInt := by
            rcases hx with ⟨e1, _⟩ | e2
            · exact absurd e1 z
            · exact e2
          refine ih (s + 1) _ _ (by omega) (Or.inr ⟨?_, hx'.2⟩) h
          rw [← hx'.1, if_neg]
          rw [ile] at z2; rw [ilt]; omega
        · have hx' : x = x' ∧ 0 ≤ x.toInt := by
            rcases hx with ⟨e1, _⟩ | e2
            · exact absurd e1 z
            · exact e2
          refine ih (s + 1) _ _ (by omega) (Or.inr ⟨?_, ?_⟩) h
          · rw [← hx'.1, if_pos]
            rw [ile] at z2; rw [ilt]; omega
          · rw [ed, nI_toInt (by omega)]; omega
      · have hc : ¬ sp_ct e.2.2.2 s := fun z => by unfold sp_ct at z; rw [q] at z; exact absurd z (by decide)
        rw [if_neg hc] at h
        exact ih (s + 1) x x' (by omega) hx h
  unfold xw_Mo_apartOf
  refine ⟨7, loop 6 0 (-1) 2000000 (by omega) (Or.inl ⟨rfl, rfl⟩) fun r hr => ?_⟩
  obtain ⟨j, hj, ej⟩ := ap_nI hk a b
  rcases hr with ⟨_, e2⟩ | ⟨e1, _⟩
  · have : ap e a b = 2000000 := e2
    rw [ej, show (2000000 : Int32) = nI 2000000 from rfl, nI_eq (by omega) (by omega)] at this
    omega
  · rw [e1]; exact h
