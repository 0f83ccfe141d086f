/-! ===== write, weak, count ===== -/
/-- the house alone -/
theorem vHouse.to {M M' : xM} (h : vHouse (M 0) (mv M)) (h0 : ∀ i, 3 ≤ i → M' 0 i = M 0 i) (h9 : ∀ i, 6 ≤ i → i ≤ 13 → M' 9 i = M 9 i) (hn : M' 9 0 9 = M 9 0 9) (hq : M' 9 0 10 = M 9 0 10) : vHouse (M' 0) (mv M') := by
  unfold vHouse vPair at *
  have e : ∀ i, 3 ≤ i → i ≤ 11 → M' 0 i = M 0 i := fun i hi _ => h0 i hi
  have m0 : mv M' 0 = mv M 0 := h9 6 (by omega) (by omega)
  have m1 : mv M' 1 = mv M 1 := h9 8 (by omega) (by omega)
  have m2 : mv M' 2 = mv M 2 := h9 9 (by omega) (by omega)
  have m3 : mv M' 3 = mv M 3 := h9 10 (by omega) (by omega)
  have m4 : mv M' 4 = mv M 4 := h9 11 (by omega) (by omega)
  have m5 : mv M' 5 = mv M 5 := h9 12 (by omega) (by omega)
  have m6 : mv M' 6 = mv M 6 := h9 13 (by omega) (by omega)
  have m9 : mv M' 9 = mv M 9 := h9 7 (by omega) (by omega)
  have ma : mv M' 10 0 = mv M 10 0 := hn
  have mb : mv M' 10 1 = mv M 10 1 := hq
  rw [m0, m1, m2, m3, m4, m5, m6, m9, ma, mb, e 3 (by omega) (by omega), e 4 (by omega) (by omega), e 5 (by omega) (by omega), e 6 (by omega) (by omega), e 7 (by omega) (by omega), e 8 (by omega) (by omega), e 9 (by omega) (by omega), e 10 (by omega) (by omega), e 11 (by omega) (by omega)]
  exact h
/-- all that is not of the present house, eyes and grid stays -/
theorem xInv.now {M M' : xM} (h : xInv M) (hst : M' 8 0 8 = M' 9 0 0) (hk : vKept (M' 0) (mv M')) (hg : ∀ g i, 1 ≤ g → g < 8 → M' g i = M g i) (h8 : ∀ i, (i = 2 ∨ i = 4 ∨ i = 10 ∨ i = 11 ∨ i = 14 ∨ i = 15) → M' 8 i = M 8 i) (h90 : ∀ k, 23 ≤ k → k ≤ 25 → M' 9 0 k = M 9 0 k) (h9 : ∀ i, ((1 ≤ i ∧ i ≤ 3) ∨ 17 ≤ i) → M' 9 i = M 9 i) : xInv M' := by
  have e1 : M' 1 = M 1 := funext fun i => hg 1 i (by omega) (by omega)
  have e2 : M' 2 = M 2 := funext fun i => hg 2 i (by omega) (by omega)
  have e3 : M' 3 = M 3 := funext fun i => hg 3 i (by omega) (by omega)
  have ei := iv_to (h9 20 (by omega))
  obtain ⟨-, -, k2, k3, k4, k5, k6⟩ := h
  refine ⟨hst, hk, ?_, ?_, ?_, ?_, ?_⟩
  · rw [e1, e2, e3, ei, ei, ei, h8 2 (by omega), h9 19 (by omega)]; exact k2
  · unfold vChosen; rw [h8 4 (by omega), h8 10 (by omega), h90 23 (by omega) (by omega), h9 17 (by omega)]; exact k3
  · rw [h8 11 (by omega), h90 24 (by omega) (by omega)]; exact k4
  · unfold vRamp; rw [h8 14 (by omega), h8 15 (by omega), h90 25 (by omega) (by omega), h9 18 (by omega)]; exact k5
  · rw [hg 4 0 (by omega) (by omega), hg 4 1 (by omega) (by omega), hg 5 0 (by omega) (by omega), hg 5 1 (by omega) (by omega), hg 6 0 (by omega) (by omega), hg 6 1 (by omega) (by omega), hg 7 0 (by omega) (by omega), hg 7 1 (by omega) (by omega), h9 1 (by omega), h9 2 (by omega), h9 3 (by omega)]; exact k6
theorem i_there {g : Nat} {M : xM} {post : Int32 → xM → Prop} (h : post (b2 (¬ M g 0 2 = -1)) M) : xw_Sh_isThere g M post := by
  unfold xw_Sh_isThere
  refine ⟨fun q => ?_, fun q => ?_⟩
  · unfold b2 at h; rw [if_neg (fun z => z q)] at h; exact h
  · unfold b2 at h; rw [if_pos q] at h; exact h
/-- the value that a sheet of a sort keeps -/
def sp_put (k v : Int32) : Int32 := if k = 0 then v &&& 255 else if k = 1 then v.toInt16.toInt32 else v
theorem p_put {g i : Nat} (hi : i < 60) {v : Int32} {M : xM} {post : xM → Prop} (h : post (us M g 1 i (sp_put (M g 0 1) v))) : xw_Sh_put g (nI i) v M post := by
  unfold xw_Sh_put
  rw [nI_clamp (by omega)]
  have hin : vp_in (nI i) 60 := vp_in_nI hi (by omega)
  unfold sp_put at h
  refine ⟨fun q => ⟨fun q2 => ⟨hin, ?_⟩, fun q2 => ⟨hin, ?_⟩⟩, fun q => ⟨hin, ?_⟩⟩
  · rw [if_neg q, if_neg q2] at h; exact h
  · rw [if_neg q, if_pos q2] at h; exact h
  · rw [if_pos q] at h; exact h
theorem op_write : ∀ (M : xM) (a b c : Int32), xInv M → xw_CA_write a b c M (fun r M1 => xw_Mo_write a b c M1 (fun q M2 => r = q ∧ xInv M2)) := by
  intro M a b c hI
  unfold xw_CA_write
  refine i_shC (br (fun h1 => ?_) (fun h1 => i_refd ?_))
  · obtain ⟨s, -, hs, rfl⟩ := nIr (l := 0) (h := 3) rfl rfl h1
    have hin : vp_in (nI s) 4 := vp_in_nI (by omega) (by omega)
    obtain ⟨s1, s2, s3⟩ := (sh_iff M).mp hI.2.2.2.2.2.2 s (by omega)
    refine ⟨hin, ?_⟩
    rw [nI_clamp (by omega)]
    refine i_there (br (fun h2 => ⟨hin, ?_⟩) (fun h2 => i_refd ?_))
    · rcases s2 with z | ⟨s4, n, hn, s5⟩
      · exact absurd (s1.trans z) h2
      have e2 : M (4 + s) 0 2 = nI n := s1.trans s5
      have h2' : ¬ M 9 2 s = -1 := fun z => h2 (s1.trans z)
      unfold xw_Sh_has
      rw [e2]
      have mo : ∀ (M' : xM), M' 9 = M 9 → (¬ (0 ≤ b ∧ b ≤ nI n - 1)) → xInv M → M' = us M 8 0 8 (-3) → xw_Mo_write (nI s) b c M' (fun q M2 => (-3 : Int32) = q ∧ xInv M2) := by
        intro M' e9 hb hI eM
        unfold xw_Mo_write
        refine i_in (br (fun _ => ⟨hin, fun _ => ⟨hin, ?_⟩, fun z => ?_⟩) (fun z => absurd h1 z))
        · rw [nI_clamp (by omega), e9, s5]
          refine i_in (br (fun z => absurd z hb) (fun _ => ?_))
          rw [eM]
          exact ref_Mo (by decide) hI rfl
        · rw [nI_clamp (by omega), e9] at z; exact absurd z h2'
      rcases ix_cases b (n := n) (by omega) with ⟨q1, q2⟩ | ⟨q1, q2, q3⟩ | ⟨k, hk, rfl, q1, q2, q3⟩
      · exact ⟨fun _ => ⟨fun z => absurd rfl z, fun _ => i_refd (mo _ rfl q2 hI rfl)⟩, fun z => absurd q1 z⟩
      · exact ⟨fun z => absurd z q1, fun _ => ⟨fun _ => ⟨fun z => absurd rfl z, fun _ => i_refd (mo _ rfl q3 hI rfl)⟩, fun z => absurd q2 z⟩⟩
      · refine ⟨fun z => absurd z q1, fun _ => ⟨fun z => absurd z q2, fun _ => ⟨fun _ => ⟨hin, ?_⟩, fun z => absurd z (by decide)⟩⟩⟩
        refine p_put (by omega) (i_taken ?_)
        rw [s4]
        unfold xw_Mo_write
        refine i_in (br (fun _ => ⟨hin, fun _ => ⟨hin, ?_⟩, fun z => ?_⟩) (fun z => absurd h1 z))
        · have e92 : (us (us M (4 + s) 1 k (sp_put (M 9 1 s) c)) 8 0 8 0) 9 2 = M 9 2 := by rw [us_ne _ _ (by omega), us_ne _ _ (by omega)]
          have e91 : (us (us M (4 + s) 1 k (sp_put (M 9 1 s) c)) 8 0 8 0) 9 1 = M 9 1 := by rw [us_ne _ _ (by omega), us_ne _ _ (by omega)]
          rw [nI_clamp (by omega), e92, s5]
          refine i_in (br (fun _ => ⟨hin, ?_⟩) (fun z => absurd q3 z))
          have ix : ((60 : Int32) * nI s) + nI k = nI (60 * s + k) := by rw [show (60 : Int32) = nI 60 from rfl, pk_mul, nI_add]
          have fin : ∀ v : Int32, v = sp_put (M 9 1 s) c → (vp_in (((60 : Int32) * nI s) + nI k) 240) ∧ xw_Mo_ends 0 (us (us (us M (4 + s) 1 k (sp_put (M 9 1 s) c)) 8 0 8 0) 9 3 (((60 : Int32) * nI s) + nI k).toNatClampNeg v) (fun r9 M8 => (0 : Int32) = r9 ∧ xInv M8) := by
            intro v ev
            rw [ix]
            refine ⟨vp_in_nI (by omega) (by omega), ?_⟩
            rw [nI_clamp (by omega), ev]
            refine i_ok ⟨0, by omega, rfl⟩ ⟨rfl, ?_⟩
            generalize sp_put (M 9 1 s) c = w
            refine hI.sheets ?_ (fun g i hg => ?_) (fun i hi => ?_) (fun k hk => ?_) (fun i hi => ?_) (fun t ht => ?_)
            · rw [us_ne _ _ (by omega), us_ne _ _ (by omega), us_self, upd_self, us_self, upd_self]
            · rw [us_ne _ _ (by omega), us_ne _ _ (by omega), us_ne _ _ (by omega), us_ne _ _ (by omega)]
            · rw [us_ne _ _ (by omega), us_ne _ _ (by omega), us_ne _ _ (by omega), us_ne _ _ (by omega)]
            · rw [us_self, upd_ne _ _ hk, us_ne _ _ (by omega), us_ne _ _ (by omega), us_ne _ _ (by omega)]
            · rw [us_ne _ _ (by omega), us_ne _ _ (by omega), us_ne _ _ (by omega), us_ne _ _ (by omega)]
            · obtain ⟨t1, t2, t3⟩ := (sh_iff M).mp hI.2.2.2.2.2.2 t ht
              rw [us_ne _ _ (show ¬ (4 + t = 9 ∧ 0 = 0) by omega), us_ne _ _ (show ¬ (4 + t = 9 ∧ 0 = 3) by omega), us_ne _ _ (show ¬ (4 + t = 8 ∧ 0 = 0) by omega), us_ne _ _ (show ¬ (4 + t = 4 + s ∧ 0 = 1) by omega)]
              rw [us_ne _ _ (show ¬ (4 + t = 9 ∧ 1 = 0) by omega), us_ne _ _ (show ¬ (4 + t = 9 ∧ 1 = 3) by omega), us_ne _ _ (show ¬ (4 + t = 8 ∧ 1 = 0) by omega)]
              rw [us_ne _ _ (show ¬ (9 = 9 ∧ 1 = 0) by omega), us_ne _ _ (show ¬ (9 = 9 ∧ 1 = 3) by omega), us_ne _ _ (show ¬ (9 = 8 ∧ 1 = 0) by omega), us_ne _ _ (show ¬ (9 = 4 + s ∧ 1 = 1) by omega)]
              rw [us_ne _ _ (show ¬ (9 = 9 ∧ 2 = 0) by omega), us_ne _ _ (show ¬ (9 = 9 ∧ 2 = 3) by omega), us_ne _ _ (show ¬ (9 = 8 ∧ 2 = 0) by omega), us_ne _ _ (show ¬ (9 = 4 + s ∧ 2 = 1) by omega)]
              rw [us_ne _ _ (show ¬ (9 = 9 ∧ 3 = 0) by omega), us_self, us_ne _ _ (show ¬ (9 = 8 ∧ 3 = 0) by omega), us_ne _ _ (show ¬ (9 = 4 + s ∧ 3 = 1) by omega)]
              refine ⟨t1, t2, fun j hj => ?_⟩
              dsimp only
              by_cases e : t = s
              · subst e
                rw [us_self]
                by_cases ej : j = k
                · subst ej; rw [upd_self, upd_self]
                · rw [upd_ne _ _ ej, upd_ne _ _ (by omega)]; exact t3 j hj
              · rw [us_ne _ _ (show ¬ (4 + t = 4 + s ∧ 1 = 1) by omega), upd_ne _ _ (by omega)]
                exact t3 j hj
          unfold xj
          rw [e91]
          refine ⟨fun z => ⟨hin, fun z2 => fin _ ?_, fun z2 => fin _ ?_⟩, fun z => fin _ ?_⟩
          · unfold sp_put; rw [if_neg z, if_neg z2]
          · unfold sp_put; rw [if_neg z, if_pos z2]
          · unfold sp_put; rw [if_pos z]
        · rw [nI_clamp (by omega), us_ne _ _ (by omega), us_ne _ _ (by omega)] at z
          exact absurd z h2'
    · have e : M 9 2 s = -1 := by
        rw [← s1]
        exact Classical.not_not.mp h2
      unfold xw_Mo_write
      refine i_in (br (fun _ => ⟨hin, fun z => ?_, fun _ => ref_Mo (by decide) hI rfl⟩) (fun z => absurd h1 z))
      rw [nI_clamp (by omega)] at z
      exact absurd e z
  · unfold xw_Mo_write
    exact i_in (br (fun q => absurd q h1) (fun _ => ref_Mo (by decide) hI rfl))
/-! the nine numbers of a sheet from a place on -/
def sp_at (N : Nat → Int32) (n f i : Nat) : Int32 := if f + i < n then N (f + i) else 0
theorem p_number {g n f i : Nat} (hn : n ≤ 60) (hf : f < 2147483648) (hi : i < 9) {M : xM} (hM : M g 0 2 = nI n) {post : Int32 → xM → Prop} (h : post (sp_at (M g 1) n f i) M) : xw_Sh_numberOrZero g (nI f + nI i) M post := by
  unfold xw_Sh_numberOrZero xw_Sh_has
  rw [hM, nI_add]
  unfold sp_at at h
  by_cases hs : f + i < 2147483648
  · have hp : ¬ nI (f + i) < 0 := nI_pos (by omega)
    by_cases h2 : f + i < n
    · rw [if_pos h2] at h
      refine ⟨fun z => absurd z hp, fun _ => ⟨fun z => absurd z (nI_ge h2 (by omega)), fun _ => ⟨fun z => absurd z (by decide), fun _ => ⟨vp_in_nI (by omega) (by omega), ?_⟩⟩⟩⟩
      rw [nI_clamp (by omega)]; exact h
    · rw [if_neg h2] at h
      exact ⟨fun z => absurd z hp, fun _ => ⟨fun _ => ⟨fun _ => h, fun z => absurd rfl z⟩, fun z => absurd (nI_le (by omega) (by omega)) z⟩⟩
  · have hneg : nI (f + i) < 0 := by
      rw [ilt]
      have : (nI (f + i)).toInt = ((f + i : Nat) : Int) - 4294967296 := by
        show (Int32.ofNat (f + i)).toInt = _
        rw [Int32.toInt_ofNat', show Int32.size = 4294967296 from rfl, Int.bmod_def]
        omega
      rw [this]
      show _ < (0 : Int)
      omega
    rw [if_neg (by omega)] at h
    exact ⟨fun _ => ⟨fun _ => h, fun z => absurd rfl z⟩, fun z => absurd hneg z⟩
theorem p_stands {s n f i : Nat} (hs : s < 4) (hn : n ≤ 60) (hf : f < 2147483648) (hi : i < 9) {M : xM} (hM : M 9 2 s = nI n) {post : Int32 → xM → Prop} (h : post (sp_at (fun j => M 9 3 (60 * s + j)) n f i) M) : xw_Mo_stands (nI s) (nI f) (nI i) M post := by
  unfold xw_Mo_stands
  refine ⟨vp_in_nI (by omega) (by omega), ?_⟩
  rw [nI_clamp (by omega), hM]
  have e : nI n - nI i ≤ nI f ↔ n ≤ f + i := by
    rw [ile, pk_sub_toInt (by omega) (by omega), nI_toInt hf]; omega
  unfold sp_at at h
  refine ⟨fun z => ?_, fun z => ?_⟩
  · rw [e] at z; rw [if_neg (by omega)] at h; exact h
  · rw [e] at z
    rw [if_pos (by omega)] at h
    have ix : (((60 : Int32) * nI s) + nI f) + nI i = nI (60 * s + (f + i)) := by
      rw [show (60 : Int32) = nI 60 from rfl, pk_mul, nI_add, nI_add]; congr 1; omega
    rw [ix, nI_clamp (by omega)]
    exact ⟨vp_in_nI (by omega) (by omega), h⟩
def okW (v : Nat → Int32) : Nat → Nat → Prop
  | 0, _ => True
  | m + 1, i => (-3000 ≤ v i ∧ v i ≤ 3000) ∧ okW v m (i + 1)
theorem op_weak : ∀ (M : xM) (a b c : Int32), xInv M → xw_CA_weak a b c M (fun r M1 => xw_Mo_weak a b c M1 (fun q M2 => r = q ∧ xInv M2)) := by
  intro M a b c hI
  have bad : (¬ (1 ≤ a ∧ a ≤ 3) ∨ ¬ (0 ≤ b ∧ b ≤ 3) ∨ ¬ 0 ≤ c) → xw_Mo_weak a b c (us M 8 0 8 (-1)) (fun q M2 => (-1 : Int32) = q ∧ xInv M2) := by
    intro hz
    unfold xw_Mo_weak xj
    refine i_in (br' (fun q1 => i_in (br' (fun q2 => ⟨fun q3 => ?_, fun _ => ref_Mo (by decide) hI rfl⟩) (fun _ => ref_Mo (by decide) hI rfl))) (fun _ => ref_Mo (by decide) hI rfl))
    rcases hz with z | z | z
    · exact absurd q1 z
    · exact absurd q2 z
    · exact absurd q3 z
  unfold xw_CA_weak xj
  refine ⟨fun q => i_refd (bad (Or.inl fun z => ?_)), fun k1 => ⟨fun q => i_refd (bad (Or.inl fun z => ?_)), fun k2 => i_shC (br' (fun h2 => ⟨fun h3 => ?_, fun q => i_refd (bad (Or.inr (Or.inr q)))⟩) (fun q => i_refd (bad (Or.inr (Or.inl q)))))⟩⟩
  · have := z.1; simp only [ilt, ile] at *; omega
  · have := z.2; simp only [ilt, ile] at *; omega
  have h1 : 1 ≤ a ∧ a ≤ 3 := ⟨by simp only [ilt, ile] at *; omega, by simp only [ilt, ile] at *; omega⟩
  obtain ⟨w, hw1, hw2, rfl⟩ := nIr (l := 1) (h := 3) rfl rfl h1
  obtain ⟨s, -, hs, rfl⟩ := nIr (l := 0) (h := 3) rfl rfl h2
  obtain ⟨f, hf, rfl⟩ := nI_of (x := c) (by simp only [ilt, ile] at *; omega)
  have hin : vp_in (nI s) 4 := vp_in_nI (by omega) (by omega)
  obtain ⟨s1, s2, s3⟩ := (sh_iff M).mp hI.2.2.2.2.2.2 s (by omega)
  refine ⟨hin, ?_⟩
  rw [nI_clamp (by omega)]
  refine i_there (br (fun h4 => ⟨hin, ?_⟩) (fun h4 => i_refd ?_))
  · rcases s2 with z | ⟨s4, n, hn, s5⟩
    · exact absurd (s1.trans z) h4
    have e2 : M (4 + s) 0 2 = nI n := s1.trans s5
    have h2' : ¬ M 9 2 s = -1 := fun z => h4 (s1.trans z)
    let v : Nat → Int32 := fun i => sp_at (fun j => M 9 3 (60 * s + j)) n f i
    have ev : ∀ i, sp_at (M (4 + s) 1) n f i = v i := by
      intro i
      show sp_at _ n f i = sp_at _ n f i
      unfold sp_at
      split
      · exact s3 _ (by omega)
      · rfl
    have c9 : ∀ j : Nat, j ≤ 9 → ((9 : Int32) ≤ nI j ↔ 9 ≤ j) := fun j hj => by rw [show (9 : Int32) = nI 9 from rfl, nI_leI (by omega) (by omega)]
    -- the class's test
    have testC : ∀ {post : Int32 → xM → Prop} (m i : Nat), i + m = 9 → (okW v m i → post 1 M) → (¬ okW v m i → post 0 M) → xw_Ey_areWeakNumbers_2 (4 + s) (nI f) post (fun (y3 : Int32) (M4 : xM) => post (1 : Int32) M4) (m + 1) (nI i) M := by
      intro post m
      induction m with
      | zero =>
        intro i hi p1 p2
        unfold xw_Ey_areWeakNumbers_2
        exact ⟨fun _ => p1 trivial, fun z => absurd ((c9 i (by omega)).mpr (by omega)) z⟩
      | succ m ih =>
        intro i hi p1 p2
        unfold xw_Ey_areWeakNumbers_2
        refine ⟨fun z => absurd ((c9 i (by omega)).mp z) (by omega), fun _ => p_number hn (by omega) (by omega) e2 ?_⟩
        rw [ev, nI_1]
        refine ⟨fun z => p2 fun w => ?_, fun z => ⟨fun z2 => ih (i + 1) (by omega) (fun w => p1 ⟨⟨?_, z2⟩, w⟩) (fun w => p2 fun w2 => w w2.2), fun z2 => p2 fun w => z2 w.1.2⟩⟩
        · have := w.1.1; simp only [ilt, ile] at *; omega
        · simp only [ilt, ile] at *; omega
    have testM : ∀ {post : Int32 → xM → Prop} {k : Int32 → xM → Prop} {M' : xM} (e92 : M' 9 2 = M 9 2) (e93 : M' 9 3 = M 9 3) (m i : Nat), i + m = 9 → (okW v m i → ∀ u, k u M') → (¬ okW v m i → xw_Mo_ends (-1) M' post) → xw_Mo_weak_48 (nI w) (nI s) (nI f) post k (m + 1) (nI i) M' := by
      intro post k M' e92 e93 m
      induction m with
      | zero =>
        intro i hi p1 p2
        unfold xw_Mo_weak_48
        exact ⟨fun _ => p1 trivial _, fun z => absurd ((c9 i (by omega)).mpr (by omega)) z⟩
      | succ m ih =>
        intro i hi p1 p2
        unfold xw_Mo_weak_48
        refine ⟨fun z => absurd ((c9 i (by omega)).mp z) (by omega), fun _ => p_stands (by omega) hn hf (by omega) (by rw [e92]; exact s5) ?_⟩
        rw [e93, nI_1]
        exact i_in (br (fun z => ih (i + 1) (by omega) (fun w => p1 ⟨z, w⟩) (fun w => p2 fun w2 => w w2.2)) (fun z => p2 fun w => z w.1))
    refine ⟨10, testC 9 0 (by omega) (fun hok => ?_) (fun hok => ?_)⟩
    · refine ⟨fun _ => ⟨hin, ?_⟩, fun z => absurd z (by decide)⟩
      -- the class writes
      have wrC : ∀ {k : Int32 → xM → Prop} {post : xM → Prop} (m i : Nat) (M1 : xM), i + m = 9 → (∀ g' i', ¬ (g' = 0 ∧ i' = 2) → M1 g' i' = M g' i') → (∀ M', (∀ g' i', ¬ (g' = 0 ∧ i' = 2) → M' g' i' = M g' i') → (∀ j, (j < 9 * (w - 1) + i ∨ 9 * (w - 1) + 9 ≤ j) → M' 0 2 j = M1 0 2 j) → (∀ j, i ≤ j → j < 9 → M' 0 2 (9 * (w - 1) + j) = v j) → k (nI 9) M') → xw_Ey_weaken_3 0 (4 + s) (nI w) (nI f) post k (m + 1) (nI i) M1 := by
        intro k post m
        induction m with
        | zero =>
          intro i M1 hi hM1 h
          obtain rfl : i = 9 := by omega
          unfold xw_Ey_weaken_3
          exact ⟨fun _ => h M1 hM1 (fun _ _ => rfl) (fun j a b => by omega), fun z => absurd (by decide) z⟩
        | succ m ih =>
          intro i M1 hi hM1 h
          unfold xw_Ey_weaken_3
          have ix : ((nI w - (1 : Int32)) * (9 : Int32)) + nI i = nI (9 * (w - 1) + i) := by
            rw [show (1 : Int32) = nI 1 from rfl, pk_sub (by omega), show (9 : Int32) = nI 9 from rfl, pk_mul, nI_add]; congr 1; omega
          refine ⟨fun z => absurd ((c9 i (by omega)).mp z) (by omega), fun _ => p_number hn (by omega) (by omega) (by rw [hM1 _ _ (by omega)]; exact e2) ?_⟩
          rw [hM1 (4 + s) 1 (by omega), ev, ix, nI_1]
          refine ⟨vp_in_nI (by omega) (by omega), ?_⟩
          rw [nI_clamp (by omega)]
          refine ih (i + 1) _ (by omega) (fun g' i' hg => by rw [us_ne _ _ hg]; exact hM1 g' i' hg) fun M' k1 k2 k3 => h M' k1 (fun j hj => by rw [k2 j (by omega), us_self, upd_ne _ _ (by omega)]) (fun j a b => ?_)
          by_cases e : j = i
          · subst e; rw [k2 _ (by omega), us_self, upd_self]
          · exact k3 j (by omega) b
      refine ⟨10, wrC 9 0 M (by omega) (fun _ _ _ => rfl) fun Ma a1 a2 a3 => i_taken ?_⟩
      unfold xw_Mo_weak xj
      have e92 : (us Ma 8 0 8 0) 9 2 = M 9 2 := by rw [us_ne _ _ (by omega), a1 9 2 (by omega)]
      have e93 : (us Ma 8 0 8 0) 9 3 = M 9 3 := by rw [us_ne _ _ (by omega), a1 9 3 (by omega)]
      refine i_in (br' (fun _ => i_in (br' (fun _ => ⟨fun _ => ⟨hin, fun _ => ⟨10, testM e92 e93 9 0 (by omega) (fun _ u => ?_) (fun z => absurd hok z)⟩, fun z => ?_⟩, fun z => absurd h3 z⟩) (fun z => absurd h2 z))) (fun z => absurd h1 z))
      · -- the model writes
        have wrM : ∀ {k : Int32 → xM → Prop} {post : Int32 → xM → Prop} (m i : Nat) (M1 : xM), i + m = 9 → (∀ g' i', ¬ (g' = 9 ∧ i' = 4) → M1 g' i' = (us Ma 8 0 8 0) g' i') → (∀ M', (∀ g' i', ¬ (g' = 9 ∧ i' = 4) → M' g' i' = (us Ma 8 0 8 0) g' i') → (∀ j, (j < 9 * (w - 1) + i ∨ 9 * (w - 1) + 9 ≤ j) → M' 9 4 j = M1 9 4 j) → (∀ j, i ≤ j → j < 9 → M' 9 4 (9 * (w - 1) + j) = v j) → k (nI 9) M') → xw_Mo_weak_90 (nI w) (nI s) (nI f) post k (m + 1) (nI i) M1 := by
          intro k post m
          induction m with
          | zero =>
            intro i M1 hi hM1 h
            obtain rfl : i = 9 := by omega
            unfold xw_Mo_weak_90
            exact ⟨fun _ => h M1 hM1 (fun _ _ => rfl) (fun j a b => by omega), fun z => absurd (by decide) z⟩
          | succ m ih =>
            intro i M1 hi hM1 h
            unfold xw_Mo_weak_90
            have ix : (((9 : Int32) * nI w) - (9 : Int32)) + nI i = nI (9 * (w - 1) + i) := by
              rw [show (9 : Int32) = nI 9 from rfl, pk_mul, pk_sub (by omega), nI_add]; congr 1; omega
            refine ⟨fun z => absurd ((c9 i (by omega)).mp z) (by omega), fun _ => p_stands (by omega) hn hf (by omega) (by rw [hM1 9 2 (by omega), e92]; exact s5) ?_⟩
            rw [hM1 9 3 (by omega), e93, ix, nI_1]
            refine ⟨vp_in_nI (by omega) (by omega), ?_⟩
            rw [nI_clamp (by omega)]
            refine ih (i + 1) _ (by omega) (fun g' i' hg => by rw [us_ne _ _ hg]; exact hM1 g' i' hg) fun M' k1 k2 k3 => h M' k1 (fun j hj => by rw [k2 j (by omega), us_self, upd_ne _ _ (by omega)]) (fun j a b => ?_)
            by_cases e : j = i
            · subst e; rw [k2 _ (by omega), us_self, upd_self]
            · exact k3 j (by omega) b
        refine ⟨10, wrM 9 0 _ (by omega) (fun _ _ _ => rfl) fun Mb b1 b2 b3 => i_ok ⟨0, by omega, rfl⟩ ⟨rfl, ?_⟩⟩
        have f : ∀ g i, ¬ (g = 9 ∧ i = 0) → ¬ (g = 9 ∧ i = 4) → ¬ (g = 8 ∧ i = 0) → ¬ (g = 0 ∧ i = 2) → (us Mb 9 0 0 0) g i = M g i := fun g i p1 p2 p3 p4 => by
          rw [us_ne _ _ p1, b1 g i p2, us_ne _ _ p3, a1 g i p4]
        have f90 : ∀ k, k ≠ 0 → (us Mb 9 0 0 0) 9 0 k = M 9 0 k := fun k hk => by
          rw [us_self, upd_ne _ _ hk, b1 9 0 (by omega), us_ne _ _ (by omega), a1 9 0 (by omega)]
        have f02 : (us Mb 9 0 0 0) 0 2 = Ma 0 2 := by rw [us_ne _ _ (by omega), b1 0 2 (by omega), us_ne _ _ (by omega)]
        have f94 : (us Mb 9 0 0 0) 9 4 = Mb 9 4 := by rw [us_ne _ _ (by omega)]
        refine hI.now ?_ ?_ (fun g i p1 p2 => f g i (by omega) (by omega) (by omega) (by omega)) (fun i hi => f 8 i (by omega) (by omega) (by omega) (by omega)) (fun k p1 p2 => f90 k (by omega)) (fun i hi => f 9 i (by omega) (by omega) (by omega) (by omega))
        · rw [us_ne _ _ (by omega), b1 8 0 (by omega), us_self, upd_self, us_self, upd_self]
        · obtain ⟨⟨y1, y2, y3, y4⟩, y5, y6⟩ := hI.2.1
          have g0 : ∀ i, i ≠ 2 → (us Mb 9 0 0 0) 0 i = M 0 i := fun i hi => f 0 i (by omega) (by omega) (by omega) (by omega)
          have g9 : ∀ i, i ≠ 0 → i ≠ 4 → (us Mb 9 0 0 0) 9 i = M 9 i := fun i q1 q2 => f 9 i (by omega) (by omega) (by omega) (by omega)
          refine ⟨⟨?_, ?_, ?_, ?_⟩, ?_, ?_⟩
          · show ((us Mb 9 0 0 0) 0 1 1 = (us Mb 9 0 0 0) 9 0 5 ∧ _)
            rw [g0 1 (by omega), f90 5 (by omega)]
            show _ ∧ ∃ n : Nat, 2 ≤ n ∧ n ≤ 16 ∧ (us Mb 9 0 0 0) 9 0 5 = nI n
            rw [f90 5 (by omega)]
            exact y1
          · show ((us Mb 9 0 0 0) 0 1 5 = (us Mb 9 0 0 0) 9 0 6 ∧ ∃ j : Nat, 1 ≤ j ∧ j ≤ 63 ∧ (us Mb 9 0 0 0) 9 0 6 = nI j)
            rw [g0 1 (by omega), f90 6 (by omega)]
            exact y2
          · show ((us Mb 9 0 0 0) 0 1 2 = (us Mb 9 0 0 0) 9 5 0 ∧ (us Mb 9 0 0 0) 0 1 3 = (us Mb 9 0 0 0) 9 5 1 ∧ (us Mb 9 0 0 0) 0 1 4 = (us Mb 9 0 0 0) 9 5 2 ∧ ∀ k, k < 3 → ∃ j : Nat, j ≤ 10 ∧ (us Mb 9 0 0 0) 9 5 k = nI j)
            rw [g0 1 (by omega), g9 5 (by omega) (by omega)]
            exact y3
          · show ∀ k, k < 27 → (us Mb 9 0 0 0) 0 2 k = (us Mb 9 0 0 0) 9 4 k
            intro k hk
            rw [f02, f94]
            by_cases ek : k < 9 * (w - 1) ∨ 9 * (w - 1) + 9 ≤ k
            · rw [a2 k (by omega), b2 k (by omega), us_ne _ _ (by omega), a1 9 4 (by omega)]
              exact y4 k hk
            · obtain ⟨j, rfl⟩ : ∃ j, k = 9 * (w - 1) + j := ⟨k - 9 * (w - 1), by omega⟩
              rw [a3 j (by omega) (by omega), b3 j (by omega) (by omega)]
          · show vGrid ((us Mb 9 0 0 0) 0 12) ((us Mb 9 0 0 0) 9 0 7)
            rw [g0 12 (by omega), f90 7 (by omega)]
            exact y5
          · exact y6.to (fun i hi => g0 i (by omega)) (fun i h1 h2 => g9 i (by omega) (by omega)) (f90 9 (by omega)) (f90 10 (by omega))
      · rw [nI_clamp (by omega), e92] at z; exact absurd z h2'
    · refine ⟨fun z => absurd rfl z, fun _ => i_refd ?_⟩
      unfold xw_Mo_weak xj
      refine i_in (br' (fun _ => i_in (br' (fun _ => ⟨fun _ => ⟨hin, fun _ => ⟨10, testM (us_ne _ _ (by omega)) (us_ne _ _ (by omega)) 9 0 (by omega) (fun z => absurd z hok) (fun _ => ref_Mo (by decide) hI rfl)⟩, fun z => ?_⟩, fun z => absurd h3 z⟩) (fun z => absurd h2 z))) (fun z => absurd h1 z))
      rw [nI_clamp (by omega), us_ne _ _ (by omega)] at z; exact absurd z h2'
  · have e : M 9 2 s = -1 := by
      rw [← s1]
      exact Classical.not_not.mp h4
    unfold xw_Mo_weak xj
    refine i_in (br' (fun _ => i_in (br' (fun _ => ⟨fun _ => ⟨hin, fun z => ?_, fun _ => ref_Mo (by decide) hI rfl⟩, fun z => absurd h3 z⟩) (fun z => absurd h2 z))) (fun z => absurd h1 z))
    rw [nI_clamp (by omega)] at z
    exact absurd e z
