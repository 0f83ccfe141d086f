/-! ===== group, the model ===== -/
theorem tb_and {b j : Nat} (hb : b < 4096) (hj : j < 13) : ((nI b >>> (nI j &&& 31)) &&& (1 : Int32)) = nI (b / 2 ^ j % 2) := by
  have hs : ∀ j : Nat, j < 13 → ((nI j &&& 31).toBitVec.smod 32).toNat = j := by decide +kernel
  have h2 : b / 2 ^ j ≤ b := Nat.div_le_self _ _
  rw [pk_shrN (by omega) _ j (hs j hj), pk_andN (by omega) 1 (by decide)]
theorem tb_iff {b j : Nat} (hb : b < 4096) (hj : j < 13) : ((nI b >>> (nI j &&& 31)) &&& (1 : Int32)) = 1 ↔ b.testBit j = true := by
  rw [tb_and hb hj, Nat.testBit_eq_decide_div_mod_eq, decide_eq_true_iff]
  have h2 := Nat.mod_lt (b / 2 ^ j) (show 0 < 2 by decide)
  rw [show (1 : Int32) = nI 1 from rfl, nI_eq (by omega) (by omega)]
theorem tb_iff0 {b j : Nat} (hb : b < 4096) (hj : j < 13) : ((nI b >>> (nI j &&& 31)) &&& (1 : Int32)) = 0 ↔ ¬ b.testBit j = true := by
  rw [tb_and hb hj, Nat.testBit_eq_decide_div_mod_eq, decide_eq_true_iff]
  have h2 := Nat.mod_lt (b / 2 ^ j) (show 0 < 2 by decide)
  rw [show (0 : Int32) = nI 0 from rfl, nI_eq (by omega) (by omega)]
  omega
theorem tb_shl {k : Nat} (hk : k < 12) : ((1 : Int32) <<< (nI k &&& 31)) = nI (2 ^ k) := by
  have hs : ∀ j : Nat, j < 12 → ((1 : Int32) <<< (nI j &&& 31)) = nI (2 ^ j) := by decide +kernel
  exact hs k hk
theorem tb_lt {k : Nat} (hk : k < 12) : 2 ^ k < 4096 := by
  have : ∀ k : Nat, k < 12 → 2 ^ k < 4096 := by decide +kernel
  exact this k hk
theorem tb_or {b k : Nat} (hb : b < 4096) (hk : k < 12) : nI b ||| ((1 : Int32) <<< (nI k &&& 31)) = nI (b ||| 2 ^ k) ∧ b ||| 2 ^ k < 4096 := by
  have hlt : b ||| 2 ^ k < 2 ^ 12 := Nat.or_lt_two_pow hb (tb_lt hk)
  refine ⟨?_, hlt⟩
  rw [tb_shl hk]
  have := tb_lt hk
  apply Int32.toBitVec_inj.mp
  apply BitVec.eq_of_toNat_eq
  rw [Int32.toBitVec_or, BitVec.toNat_or, pk_tn (by omega), pk_tn (by omega), pk_tn (by omega)]
theorem tb_or_bit {b k j : Nat} : (b ||| 2 ^ k).testBit j = true ↔ (b.testBit j = true ∨ k = j) := by
  rw [Nat.testBit_or, Nat.testBit_two_pow]
  simp
def bOk (N : nR) (n b : Nat) : Prop := b < 4096 ∧ ∀ k, b.testBit k = true → k < n
/-- b' is b, and more that b reaches -/
def bUp (N : nR) (n b b' : Nat) : Prop := bOk N n b' ∧ (∀ k, b.testBit k = true → b'.testBit k = true) ∧ ∀ T : Nat → Prop, nCl N n T → (∀ k, b.testBit k = true → T k) → ∀ k, b'.testBit k = true → T k
theorem bUp.refl {N : nR} {n b : Nat} (h : bOk N n b) : bUp N n b b := ⟨h, fun _ q => q, fun _ _ h => h⟩
theorem bUp.trans {N : nR} {n b b' b'' : Nat} (h : bUp N n b b') (h' : bUp N n b' b'') : bUp N n b b'' := ⟨h'.1, fun k q => h'.2.1 k (h.2.1 k q), fun T T1 T2 => h'.2.2 T T1 (h.2.2 T T1 T2)⟩
theorem p_group60 {e : xE} (ok : eyOk e) {s n kk : Nat} (hs : s ≤ 5) {d : Int32} (hn : n ≤ 12) (hk : kk < n) {x5 : Int32} {M : xM} (hE : eyM M e) (hM : M 9 0 9 = nI n) {post : Int32 → xM → Prop} {k : Int32 → Int32 → xM → Prop} : ∀ (m j b : Nat), j + m = n → bOk (fun x y => ¬ d ≤ dd e s (M 9 6 x) (M 9 6 y)) n b →
    (∀ b', bUp (fun x y => ¬ d ≤ dd e s (M 9 6 x) (M 9 6 y)) n b b' → (∀ t, j ≤ t → t < n → b.testBit t = true → ¬ d ≤ dd e s (M 9 6 t) (M 9 6 kk) → b'.testBit kk = true) → k (nI b') (nI n) M) → xw_Mo_group_60 (nI s) d x5 (nI kk) post k (m + 1) (nI b) (nI j) M := by
  intro m
  induction m with
  | zero =>
    intro j b hj hb h
    obtain rfl : j = n := by omega
    unfold xw_Mo_group_60
    rw [hM]
    exact ⟨fun _ => h b (bUp.refl hb) (fun t h1 h2 => by omega), fun z => absurd (nI_le (Nat.le_refl _) (by omega)) z⟩
  | succ m ih =>
    intro j b hj hb h
    unfold xw_Mo_group_60
    rw [hM, nI_clamp (by omega), nI_clamp (by omega), nI_1, tb_iff hb.1 (by omega)]
    refine ⟨fun z => absurd ((nI_leI (by omega) (by omega)).mp z) (by omega), fun _ => ⟨fun z => ?_, fun z => ⟨vp_in_nI (by omega) (by omega), vp_in_nI (by omega) (by omega), p_Mo_dist ok hE hs ⟨fun w => ?_, fun w => ?_⟩⟩⟩⟩
    · refine ih (j + 1) b (by omega) hb (fun b' q1 q2 => h b' q1 (fun t t1 t2 t3 t4 => ?_))
      by_cases et : t = j
      · subst et; exact absurd t3 z
      · exact q2 t (by omega) t2 t3 t4
    · refine ih (j + 1) b (by omega) hb (fun b' q1 q2 => h b' q1 (fun t t1 t2 t3 t4 => ?_))
      by_cases et : t = j
      · subst et; exact absurd w t4
      · exact q2 t (by omega) t2 t3 t4
    · rw [(tb_or hb.1 (by omega)).1]
      have hup : bUp (fun x y => ¬ d ≤ dd e s (M 9 6 x) (M 9 6 y)) n b (b ||| 2 ^ kk) := by
        refine ⟨⟨(tb_or hb.1 (by omega)).2, fun t ht => ?_⟩, fun t ht => tb_or_bit.mpr (Or.inl ht), fun T T1 T2 t ht => ?_⟩
        · rcases tb_or_bit.mp ht with y | y
          · exact hb.2 t y
          · omega
        · rcases tb_or_bit.mp ht with y | y
          · exact T2 t y
          · subst y; exact T1 j kk (by omega) hk (T2 j z) w
      refine ih (j + 1) _ (by omega) hup.1 (fun b' q1 q2 => h b' (hup.trans q1) (fun t t1 t2 t3 t4 => q1.2.1 kk (tb_or_bit.mpr (Or.inr rfl))))
theorem p_group48 {e : xE} (ok : eyOk e) {s n : Nat} (hs : s ≤ 5) {d : Int32} (hn : n ≤ 12) {x5 : Int32} {M : xM} (hE : eyM M e) (hM : M 9 0 9 = nI n) {post : Int32 → xM → Prop} {k : Int32 → Int32 → xM → Prop} : ∀ (m j b : Nat), j + m = n → bOk (fun x y => ¬ d ≤ dd e s (M 9 6 x) (M 9 6 y)) n b →
    (∀ b', bUp (fun x y => ¬ d ≤ dd e s (M 9 6 x) (M 9 6 y)) n b b' → (∀ t u, t < n → j ≤ u → u < n → b.testBit t = true → ¬ d ≤ dd e s (M 9 6 t) (M 9 6 u) → b'.testBit u = true) → k (nI b') (nI n) M) → xw_Mo_group_48 (nI s) d x5 post k (m + 1) (nI b) (nI j) M := by
  intro m
  induction m with
  | zero =>
    intro j b hj hb h
    obtain rfl : j = n := by omega
    unfold xw_Mo_group_48
    rw [hM]
    exact ⟨fun _ => h b (bUp.refl hb) (fun t u _ h1 h2 => by omega), fun z => absurd (nI_le (Nat.le_refl _) (by omega)) z⟩
  | succ m ih =>
    intro j b hj hb h
    unfold xw_Mo_group_48
    rw [hM]
    refine ⟨fun z => absurd ((nI_leI (by omega) (by omega)).mp z) (by omega), fun _ => ⟨n + 1, p_group60 ok hs hn (show j < n by omega) hE hM n 0 b (by omega) hb (fun b' q1 q2 => ?_)⟩⟩
    rw [nI_1]
    refine ih (j + 1) b' (by omega) q1.1 (fun b'' w1 w2 => h b'' (q1.trans w1) (fun t u t1 u1 u2 t3 t4 => ?_))
    by_cases eu : u = j
    · subst eu; exact w1.2.1 u (q2 t (by omega) t1 t3 t4)
    · exact w2 t u t1 (by omega) u2 (q1.2.1 t t3) t4
def bF (b : Nat) : Nat → Int32 := fun k => if b.testBit k = true then 1 else 0
theorem bF0 {b k : Nat} : bF b k = 0 ↔ ¬ b.testBit k = true := by
  unfold bF
  split
  · rename_i h; exact ⟨fun z => absurd z (by decide), fun z => absurd h z⟩
  · rename_i h; exact ⟨fun _ => h, fun _ => rfl⟩
theorem p_group38 {e : xE} (ok : eyOk e) {s n : Nat} (hs : s ≤ 5) {d : Int32} (hn : n ≤ 12) {M : xM} (hE : eyM M e) (hM : M 9 0 9 = nI n) {post : Int32 → xM → Prop} {k : Int32 → Int32 → xM → Prop} : ∀ (m r b : Nat), r + m = 12 → bOk (fun x y => ¬ d ≤ dd e s (M 9 6 x) (M 9 6 y)) n b → (nCl (fun x y => ¬ d ≤ dd e s (M 9 6 x) (M 9 6 y)) n (fun t => b.testBit t = true) ∨ r + 1 ≤ cN (bF b) n) →
    (∀ b', bUp (fun x y => ¬ d ≤ dd e s (M 9 6 x) (M 9 6 y)) n b b' → nCl (fun x y => ¬ d ≤ dd e s (M 9 6 x) (M 9 6 y)) n (fun t => b'.testBit t = true) → k (nI b') (nI 12) M) → xw_Mo_group_38 (nI s) d post k (m + 1) (nI b) (nI r) M := by
  intro m
  induction m with
  | zero =>
    intro r b hr hb hc h
    obtain rfl : r = 12 := by omega
    unfold xw_Mo_group_38
    refine ⟨fun _ => h b (bUp.refl hb) (hc.resolve_right (fun z => ?_)), fun z => absurd (by decide) z⟩
    have := cN_le (bF b) n
    omega
  | succ m ih =>
    intro r b hr hb hc h
    unfold xw_Mo_group_38
    refine ⟨fun z => absurd ((nI_leI (a := 12) (by omega) (by omega)).mp z) (by omega), fun _ => ⟨n + 1, p_group48 ok hs hn hE hM n 0 b (by omega) hb (fun b' q1 q2 => ?_)⟩⟩
    rw [nI_1]
    refine ih (r + 1) b' (by omega) q1.1 ?_ (fun b'' w1 w2 => h b'' (q1.trans w1) w2)
    by_cases same : ∀ t, b'.testBit t = true → b.testBit t = true
    · exact Or.inl (fun t u t1 u1 t2 t3 => q2 t u t1 (by omega) u1 (same t t2) t3)
    · rcases hc with hc | hc
      · exact absurd (q1.2.2 (fun t => b.testBit t = true) hc (fun _ q => q)) same
      · right
        obtain ⟨t, ht⟩ : ∃ t, ¬ (b'.testBit t = true → b.testBit t = true) := Classical.not_forall.mp same
        have t1 : b'.testBit t = true := Classical.byContradiction fun z => ht (fun y => absurd y z)
        have t2 : ¬ b.testBit t = true := fun z => ht (fun _ => z)
        have := cN_strict (f := bF b) (g := bF b') (j := t) (bF0.mpr t2) (fun z => bF0.mp z t1) n (q1.1.2 t t1) (fun u _ hu => bF0.mpr (fun y => bF0.mp hu (q1.2.1 u y)))
        omega
theorem p_group133 {b i : Nat} (hb : b < 4096) (hi : i < 12) (hbi : b.testBit i = true) {M : xM} {post : Int32 → xM → Prop} {k : Int32 → xM → Prop} : ∀ (m j : Nat), j + m = i → (∀ t, t < j → ¬ b.testBit t = true) → (∀ l, b.testBit l = true → (∀ t, t < l → ¬ b.testBit t = true) → k (nI l) M) → xw_Mo_group_133 (nI b) post k (m + 1) (nI j) M := by
  intro m
  induction m with
  | zero =>
    intro j hj h1 h
    obtain rfl : j = i := by omega
    unfold xw_Mo_group_133
    rw [tb_iff0 hb (by omega)]
    exact ⟨fun _ => h j hbi h1, fun z => absurd hbi z⟩
  | succ m ih =>
    intro j hj h1 h
    unfold xw_Mo_group_133
    rw [tb_iff0 hb (by omega), nI_1]
    refine ⟨fun z => h j (Classical.not_not.mp z) h1, fun z => ih (j + 1) (by omega) (fun t ht => ?_) h⟩
    by_cases e : t = j
    · subst e; exact z
    · exact h1 t (by omega)
theorem p_Mo_group {e : xE} (ok : eyOk e) {s n i : Nat} (hs : s ≤ 5) {d : Int32} (hd : 0 ≤ d ∧ d ≤ 2000000) (hn : n ≤ 12) (hi : i < n) {M : xM} (hE : eyM M e) (hM : M 9 0 9 = nI n) {post : Int32 → xM → Prop} (h : ∀ l, nLow (fun x y => ¬ d ≤ dd e s (M 9 6 x) (M 9 6 y)) n i l → post (nI l) M) : xw_Mo_group (nI s) d (nI i) M post := by
  have hsI : (0 : Int32) ≤ nI s ∧ nI s ≤ 5 := ⟨nI_pos' (by omega), nI_le (b := 5) (by omega) (by omega)⟩
  have hiI : 0 ≤ nI i ∧ nI i ≤ nI n - 1 := by
    rcases ix_cases (nI i) (n := n) (by omega) with ⟨q1, q2⟩ | ⟨q1, q2, q3⟩ | ⟨k, hk, e, q1, q2, q3⟩
    · exact absurd q1 (nI_pos (by omega))
    · exact absurd ((nI_leI (by omega) (by omega)).mp q2) (by omega)
    · rw [e]; exact q3
  have b0 : bOk (fun x y => ¬ d ≤ dd e s (M 9 6 x) (M 9 6 y)) n (2 ^ i) := ⟨tb_lt (by omega), fun k hk => by
    rw [Nat.testBit_two_pow] at hk
    have := of_decide_eq_true hk
    omega⟩
  have bi : (2 ^ i).testBit i = true := by rw [Nat.testBit_two_pow]; simp
  refine i_sigM (br' (fun _ => i_in (br (fun _ => p_isIn hM (br (fun _ => ⟨13, ?_⟩) (fun z => absurd hiI z))) (fun z => absurd hd z))) (fun z => absurd hsI z))
  rw [tb_shl (by omega)]
  refine p_group38 ok hs hn hE hM 12 0 (2 ^ i) (by omega) b0 (Or.inr ?_) (fun b' q1 q2 => ⟨i + 1, p_group133 q1.1.1 (by omega) (q1.2.1 i bi) i 0 (by omega) (fun t ht => by omega) (fun l l1 l2 => h l ?_)⟩)
  · have : cN (bF (2 ^ i)) n = 1 := cN_one n hi (fun k hk => by
      rw [bF0, Nat.testBit_two_pow, decide_eq_true_iff]
      exact ⟨fun z y => z y.symm, fun z y => z y.symm⟩)
    omega
  · refine ⟨fun t => b'.testBit t = true, q1.2.1 i bi, q2, fun T T1 T2 k hk => q1.2.2 T T2 (fun t ht => ?_) k hk, l1, fun k hk => ?_⟩
    · rw [Nat.testBit_two_pow, decide_eq_true_iff] at ht
      subst ht; exact T1
    · rcases Nat.lt_or_ge k l with w | w
      · exact absurd hk (l2 k w)
      · exact w
theorem op_group : ∀ (M : xM) (a b c : Int32), xInv M → xw_CA_group a b c M (fun r M1 => xw_Mo_group a b c M1 (fun q M2 => r = q ∧ xInv M2)) := by
  intro M a b c hI
  obtain ⟨e, ok, eC, eM⟩ := hI.2.1.e
  obtain ⟨n, q, hn, hq, ⟨n1, n2⟩, ⟨q1, q2⟩, hc, hr, hb, hp⟩ := hI.2.1.2.2
  have n1 : M 9 0 9 = nI n := n1
  have n2 : M 0 3 0 = nI n := n2
  have bad : ¬ (0 ≤ b ∧ b ≤ 2000000) → (0 ≤ a ∧ a ≤ 5) → xw_Mo_group a b c M (fun q M2 => (-1 : Int32) = q ∧ xInv M2) := fun h ha =>
    i_sigM (br' (fun _ => i_in (br (fun z => absurd z h) (fun _ => ⟨rfl, hI⟩))) (fun z => absurd ha z))
  refine i_sigC (br' (fun h1 => ⟨fun z => bad (fun w => by have := w.1; simp only [ilt, ile] at *; omega) h1, fun hb1 => ⟨fun hb2 => ?_, fun z => bad (fun w => z w.2) h1⟩⟩) (fun h1 => i_sigM (br' (fun z => absurd z h1) (fun _ => ⟨rfl, hI⟩))))
  have hbb : 0 ≤ b ∧ b ≤ 2000000 := ⟨by simp only [ilt, ile] at *; omega, hb2⟩
  refine p_has hn n2 (br' (fun h3 => ?_) (fun h3 => i_sigM (br' (fun _ => i_in (br (fun _ => p_isIn (by exact n1) (br (fun z => absurd z h3) (fun _ => ⟨rfl, hI⟩))) (fun z => absurd hbb z))) (fun z => absurd h1 z))))
  obtain ⟨s, -, hs, rfl⟩ := nIr (l := 0) (h := 5) rfl rfl h1
  obtain ⟨i, hi, rfl⟩ := in_nI (by omega) h3
  have ec : ∀ k, k < 12 → M 0 4 k = M 9 6 k := fun k hk => (hc k hk).1
  refine p_lowest ok hs hn hi eC n2 (fun t ht => by rw [ec t ht]; exact (hr t ht).1) (fun M' l q1 q2 => ?_)
  have e9 : M' 9 = M 9 := funext fun t => q1 9 t (by omega)
  have eM' : eyM M' e := by unfold eyM; rw [e9]; exact eM
  refine p_Mo_group ok hs hbb hn hi eM' (by rw [e9]; exact n1) (fun l' q3 => ⟨?_, hI.scratch (fun g t hg => q1 g t (fun w => hg (Or.inl ⟨w.1, Or.inr (Or.inr (Or.inr w.2))⟩)))⟩)
  rw [e9] at q3
  have key : nLow (fun x y => ¬ b ≤ dd e s (M 9 6 x) (M 9 6 y)) n i l := by
    obtain ⟨S, s1, s2, s3, s4, s5⟩ := q2
    have cl : ∀ T : Nat → Prop, nCl (fun x y => ¬ b ≤ dd e s (M 0 4 x) (M 0 4 y)) n T ↔ nCl (fun x y => ¬ b ≤ dd e s (M 9 6 x) (M 9 6 y)) n T := fun T => by
      refine ⟨fun w j k hj hk t u => w j k hj hk t ?_, fun w j k hj hk t u => w j k hj hk t ?_⟩
      · show ¬ b ≤ dd e s (M 0 4 j) (M 0 4 k)
        rw [ec j (by omega), ec k (by omega)]; exact u
      · have u : ¬ b ≤ dd e s (M 0 4 j) (M 0 4 k) := u
        rw [ec j (by omega), ec k (by omega)] at u; exact u
    exact ⟨S, s1, (cl S).mp s2, fun T T1 T2 => s3 T T1 ((cl T).mpr T2), s4, s5⟩
  rw [nLow_uniq key q3]
