set_option maxHeartbeats 4000000 in
set_option maxRecDepth 100000 in
theorem law_loop {p : Program} {l : Launch} {e : Env} {s : State} {m : MethodId} {below : List Frame} {meth : Method} {c : Code} {G : xG} {b L : Nat} {xs : Nat → Int32} (hC : xC p s m #[Value.ref b] c code R_law 4 G) (hX : va_X b L xs s s.heap) (hbl : b < s.heap.size) (hbA : ¬ xA G b) {xInv : xM → Prop} (hL : L ≤ 2048) (hr : meth.sig.returnType = ret) (hlocks : meth.locks = false) (hge : ∀ q : Nat, xA G q → s.heap.size ≤ q) (op_sheet : ∀ (M : xM) (a b c : Int32), xInv M → xw_CA_sheet a b c M (fun r M1 => xw_Mo_sheet a b c M1 (fun q M2 => r = q ∧ xInv M2))) (op_write : ∀ (M : xM) (a b c : Int32), xInv M → xw_CA_write a b c M (fun r M1 => xw_Mo_write a b c M1 (fun q M2 => r = q ∧ xInv M2))) (op_weak : ∀ (M : xM) (a b c : Int32), xInv M → xw_CA_weak a b c M (fun r M1 => xw_Mo_weak a b c M1 (fun q M2 => r = q ∧ xInv M2))) (op_levels : ∀ (M : xM) (a : Int32), xInv M → xw_CA_levels a M (fun r M1 => xw_Mo_levels a M1 (fun q M2 => r = q ∧ xInv M2))) (op_weights : ∀ (M : xM) (a b c : Int32), xInv M → xw_CA_weights a b c M (fun r M1 => xw_Mo_weights a b c M1 (fun q M2 => r = q ∧ xInv M2))) (op_sights : ∀ (M : xM) (a : Int32), xInv M → xw_CA_sights a M (fun r M1 => xw_Mo_sights a M1 (fun q M2 => r = q ∧ xInv M2))) (op_grid : ∀ (M : xM) (a : Int32), xInv M → xw_CA_grid a M (fun r M1 => xw_Mo_grid a M1 (fun q M2 => r = q ∧ xInv M2))) (op_place : ∀ (M : xM) (a : Int32), xInv M → xw_CA_place a M (fun r M1 => xw_Mo_place a M1 (fun q M2 => r = q ∧ xInv M2))) (op_seen : ∀ (M : xM) (a b : Int32), xInv M → xw_CA_seen a b M (fun r M1 => xw_Mo_seen a b M1 (fun q M2 => r = q ∧ xInv M2))) (op_light : ∀ (M : xM) (a : Int32), xInv M → xw_CA_light a M (fun r M1 => xw_Mo_light a M1 (fun q M2 => r = q ∧ xInv M2))) (op_distance : ∀ (M : xM) (a b c : Int32), xInv M → xw_CA_distance a b c M (fun r M1 => xw_Mo_distance a b c M1 (fun q M2 => r = q ∧ xInv M2))) (op_apart : ∀ (M : xM) (a b : Int32), xInv M → xw_CA_apart a b M (fun r M1 => xw_Mo_apart a b M1 (fun q M2 => r = q ∧ xInv M2))) (op_add : ∀ (M : xM) (a z : Int32), (z = 0 ∨ z = 1) → xInv M → xw_CA_add a z M (fun r M1 => xw_Mo_add a z M1 (fun q M2 => r = q ∧ xInv M2))) (op_set : ∀ (M : xM) (a b : Int32), xInv M → xw_CA_set a b M (fun r M1 => xw_Mo_set a b M1 (fun q M2 => r = q ∧ xInv M2))) (op_fix : ∀ (M : xM) (a z : Int32), (z = 0 ∨ z = 1) → xInv M → xw_CA_fix a z M (fun r M1 => xw_Mo_fix a z M1 (fun q M2 => r = q ∧ xInv M2))) (op_name : ∀ (M : xM) (a b : Int32), xInv M → xw_CA_name a b M (fun r M1 => xw_Mo_name a b M1 (fun q M2 => r = q ∧ xInv M2))) (op_box : ∀ (M : xM) (a b c : Int32), xInv M → xw_CA_box a b c M (fun r M1 => xw_Mo_box a b c M1 (fun q M2 => r = q ∧ xInv M2))) (op_pair : ∀ (M : xM) (a b c : Int32), xInv M → xw_CA_pair a b c M (fun r M1 => xw_Mo_pair a b c M1 (fun q M2 => r = q ∧ xInv M2))) (op_contrast : ∀ (M : xM) (a b c : Int32), xInv M → xw_CA_contrast a b c M (fun r M1 => xw_Mo_contrast a b c M1 (fun q M2 => r = q ∧ xInv M2))) (op_unmet : ∀ (M : xM), xInv M → xw_CA_unmet  M (fun r M1 => xw_Mo_unmet  M1 (fun q M2 => r = q ∧ xInv M2))) (op_of : ∀ (M : xM) (a b : Int32), xInv M → xw_CA_of a b M (fun r M1 => xw_Mo_of a b M1 (fun q M2 => r = q ∧ xInv M2))) (op_best : ∀ (M : xM) (a : Int32), xInv M → xw_CA_best a M (fun r M1 => xw_Mo_best a M1 (fun q M2 => r = q ∧ xInv M2))) (op_chosen : ∀ (M : xM) (a : Int32), xInv M → xw_CA_chosen a M (fun r M1 => xw_Mo_chosen a M1 (fun q M2 => r = q ∧ xInv M2))) (op_move : ∀ (M : xM) (a b : Int32), xInv M → xw_CA_move a b M (fun r M1 => xw_Mo_move a b M1 (fun q M2 => r = q ∧ xInv M2))) (op_settle : ∀ (M : xM) (a : Int32), xInv M → xw_CA_settle a M (fun r M1 => xw_Mo_settle a M1 (fun q M2 => r = q ∧ xInv M2))) (op_stuck : ∀ (M : xM), xInv M → xw_CA_stuck  M (fun r M1 => xw_Mo_stuck  M1 (fun q M2 => r = q ∧ xInv M2))) (op_ramp : ∀ (M : xM) (a b c : Int32), xInv M → xw_CA_ramp a b c M (fun r M1 => xw_Mo_ramp a b c M1 (fun q M2 => r = q ∧ xInv M2))) (op_step : ∀ (M : xM) (a : Int32), xInv M → xw_CA_step a M (fun r M1 => xw_Mo_step a M1 (fun q M2 => r = q ∧ xInv M2))) (op_rising : ∀ (M : xM) (a : Int32), xInv M → xw_CA_rising a M (fun r M1 => xw_Mo_rising a M1 (fun q M2 => r = q ∧ xInv M2))) (op_group : ∀ (M : xM) (a b c : Int32), xInv M → xw_CA_group a b c M (fun r M1 => xw_Mo_group a b c M1 (fun q M2 => r = q ∧ xInv M2))) (op_image : ∀ (M : xM) (a : Int32), xInv M → xw_CA_image a M (fun r M1 => xw_Mo_image a M1 (fun q M2 => r = q ∧ xInv M2))) (op_back : ∀ (M : xM) (a : Int32), xInv M → xw_CA_back a M (fun r M1 => xw_Mo_back a M1 (fun q M2 => r = q ∧ xInv M2))) (op_count : ∀ (M : xM) (a : Int32), xInv M → xw_CA_count a M (fun r M1 => xw_Mo_count a M1 (fun q M2 => r = q ∧ xInv M2))) (op_status : ∀ (M : xM), xInv M → xw_CA_status  M (fun r M1 => xw_Mo_status  M1 (fun q M2 => r = q ∧ xInv M2))) : ∀ (n j : Nat) (x3 : Int32) (M : xM) (H : Heap) (locs : List Loc) (ls : Array Slot), x3 = nI j → j ≤ L + 3 → L + 4 ≤ j + 4 * n → xInv M → xRp G M H → va_S (xA G) s.heap H locs → lv_has ls 4 [(0, .ref b), (1, .ref (G.1 8 0)), (2, .ref (G.1 9 0)), (3, .int x3)] → W p l e room_1 s m #[Value.ref b] below meth c H locs 600000 7302250 (lw_Z below #[Value.ref b] s) (F0 m 18 ls []) := by
  have hx := hC.1
  have hb := hC.2.1
  intro n
  induction n with
  | zero => intro j x3 M H locs ls e3 h1 h2; exact absurd h2 (by omega)
  | succ n ih =>
    intro j x3 M H locs ls e3 h1 h2 hI hR hS hl
    refine lv_iload_n (pc := 18) hx hb xd_law_18 rfl (lv_at hl 3 rfl) ?_
    refine lv_aload_n (pc := 19) hx hb xd_law_19 rfl (lv_at hl 0 rfl) ?_
    refine va_slen (pc := 20) hx hb hX hbl hbA hS xd_law_20 ?_
    refine lv_iconst (pc := 21) (v := (4 : Int32)) hx hb xd_law_21 (by decide) ?_
    refine lv_isub (pc := 22) hx hb xd_law_22 ?_
    refine lv_icmp_gt (pc := 23) (tgt := 1254) hx hb xd_law_23 (by decide) (fun hq => ?_) (fun hq => ?_)
    · refine lv_iconst (pc := 1254) (v := (1 : Int32)) hx hb xd_law_1254 (by decide) ?_
      refine va_forget (fun q hq => hge _ (hS.2.2 q hq)) ?_
      exact lw_ret hx hb hr hlocks xd_law_1255
    have hj : j + 3 < L := xlw_in hL (by omega) (by rw [← e3]; exact hq)
    have tail : ∀ (M : xM) (H : Heap) (locs : List Loc) (ls : Array Slot), xInv M → xRp G M H → va_S (xA G) s.heap H locs → lv_has ls 4 [(0, .ref b), (1, .ref (G.1 8 0)), (2, .ref (G.1 9 0)), (3, .int x3)] → W p l e room_1 s m #[Value.ref b] below meth c H locs 600000 7302250 (lw_Z below #[Value.ref b] s) (F0 m 1248 ls []) := by
      intro M H locs ls hI hR hS hl
      refine lv_iinc (pc := 1248) (v := x3 + (4 : Int32)) (lv' := [(3, .int (x3 + (4 : Int32))), (0, .ref b), (1, .ref (G.1 8 0)), (2, .ref (G.1 9 0))]) hx hb xd_law_1248 hl (k := 3) rfl rfl (by decide) rfl (fun ls hl => ?_)
      refine lv_goto (pc := 1251) (tgt := 18) hx hb xd_law_1251 (by decide) ?_
      exact ih (j + 4) (x3 + (4 : Int32)) M H locs ls (by rw [e3]; exact nI_add j 4) (by omega) (by omega) hI hR hS (lv_sub hl [1, 2, 3, 0] rfl)
    have hi0 : vp_in x3 L := by rw [e3]; exact vp_in_nI (by omega) (by omega)
    have hi1 : vp_in (x3 + (1 : Int32)) L := by rw [e3]; exact xlw_ix hL hj 1 (by decide)
    have hi2 : vp_in (x3 + (2 : Int32)) L := by rw [e3]; exact xlw_ix hL hj 2 (by decide)
    have hi3 : vp_in (x3 + (3 : Int32)) L := by rw [e3]; exact xlw_ix hL hj 3 (by decide)
    obtain ⟨w1, ew1⟩ : ∃ w : Int32, xs (x3 + (1 : Int32)).toNatClampNeg = w := ⟨_, rfl⟩
    obtain ⟨w2, ew2⟩ : ∃ w : Int32, xs (x3 + (2 : Int32)).toNatClampNeg = w := ⟨_, rfl⟩
    obtain ⟨w3, ew3⟩ : ∃ w : Int32, xs (x3 + (3 : Int32)).toNatClampNeg = w := ⟨_, rfl⟩
    refine lv_aload_n (pc := 26) hx hb xd_law_26 rfl (lv_at hl 0 rfl) ?_
    refine lv_iload_n (pc := 27) hx hb xd_law_27 rfl (lv_at hl 3 rfl) ?_
    refine va_sld (pc := 28) hx hb hX hbl hbA hS hi0 xd_law_28 ?_
    refine lv_bipush (pc := 29) (v := (63 : Int32)) hx hb xd_law_29 (by decide) ?_
    refine lv_iand (pc := 31) hx hb xd_law_31 ?_
    generalize (xs x3.toNatClampNeg &&& (63 : Int32)) = sw
    by_cases hs0 : sw = (0 : Int32)
    · refine lv_tableIn (pc := 32) (tgt := 184) (off := 152) hx hb xd_law_32 (by rw [hs0]; decide) (by rw [hs0]; decide) (by rw [hs0]; rfl) (by decide) ?_
      exact lc_0 hC hX hbl hbA hi1 ew1 hi2 ew2 hi3 ew3 tail op_sheet M H locs ls hI hR hS hl
    by_cases hs1 : sw = (1 : Int32)
    · refine lv_tableIn (pc := 32) (tgt := 227) (off := 195) hx hb xd_law_32 (by rw [hs1]; decide) (by rw [hs1]; decide) (by rw [hs1]; rfl) (by decide) ?_
      exact lc_1 hC hX hbl hbA hi1 ew1 hi2 ew2 hi3 ew3 tail op_write M H locs ls hI hR hS hl
    by_cases hs2 : sw = (2 : Int32)
    · refine lv_tableIn (pc := 32) (tgt := 270) (off := 238) hx hb xd_law_32 (by rw [hs2]; decide) (by rw [hs2]; decide) (by rw [hs2]; rfl) (by decide) ?_
      exact lc_2 hC hX hbl hbA hi1 ew1 hi2 ew2 hi3 ew3 tail op_weak M H locs ls hI hR hS hl
    by_cases hs3 : sw = (3 : Int32)
    · refine lv_tableIn (pc := 32) (tgt := 313) (off := 281) hx hb xd_law_32 (by rw [hs3]; decide) (by rw [hs3]; decide) (by rw [hs3]; rfl) (by decide) ?_
      exact lc_3 hC hX hbl hbA hi1 ew1 hi2 ew2 hi3 ew3 tail op_levels M H locs ls hI hR hS hl
    by_cases hs4 : sw = (4 : Int32)
    · refine lv_tableIn (pc := 32) (tgt := 336) (off := 304) hx hb xd_law_32 (by rw [hs4]; decide) (by rw [hs4]; decide) (by rw [hs4]; rfl) (by decide) ?_
      exact lc_4 hC hX hbl hbA hi1 ew1 hi2 ew2 hi3 ew3 tail op_weights M H locs ls hI hR hS hl
    by_cases hs5 : sw = (5 : Int32)
    · refine lv_tableIn (pc := 32) (tgt := 379) (off := 347) hx hb xd_law_32 (by rw [hs5]; decide) (by rw [hs5]; decide) (by rw [hs5]; rfl) (by decide) ?_
      exact lc_5 hC hX hbl hbA hi1 ew1 hi2 ew2 hi3 ew3 tail op_sights M H locs ls hI hR hS hl
    by_cases hs6 : sw = (6 : Int32)
    · refine lv_tableIn (pc := 32) (tgt := 402) (off := 370) hx hb xd_law_32 (by rw [hs6]; decide) (by rw [hs6]; decide) (by rw [hs6]; rfl) (by decide) ?_
      exact lc_6 hC hX hbl hbA hi1 ew1 hi2 ew2 hi3 ew3 tail op_grid M H locs ls hI hR hS hl
    by_cases hs7 : sw = (7 : Int32)
    · refine lv_tableIn (pc := 32) (tgt := 425) (off := 393) hx hb xd_law_32 (by rw [hs7]; decide) (by rw [hs7]; decide) (by rw [hs7]; rfl) (by decide) ?_
      exact lc_7 hC hX hbl hbA hi1 ew1 hi2 ew2 hi3 ew3 tail op_place M H locs ls hI hR hS hl
    by_cases hs8 : sw = (8 : Int32)
    · refine lv_tableIn (pc := 32) (tgt := 448) (off := 416) hx hb xd_law_32 (by rw [hs8]; decide) (by rw [hs8]; decide) (by rw [hs8]; rfl) (by decide) ?_
      exact lc_8 hC hX hbl hbA hi1 ew1 hi2 ew2 hi3 ew3 tail op_seen M H locs ls hI hR hS hl
    by_cases hs9 : sw = (9 : Int32)
    · refine lv_tableIn (pc := 32) (tgt := 481) (off := 449) hx hb xd_law_32 (by rw [hs9]; decide) (by rw [hs9]; decide) (by rw [hs9]; rfl) (by decide) ?_
      exact lc_9 hC hX hbl hbA hi1 ew1 hi2 ew2 hi3 ew3 tail op_light M H locs ls hI hR hS hl
    by_cases hs10 : sw = (10 : Int32)
    · refine lv_tableIn (pc := 32) (tgt := 504) (off := 472) hx hb xd_law_32 (by rw [hs10]; decide) (by rw [hs10]; decide) (by rw [hs10]; rfl) (by decide) ?_
      exact lc_10 hC hX hbl hbA hi1 ew1 hi2 ew2 hi3 ew3 tail op_distance M H locs ls hI hR hS hl
    by_cases hs11 : sw = (11 : Int32)
    · refine lv_tableIn (pc := 32) (tgt := 547) (off := 515) hx hb xd_law_32 (by rw [hs11]; decide) (by rw [hs11]; decide) (by rw [hs11]; rfl) (by decide) ?_
      exact lc_11 hC hX hbl hbA hi1 ew1 hi2 ew2 hi3 ew3 tail op_apart M H locs ls hI hR hS hl
    by_cases hs12 : sw = (12 : Int32)
    · refine lv_tableIn (pc := 32) (tgt := 580) (off := 548) hx hb xd_law_32 (by rw [hs12]; decide) (by rw [hs12]; decide) (by rw [hs12]; rfl) (by decide) ?_
      exact lc_12 hC hX hbl hbA hi1 ew1 hi2 ew2 hi3 ew3 tail op_add M H locs ls hI hR hS hl
    by_cases hs13 : sw = (13 : Int32)
    · refine lv_tableIn (pc := 32) (tgt := 629) (off := 597) hx hb xd_law_32 (by rw [hs13]; decide) (by rw [hs13]; decide) (by rw [hs13]; rfl) (by decide) ?_
      exact lc_13 hC hX hbl hbA hi1 ew1 hi2 ew2 hi3 ew3 tail op_set M H locs ls hI hR hS hl
    by_cases hs14 : sw = (14 : Int32)
    · refine lv_tableIn (pc := 32) (tgt := 662) (off := 630) hx hb xd_law_32 (by rw [hs14]; decide) (by rw [hs14]; decide) (by rw [hs14]; rfl) (by decide) ?_
      exact lc_14 hC hX hbl hbA hi1 ew1 hi2 ew2 hi3 ew3 tail op_fix M H locs ls hI hR hS hl
    by_cases hs15 : sw = (15 : Int32)
    · refine lv_tableIn (pc := 32) (tgt := 711) (off := 679) hx hb xd_law_32 (by rw [hs15]; decide) (by rw [hs15]; decide) (by rw [hs15]; rfl) (by decide) ?_
      exact lc_15 hC hX hbl hbA hi1 ew1 hi2 ew2 hi3 ew3 tail op_name M H locs ls hI hR hS hl
    by_cases hs16 : sw = (16 : Int32)
    · refine lv_tableIn (pc := 32) (tgt := 744) (off := 712) hx hb xd_law_32 (by rw [hs16]; decide) (by rw [hs16]; decide) (by rw [hs16]; rfl) (by decide) ?_
      exact lc_16 hC hX hbl hbA hi1 ew1 hi2 ew2 hi3 ew3 tail op_box M H locs ls hI hR hS hl
    by_cases hs17 : sw = (17 : Int32)
    · refine lv_tableIn (pc := 32) (tgt := 787) (off := 755) hx hb xd_law_32 (by rw [hs17]; decide) (by rw [hs17]; decide) (by rw [hs17]; rfl) (by decide) ?_
      exact lc_17 hC hX hbl hbA hi1 ew1 hi2 ew2 hi3 ew3 tail op_pair M H locs ls hI hR hS hl
    by_cases hs18 : sw = (18 : Int32)
    · refine lv_tableIn (pc := 32) (tgt := 830) (off := 798) hx hb xd_law_32 (by rw [hs18]; decide) (by rw [hs18]; decide) (by rw [hs18]; rfl) (by decide) ?_
      exact lc_18 hC hX hbl hbA hi1 ew1 hi2 ew2 hi3 ew3 tail op_contrast M H locs ls hI hR hS hl
    by_cases hs19 : sw = (19 : Int32)
    · refine lv_tableIn (pc := 32) (tgt := 873) (off := 841) hx hb xd_law_32 (by rw [hs19]; decide) (by rw [hs19]; decide) (by rw [hs19]; rfl) (by decide) ?_
      exact lc_19 hC hX hbl hbA hi1 ew1 hi2 ew2 hi3 ew3 tail op_unmet M H locs ls hI hR hS hl
    by_cases hs20 : sw = (20 : Int32)
    · refine lv_tableIn (pc := 32) (tgt := 886) (off := 854) hx hb xd_law_32 (by rw [hs20]; decide) (by rw [hs20]; decide) (by rw [hs20]; rfl) (by decide) ?_
      exact lc_20 hC hX hbl hbA hi1 ew1 hi2 ew2 hi3 ew3 tail op_of M H locs ls hI hR hS hl
    by_cases hs21 : sw = (21 : Int32)
    · refine lv_tableIn (pc := 32) (tgt := 919) (off := 887) hx hb xd_law_32 (by rw [hs21]; decide) (by rw [hs21]; decide) (by rw [hs21]; rfl) (by decide) ?_
      exact lc_21 hC hX hbl hbA hi1 ew1 hi2 ew2 hi3 ew3 tail op_best M H locs ls hI hR hS hl
    by_cases hs22 : sw = (22 : Int32)
    · refine lv_tableIn (pc := 32) (tgt := 942) (off := 910) hx hb xd_law_32 (by rw [hs22]; decide) (by rw [hs22]; decide) (by rw [hs22]; rfl) (by decide) ?_
      exact lc_22 hC hX hbl hbA hi1 ew1 hi2 ew2 hi3 ew3 tail op_chosen M H locs ls hI hR hS hl
    by_cases hs23 : sw = (23 : Int32)
    · refine lv_tableIn (pc := 32) (tgt := 965) (off := 933) hx hb xd_law_32 (by rw [hs23]; decide) (by rw [hs23]; decide) (by rw [hs23]; rfl) (by decide) ?_
      exact lc_23 hC hX hbl hbA hi1 ew1 hi2 ew2 hi3 ew3 tail op_move M H locs ls hI hR hS hl
    by_cases hs24 : sw = (24 : Int32)
    · refine lv_tableIn (pc := 32) (tgt := 998) (off := 966) hx hb xd_law_32 (by rw [hs24]; decide) (by rw [hs24]; decide) (by rw [hs24]; rfl) (by decide) ?_
      exact lc_24 hC hX hbl hbA hi1 ew1 hi2 ew2 hi3 ew3 tail op_settle M H locs ls hI hR hS hl
    by_cases hs25 : sw = (25 : Int32)
    · refine lv_tableIn (pc := 32) (tgt := 1021) (off := 989) hx hb xd_law_32 (by rw [hs25]; decide) (by rw [hs25]; decide) (by rw [hs25]; rfl) (by decide) ?_
      exact lc_25 hC hX hbl hbA hi1 ew1 hi2 ew2 hi3 ew3 tail op_stuck M H locs ls hI hR hS hl
    by_cases hs26 : sw = (26 : Int32)
    · refine lv_tableIn (pc := 32) (tgt := 1034) (off := 1002) hx hb xd_law_32 (by rw [hs26]; decide) (by rw [hs26]; decide) (by rw [hs26]; rfl) (by decide) ?_
      exact lc_26 hC hX hbl hbA hi1 ew1 hi2 ew2 hi3 ew3 tail op_ramp M H locs ls hI hR hS hl
    by_cases hs27 : sw = (27 : Int32)
    · refine lv_tableIn (pc := 32) (tgt := 1077) (off := 1045) hx hb xd_law_32 (by rw [hs27]; decide) (by rw [hs27]; decide) (by rw [hs27]; rfl) (by decide) ?_
      exact lc_27 hC hX hbl hbA hi1 ew1 hi2 ew2 hi3 ew3 tail op_step M H locs ls hI hR hS hl
    by_cases hs28 : sw = (28 : Int32)
    · refine lv_tableIn (pc := 32) (tgt := 1100) (off := 1068) hx hb xd_law_32 (by rw [hs28]; decide) (by rw [hs28]; decide) (by rw [hs28]; rfl) (by decide) ?_
      exact lc_28 hC hX hbl hbA hi1 ew1 hi2 ew2 hi3 ew3 tail op_rising M H locs ls hI hR hS hl
    by_cases hs29 : sw = (29 : Int32)
    · refine lv_tableIn (pc := 32) (tgt := 1123) (off := 1091) hx hb xd_law_32 (by rw [hs29]; decide) (by rw [hs29]; decide) (by rw [hs29]; rfl) (by decide) ?_
      exact lc_29 hC hX hbl hbA hi1 ew1 hi2 ew2 hi3 ew3 tail op_group M H locs ls hI hR hS hl
    by_cases hs30 : sw = (30 : Int32)
    · refine lv_tableIn (pc := 32) (tgt := 1166) (off := 1134) hx hb xd_law_32 (by rw [hs30]; decide) (by rw [hs30]; decide) (by rw [hs30]; rfl) (by decide) ?_
      exact lc_30 hC hX hbl hbA hi1 ew1 hi2 ew2 hi3 ew3 tail op_image M H locs ls hI hR hS hl
    by_cases hs31 : sw = (31 : Int32)
    · refine lv_tableIn (pc := 32) (tgt := 1189) (off := 1157) hx hb xd_law_32 (by rw [hs31]; decide) (by rw [hs31]; decide) (by rw [hs31]; rfl) (by decide) ?_
      exact lc_31 hC hX hbl hbA hi1 ew1 hi2 ew2 hi3 ew3 tail op_back M H locs ls hI hR hS hl
    by_cases hs32 : sw = (32 : Int32)
    · refine lv_tableIn (pc := 32) (tgt := 1212) (off := 1180) hx hb xd_law_32 (by rw [hs32]; decide) (by rw [hs32]; decide) (by rw [hs32]; rfl) (by decide) ?_
      exact lc_32 hC hX hbl hbA hi1 ew1 hi2 ew2 hi3 ew3 tail op_count M H locs ls hI hR hS hl
    by_cases hs33 : sw = (33 : Int32)
    · refine lv_tableIn (pc := 32) (tgt := 1235) (off := 1203) hx hb xd_law_32 (by rw [hs33]; decide) (by rw [hs33]; decide) (by rw [hs33]; rfl) (by decide) ?_
      exact lc_33 hC hX hbl hbA hi1 ew1 hi2 ew2 hi3 ew3 tail op_status M H locs ls hI hR hS hl
    refine lv_tableOut (pc := 32) (tgt := 1248) hx hb xd_law_32 (xsw34 hs0 hs1 hs2 hs3 hs4 hs5 hs6 hs7 hs8 hs9 hs10 hs11 hs12 hs13 hs14 hs15 hs16 hs17 hs18 hs19 hs20 hs21 hs22 hs23 hs24 hs25 hs26 hs27 hs28 hs29 hs30 hs31 hs32 hs33) (by decide) ?_
    exact tail M H locs ls hI hR hS hl
