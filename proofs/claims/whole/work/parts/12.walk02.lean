/-! ColoursApart$Chooser.choose(LColoursApart$Kept;I)I -/
theorem xd_Ch_choose_0 : decode b_Ch_choose 0 = .ok (.aload_n 0, 1) := by decide +kernel
theorem xd_Ch_choose_1 : decode b_Ch_choose 1 = .ok (.iload_n 2, 1) := by decide +kernel
theorem xd_Ch_choose_2 : decode b_Ch_choose 2 = .ok (.putfield 32, 3) := by decide +kernel
theorem xd_Ch_choose_5 : decode b_Ch_choose 5 = .ok (.aload_n 0, 1) := by decide +kernel
theorem xd_Ch_choose_6 : decode b_Ch_choose 6 = .ok (.aload_n 1, 1) := by decide +kernel
theorem xd_Ch_choose_7 : decode b_Ch_choose 7 = .ok (.getfield 42, 3) := by decide +kernel
theorem xd_Ch_choose_10 : decode b_Ch_choose 10 = .ok (.invokevirtual 48, 3) := by decide +kernel
theorem xd_Ch_choose_13 : decode b_Ch_choose 13 = .ok (.putfield 36, 3) := by decide +kernel
theorem xd_Ch_choose_16 : decode b_Ch_choose 16 = .ok (.aload_n 0, 1) := by decide +kernel
theorem xd_Ch_choose_17 : decode b_Ch_choose 17 = .ok (.iconst (-1), 1) := by decide +kernel
theorem xd_Ch_choose_18 : decode b_Ch_choose 18 = .ok (.putfield 39, 3) := by decide +kernel
theorem xd_Ch_choose_21 : decode b_Ch_choose 21 = .ok (.aload_n 0, 1) := by decide +kernel
theorem xd_Ch_choose_22 : decode b_Ch_choose 22 = .ok (.aload_n 1, 1) := by decide +kernel
theorem xd_Ch_choose_23 : decode b_Ch_choose 23 = .ok (.invokevirtual 51, 3) := by decide +kernel
theorem xd_Ch_choose_26 : decode b_Ch_choose 26 = .ok (.aload_n 0, 1) := by decide +kernel
theorem xd_Ch_choose_27 : decode b_Ch_choose 27 = .ok (.aload_n 1, 1) := by decide +kernel
theorem xd_Ch_choose_28 : decode b_Ch_choose 28 = .ok (.invokevirtual 55, 3) := by decide +kernel
theorem xd_Ch_choose_31 : decode b_Ch_choose 31 = .ok (.aload_n 0, 1) := by decide +kernel
theorem xd_Ch_choose_32 : decode b_Ch_choose 32 = .ok (.aload_n 1, 1) := by decide +kernel
theorem xd_Ch_choose_33 : decode b_Ch_choose 33 = .ok (.getfield 58, 3) := by decide +kernel
theorem xd_Ch_choose_36 : decode b_Ch_choose 36 = .ok (.invokevirtual 62, 3) := by decide +kernel
theorem xd_Ch_choose_39 : decode b_Ch_choose 39 = .ok (.aload_n 0, 1) := by decide +kernel
theorem xd_Ch_choose_40 : decode b_Ch_choose 40 = .ok (.iconst 0, 1) := by decide +kernel
theorem xd_Ch_choose_41 : decode b_Ch_choose 41 = .ok (.iconst 0, 1) := by decide +kernel
theorem xd_Ch_choose_42 : decode b_Ch_choose 42 = .ok (.ldc 66, 2) := by decide +kernel
theorem xd_Ch_choose_44 : decode b_Ch_choose 44 = .ok (.invokestatic 67, 3) := by decide +kernel
theorem xd_Ch_choose_47 : decode b_Ch_choose 47 = .ok (.aload_n 0, 1) := by decide +kernel
theorem xd_Ch_choose_48 : decode b_Ch_choose 48 = .ok (.getfield 39, 3) := by decide +kernel
theorem xd_Ch_choose_51 : decode b_Ch_choose 51 = .ok (.ireturn, 1) := by decide +kernel
abbrev rm_Ch_choose : Room := { frames := 11, cells := 0, slots := 0, locals := 326 }
def xw_Ch_choose (g1 : Nat) (a2 : Int32) (M : xM) (post : Int32 → xM → Prop) : Prop :=
  xw_Gr_places g1 (us M 8 4 6 a2) (fun (r2 : Int32) (M1 : xM) => xw_Ch_lookAtPlaces g1 (us (us M1 8 4 7 r2) 8 4 8 (-1 : Int32)) (fun (M3 : xM) => xw_Ch_measureFromFixed g1 M3 (fun (M4 : xM) => xw_Ch_measureBetween g1 M4 (fun (M5 : xM) => xw_Ch_extend 6 (0 : Int32) (0 : Int32) (2000000 : Int32) M5 (fun (M6 : xM) => post (M6 8 4 8) M6)))))
set_option maxHeartbeats 4000000 in
set_option maxRecDepth 100000 in
theorem xc_Ch_choose (l : Launch) (G : xG) {g1 : Nat} {a2 : Int32} (hg1 : g1 < 4) {M : xM} {post : Int32 → xM → Prop} (h : xw_Ch_choose g1 a2 M post) : Met l y_Ch_choose (Cond.code y_Ch_choose b_Ch_choose 3 (some .int) :: xTG) rm_Ch_choose (xPre G M [.ref (G.1 8 4), .ref (G.1 g1 0), .int a2]) (xPi G post) 0 0 (xA G) := by
  refine xMet (own := R_Ch) [.ref (G.1 8 4), .ref (G.1 g1 0), .int a2] (Or.inl (by decide)) rfl (Nat.le_of_ble_eq_true rfl) (fun p e s m args below meth c ls hC hr hlk hR hS hl => ?_)
  have hx := hC.1
  have hb := hC.2.1
  have hl : lv_has ls 3 [(0, .ref (G.1 8 4)), (1, .ref (G.1 g1 0)), (2, .int a2)] := hl
  obtain ⟨H, eH⟩ : ∃ H : Heap, H = s.heap := ⟨_, rfl⟩
  obtain ⟨locs, eL⟩ : ∃ locs : List Loc, locs = [] := ⟨_, rfl⟩
  rw [← eH] at hR
  replace hS : va_S (xA G) s.heap H locs := by rw [eH, eL]; exact hS
  suffices hh : W p l e rm_Ch_choose s m args below meth c H locs 0 0 (MQ below (xPi G post) args s 0 0 (xA G)) (F0 m 0 ls []) from by rw [eH, eL] at hh; exact hh
  unfold xw_Ch_choose at h
  refine lv_aload_n (pc := 0) hx hb xd_Ch_choose_0 rfl (lv_at hl 0 rfl) ?_
  refine lv_iload_n (pc := 1) hx hb xd_Ch_choose_1 rfl (lv_at hl 2 rfl) ?_
  refine xr_put (pc := 2) hC hR hS xo_C4 xf_Ch_32 xp_0_6 rfl rfl rfl xd_Ch_choose_2 (fun H locs hR hS => ?_)
  refine lv_aload_n (pc := 5) hx hb xd_Ch_choose_5 rfl (lv_at hl 0 rfl) ?_
  refine lv_aload_n (pc := 6) hx hb xd_Ch_choose_6 rfl (lv_at hl 1 rfl) ?_
  refine xr_get (pc := 7) (v := .ref (G.1 g1 12)) hC hR (xo_K0 hg1) xf_Ch_42 rfl xd_Ch_choose_7 ?_
  refine xr_callV (pc := 10) (As := []) (rest := [.ref (G.1 8 4)]) hC hR hS (xc_Gr_places l G hg1 h) (xo_K12 hg1) xv_Ch_48 ⟨rfl, rfl, Nat.le_of_ble_eq_true rfl, Nat.le_of_ble_eq_true rfl⟩ rfl hl.1 rfl (Nat.le_of_ble_eq_true rfl) xd_Ch_choose_10 (fun r2 M1 H locs h hR hS => ?_)
  refine xr_put (pc := 13) hC hR hS xo_C4 xf_Ch_36 xp_0_7 rfl rfl rfl xd_Ch_choose_13 (fun H locs hR hS => ?_)
  refine lv_aload_n (pc := 16) hx hb xd_Ch_choose_16 rfl (lv_at hl 0 rfl) ?_
  refine lv_iconst (pc := 17) (v := (-1 : Int32)) hx hb xd_Ch_choose_17 (by decide) ?_
  refine xr_put (pc := 18) hC hR hS xo_C4 xf_Ch_39 xp_0_8 rfl rfl rfl xd_Ch_choose_18 (fun H locs hR hS => ?_)
  refine lv_aload_n (pc := 21) hx hb xd_Ch_choose_21 rfl (lv_at hl 0 rfl) ?_
  refine lv_aload_n (pc := 22) hx hb xd_Ch_choose_22 rfl (lv_at hl 1 rfl) ?_
  refine xr_callVv (pc := 23) (As := [.ref (G.1 g1 0)]) (rest := []) hC hR hS (xc_Ch_lookAtPlaces l G hg1 h) xo_C4 xv_Ch_51 ⟨rfl, rfl, Nat.le_of_ble_eq_true rfl, Nat.le_of_ble_eq_true rfl⟩ rfl hl.1 rfl (Nat.le_of_ble_eq_true rfl) xd_Ch_choose_23 (fun M3 H locs h hR hS => ?_)
  refine lv_aload_n (pc := 26) hx hb xd_Ch_choose_26 rfl (lv_at hl 0 rfl) ?_
  refine lv_aload_n (pc := 27) hx hb xd_Ch_choose_27 rfl (lv_at hl 1 rfl) ?_
  refine xr_callVv (pc := 28) (As := [.ref (G.1 g1 0)]) (rest := []) hC hR hS (xc_Ch_measureFromFixed l G hg1 h) xo_C4 xv_Ch_55 ⟨rfl, rfl, Nat.le_of_ble_eq_true rfl, Nat.le_of_ble_eq_true rfl⟩ rfl hl.1 rfl (Nat.le_of_ble_eq_true rfl) xd_Ch_choose_28 (fun M4 H locs h hR hS => ?_)
  refine lv_aload_n (pc := 31) hx hb xd_Ch_choose_31 rfl (lv_at hl 0 rfl) ?_
  refine lv_aload_n (pc := 32) hx hb xd_Ch_choose_32 rfl (lv_at hl 1 rfl) ?_
  refine xr_get (pc := 33) (v := .ref (G.1 g1 1)) hC hR (xo_K0 hg1) xf_Ch_58 rfl xd_Ch_choose_33 ?_
  refine xr_callVv (pc := 36) (As := [.ref (G.1 g1 1)]) (rest := []) hC hR hS (xc_Ch_measureBetween l G hg1 h) xo_C4 xv_Ch_62 ⟨rfl, rfl, Nat.le_of_ble_eq_true rfl, Nat.le_of_ble_eq_true rfl⟩ rfl hl.1 rfl (Nat.le_of_ble_eq_true rfl) xd_Ch_choose_36 (fun M5 H locs h hR hS => ?_)
  refine lv_aload_n (pc := 39) hx hb xd_Ch_choose_39 rfl (lv_at hl 0 rfl) ?_
  refine lv_iconst (pc := 40) (v := (0 : Int32)) hx hb xd_Ch_choose_40 (by decide) ?_
  refine lv_iconst (pc := 41) (v := (0 : Int32)) hx hb xd_Ch_choose_41 (by decide) ?_
  refine lv_ldc (pc := 42) (v := (2000000 : Int32)) hx hb hC.2.2.2.1 (hC.2.2.2.2.1 _ xk_Ch_66) xd_Ch_choose_42 ?_
  refine xr_callSv (pc := 44) (As := [.ref (G.1 8 4), .int (0 : Int32), .int (0 : Int32), .int (2000000 : Int32)]) (rest := []) hC hR hS (xc_Ch_extend l G 6 _ _ _ _ _ h) xv_Ch_67 ⟨rfl, rfl, Nat.le_of_ble_eq_true rfl, Nat.le_of_ble_eq_true rfl⟩ rfl hl.1 rfl (Nat.le_of_ble_eq_true rfl) xd_Ch_choose_44 (fun M6 H locs h hR hS => ?_)
  refine lv_aload_n (pc := 47) hx hb xd_Ch_choose_47 rfl (lv_at hl 0 rfl) ?_
  refine xr_get (pc := 48) (v := .int (M6 8 4 8)) hC hR xo_C4 xf_Ch_39 rfl xd_Ch_choose_48 ?_
  exact xr_iret hC hr hlk hR hS h xd_Ch_choose_51

/-! ColoursApart$Eyes.isWeight(I)Z -/
theorem xd_Ey_isWeight_0 : decode b_Ey_isWeight 0 = .ok (.iload_n 0, 1) := by decide +kernel
theorem xd_Ey_isWeight_1 : decode b_Ey_isWeight 1 = .ok (.ifCond .lt 13, 3) := by decide +kernel
theorem xd_Ey_isWeight_4 : decode b_Ey_isWeight 4 = .ok (.iload_n 0, 1) := by decide +kernel
theorem xd_Ey_isWeight_5 : decode b_Ey_isWeight 5 = .ok (.bipush 10, 2) := by decide +kernel
theorem xd_Ey_isWeight_7 : decode b_Ey_isWeight 7 = .ok (.if_icmp .gt 7, 3) := by decide +kernel
theorem xd_Ey_isWeight_10 : decode b_Ey_isWeight 10 = .ok (.iconst 1, 1) := by decide +kernel
theorem xd_Ey_isWeight_11 : decode b_Ey_isWeight 11 = .ok (.goto 4, 3) := by decide +kernel
theorem xd_Ey_isWeight_14 : decode b_Ey_isWeight 14 = .ok (.iconst 0, 1) := by decide +kernel
theorem xd_Ey_isWeight_15 : decode b_Ey_isWeight 15 = .ok (.ireturn, 1) := by decide +kernel
abbrev rm_Ey_isWeight : Room := { frames := 0, cells := 0, slots := 0, locals := 0 }
def xw_Ey_isWeight (a0 : Int32) (M : xM) (post : Int32 → xM → Prop) : Prop :=
  ((a0 < 0) → (post (0 : Int32) M)) ∧ ((¬ a0 < 0) → ((((10 : Int32) < a0) → (post (0 : Int32) M)) ∧ ((¬ (10 : Int32) < a0) → (post (1 : Int32) M))))
set_option maxHeartbeats 4000000 in
set_option maxRecDepth 100000 in
theorem xc_Ey_isWeight (l : Launch) (G : xG) {a0 : Int32}  {M : xM} {post : Int32 → xM → Prop} (h : xw_Ey_isWeight a0 M post) : Met l y_Ey_isWeight (Cond.code y_Ey_isWeight b_Ey_isWeight 1 (some .boolean) :: xTG) rm_Ey_isWeight (xPre G M [.int a0]) (xPi G post) 0 0 (xA G) := by
  refine xMet (own := R_Ey) [.int a0] (Or.inl (by decide)) rfl (Nat.le_of_ble_eq_true rfl) (fun p e s m args below meth c ls hC hr hlk hR hS hl => ?_)
  have hx := hC.1
  have hb := hC.2.1
  have hl : lv_has ls 1 [(0, .int a0)] := hl
  obtain ⟨H, eH⟩ : ∃ H : Heap, H = s.heap := ⟨_, rfl⟩
  obtain ⟨locs, eL⟩ : ∃ locs : List Loc, locs = [] := ⟨_, rfl⟩
  rw [← eH] at hR
  replace hS : va_S (xA G) s.heap H locs := by rw [eH, eL]; exact hS
  suffices hh : W p l e rm_Ey_isWeight s m args below meth c H locs 0 0 (MQ below (xPi G post) args s 0 0 (xA G)) (F0 m 0 ls []) from by rw [eH, eL] at hh; exact hh
  unfold xw_Ey_isWeight at h
  refine lv_iload_n (pc := 0) hx hb xd_Ey_isWeight_0 rfl (lv_at hl 0 rfl) ?_
  refine lv_if_lt (pc := 1) (tgt := 14) hx hb xd_Ey_isWeight_1 (by decide) (fun hq => ?_) (fun hq => ?_)
  · have h := h.1 hq
    refine lv_iconst (pc := 14) (v := (0 : Int32)) hx hb xd_Ey_isWeight_14 (by decide) ?_
    exact xr_zret hC hr hlk hR hS (by decide) h xd_Ey_isWeight_15
  · have h := h.2 hq
    refine lv_iload_n (pc := 4) hx hb xd_Ey_isWeight_4 rfl (lv_at hl 0 rfl) ?_
    refine lv_bipush (pc := 5) (v := (10 : Int32)) hx hb xd_Ey_isWeight_5 (by decide) ?_
    refine lv_icmp_gt (pc := 7) (tgt := 14) hx hb xd_Ey_isWeight_7 (by decide) (fun hq => ?_) (fun hq => ?_)
    · have h := h.1 hq
      refine lv_iconst (pc := 14) (v := (0 : Int32)) hx hb xd_Ey_isWeight_14 (by decide) ?_
      exact xr_zret hC hr hlk hR hS (by decide) h xd_Ey_isWeight_15
    · have h := h.2 hq
      refine lv_iconst (pc := 10) (v := (1 : Int32)) hx hb xd_Ey_isWeight_10 (by decide) ?_
      refine lv_goto (pc := 11) (tgt := 15) hx hb xd_Ey_isWeight_11 (by decide) ?_
      exact xr_zret hC hr hlk hR hS (by decide) h xd_Ey_isWeight_15

/-! ColoursApart$Sheet.has(I)Z -/
theorem xd_Sh_has_0 : decode b_Sh_has 0 = .ok (.iload_n 1, 1) := by decide +kernel
theorem xd_Sh_has_1 : decode b_Sh_has 1 = .ok (.ifCond .lt 15, 3) := by decide +kernel
theorem xd_Sh_has_4 : decode b_Sh_has 4 = .ok (.iload_n 1, 1) := by decide +kernel
theorem xd_Sh_has_5 : decode b_Sh_has 5 = .ok (.aload_n 0, 1) := by decide +kernel
theorem xd_Sh_has_6 : decode b_Sh_has 6 = .ok (.getfield 19, 3) := by decide +kernel
theorem xd_Sh_has_9 : decode b_Sh_has 9 = .ok (.if_icmp .ge 7, 3) := by decide +kernel
theorem xd_Sh_has_12 : decode b_Sh_has 12 = .ok (.iconst 1, 1) := by decide +kernel
theorem xd_Sh_has_13 : decode b_Sh_has 13 = .ok (.goto 4, 3) := by decide +kernel
theorem xd_Sh_has_16 : decode b_Sh_has 16 = .ok (.iconst 0, 1) := by decide +kernel
theorem xd_Sh_has_17 : decode b_Sh_has 17 = .ok (.ireturn, 1) := by decide +kernel
abbrev rm_Sh_has : Room := { frames := 0, cells := 0, slots := 0, locals := 0 }
def xw_Sh_has (g : Nat) (a1 : Int32) (M : xM) (post : Int32 → xM → Prop) : Prop :=
  ((a1 < 0) → (post (0 : Int32) M)) ∧ ((¬ a1 < 0) → ((((M g 0 2) ≤ a1) → (post (0 : Int32) M)) ∧ ((¬ (M g 0 2) ≤ a1) → (post (1 : Int32) M))))
set_option maxHeartbeats 4000000 in
set_option maxRecDepth 100000 in
theorem xc_Sh_has (l : Launch) (G : xG) {g : Nat} {a1 : Int32} (hg : 4 ≤ g ∧ g < 8) {M : xM} {post : Int32 → xM → Prop} (h : xw_Sh_has g a1 M post) : Met l y_Sh_has (Cond.code y_Sh_has b_Sh_has 2 (some .boolean) :: xTG) rm_Sh_has (xPre G M [.ref (G.1 g 0), .int a1]) (xPi G post) 0 0 (xA G) := by
  refine xMet (own := R_Sh) [.ref (G.1 g 0), .int a1] (Or.inl (by decide)) rfl (Nat.le_of_ble_eq_true rfl) (fun p e s m args below meth c ls hC hr hlk hR hS hl => ?_)
  have hx := hC.1
  have hb := hC.2.1
  have hl : lv_has ls 2 [(0, .ref (G.1 g 0)), (1, .int a1)] := hl
  obtain ⟨H, eH⟩ : ∃ H : Heap, H = s.heap := ⟨_, rfl⟩
  obtain ⟨locs, eL⟩ : ∃ locs : List Loc, locs = [] := ⟨_, rfl⟩
  rw [← eH] at hR
  replace hS : va_S (xA G) s.heap H locs := by rw [eH, eL]; exact hS
  suffices hh : W p l e rm_Sh_has s m args below meth c H locs 0 0 (MQ below (xPi G post) args s 0 0 (xA G)) (F0 m 0 ls []) from by rw [eH, eL] at hh; exact hh
  unfold xw_Sh_has at h
  refine lv_iload_n (pc := 0) hx hb xd_Sh_has_0 rfl (lv_at hl 1 rfl) ?_
  refine lv_if_lt (pc := 1) (tgt := 16) hx hb xd_Sh_has_1 (by decide) (fun hq => ?_) (fun hq => ?_)
  · have h := h.1 hq
    refine lv_iconst (pc := 16) (v := (0 : Int32)) hx hb xd_Sh_has_16 (by decide) ?_
    exact xr_zret hC hr hlk hR hS (by decide) h xd_Sh_has_17
  · have h := h.2 hq
    refine lv_iload_n (pc := 4) hx hb xd_Sh_has_4 rfl (lv_at hl 1 rfl) ?_
    refine lv_aload_n (pc := 5) hx hb xd_Sh_has_5 rfl (lv_at hl 0 rfl) ?_
    refine xr_get (pc := 6) (v := .int (M g 0 2)) hC hR (xo_S0 hg) xf_Sh_19 rfl xd_Sh_has_6 ?_
    refine lv_icmp_ge (pc := 9) (tgt := 16) hx hb xd_Sh_has_9 (by decide) (fun hq => ?_) (fun hq => ?_)
    · have h := h.1 hq
      refine lv_iconst (pc := 16) (v := (0 : Int32)) hx hb xd_Sh_has_16 (by decide) ?_
      exact xr_zret hC hr hlk hR hS (by decide) h xd_Sh_has_17
    · have h := h.2 hq
      refine lv_iconst (pc := 12) (v := (1 : Int32)) hx hb xd_Sh_has_12 (by decide) ?_
      refine lv_goto (pc := 13) (tgt := 17) hx hb xd_Sh_has_13 (by decide) ?_
      exact xr_zret hC hr hlk hR hS (by decide) h xd_Sh_has_17

/-! ColoursApart$Sheet.numberOrZero(I)I -/
theorem xd_Sh_numberOrZero_0 : decode b_Sh_numberOrZero 0 = .ok (.aload_n 0, 1) := by decide +kernel
theorem xd_Sh_numberOrZero_1 : decode b_Sh_numberOrZero 1 = .ok (.iload_n 1, 1) := by decide +kernel
theorem xd_Sh_numberOrZero_2 : decode b_Sh_numberOrZero 2 = .ok (.invokevirtual 22, 3) := by decide +kernel
theorem xd_Sh_numberOrZero_5 : decode b_Sh_numberOrZero 5 = .ok (.ifCond .eq 12, 3) := by decide +kernel
theorem xd_Sh_numberOrZero_8 : decode b_Sh_numberOrZero 8 = .ok (.aload_n 0, 1) := by decide +kernel
theorem xd_Sh_numberOrZero_9 : decode b_Sh_numberOrZero 9 = .ok (.getfield 11, 3) := by decide +kernel
theorem xd_Sh_numberOrZero_12 : decode b_Sh_numberOrZero 12 = .ok (.iload_n 1, 1) := by decide +kernel
theorem xd_Sh_numberOrZero_13 : decode b_Sh_numberOrZero 13 = .ok (.iaload, 1) := by decide +kernel
theorem xd_Sh_numberOrZero_14 : decode b_Sh_numberOrZero 14 = .ok (.goto 4, 3) := by decide +kernel
theorem xd_Sh_numberOrZero_17 : decode b_Sh_numberOrZero 17 = .ok (.iconst 0, 1) := by decide +kernel
theorem xd_Sh_numberOrZero_18 : decode b_Sh_numberOrZero 18 = .ok (.ireturn, 1) := by decide +kernel
abbrev rm_Sh_numberOrZero : Room := { frames := 1, cells := 0, slots := 0, locals := 21 }
def xw_Sh_numberOrZero (g : Nat) (a1 : Int32) (M : xM) (post : Int32 → xM → Prop) : Prop :=
  xw_Sh_has g a1 M (fun (r2 : Int32) (M1 : xM) => ((r2 = 0) → (post (0 : Int32) M1)) ∧ ((¬ r2 = 0) → ((vp_in a1 60) ∧ (post (M1 g 1 a1.toNatClampNeg) M1))))
set_option maxHeartbeats 4000000 in
set_option maxRecDepth 100000 in
theorem xc_Sh_numberOrZero (l : Launch) (G : xG) {g : Nat} {a1 : Int32} (hg : 4 ≤ g ∧ g < 8) {M : xM} {post : Int32 → xM → Prop} (h : xw_Sh_numberOrZero g a1 M post) : Met l y_Sh_numberOrZero (Cond.code y_Sh_numberOrZero b_Sh_numberOrZero 2 (some .int) :: xTG) rm_Sh_numberOrZero (xPre G M [.ref (G.1 g 0), .int a1]) (xPi G post) 0 0 (xA G) := by
  refine xMet (own := R_Sh) [.ref (G.1 g 0), .int a1] (Or.inl (by decide)) rfl (Nat.le_of_ble_eq_true rfl) (fun p e s m args below meth c ls hC hr hlk hR hS hl => ?_)
  have hx := hC.1
  have hb := hC.2.1
  have hl : lv_has ls 2 [(0, .ref (G.1 g 0)), (1, .int a1)] := hl
  obtain ⟨H, eH⟩ : ∃ H : Heap, H = s.heap := ⟨_, rfl⟩
  obtain ⟨locs, eL⟩ : ∃ locs : List Loc, locs = [] := ⟨_, rfl⟩
  rw [← eH] at hR
  replace hS : va_S (xA G) s.heap H locs := by rw [eH, eL]; exact hS
  suffices hh : W p l e rm_Sh_numberOrZero s m args below meth c H locs 0 0 (MQ below (xPi G post) args s 0 0 (xA G)) (F0 m 0 ls []) from by rw [eH, eL] at hh; exact hh
  unfold xw_Sh_numberOrZero at h
  refine lv_aload_n (pc := 0) hx hb xd_Sh_numberOrZero_0 rfl (lv_at hl 0 rfl) ?_
  refine lv_iload_n (pc := 1) hx hb xd_Sh_numberOrZero_1 rfl (lv_at hl 1 rfl) ?_
  refine xr_callV (pc := 2) (As := [.int a1]) (rest := []) hC hR hS (xc_Sh_has l G hg h) (xo_S0 hg) xv_Sh_22 ⟨rfl, rfl, Nat.le_of_ble_eq_true rfl, Nat.le_of_ble_eq_true rfl⟩ rfl hl.1 rfl (Nat.le_of_ble_eq_true rfl) xd_Sh_numberOrZero_2 (fun r2 M1 H locs h hR hS => ?_)
  refine lv_if_eq (pc := 5) (tgt := 17) hx hb xd_Sh_numberOrZero_5 (by decide) (fun hq => ?_) (fun hq => ?_)
  · have h := h.1 hq
    refine lv_iconst (pc := 17) (v := (0 : Int32)) hx hb xd_Sh_numberOrZero_17 (by decide) ?_
    exact xr_iret hC hr hlk hR hS h xd_Sh_numberOrZero_18
  · have h := h.2 hq
    refine lv_aload_n (pc := 8) hx hb xd_Sh_numberOrZero_8 rfl (lv_at hl 0 rfl) ?_
    refine xr_get (pc := 9) (v := .ref (G.1 g 1)) hC hR (xo_S0 hg) xf_Sh_11 rfl xd_Sh_numberOrZero_9 ?_
    refine lv_iload_n (pc := 12) hx hb xd_Sh_numberOrZero_12 rfl (lv_at hl 1 rfl) ?_
    obtain ⟨hq, h⟩ := h
    refine xr_iald (pc := 13) hC hR (xo_S1 hg) hq xd_Sh_numberOrZero_13 ?_
    refine lv_goto (pc := 14) (tgt := 18) hx hb xd_Sh_numberOrZero_14 (by decide) ?_
    exact xr_iret hC hr hlk hR hS h xd_Sh_numberOrZero_18

/-! ColoursApart$Eyes.areWeakNumbers(LColoursApart$Sheet;I)Z -/
theorem xd_Ey_areWeakNumbers_0 : decode b_Ey_areWeakNumbers 0 = .ok (.iconst 0, 1) := by decide +kernel
theorem xd_Ey_areWeakNumbers_1 : decode b_Ey_areWeakNumbers 1 = .ok (.istore_n 2, 1) := by decide +kernel
theorem xd_Ey_areWeakNumbers_2 : decode b_Ey_areWeakNumbers 2 = .ok (.iload_n 2, 1) := by decide +kernel
theorem xd_Ey_areWeakNumbers_3 : decode b_Ey_areWeakNumbers 3 = .ok (.bipush 9, 2) := by decide +kernel
theorem xd_Ey_areWeakNumbers_5 : decode b_Ey_areWeakNumbers 5 = .ok (.if_icmp .ge 33, 3) := by decide +kernel
theorem xd_Ey_areWeakNumbers_8 : decode b_Ey_areWeakNumbers 8 = .ok (.aload_n 0, 1) := by decide +kernel
theorem xd_Ey_areWeakNumbers_9 : decode b_Ey_areWeakNumbers 9 = .ok (.iload_n 1, 1) := by decide +kernel
theorem xd_Ey_areWeakNumbers_10 : decode b_Ey_areWeakNumbers 10 = .ok (.iload_n 2, 1) := by decide +kernel
theorem xd_Ey_areWeakNumbers_11 : decode b_Ey_areWeakNumbers 11 = .ok (.iadd, 1) := by decide +kernel
theorem xd_Ey_areWeakNumbers_12 : decode b_Ey_areWeakNumbers 12 = .ok (.invokevirtual 31, 3) := by decide +kernel
theorem xd_Ey_areWeakNumbers_15 : decode b_Ey_areWeakNumbers 15 = .ok (.istore_n 3, 1) := by decide +kernel
theorem xd_Ey_areWeakNumbers_16 : decode b_Ey_areWeakNumbers 16 = .ok (.iload_n 3, 1) := by decide +kernel
theorem xd_Ey_areWeakNumbers_17 : decode b_Ey_areWeakNumbers 17 = .ok (.sipush (-3000), 3) := by decide +kernel
theorem xd_Ey_areWeakNumbers_20 : decode b_Ey_areWeakNumbers 20 = .ok (.if_icmp .lt 10, 3) := by decide +kernel
theorem xd_Ey_areWeakNumbers_23 : decode b_Ey_areWeakNumbers 23 = .ok (.iload_n 3, 1) := by decide +kernel
theorem xd_Ey_areWeakNumbers_24 : decode b_Ey_areWeakNumbers 24 = .ok (.sipush 3000, 3) := by decide +kernel
theorem xd_Ey_areWeakNumbers_27 : decode b_Ey_areWeakNumbers 27 = .ok (.if_icmp .le 5, 3) := by decide +kernel
theorem xd_Ey_areWeakNumbers_30 : decode b_Ey_areWeakNumbers 30 = .ok (.iconst 0, 1) := by decide +kernel
theorem xd_Ey_areWeakNumbers_31 : decode b_Ey_areWeakNumbers 31 = .ok (.ireturn, 1) := by decide +kernel
theorem xd_Ey_areWeakNumbers_32 : decode b_Ey_areWeakNumbers 32 = .ok (.iinc 2 1, 3) := by decide +kernel
theorem xd_Ey_areWeakNumbers_35 : decode b_Ey_areWeakNumbers 35 = .ok (.goto (-33), 3) := by decide +kernel
theorem xd_Ey_areWeakNumbers_38 : decode b_Ey_areWeakNumbers 38 = .ok (.iconst 1, 1) := by decide +kernel
theorem xd_Ey_areWeakNumbers_39 : decode b_Ey_areWeakNumbers 39 = .ok (.ireturn, 1) := by decide +kernel
abbrev rm_Ey_areWeakNumbers : Room := { frames := 2, cells := 0, slots := 0, locals := 42 }
def xw_Ey_areWeakNumbers_2 (g0 : Nat) (x1 : Int32) (post : Int32 → xM → Prop) (k38 : Int32 → xM → Prop) : Nat → Int32 → xM → Prop
  | 0, _, _ => False
  | n2 + 1, x2, M => (((9 : Int32) ≤ x2) → (k38 x2 M)) ∧ ((¬ (9 : Int32) ≤ x2) → (xw_Sh_numberOrZero g0 (x1 + x2) M (fun (r2 : Int32) (M1 : xM) => ((r2 < (-3000 : Int32)) → (post (0 : Int32) M1)) ∧ ((¬ r2 < (-3000 : Int32)) → (((r2 ≤ (3000 : Int32)) → (xw_Ey_areWeakNumbers_2 g0 x1 post k38 n2 (x2 + (1 : Int32)) M1)) ∧ ((¬ r2 ≤ (3000 : Int32)) → (post (0 : Int32) M1)))))))
def xw_Ey_areWeakNumbers (g0 : Nat) (a1 : Int32) (M : xM) (post : Int32 → xM → Prop) : Prop :=
  ∃ n2 : Nat, xw_Ey_areWeakNumbers_2 g0 a1 post (fun (y3 : Int32) (M4 : xM) => post (1 : Int32) M4) n2 (0 : Int32) M
set_option maxHeartbeats 4000000 in
set_option maxRecDepth 100000 in
theorem xt_Ey_areWeakNumbers_2 {p : Program} {l : Launch} {e : Env} {s : State} {m : MethodId} {args : Array Value} {below : List Frame} {meth : Method} {c : Code} {G : xG} (hC : xC p s m args c b_Ey_areWeakNumbers R_Ey 4 G) (hr : meth.sig.returnType = (some .boolean)) (hlk : meth.locks = false) {g0 : Nat} (hg0 : 4 ≤ g0 ∧ g0 < 8) {x1 : Int32} {post : Int32 → xM → Prop} {k38 : Int32 → xM → Prop} (hk38 : ∀ (x2 : Int32) (M : xM) (H : Heap) (locs : List Loc) (ls : Array Slot), k38 x2 M → xRp G M H → va_S (xA G) s.heap H locs → lv_has ls 4 [(0, .ref (G.1 g0 0)), (1, .int x1), (2, .int x2)] → W p l e rm_Ey_areWeakNumbers s m args below meth c H locs 0 0 (MQ below (xPi G post) args s 0 0 (xA G)) (F0 m 38 ls [])) : ∀ (n : Nat) (x2 : Int32) (M : xM) (H : Heap) (locs : List Loc) (ls : Array Slot), xw_Ey_areWeakNumbers_2 g0 x1 post k38 n x2 M → xRp G M H → va_S (xA G) s.heap H locs → lv_has ls 4 [(0, .ref (G.1 g0 0)), (1, .int x1), (2, .int x2)] → W p l e rm_Ey_areWeakNumbers s m args below meth c H locs 0 0 (MQ below (xPi G post) args s 0 0 (xA G)) (F0 m 2 ls []) := by
  have hx := hC.1
  have hb := hC.2.1
  intro n
  induction n with
  | zero => intro x2 M H locs ls; exact fun h => h.elim
  | succ n ih =>
    intro x2 M H locs ls h hR hS hl
    refine lv_iload_n (pc := 2) hx hb xd_Ey_areWeakNumbers_2 rfl (lv_at hl 2 rfl) ?_
    refine lv_bipush (pc := 3) (v := (9 : Int32)) hx hb xd_Ey_areWeakNumbers_3 (by decide) ?_
    refine lv_icmp_ge (pc := 5) (tgt := 38) hx hb xd_Ey_areWeakNumbers_5 (by decide) (fun hq => ?_) (fun hq => ?_)
    · have h := h.1 hq
      exact hk38 x2 M H locs ls h hR hS (lv_sub hl [0, 1, 2] rfl)
    · have h := h.2 hq
      refine lv_aload_n (pc := 8) hx hb xd_Ey_areWeakNumbers_8 rfl (lv_at hl 0 rfl) ?_
      refine lv_iload_n (pc := 9) hx hb xd_Ey_areWeakNumbers_9 rfl (lv_at hl 1 rfl) ?_
      refine lv_iload_n (pc := 10) hx hb xd_Ey_areWeakNumbers_10 rfl (lv_at hl 2 rfl) ?_
      refine lv_iadd (pc := 11) hx hb xd_Ey_areWeakNumbers_11 ?_
      refine xr_callV (pc := 12) (As := [.int (x1 + x2)]) (rest := []) hC hR hS (xc_Sh_numberOrZero l G hg0 h) (xo_S0 hg0) xv_Ey_31 ⟨rfl, rfl, Nat.le_of_ble_eq_true rfl, Nat.le_of_ble_eq_true rfl⟩ rfl hl.1 rfl (Nat.le_of_ble_eq_true rfl) xd_Ey_areWeakNumbers_12 (fun r2 M1 H locs h hR hS => ?_)
      refine lv_istore_n (pc := 15) (lv' := [(3, .int r2), (0, .ref (G.1 g0 0)), (1, .int x1), (2, .int x2)]) hx hb xd_Ey_areWeakNumbers_15 rfl hl (by decide) rfl (fun ls hl => ?_)
      refine lv_iload_n (pc := 16) hx hb xd_Ey_areWeakNumbers_16 rfl (lv_at hl 0 rfl) ?_
      refine lv_sipush (pc := 17) (v := (-3000 : Int32)) hx hb xd_Ey_areWeakNumbers_17 (by decide) ?_
      refine lv_icmp_lt (pc := 20) (tgt := 30) hx hb xd_Ey_areWeakNumbers_20 (by decide) (fun hq => ?_) (fun hq => ?_)
      · have h := h.1 hq
        refine lv_iconst (pc := 30) (v := (0 : Int32)) hx hb xd_Ey_areWeakNumbers_30 (by decide) ?_
        exact xr_zret hC hr hlk hR hS (by decide) h xd_Ey_areWeakNumbers_31
      · have h := h.2 hq
        refine lv_iload_n (pc := 23) hx hb xd_Ey_areWeakNumbers_23 rfl (lv_at hl 0 rfl) ?_
        refine lv_sipush (pc := 24) (v := (3000 : Int32)) hx hb xd_Ey_areWeakNumbers_24 (by decide) ?_
        refine lv_icmp_le (pc := 27) (tgt := 32) hx hb xd_Ey_areWeakNumbers_27 (by decide) (fun hq => ?_) (fun hq => ?_)
        · have h := h.1 hq
          refine lv_iinc (pc := 32) (v := (x2 + (1 : Int32))) (lv' := [(2, .int (x2 + (1 : Int32))), (3, .int r2), (0, .ref (G.1 g0 0)), (1, .int x1)]) hx hb xd_Ey_areWeakNumbers_32 hl (k := 3) rfl rfl (by decide) rfl (fun ls hl => ?_)
          refine lv_goto (pc := 35) (tgt := 2) hx hb xd_Ey_areWeakNumbers_35 (by decide) ?_
          exact ih (x2 + (1 : Int32)) M1 H locs ls h hR hS (lv_sub hl [2, 3, 0] rfl)
        · have h := h.2 hq
          refine lv_iconst (pc := 30) (v := (0 : Int32)) hx hb xd_Ey_areWeakNumbers_30 (by decide) ?_
          exact xr_zret hC hr hlk hR hS (by decide) h xd_Ey_areWeakNumbers_31
set_option maxHeartbeats 4000000 in
set_option maxRecDepth 100000 in
theorem xc_Ey_areWeakNumbers (l : Launch) (G : xG) {g0 : Nat} {a1 : Int32} (hg0 : 4 ≤ g0 ∧ g0 < 8) {M : xM} {post : Int32 → xM → Prop} (h : xw_Ey_areWeakNumbers g0 a1 M post) : Met l y_Ey_areWeakNumbers (Cond.code y_Ey_areWeakNumbers b_Ey_areWeakNumbers 4 (some .boolean) :: xTG) rm_Ey_areWeakNumbers (xPre G M [.ref (G.1 g0 0), .int a1]) (xPi G post) 0 0 (xA G) := by
  refine xMet (own := R_Ey) [.ref (G.1 g0 0), .int a1] (Or.inl (by decide)) rfl (Nat.le_of_ble_eq_true rfl) (fun p e s m args below meth c ls hC hr hlk hR hS hl => ?_)
  have hx := hC.1
  have hb := hC.2.1
  have hl : lv_has ls 4 [(0, .ref (G.1 g0 0)), (1, .int a1)] := hl
  obtain ⟨H, eH⟩ : ∃ H : Heap, H = s.heap := ⟨_, rfl⟩
  obtain ⟨locs, eL⟩ : ∃ locs : List Loc, locs = [] := ⟨_, rfl⟩
  rw [← eH] at hR
  replace hS : va_S (xA G) s.heap H locs := by rw [eH, eL]; exact hS
  suffices hh : W p l e rm_Ey_areWeakNumbers s m args below meth c H locs 0 0 (MQ below (xPi G post) args s 0 0 (xA G)) (F0 m 0 ls []) from by rw [eH, eL] at hh; exact hh
  unfold xw_Ey_areWeakNumbers at h
  refine lv_iconst (pc := 0) (v := (0 : Int32)) hx hb xd_Ey_areWeakNumbers_0 (by decide) ?_
  refine lv_istore_n (pc := 1) (lv' := [(2, .int (0 : Int32)), (0, .ref (G.1 g0 0)), (1, .int a1)]) hx hb xd_Ey_areWeakNumbers_1 rfl hl (by decide) rfl (fun ls hl => ?_)
  obtain ⟨n, h⟩ := h
  refine xt_Ey_areWeakNumbers_2 hC hr hlk hg0 (fun y3 M4 H locs ls h hR hS hl => ?_) n (0 : Int32) M H locs ls h hR hS (lv_sub hl [1, 2, 0] rfl)
  refine lv_iconst (pc := 38) (v := (1 : Int32)) hx hb xd_Ey_areWeakNumbers_38 (by decide) ?_
  exact xr_zret hC hr hlk hR hS (by decide) h xd_Ey_areWeakNumbers_39

/-! ColoursApart$Eyes.weaken(ILColoursApart$Sheet;I)V -/
theorem xd_Ey_weaken_0 : decode b_Ey_weaken 0 = .ok (.iconst 0, 1) := by decide +kernel
theorem xd_Ey_weaken_1 : decode b_Ey_weaken 1 = .ok (.istore 4, 2) := by decide +kernel
theorem xd_Ey_weaken_3 : decode b_Ey_weaken 3 = .ok (.iload 4, 2) := by decide +kernel
theorem xd_Ey_weaken_5 : decode b_Ey_weaken 5 = .ok (.bipush 9, 2) := by decide +kernel
theorem xd_Ey_weaken_7 : decode b_Ey_weaken 7 = .ok (.if_icmp .ge 31, 3) := by decide +kernel
theorem xd_Ey_weaken_10 : decode b_Ey_weaken 10 = .ok (.aload_n 0, 1) := by decide +kernel
theorem xd_Ey_weaken_11 : decode b_Ey_weaken 11 = .ok (.getfield 11, 3) := by decide +kernel
theorem xd_Ey_weaken_14 : decode b_Ey_weaken 14 = .ok (.iload_n 1, 1) := by decide +kernel
theorem xd_Ey_weaken_15 : decode b_Ey_weaken 15 = .ok (.iconst 1, 1) := by decide +kernel
theorem xd_Ey_weaken_16 : decode b_Ey_weaken 16 = .ok (.isub, 1) := by decide +kernel
theorem xd_Ey_weaken_17 : decode b_Ey_weaken 17 = .ok (.bipush 9, 2) := by decide +kernel
theorem xd_Ey_weaken_19 : decode b_Ey_weaken 19 = .ok (.imul, 1) := by decide +kernel
theorem xd_Ey_weaken_20 : decode b_Ey_weaken 20 = .ok (.iload 4, 2) := by decide +kernel
theorem xd_Ey_weaken_22 : decode b_Ey_weaken 22 = .ok (.iadd, 1) := by decide +kernel
theorem xd_Ey_weaken_23 : decode b_Ey_weaken 23 = .ok (.aload_n 2, 1) := by decide +kernel
theorem xd_Ey_weaken_24 : decode b_Ey_weaken 24 = .ok (.iload_n 3, 1) := by decide +kernel
theorem xd_Ey_weaken_25 : decode b_Ey_weaken 25 = .ok (.iload 4, 2) := by decide +kernel
theorem xd_Ey_weaken_27 : decode b_Ey_weaken 27 = .ok (.iadd, 1) := by decide +kernel
theorem xd_Ey_weaken_28 : decode b_Ey_weaken 28 = .ok (.invokevirtual 31, 3) := by decide +kernel
theorem xd_Ey_weaken_31 : decode b_Ey_weaken 31 = .ok (.iastore, 1) := by decide +kernel
theorem xd_Ey_weaken_32 : decode b_Ey_weaken 32 = .ok (.iinc 4 1, 3) := by decide +kernel
theorem xd_Ey_weaken_35 : decode b_Ey_weaken 35 = .ok (.goto (-32), 3) := by decide +kernel
theorem xd_Ey_weaken_38 : decode b_Ey_weaken 38 = .ok (.return_, 1) := by decide +kernel
abbrev rm_Ey_weaken : Room := { frames := 2, cells := 0, slots := 0, locals := 42 }
def xw_Ey_weaken_3 (g : Nat) (g2 : Nat) (x1 : Int32) (x3 : Int32) (post : xM → Prop) (k38 : Int32 → xM → Prop) : Nat → Int32 → xM → Prop
  | 0, _, _ => False
  | n3 + 1, x4, M => (((9 : Int32) ≤ x4) → (k38 x4 M)) ∧ ((¬ (9 : Int32) ≤ x4) → (xw_Sh_numberOrZero g2 (x3 + x4) M (fun (r2 : Int32) (M1 : xM) => (vp_in (((x1 - (1 : Int32)) * (9 : Int32)) + x4) 27) ∧ (xw_Ey_weaken_3 g g2 x1 x3 post k38 n3 (x4 + (1 : Int32)) (us M1 g 2 (((x1 - (1 : Int32)) * (9 : Int32)) + x4).toNatClampNeg r2)))))
def xw_Ey_weaken (g : Nat) (a1 : Int32) (g2 : Nat) (a3 : Int32) (M : xM) (post : xM → Prop) : Prop :=
  ∃ n3 : Nat, xw_Ey_weaken_3 g g2 a1 a3 post (fun (y3 : Int32) (M4 : xM) => post M4) n3 (0 : Int32) M
set_option maxHeartbeats 4000000 in
set_option maxRecDepth 100000 in
theorem xt_Ey_weaken_3 {p : Program} {l : Launch} {e : Env} {s : State} {m : MethodId} {args : Array Value} {below : List Frame} {meth : Method} {c : Code} {G : xG} (hC : xC p s m args c b_Ey_weaken R_Ey 5 G) (hr : meth.sig.returnType = none) (hlk : meth.locks = false) {g : Nat} {g2 : Nat} (hg : g < 4) (hg2 : 4 ≤ g2 ∧ g2 < 8) {x1 : Int32} {x3 : Int32} {post : xM → Prop} {k38 : Int32 → xM → Prop} (hk38 : ∀ (x4 : Int32) (M : xM) (H : Heap) (locs : List Loc) (ls : Array Slot), k38 x4 M → xRp G M H → va_S (xA G) s.heap H locs → lv_has ls 5 [(0, .ref (G.1 g 1)), (1, .int x1), (2, .ref (G.1 g2 0)), (3, .int x3), (4, .int x4)] → W p l e rm_Ey_weaken s m args below meth c H locs 0 0 (MQ below (xPv G post) args s 0 0 (xA G)) (F0 m 38 ls [])) : ∀ (n : Nat) (x4 : Int32) (M : xM) (H : Heap) (locs : List Loc) (ls : Array Slot), xw_Ey_weaken_3 g g2 x1 x3 post k38 n x4 M → xRp G M H → va_S (xA G) s.heap H locs → lv_has ls 5 [(0, .ref (G.1 g 1)), (1, .int x1), (2, .ref (G.1 g2 0)), (3, .int x3), (4, .int x4)] → W p l e rm_Ey_weaken s m args below meth c H locs 0 0 (MQ below (xPv G post) args s 0 0 (xA G)) (F0 m 3 ls []) := by
  have hx := hC.1
  have hb := hC.2.1
  intro n
  induction n with
  | zero => intro x4 M H locs ls; exact fun h => h.elim
  | succ n ih =>
    intro x4 M H locs ls h hR hS hl
    refine lv_iload (pc := 3) hx hb xd_Ey_weaken_3 (lv_at hl 4 rfl) ?_
    refine lv_bipush (pc := 5) (v := (9 : Int32)) hx hb xd_Ey_weaken_5 (by decide) ?_
    refine lv_icmp_ge (pc := 7) (tgt := 38) hx hb xd_Ey_weaken_7 (by decide) (fun hq => ?_) (fun hq => ?_)
    · have h := h.1 hq
      exact hk38 x4 M H locs ls h hR hS (lv_sub hl [0, 1, 2, 3, 4] rfl)
    · have h := h.2 hq
      refine lv_aload_n (pc := 10) hx hb xd_Ey_weaken_10 rfl (lv_at hl 0 rfl) ?_
      refine xr_get (pc := 11) (v := .ref (G.1 g 2)) hC hR (xo_K1 hg) xf_Ey_11 rfl xd_Ey_weaken_11 ?_
      refine lv_iload_n (pc := 14) hx hb xd_Ey_weaken_14 rfl (lv_at hl 1 rfl) ?_
      refine lv_iconst (pc := 15) (v := (1 : Int32)) hx hb xd_Ey_weaken_15 (by decide) ?_
      refine lv_isub (pc := 16) hx hb xd_Ey_weaken_16 ?_
      refine lv_bipush (pc := 17) (v := (9 : Int32)) hx hb xd_Ey_weaken_17 (by decide) ?_
      refine lv_imul (pc := 19) hx hb xd_Ey_weaken_19 ?_
      refine lv_iload (pc := 20) hx hb xd_Ey_weaken_20 (lv_at hl 4 rfl) ?_
      refine lv_iadd (pc := 22) hx hb xd_Ey_weaken_22 ?_
      refine lv_aload_n (pc := 23) hx hb xd_Ey_weaken_23 rfl (lv_at hl 2 rfl) ?_
      refine lv_iload_n (pc := 24) hx hb xd_Ey_weaken_24 rfl (lv_at hl 3 rfl) ?_
      refine lv_iload (pc := 25) hx hb xd_Ey_weaken_25 (lv_at hl 4 rfl) ?_
      refine lv_iadd (pc := 27) hx hb xd_Ey_weaken_27 ?_
      refine xr_callV (pc := 28) (As := [.int (x3 + x4)]) (rest := [.int (((x1 - (1 : Int32)) * (9 : Int32)) + x4), .ref (G.1 g 2)]) hC hR hS (xc_Sh_numberOrZero l G hg2 h) (xo_S0 hg2) xv_Ey_31 ⟨rfl, rfl, Nat.le_of_ble_eq_true rfl, Nat.le_of_ble_eq_true rfl⟩ rfl hl.1 rfl (Nat.le_of_ble_eq_true rfl) xd_Ey_weaken_28 (fun r2 M1 H locs h hR hS => ?_)
      obtain ⟨hq, h⟩ := h
      refine xr_iast (pc := 31) hC hR hS (xo_K2 hg) hq xd_Ey_weaken_31 (fun H locs hR hS => ?_)
      refine lv_iinc (pc := 32) (v := (x4 + (1 : Int32))) (lv' := [(4, .int (x4 + (1 : Int32))), (0, .ref (G.1 g 1)), (1, .int x1), (2, .ref (G.1 g2 0)), (3, .int x3)]) hx hb xd_Ey_weaken_32 hl (k := 4) rfl rfl (by decide) rfl (fun ls hl => ?_)
      refine lv_goto (pc := 35) (tgt := 3) hx hb xd_Ey_weaken_35 (by decide) ?_
      exact ih (x4 + (1 : Int32)) (us M1 g 2 (((x1 - (1 : Int32)) * (9 : Int32)) + x4).toNatClampNeg r2) H locs ls h hR hS (lv_sub hl [1, 2, 3, 4, 0] rfl)
set_option maxHeartbeats 4000000 in
set_option maxRecDepth 100000 in
theorem xc_Ey_weaken (l : Launch) (G : xG) {g : Nat} {g2 : Nat} {a1 : Int32} {a3 : Int32} (hg : g < 4) (hg2 : 4 ≤ g2 ∧ g2 < 8) {M : xM} {post : xM → Prop} (h : xw_Ey_weaken g a1 g2 a3 M post) : Met l y_Ey_weaken (Cond.code y_Ey_weaken b_Ey_weaken 5 none :: xTG) rm_Ey_weaken (xPre G M [.ref (G.1 g 1), .int a1, .ref (G.1 g2 0), .int a3]) (xPv G post) 0 0 (xA G) := by
  refine xMet (own := R_Ey) [.ref (G.1 g 1), .int a1, .ref (G.1 g2 0), .int a3] (Or.inl (by decide)) rfl (Nat.le_of_ble_eq_true rfl) (fun p e s m args below meth c ls hC hr hlk hR hS hl => ?_)
  have hx := hC.1
  have hb := hC.2.1
  have hl : lv_has ls 5 [(0, .ref (G.1 g 1)), (1, .int a1), (2, .ref (G.1 g2 0)), (3, .int a3)] := hl
  obtain ⟨H, eH⟩ : ∃ H : Heap, H = s.heap := ⟨_, rfl⟩
  obtain ⟨locs, eL⟩ : ∃ locs : List Loc, locs = [] := ⟨_, rfl⟩
  rw [← eH] at hR
  replace hS : va_S (xA G) s.heap H locs := by rw [eH, eL]; exact hS
  suffices hh : W p l e rm_Ey_weaken s m args below meth c H locs 0 0 (MQ below (xPv G post) args s 0 0 (xA G)) (F0 m 0 ls []) from by rw [eH, eL] at hh; exact hh
  unfold xw_Ey_weaken at h
  refine lv_iconst (pc := 0) (v := (0 : Int32)) hx hb xd_Ey_weaken_0 (by decide) ?_
  refine lv_istore (pc := 1) (lv' := [(4, .int (0 : Int32)), (0, .ref (G.1 g 1)), (1, .int a1), (2, .ref (G.1 g2 0)), (3, .int a3)]) hx hb xd_Ey_weaken_1 hl (by decide) rfl (fun ls hl => ?_)
  obtain ⟨n, h⟩ := h
  refine xt_Ey_weaken_3 hC hr hlk hg hg2 (fun y3 M4 H locs ls h hR hS hl => ?_) n (0 : Int32) M H locs ls h hR hS (lv_sub hl [1, 2, 3, 4, 0] rfl)
  exact xr_vret hC hr hlk hR hS h xd_Ey_weaken_38

/-! ColoursApart$Eyes.copyFrom(LColoursApart$Eyes;)V -/
theorem xd_Ey_copyFrom_0 : decode b_Ey_copyFrom 0 = .ok (.aload_n 1, 1) := by decide +kernel
theorem xd_Ey_copyFrom_1 : decode b_Ey_copyFrom 1 = .ok (.getfield 11, 3) := by decide +kernel
theorem xd_Ey_copyFrom_4 : decode b_Ey_copyFrom 4 = .ok (.iconst 0, 1) := by decide +kernel
theorem xd_Ey_copyFrom_5 : decode b_Ey_copyFrom 5 = .ok (.aload_n 0, 1) := by decide +kernel
theorem xd_Ey_copyFrom_6 : decode b_Ey_copyFrom 6 = .ok (.getfield 11, 3) := by decide +kernel
theorem xd_Ey_copyFrom_9 : decode b_Ey_copyFrom 9 = .ok (.iconst 0, 1) := by decide +kernel
theorem xd_Ey_copyFrom_10 : decode b_Ey_copyFrom 10 = .ok (.aload_n 0, 1) := by decide +kernel
theorem xd_Ey_copyFrom_11 : decode b_Ey_copyFrom 11 = .ok (.getfield 11, 3) := by decide +kernel
theorem xd_Ey_copyFrom_14 : decode b_Ey_copyFrom 14 = .ok (.arraylength, 1) := by decide +kernel
theorem xd_Ey_copyFrom_15 : decode b_Ey_copyFrom 15 = .ok (.invokestatic 37, 3) := by decide +kernel
theorem xd_Ey_copyFrom_18 : decode b_Ey_copyFrom 18 = .ok (.aload_n 0, 1) := by decide +kernel
theorem xd_Ey_copyFrom_19 : decode b_Ey_copyFrom 19 = .ok (.aload_n 1, 1) := by decide +kernel
theorem xd_Ey_copyFrom_20 : decode b_Ey_copyFrom 20 = .ok (.getfield 15, 3) := by decide +kernel
theorem xd_Ey_copyFrom_23 : decode b_Ey_copyFrom 23 = .ok (.putfield 15, 3) := by decide +kernel
theorem xd_Ey_copyFrom_26 : decode b_Ey_copyFrom 26 = .ok (.aload_n 0, 1) := by decide +kernel
theorem xd_Ey_copyFrom_27 : decode b_Ey_copyFrom 27 = .ok (.aload_n 1, 1) := by decide +kernel
theorem xd_Ey_copyFrom_28 : decode b_Ey_copyFrom 28 = .ok (.getfield 19, 3) := by decide +kernel
theorem xd_Ey_copyFrom_31 : decode b_Ey_copyFrom 31 = .ok (.putfield 19, 3) := by decide +kernel
theorem xd_Ey_copyFrom_34 : decode b_Ey_copyFrom 34 = .ok (.aload_n 0, 1) := by decide +kernel
theorem xd_Ey_copyFrom_35 : decode b_Ey_copyFrom 35 = .ok (.aload_n 1, 1) := by decide +kernel
theorem xd_Ey_copyFrom_36 : decode b_Ey_copyFrom 36 = .ok (.getfield 22, 3) := by decide +kernel
theorem xd_Ey_copyFrom_39 : decode b_Ey_copyFrom 39 = .ok (.putfield 22, 3) := by decide +kernel
theorem xd_Ey_copyFrom_42 : decode b_Ey_copyFrom 42 = .ok (.aload_n 0, 1) := by decide +kernel
theorem xd_Ey_copyFrom_43 : decode b_Ey_copyFrom 43 = .ok (.aload_n 1, 1) := by decide +kernel
theorem xd_Ey_copyFrom_44 : decode b_Ey_copyFrom 44 = .ok (.getfield 25, 3) := by decide +kernel
theorem xd_Ey_copyFrom_47 : decode b_Ey_copyFrom 47 = .ok (.putfield 25, 3) := by decide +kernel
theorem xd_Ey_copyFrom_50 : decode b_Ey_copyFrom 50 = .ok (.aload_n 0, 1) := by decide +kernel
theorem xd_Ey_copyFrom_51 : decode b_Ey_copyFrom 51 = .ok (.aload_n 1, 1) := by decide +kernel
theorem xd_Ey_copyFrom_52 : decode b_Ey_copyFrom 52 = .ok (.getfield 28, 3) := by decide +kernel
theorem xd_Ey_copyFrom_55 : decode b_Ey_copyFrom 55 = .ok (.putfield 28, 3) := by decide +kernel
theorem xd_Ey_copyFrom_58 : decode b_Ey_copyFrom 58 = .ok (.return_, 1) := by decide +kernel
abbrev rm_Ey_copyFrom : Room := { frames := 1, cells := 0, slots := 0, locals := 30 }
def xw_Ey_copyFrom (g : Nat) (g1 : Nat) (M : xM) (post : xM → Prop) : Prop :=
  (¬ (g1 = g ∧ 2 = 2)) ∧ (¬ (0 : Int32) < 0 ∧ ¬ (0 : Int32) < 0 ∧ ¬ (27 : Int32) < 0 ∧ (0 : Int32).toNatClampNeg + (27 : Int32).toNatClampNeg ≤ 27 ∧ (0 : Int32).toNatClampNeg + (27 : Int32).toNatClampNeg ≤ 27) ∧ (post (us (us (us (us (us (uc M g 2 (va_cpy (M g1 2) (M g 2) (0 : Int32).toNatClampNeg (0 : Int32).toNatClampNeg (27 : Int32).toNatClampNeg)) g 1 1 ((uc M g 2 (va_cpy (M g1 2) (M g 2) (0 : Int32).toNatClampNeg (0 : Int32).toNatClampNeg (27 : Int32).toNatClampNeg)) g1 1 1)) g 1 2 ((us (uc M g 2 (va_cpy (M g1 2) (M g 2) (0 : Int32).toNatClampNeg (0 : Int32).toNatClampNeg (27 : Int32).toNatClampNeg)) g 1 1 ((uc M g 2 (va_cpy (M g1 2) (M g 2) (0 : Int32).toNatClampNeg (0 : Int32).toNatClampNeg (27 : Int32).toNatClampNeg)) g1 1 1)) g1 1 2)) g 1 3 ((us (us (uc M g 2 (va_cpy (M g1 2) (M g 2) (0 : Int32).toNatClampNeg (0 : Int32).toNatClampNeg (27 : Int32).toNatClampNeg)) g 1 1 ((uc M g 2 (va_cpy (M g1 2) (M g 2) (0 : Int32).toNatClampNeg (0 : Int32).toNatClampNeg (27 : Int32).toNatClampNeg)) g1 1 1)) g 1 2 ((us (uc M g 2 (va_cpy (M g1 2) (M g 2) (0 : Int32).toNatClampNeg (0 : Int32).toNatClampNeg (27 : Int32).toNatClampNeg)) g 1 1 ((uc M g 2 (va_cpy (M g1 2) (M g 2) (0 : Int32).toNatClampNeg (0 : Int32).toNatClampNeg (27 : Int32).toNatClampNeg)) g1 1 1)) g1 1 2)) g1 1 3)) g 1 4 ((us (us (us (uc M g 2 (va_cpy (M g1 2) (M g 2) (0 : Int32).toNatClampNeg (0 : Int32).toNatClampNeg (27 : Int32).toNatClampNeg)) g 1 1 ((uc M g 2 (va_cpy (M g1 2) (M g 2) (0 : Int32).toNatClampNeg (0 : Int32).toNatClampNeg (27 : Int32).toNatClampNeg)) g1 1 1)) g 1 2 ((us (uc M g 2 (va_cpy (M g1 2) (M g 2) (0 : Int32).toNatClampNeg (0 : Int32).toNatClampNeg (27 : Int32).toNatClampNeg)) g 1 1 ((uc M g 2 (va_cpy (M g1 2) (M g 2) (0 : Int32).toNatClampNeg (0 : Int32).toNatClampNeg (27 : Int32).toNatClampNeg)) g1 1 1)) g1 1 2)) g 1 3 ((us (us (uc M g 2 (va_cpy (M g1 2) (M g 2) (0 : Int32).toNatClampNeg (0 : Int32).toNatClampNeg (27 : Int32).toNatClampNeg)) g 1 1 ((uc M g 2 (va_cpy (M g1 2) (M g 2) (0 : Int32).toNatClampNeg (0 : Int32).toNatClampNeg (27 : Int32).toNatClampNeg)) g1 1 1)) g 1 2 ((us (uc M g 2 (va_cpy (M g1 2) (M g 2) (0 : Int32).toNatClampNeg (0 : Int32).toNatClampNeg (27 : Int32).toNatClampNeg)) g 1 1 ((uc M g 2 (va_cpy (M g1 2) (M g 2) (0 : Int32).toNatClampNeg (0 : Int32).toNatClampNeg (27 : Int32).toNatClampNeg)) g1 1 1)) g1 1 2)) g1 1 3)) g1 1 4)) g 1 5 ((us (us (us (us (uc M g 2 (va_cpy (M g1 2) (M g 2) (0 : Int32).toNatClampNeg (0 : Int32).toNatClampNeg (27 : Int32).toNatClampNeg)) g 1 1 ((uc M g 2 (va_cpy (M g1 2) (M g 2) (0 : Int32).toNatClampNeg (0 : Int32).toNatClampNeg (27 : Int32).toNatClampNeg)) g1 1 1)) g 1 2 ((us (uc M g 2 (va_cpy (M g1 2) (M g 2) (0 : Int32).toNatClampNeg (0 : Int32).toNatClampNeg (27 : Int32).toNatClampNeg)) g 1 1 ((uc M g 2 (va_cpy (M g1 2) (M g 2) (0 : Int32).toNatClampNeg (0 : Int32).toNatClampNeg (27 : Int32).toNatClampNeg)) g1 1 1)) g1 1 2)) g 1 3 ((us (us (uc M g 2 (va_cpy (M g1 2) (M g 2) (0 : Int32).toNatClampNeg (0 : Int32).toNatClampNeg (27 : Int32).toNatClampNeg)) g 1 1 ((uc M g 2 (va_cpy (M g1 2) (M g 2) (0 : Int32).toNatClampNeg (0 : Int32).toNatClampNeg (27 : Int32).toNatClampNeg)) g1 1 1)) g 1 2 ((us (uc M g 2 (va_cpy (M g1 2) (M g 2) (0 : Int32).toNatClampNeg (0 : Int32).toNatClampNeg (27 : Int32).toNatClampNeg)) g 1 1 ((uc M g 2 (va_cpy (M g1 2) (M g 2) (0 : Int32).toNatClampNeg (0 : Int32).toNatClampNeg (27 : Int32).toNatClampNeg)) g1 1 1)) g1 1 2)) g1 1 3)) g 1 4 ((us (us (us (uc M g 2 (va_cpy (M g1 2) (M g 2) (0 : Int32).toNatClampNeg (0 : Int32).toNatClampNeg (27 : Int32).toNatClampNeg)) g 1 1 ((uc M g 2 (va_cpy (M g1 2) (M g 2) (0 : Int32).toNatClampNeg (0 : Int32).toNatClampNeg (27 : Int32).toNatClampNeg)) g1 1 1)) g 1 2 ((us (uc M g 2 (va_cpy (M g1 2) (M g 2) (0 : Int32).toNatClampNeg (0 : Int32).toNatClampNeg (27 : Int32).toNatClampNeg)) g 1 1 ((uc M g 2 (va_cpy (M g1 2) (M g 2) (0 : Int32).toNatClampNeg (0 : Int32).toNatClampNeg (27 : Int32).toNatClampNeg)) g1 1 1)) g1 1 2)) g 1 3 ((us (us (uc M g 2 (va_cpy (M g1 2) (M g 2) (0 : Int32).toNatClampNeg (0 : Int32).toNatClampNeg (27 : Int32).toNatClampNeg)) g 1 1 ((uc M g 2 (va_cpy (M g1 2) (M g 2) (0 : Int32).toNatClampNeg (0 : Int32).toNatClampNeg (27 : Int32).toNatClampNeg)) g1 1 1)) g 1 2 ((us (uc M g 2 (va_cpy (M g1 2) (M g 2) (0 : Int32).toNatClampNeg (0 : Int32).toNatClampNeg (27 : Int32).toNatClampNeg)) g 1 1 ((uc M g 2 (va_cpy (M g1 2) (M g 2) (0 : Int32).toNatClampNeg (0 : Int32).toNatClampNeg (27 : Int32).toNatClampNeg)) g1 1 1)) g1 1 2)) g1 1 3)) g1 1 4)) g1 1 5)))
set_option maxHeartbeats 4000000 in
set_option maxRecDepth 100000 in
theorem xc_Ey_copyFrom (l : Launch) (G : xG) {g : Nat} {g1 : Nat} (hg : g < 4) (hg1 : g1 < 4) {M : xM} {post : xM → Prop} (h : xw_Ey_copyFrom g g1 M post) : Met l y_Ey_copyFrom (Cond.code y_Ey_copyFrom b_Ey_copyFrom 2 none :: xTG) rm_Ey_copyFrom (xPre G M [.ref (G.1 g 1), .ref (G.1 g1 1)]) (xPv G post) 0 0 (xA G) := by
  refine xMet (own := R_Ey) [.ref (G.1 g 1), .ref (G.1 g1 1)] (Or.inl (by decide)) rfl (Nat.le_of_ble_eq_true rfl) (fun p e s m args below meth c ls hC hr hlk hR hS hl => ?_)
  have hx := hC.1
  have hb := hC.2.1
  have hl : lv_has ls 2 [(0, .ref (G.1 g 1)), (1, .ref (G.1 g1 1))] := hl
  obtain ⟨H, eH⟩ : ∃ H : Heap, H = s.heap := ⟨_, rfl⟩
  obtain ⟨locs, eL⟩ : ∃ locs : List Loc, locs = [] := ⟨_, rfl⟩
  rw [← eH] at hR
  replace hS : va_S (xA G) s.heap H locs := by rw [eH, eL]; exact hS
  suffices hh : W p l e rm_Ey_copyFrom s m args below meth c H locs 0 0 (MQ below (xPv G post) args s 0 0 (xA G)) (F0 m 0 ls []) from by rw [eH, eL] at hh; exact hh
  unfold xw_Ey_copyFrom at h
  refine lv_aload_n (pc := 0) hx hb xd_Ey_copyFrom_0 rfl (lv_at hl 1 rfl) ?_
  refine xr_get (pc := 1) (v := .ref (G.1 g1 2)) hC hR (xo_K1 hg1) xf_Ey_11 rfl xd_Ey_copyFrom_1 ?_
  refine lv_iconst (pc := 4) (v := (0 : Int32)) hx hb xd_Ey_copyFrom_4 (by decide) ?_
  refine lv_aload_n (pc := 5) hx hb xd_Ey_copyFrom_5 rfl (lv_at hl 0 rfl) ?_
  refine xr_get (pc := 6) (v := .ref (G.1 g 2)) hC hR (xo_K1 hg) xf_Ey_11 rfl xd_Ey_copyFrom_6 ?_
  refine lv_iconst (pc := 9) (v := (0 : Int32)) hx hb xd_Ey_copyFrom_9 (by decide) ?_
  refine lv_aload_n (pc := 10) hx hb xd_Ey_copyFrom_10 rfl (lv_at hl 0 rfl) ?_
  refine xr_get (pc := 11) (v := .ref (G.1 g 2)) hC hR (xo_K1 hg) xf_Ey_11 rfl xd_Ey_copyFrom_11 ?_
  refine xr_alen (pc := 14) (v := (27 : Int32)) hC hR (xo_K2 hg) rfl xd_Ey_copyFrom_14 ?_
  obtain ⟨hq, hz, h⟩ := h
  refine xr_copy (pc := 15) hC hR hS xk_Ey_37 (xo_K2 hg1) (xo_K2 hg) (fun e9 => hq (hC.2.2.2.2.2.2.2.2.2.2 _ _ _ _ _ _ (xo_K2 hg1) (xo_K2 hg) e9)) hz.1 hz.2.1 hz.2.2.1 hz.2.2.2.1 hz.2.2.2.2 hl.1 (Nat.le_of_ble_eq_true rfl) (Nat.le_of_ble_eq_true rfl) xd_Ey_copyFrom_15 (fun H locs hR hS => ?_)
  refine lv_aload_n (pc := 18) hx hb xd_Ey_copyFrom_18 rfl (lv_at hl 0 rfl) ?_
  refine lv_aload_n (pc := 19) hx hb xd_Ey_copyFrom_19 rfl (lv_at hl 1 rfl) ?_
  refine xr_get (pc := 20) (v := .int ((uc M g 2 (va_cpy (M g1 2) (M g 2) (0 : Int32).toNatClampNeg (0 : Int32).toNatClampNeg (27 : Int32).toNatClampNeg)) g1 1 1)) hC hR (xo_K1 hg1) xf_Ey_15 rfl xd_Ey_copyFrom_20 ?_
  refine xr_put (pc := 23) hC hR hS (xo_K1 hg) xf_Ey_15 xp_1_1 rfl rfl rfl xd_Ey_copyFrom_23 (fun H locs hR hS => ?_)
  refine lv_aload_n (pc := 26) hx hb xd_Ey_copyFrom_26 rfl (lv_at hl 0 rfl) ?_
  refine lv_aload_n (pc := 27) hx hb xd_Ey_copyFrom_27 rfl (lv_at hl 1 rfl) ?_
  refine xr_get (pc := 28) (v := .int ((us (uc M g 2 (va_cpy (M g1 2) (M g 2) (0 : Int32).toNatClampNeg (0 : Int32).toNatClampNeg (27 : Int32).toNatClampNeg)) g 1 1 ((uc M g 2 (va_cpy (M g1 2) (M g 2) (0 : Int32).toNatClampNeg (0 : Int32).toNatClampNeg (27 : Int32).toNatClampNeg)) g1 1 1)) g1 1 2)) hC hR (xo_K1 hg1) xf_Ey_19 rfl xd_Ey_copyFrom_28 ?_
  refine xr_put (pc := 31) hC hR hS (xo_K1 hg) xf_Ey_19 xp_1_2 rfl rfl rfl xd_Ey_copyFrom_31 (fun H locs hR hS => ?_)
  refine lv_aload_n (pc := 34) hx hb xd_Ey_copyFrom_34 rfl (lv_at hl 0 rfl) ?_
  refine lv_aload_n (pc := 35) hx hb xd_Ey_copyFrom_35 rfl (lv_at hl 1 rfl) ?_
  refine xr_get (pc := 36) (v := .int ((us (us (uc M g 2 (va_cpy (M g1 2) (M g 2) (0 : Int32).toNatClampNeg (0 : Int32).toNatClampNeg (27 : Int32).toNatClampNeg)) g 1 1 ((uc M g 2 (va_cpy (M g1 2) (M g 2) (0 : Int32).toNatClampNeg (0 : Int32).toNatClampNeg (27 : Int32).toNatClampNeg)) g1 1 1)) g 1 2 ((us (uc M g 2 (va_cpy (M g1 2) (M g 2) (0 : Int32).toNatClampNeg (0 : Int32).toNatClampNeg (27 : Int32).toNatClampNeg)) g 1 1 ((uc M g 2 (va_cpy (M g1 2) (M g 2) (0 : Int32).toNatClampNeg (0 : Int32).toNatClampNeg (27 : Int32).toNatClampNeg)) g1 1 1)) g1 1 2)) g1 1 3)) hC hR (xo_K1 hg1) xf_Ey_22 rfl xd_Ey_copyFrom_36 ?_
  refine xr_put (pc := 39) hC hR hS (xo_K1 hg) xf_Ey_22 xp_1_3 rfl rfl rfl xd_Ey_copyFrom_39 (fun H locs hR hS => ?_)
  refine lv_aload_n (pc := 42) hx hb xd_Ey_copyFrom_42 rfl (lv_at hl 0 rfl) ?_
  refine lv_aload_n (pc := 43) hx hb xd_Ey_copyFrom_43 rfl (lv_at hl 1 rfl) ?_
  refine xr_get (pc := 44) (v := .int ((us (us (us (uc M g 2 (va_cpy (M g1 2) (M g 2) (0 : Int32).toNatClampNeg (0 : Int32).toNatClampNeg (27 : Int32).toNatClampNeg)) g 1 1 ((uc M g 2 (va_cpy (M g1 2) (M g 2) (0 : Int32).toNatClampNeg (0 : Int32).toNatClampNeg (27 : Int32).toNatClampNeg)) g1 1 1)) g 1 2 ((us (uc M g 2 (va_cpy (M g1 2) (M g 2) (0 : Int32).toNatClampNeg (0 : Int32).toNatClampNeg (27 : Int32).toNatClampNeg)) g 1 1 ((uc M g 2 (va_cpy (M g1 2) (M g 2) (0 : Int32).toNatClampNeg (0 : Int32).toNatClampNeg (27 : Int32).toNatClampNeg)) g1 1 1)) g1 1 2)) g 1 3 ((us (us (uc M g 2 (va_cpy (M g1 2) (M g 2) (0 : Int32).toNatClampNeg (0 : Int32).toNatClampNeg (27 : Int32).toNatClampNeg)) g 1 1 ((uc M g 2 (va_cpy (M g1 2) (M g 2) (0 : Int32).toNatClampNeg (0 : Int32).toNatClampNeg (27 : Int32).toNatClampNeg)) g1 1 1)) g 1 2 ((us (uc M g 2 (va_cpy (M g1 2) (M g 2) (0 : Int32).toNatClampNeg (0 : Int32).toNatClampNeg (27 : Int32).toNatClampNeg)) g 1 1 ((uc M g 2 (va_cpy (M g1 2) (M g 2) (0 : Int32).toNatClampNeg (0 : Int32).toNatClampNeg (27 : Int32).toNatClampNeg)) g1 1 1)) g1 1 2)) g1 1 3)) g1 1 4)) hC hR (xo_K1 hg1) xf_Ey_25 rfl xd_Ey_copyFrom_44 ?_
  refine xr_put (pc := 47) hC hR hS (xo_K1 hg) xf_Ey_25 xp_1_4 rfl rfl rfl xd_Ey_copyFrom_47 (fun H locs hR hS => ?_)
  refine lv_aload_n (pc := 50) hx hb xd_Ey_copyFrom_50 rfl (lv_at hl 0 rfl) ?_
  refine lv_aload_n (pc := 51) hx hb xd_Ey_copyFrom_51 rfl (lv_at hl 1 rfl) ?_
  refine xr_get (pc := 52) (v := .int ((us (us (us (us (uc M g 2 (va_cpy (M g1 2) (M g 2) (0 : Int32).toNatClampNeg (0 : Int32).toNatClampNeg (27 : Int32).toNatClampNeg)) g 1 1 ((uc M g 2 (va_cpy (M g1 2) (M g 2) (0 : Int32).toNatClampNeg (0 : Int32).toNatClampNeg (27 : Int32).toNatClampNeg)) g1 1 1)) g 1 2 ((us (uc M g 2 (va_cpy (M g1 2) (M g 2) (0 : Int32).toNatClampNeg (0 : Int32).toNatClampNeg (27 : Int32).toNatClampNeg)) g 1 1 ((uc M g 2 (va_cpy (M g1 2) (M g 2) (0 : Int32).toNatClampNeg (0 : Int32).toNatClampNeg (27 : Int32).toNatClampNeg)) g1 1 1)) g1 1 2)) g 1 3 ((us (us (uc M g 2 (va_cpy (M g1 2) (M g 2) (0 : Int32).toNatClampNeg (0 : Int32).toNatClampNeg (27 : Int32).toNatClampNeg)) g 1 1 ((uc M g 2 (va_cpy (M g1 2) (M g 2) (0 : Int32).toNatClampNeg (0 : Int32).toNatClampNeg (27 : Int32).toNatClampNeg)) g1 1 1)) g 1 2 ((us (uc M g 2 (va_cpy (M g1 2) (M g 2) (0 : Int32).toNatClampNeg (0 : Int32).toNatClampNeg (27 : Int32).toNatClampNeg)) g 1 1 ((uc M g 2 (va_cpy (M g1 2) (M g 2) (0 : Int32).toNatClampNeg (0 : Int32).toNatClampNeg (27 : Int32).toNatClampNeg)) g1 1 1)) g1 1 2)) g1 1 3)) g 1 4 ((us (us (us (uc M g 2 (va_cpy (M g1 2) (M g 2) (0 : Int32).toNatClampNeg (0 : Int32).toNatClampNeg (27 : Int32).toNatClampNeg)) g 1 1 ((uc M g 2 (va_cpy (M g1 2) (M g 2) (0 : Int32).toNatClampNeg (0 : Int32).toNatClampNeg (27 : Int32).toNatClampNeg)) g1 1 1)) g 1 2 ((us (uc M g 2 (va_cpy (M g1 2) (M g 2) (0 : Int32).toNatClampNeg (0 : Int32).toNatClampNeg (27 : Int32).toNatClampNeg)) g 1 1 ((uc M g 2 (va_cpy (M g1 2) (M g 2) (0 : Int32).toNatClampNeg (0 : Int32).toNatClampNeg (27 : Int32).toNatClampNeg)) g1 1 1)) g1 1 2)) g 1 3 ((us (us (uc M g 2 (va_cpy (M g1 2) (M g 2) (0 : Int32).toNatClampNeg (0 : Int32).toNatClampNeg (27 : Int32).toNatClampNeg)) g 1 1 ((uc M g 2 (va_cpy (M g1 2) (M g 2) (0 : Int32).toNatClampNeg (0 : Int32).toNatClampNeg (27 : Int32).toNatClampNeg)) g1 1 1)) g 1 2 ((us (uc M g 2 (va_cpy (M g1 2) (M g 2) (0 : Int32).toNatClampNeg (0 : Int32).toNatClampNeg (27 : Int32).toNatClampNeg)) g 1 1 ((uc M g 2 (va_cpy (M g1 2) (M g 2) (0 : Int32).toNatClampNeg (0 : Int32).toNatClampNeg (27 : Int32).toNatClampNeg)) g1 1 1)) g1 1 2)) g1 1 3)) g1 1 4)) g1 1 5)) hC hR (xo_K1 hg1) xf_Ey_28 rfl xd_Ey_copyFrom_52 ?_
  refine xr_put (pc := 55) hC hR hS (xo_K1 hg) xf_Ey_28 xp_1_5 rfl rfl rfl xd_Ey_copyFrom_55 (fun H locs hR hS => ?_)
  exact xr_vret hC hr hlk hR hS h xd_Ey_copyFrom_58

/-! ColoursApart$Eyes.leastDistance(II)I -/
theorem xd_Ey_leastDistance_0 : decode b_Ey_leastDistance 0 = .ok (.ldc 79, 2) := by decide +kernel
theorem xd_Ey_leastDistance_2 : decode b_Ey_leastDistance 2 = .ok (.istore_n 3, 1) := by decide +kernel
theorem xd_Ey_leastDistance_3 : decode b_Ey_leastDistance 3 = .ok (.iconst 0, 1) := by decide +kernel
theorem xd_Ey_leastDistance_4 : decode b_Ey_leastDistance 4 = .ok (.istore 4, 2) := by decide +kernel
theorem xd_Ey_leastDistance_6 : decode b_Ey_leastDistance 6 = .ok (.iload 4, 2) := by decide +kernel
theorem xd_Ey_leastDistance_8 : decode b_Ey_leastDistance 8 = .ok (.bipush 6, 2) := by decide +kernel
theorem xd_Ey_leastDistance_10 : decode b_Ey_leastDistance 10 = .ok (.if_icmp .ge 41, 3) := by decide +kernel
theorem xd_Ey_leastDistance_13 : decode b_Ey_leastDistance 13 = .ok (.aload_n 0, 1) := by decide +kernel
theorem xd_Ey_leastDistance_14 : decode b_Ey_leastDistance 14 = .ok (.iload 4, 2) := by decide +kernel
theorem xd_Ey_leastDistance_16 : decode b_Ey_leastDistance 16 = .ok (.invokevirtual 80, 3) := by decide +kernel
theorem xd_Ey_leastDistance_19 : decode b_Ey_leastDistance 19 = .ok (.ifCond .eq 26, 3) := by decide +kernel
theorem xd_Ey_leastDistance_22 : decode b_Ey_leastDistance 22 = .ok (.iload_n 3, 1) := by decide +kernel
theorem xd_Ey_leastDistance_23 : decode b_Ey_leastDistance 23 = .ok (.aload_n 0, 1) := by decide +kernel
theorem xd_Ey_leastDistance_24 : decode b_Ey_leastDistance 24 = .ok (.aload_n 0, 1) := by decide +kernel
theorem xd_Ey_leastDistance_25 : decode b_Ey_leastDistance 25 = .ok (.iload 4, 2) := by decide +kernel
theorem xd_Ey_leastDistance_27 : decode b_Ey_leastDistance 27 = .ok (.iload_n 1, 1) := by decide +kernel
theorem xd_Ey_leastDistance_28 : decode b_Ey_leastDistance 28 = .ok (.invokevirtual 84, 3) := by decide +kernel
theorem xd_Ey_leastDistance_31 : decode b_Ey_leastDistance 31 = .ok (.aload_n 0, 1) := by decide +kernel
theorem xd_Ey_leastDistance_32 : decode b_Ey_leastDistance 32 = .ok (.iload 4, 2) := by decide +kernel
theorem xd_Ey_leastDistance_34 : decode b_Ey_leastDistance 34 = .ok (.iload_n 2, 1) := by decide +kernel
theorem xd_Ey_leastDistance_35 : decode b_Ey_leastDistance 35 = .ok (.invokevirtual 84, 3) := by decide +kernel
theorem xd_Ey_leastDistance_38 : decode b_Ey_leastDistance 38 = .ok (.invokevirtual 87, 3) := by decide +kernel
theorem xd_Ey_leastDistance_41 : decode b_Ey_leastDistance 41 = .ok (.invokestatic 73, 3) := by decide +kernel
theorem xd_Ey_leastDistance_44 : decode b_Ey_leastDistance 44 = .ok (.istore_n 3, 1) := by decide +kernel
theorem xd_Ey_leastDistance_45 : decode b_Ey_leastDistance 45 = .ok (.iinc 4 1, 3) := by decide +kernel
theorem xd_Ey_leastDistance_48 : decode b_Ey_leastDistance 48 = .ok (.goto (-42), 3) := by decide +kernel
theorem xd_Ey_leastDistance_51 : decode b_Ey_leastDistance 51 = .ok (.iload_n 3, 1) := by decide +kernel
theorem xd_Ey_leastDistance_52 : decode b_Ey_leastDistance 52 = .ok (.ireturn, 1) := by decide +kernel
abbrev rm_Ey_leastDistance : Room := { frames := 3, cells := 0, slots := 0, locals := 70 }
def xw_Ey_leastDistance_6 (g : Nat) (x1 : Int32) (x2 : Int32) (post : Int32 → xM → Prop) (k51 : Int32 → Int32 → xM → Prop) : Nat → Int32 → Int32 → xM → Prop
  | 0, _, _, _ => False
  | n6 + 1, x3, x4, M => (((6 : Int32) ≤ x4) → (k51 x3 x4 M)) ∧ ((¬ (6 : Int32) ≤ x4) → (xw_Ey_counts g x4 M (fun (r2 : Int32) (M1 : xM) => ((r2 = 0) → (xw_Ey_leastDistance_6 g x1 x2 post k51 n6 x3 (x4 + (1 : Int32)) M1)) ∧ ((¬ r2 = 0) → (xw_Ey_look g x4 x1 M1 (fun (r4 : Int32) (M3 : xM) => xw_Ey_look g x4 x2 M3 (fun (r6 : Int32) (M5 : xM) => xw_Ey_weighed g r4 r6 M5 (fun (r8 : Int32) (M7 : xM) => xw_Ey_leastDistance_6 g x1 x2 post k51 n6 (if r8 < x3 then r8 else x3) (x4 + (1 : Int32)) M7))))))))
def xw_Ey_leastDistance (g : Nat) (a1 : Int32) (a2 : Int32) (M : xM) (post : Int32 → xM → Prop) : Prop :=
  ∃ n6 : Nat, xw_Ey_leastDistance_6 g a1 a2 post (fun (y9 : Int32) (y10 : Int32) (M11 : xM) => post y9 M11) n6 (2000000 : Int32) (0 : Int32) M
set_option maxHeartbeats 4000000 in
set_option maxRecDepth 100000 in
theorem xt_Ey_leastDistance_6 {p : Program} {l : Launch} {e : Env} {s : State} {m : MethodId} {args : Array Value} {below : List Frame} {meth : Method} {c : Code} {G : xG} (hC : xC p s m args c b_Ey_leastDistance R_Ey 5 G) (hr : meth.sig.returnType = (some .int)) (hlk : meth.locks = false) {g : Nat} (hg : g < 4) {x1 : Int32} {x2 : Int32} {post : Int32 → xM → Prop} {k51 : Int32 → Int32 → xM → Prop} (hk51 : ∀ (x3 : Int32) (x4 : Int32) (M : xM) (H : Heap) (locs : List Loc) (ls : Array Slot), k51 x3 x4 M → xRp G M H → va_S (xA G) s.heap H locs → lv_has ls 5 [(0, .ref (G.1 g 1)), (1, .int x1), (2, .int x2), (3, .int x3), (4, .int x4)] → W p l e rm_Ey_leastDistance s m args below meth c H locs 0 0 (MQ below (xPi G post) args s 0 0 (xA G)) (F0 m 51 ls [])) : ∀ (n : Nat) (x3 : Int32) (x4 : Int32) (M : xM) (H : Heap) (locs : List Loc) (ls : Array Slot), xw_Ey_leastDistance_6 g x1 x2 post k51 n x3 x4 M → xRp G M H → va_S (xA G) s.heap H locs → lv_has ls 5 [(0, .ref (G.1 g 1)), (1, .int x1), (2, .int x2), (3, .int x3), (4, .int x4)] → W p l e rm_Ey_leastDistance s m args below meth c H locs 0 0 (MQ below (xPi G post) args s 0 0 (xA G)) (F0 m 6 ls []) := by
  have hx := hC.1
  have hb := hC.2.1
  intro n
  induction n with
  | zero => intro x3 x4 M H locs ls; exact fun h => h.elim
  | succ n ih =>
    intro x3 x4 M H locs ls h hR hS hl
    refine lv_iload (pc := 6) hx hb xd_Ey_leastDistance_6 (lv_at hl 4 rfl) ?_
    refine lv_bipush (pc := 8) (v := (6 : Int32)) hx hb xd_Ey_leastDistance_8 (by decide) ?_
    refine lv_icmp_ge (pc := 10) (tgt := 51) hx hb xd_Ey_leastDistance_10 (by decide) (fun hq => ?_) (fun hq => ?_)
    · have h := h.1 hq
      exact hk51 x3 x4 M H locs ls h hR hS (lv_sub hl [0, 1, 2, 3, 4] rfl)
    · have h := h.2 hq
      refine lv_aload_n (pc := 13) hx hb xd_Ey_leastDistance_13 rfl (lv_at hl 0 rfl) ?_
      refine lv_iload (pc := 14) hx hb xd_Ey_leastDistance_14 (lv_at hl 4 rfl) ?_
      refine xr_callV (pc := 16) (As := [.int x4]) (rest := []) hC hR hS (xc_Ey_counts l G hg h) (xo_K1 hg) xv_Ey_80 ⟨rfl, rfl, Nat.le_of_ble_eq_true rfl, Nat.le_of_ble_eq_true rfl⟩ rfl hl.1 rfl (Nat.le_of_ble_eq_true rfl) xd_Ey_leastDistance_16 (fun r2 M1 H locs h hR hS => ?_)
      refine lv_if_eq (pc := 19) (tgt := 45) hx hb xd_Ey_leastDistance_19 (by decide) (fun hq => ?_) (fun hq => ?_)
      · have h := h.1 hq
        refine lv_iinc (pc := 45) (v := (x4 + (1 : Int32))) (lv' := [(4, .int (x4 + (1 : Int32))), (0, .ref (G.1 g 1)), (1, .int x1), (2, .int x2), (3, .int x3)]) hx hb xd_Ey_leastDistance_45 hl (k := 4) rfl rfl (by decide) rfl (fun ls hl => ?_)
        refine lv_goto (pc := 48) (tgt := 6) hx hb xd_Ey_leastDistance_48 (by decide) ?_
        exact ih x3 (x4 + (1 : Int32)) M1 H locs ls h hR hS (lv_sub hl [1, 2, 3, 4, 0] rfl)
      · have h := h.2 hq
        refine lv_iload_n (pc := 22) hx hb xd_Ey_leastDistance_22 rfl (lv_at hl 3 rfl) ?_
        refine lv_aload_n (pc := 23) hx hb xd_Ey_leastDistance_23 rfl (lv_at hl 0 rfl) ?_
        refine lv_aload_n (pc := 24) hx hb xd_Ey_leastDistance_24 rfl (lv_at hl 0 rfl) ?_
        refine lv_iload (pc := 25) hx hb xd_Ey_leastDistance_25 (lv_at hl 4 rfl) ?_
        refine lv_iload_n (pc := 27) hx hb xd_Ey_leastDistance_27 rfl (lv_at hl 1 rfl) ?_
        refine xr_callV (pc := 28) (As := [.int x4, .int x1]) (rest := [.ref (G.1 g 1), .int x3]) hC hR hS (xc_Ey_look l G hg h) (xo_K1 hg) xv_Ey_84 ⟨rfl, rfl, Nat.le_of_ble_eq_true rfl, Nat.le_of_ble_eq_true rfl⟩ rfl hl.1 rfl (Nat.le_of_ble_eq_true rfl) xd_Ey_leastDistance_28 (fun r4 M3 H locs h hR hS => ?_)
        refine lv_aload_n (pc := 31) hx hb xd_Ey_leastDistance_31 rfl (lv_at hl 0 rfl) ?_
        refine lv_iload (pc := 32) hx hb xd_Ey_leastDistance_32 (lv_at hl 4 rfl) ?_
        refine lv_iload_n (pc := 34) hx hb xd_Ey_leastDistance_34 rfl (lv_at hl 2 rfl) ?_
        refine xr_callV (pc := 35) (As := [.int x4, .int x2]) (rest := [.int r4, .ref (G.1 g 1), .int x3]) hC hR hS (xc_Ey_look l G hg h) (xo_K1 hg) xv_Ey_84 ⟨rfl, rfl, Nat.le_of_ble_eq_true rfl, Nat.le_of_ble_eq_true rfl⟩ rfl hl.1 rfl (Nat.le_of_ble_eq_true rfl) xd_Ey_leastDistance_35 (fun r6 M5 H locs h hR hS => ?_)
        refine xr_callV (pc := 38) (As := [.int r4, .int r6]) (rest := [.int x3]) hC hR hS (xc_Ey_weighed l G hg h) (xo_K1 hg) xv_Ey_87 ⟨rfl, rfl, Nat.le_of_ble_eq_true rfl, Nat.le_of_ble_eq_true rfl⟩ rfl hl.1 rfl (Nat.le_of_ble_eq_true rfl) xd_Ey_leastDistance_38 (fun r8 M7 H locs h hR hS => ?_)
        refine xr_min (pc := 41) hC xk_Ey_73 hl.1 (Nat.le_of_ble_eq_true rfl) (Nat.le_of_ble_eq_true rfl) xd_Ey_leastDistance_41 ?_
        refine lv_istore_n (pc := 44) (lv' := [(3, .int (if r8 < x3 then r8 else x3)), (0, .ref (G.1 g 1)), (1, .int x1), (2, .int x2), (4, .int x4)]) hx hb xd_Ey_leastDistance_44 rfl hl (by decide) rfl (fun ls hl => ?_)
        refine lv_iinc (pc := 45) (v := (x4 + (1 : Int32))) (lv' := [(4, .int (x4 + (1 : Int32))), (3, .int (if r8 < x3 then r8 else x3)), (0, .ref (G.1 g 1)), (1, .int x1), (2, .int x2)]) hx hb xd_Ey_leastDistance_45 hl (k := 4) rfl rfl (by decide) rfl (fun ls hl => ?_)
        refine lv_goto (pc := 48) (tgt := 6) hx hb xd_Ey_leastDistance_48 (by decide) ?_
        exact ih (if r8 < x3 then r8 else x3) (x4 + (1 : Int32)) M7 H locs ls h hR hS (lv_sub hl [2, 3, 4, 1, 0] rfl)
set_option maxHeartbeats 4000000 in
set_option maxRecDepth 100000 in
theorem xc_Ey_leastDistance (l : Launch) (G : xG) {g : Nat} {a1 : Int32} {a2 : Int32} (hg : g < 4) {M : xM} {post : Int32 → xM → Prop} (h : xw_Ey_leastDistance g a1 a2 M post) : Met l y_Ey_leastDistance (Cond.code y_Ey_leastDistance b_Ey_leastDistance 5 (some .int) :: xTG) rm_Ey_leastDistance (xPre G M [.ref (G.1 g 1), .int a1, .int a2]) (xPi G post) 0 0 (xA G) := by
  refine xMet (own := R_Ey) [.ref (G.1 g 1), .int a1, .int a2] (Or.inl (by decide)) rfl (Nat.le_of_ble_eq_true rfl) (fun p e s m args below meth c ls hC hr hlk hR hS hl => ?_)
  have hx := hC.1
  have hb := hC.2.1
  have hl : lv_has ls 5 [(0, .ref (G.1 g 1)), (1, .int a1), (2, .int a2)] := hl
  obtain ⟨H, eH⟩ : ∃ H : Heap, H = s.heap := ⟨_, rfl⟩
  obtain ⟨locs, eL⟩ : ∃ locs : List Loc, locs = [] := ⟨_, rfl⟩
  rw [← eH] at hR
  replace hS : va_S (xA G) s.heap H locs := by rw [eH, eL]; exact hS
  suffices hh : W p l e rm_Ey_leastDistance s m args below meth c H locs 0 0 (MQ below (xPi G post) args s 0 0 (xA G)) (F0 m 0 ls []) from by rw [eH, eL] at hh; exact hh
  unfold xw_Ey_leastDistance at h
  refine lv_ldc (pc := 0) (v := (2000000 : Int32)) hx hb hC.2.2.2.1 (hC.2.2.2.2.1 _ xk_Ey_79) xd_Ey_leastDistance_0 ?_
  refine lv_istore_n (pc := 2) (lv' := [(3, .int (2000000 : Int32)), (0, .ref (G.1 g 1)), (1, .int a1), (2, .int a2)]) hx hb xd_Ey_leastDistance_2 rfl hl (by decide) rfl (fun ls hl => ?_)
  refine lv_iconst (pc := 3) (v := (0 : Int32)) hx hb xd_Ey_leastDistance_3 (by decide) ?_
  refine lv_istore (pc := 4) (lv' := [(4, .int (0 : Int32)), (3, .int (2000000 : Int32)), (0, .ref (G.1 g 1)), (1, .int a1), (2, .int a2)]) hx hb xd_Ey_leastDistance_4 hl (by decide) rfl (fun ls hl => ?_)
  obtain ⟨n, h⟩ := h
  refine xt_Ey_leastDistance_6 hC hr hlk hg (fun y9 y10 M11 H locs ls h hR hS hl => ?_) n (2000000 : Int32) (0 : Int32) M H locs ls h hR hS (lv_sub hl [2, 3, 4, 1, 0] rfl)
  refine lv_iload_n (pc := 51) hx hb xd_Ey_leastDistance_51 rfl (lv_at hl 3 rfl) ?_
  exact xr_iret hC hr hlk hR hS h xd_Ey_leastDistance_52

/-! ColoursApart$Groups.reachFrom(LColoursApart$Kept;III)I -/
theorem xd_Gp_reachFrom_0 : decode b_Gp_reachFrom 0 = .ok (.iload 4, 2) := by decide +kernel
theorem xd_Gp_reachFrom_2 : decode b_Gp_reachFrom 2 = .ok (.istore 5, 2) := by decide +kernel
theorem xd_Gp_reachFrom_4 : decode b_Gp_reachFrom 4 = .ok (.iconst 0, 1) := by decide +kernel
theorem xd_Gp_reachFrom_5 : decode b_Gp_reachFrom 5 = .ok (.istore 6, 2) := by decide +kernel
theorem xd_Gp_reachFrom_7 : decode b_Gp_reachFrom 7 = .ok (.iload 6, 2) := by decide +kernel
theorem xd_Gp_reachFrom_9 : decode b_Gp_reachFrom 9 = .ok (.aload_n 1, 1) := by decide +kernel
theorem xd_Gp_reachFrom_10 : decode b_Gp_reachFrom 10 = .ok (.getfield 22, 3) := by decide +kernel
theorem xd_Gp_reachFrom_13 : decode b_Gp_reachFrom 13 = .ok (.getfield 28, 3) := by decide +kernel
theorem xd_Gp_reachFrom_16 : decode b_Gp_reachFrom 16 = .ok (.if_icmp .ge 63, 3) := by decide +kernel
theorem xd_Gp_reachFrom_19 : decode b_Gp_reachFrom 19 = .ok (.aload_n 0, 1) := by decide +kernel
theorem xd_Gp_reachFrom_20 : decode b_Gp_reachFrom 20 = .ok (.getfield 15, 3) := by decide +kernel
theorem xd_Gp_reachFrom_23 : decode b_Gp_reachFrom 23 = .ok (.iload 6, 2) := by decide +kernel
theorem xd_Gp_reachFrom_25 : decode b_Gp_reachFrom 25 = .ok (.baload, 1) := by decide +kernel
theorem xd_Gp_reachFrom_26 : decode b_Gp_reachFrom 26 = .ok (.ifCond .ne 47, 3) := by decide +kernel
theorem xd_Gp_reachFrom_29 : decode b_Gp_reachFrom 29 = .ok (.aload_n 1, 1) := by decide +kernel
theorem xd_Gp_reachFrom_30 : decode b_Gp_reachFrom 30 = .ok (.getfield 34, 3) := by decide +kernel
theorem xd_Gp_reachFrom_33 : decode b_Gp_reachFrom 33 = .ok (.aload_n 0, 1) := by decide +kernel
theorem xd_Gp_reachFrom_34 : decode b_Gp_reachFrom 34 = .ok (.getfield 9, 3) := by decide +kernel
theorem xd_Gp_reachFrom_37 : decode b_Gp_reachFrom 37 = .ok (.iload_n 2, 1) := by decide +kernel
theorem xd_Gp_reachFrom_38 : decode b_Gp_reachFrom 38 = .ok (.iaload, 1) := by decide +kernel
theorem xd_Gp_reachFrom_39 : decode b_Gp_reachFrom 39 = .ok (.aload_n 0, 1) := by decide +kernel
theorem xd_Gp_reachFrom_40 : decode b_Gp_reachFrom 40 = .ok (.getfield 9, 3) := by decide +kernel
theorem xd_Gp_reachFrom_43 : decode b_Gp_reachFrom 43 = .ok (.iload 6, 2) := by decide +kernel
theorem xd_Gp_reachFrom_45 : decode b_Gp_reachFrom 45 = .ok (.iaload, 1) := by decide +kernel
theorem xd_Gp_reachFrom_46 : decode b_Gp_reachFrom 46 = .ok (.invokevirtual 56, 3) := by decide +kernel
theorem xd_Gp_reachFrom_49 : decode b_Gp_reachFrom 49 = .ok (.iload_n 3, 1) := by decide +kernel
theorem xd_Gp_reachFrom_50 : decode b_Gp_reachFrom 50 = .ok (.if_icmp .ge 23, 3) := by decide +kernel
theorem xd_Gp_reachFrom_53 : decode b_Gp_reachFrom 53 = .ok (.aload_n 0, 1) := by decide +kernel
theorem xd_Gp_reachFrom_54 : decode b_Gp_reachFrom 54 = .ok (.getfield 15, 3) := by decide +kernel
theorem xd_Gp_reachFrom_57 : decode b_Gp_reachFrom 57 = .ok (.iload 6, 2) := by decide +kernel
theorem xd_Gp_reachFrom_59 : decode b_Gp_reachFrom 59 = .ok (.iconst 1, 1) := by decide +kernel
theorem xd_Gp_reachFrom_60 : decode b_Gp_reachFrom 60 = .ok (.bastore, 1) := by decide +kernel
theorem xd_Gp_reachFrom_61 : decode b_Gp_reachFrom 61 = .ok (.aload_n 0, 1) := by decide +kernel
theorem xd_Gp_reachFrom_62 : decode b_Gp_reachFrom 62 = .ok (.getfield 19, 3) := by decide +kernel
theorem xd_Gp_reachFrom_65 : decode b_Gp_reachFrom 65 = .ok (.iload 5, 2) := by decide +kernel
theorem xd_Gp_reachFrom_67 : decode b_Gp_reachFrom 67 = .ok (.iload 6, 2) := by decide +kernel
theorem xd_Gp_reachFrom_69 : decode b_Gp_reachFrom 69 = .ok (.iastore, 1) := by decide +kernel
theorem xd_Gp_reachFrom_70 : decode b_Gp_reachFrom 70 = .ok (.iinc 5 1, 3) := by decide +kernel
theorem xd_Gp_reachFrom_73 : decode b_Gp_reachFrom 73 = .ok (.iinc 6 1, 3) := by decide +kernel
theorem xd_Gp_reachFrom_76 : decode b_Gp_reachFrom 76 = .ok (.goto (-69), 3) := by decide +kernel
theorem xd_Gp_reachFrom_79 : decode b_Gp_reachFrom 79 = .ok (.iload 5, 2) := by decide +kernel
theorem xd_Gp_reachFrom_81 : decode b_Gp_reachFrom 81 = .ok (.ireturn, 1) := by decide +kernel
abbrev rm_Gp_reachFrom : Room := { frames := 2, cells := 0, slots := 0, locals := 45 }
def xw_Gp_reachFrom_7 (g1 : Nat) (x2 : Int32) (x3 : Int32) (post : Int32 → xM → Prop) (k79 : Int32 → Int32 → xM → Prop) : Nat → Int32 → Int32 → xM → Prop
  | 0, _, _, _ => False
  | n7 + 1, x5, x6, M => (((M g1 3 0) ≤ x6) → (k79 x5 x6 M)) ∧ ((¬ (M g1 3 0) ≤ x6) → ((vp_in x6 12) ∧ (((¬ (M 8 18 x6.toNatClampNeg) = 0) → (xw_Gp_reachFrom_7 g1 x2 x3 post k79 n7 x5 (x6 + (1 : Int32)) M)) ∧ (((M 8 18 x6.toNatClampNeg) = 0) → ((vp_in x2 12) ∧ ((vp_in x6 12) ∧ (xw_Ey_weighed g1 (M 8 17 x2.toNatClampNeg) (M 8 17 x6.toNatClampNeg) M (fun (r2 : Int32) (M1 : xM) => ((x3 ≤ r2) → (xw_Gp_reachFrom_7 g1 x2 x3 post k79 n7 x5 (x6 + (1 : Int32)) M1)) ∧ ((¬ x3 ≤ r2) → ((vp_in x6 12) ∧ ((vp_in x5 12) ∧ (xw_Gp_reachFrom_7 g1 x2 x3 post k79 n7 (x5 + (1 : Int32)) (x6 + (1 : Int32)) (us (us M1 8 18 x6.toNatClampNeg (1 : Int32)) 8 19 x5.toNatClampNeg x6)))))))))))))
def xw_Gp_reachFrom (g1 : Nat) (a2 : Int32) (a3 : Int32) (a4 : Int32) (M : xM) (post : Int32 → xM → Prop) : Prop :=
  ∃ n7 : Nat, xw_Gp_reachFrom_7 g1 a2 a3 post (fun (y3 : Int32) (y4 : Int32) (M5 : xM) => post y3 M5) n7 a4 (0 : Int32) M
set_option maxHeartbeats 4000000 in
set_option maxRecDepth 100000 in
theorem xt_Gp_reachFrom_7 {p : Program} {l : Launch} {e : Env} {s : State} {m : MethodId} {args : Array Value} {below : List Frame} {meth : Method} {c : Code} {G : xG} (hC : xC p s m args c b_Gp_reachFrom R_Gp 7 G) (hr : meth.sig.returnType = (some .int)) (hlk : meth.locks = false) {g1 : Nat} (hg1 : g1 < 4) {x2 : Int32} {x3 : Int32} {post : Int32 → xM → Prop} {k79 : Int32 → Int32 → xM → Prop} (hk79 : ∀ (x5 : Int32) (x6 : Int32) (M : xM) (H : Heap) (locs : List Loc) (ls : Array Slot), k79 x5 x6 M → xRp G M H → va_S (xA G) s.heap H locs → lv_has ls 7 [(0, .ref (G.1 8 16)), (1, .ref (G.1 g1 0)), (2, .int x2), (3, .int x3), (5, .int x5), (6, .int x6)] → W p l e rm_Gp_reachFrom s m args below meth c H locs 0 0 (MQ below (xPi G post) args s 0 0 (xA G)) (F0 m 79 ls [])) : ∀ (n : Nat) (x5 : Int32) (x6 : Int32) (M : xM) (H : Heap) (locs : List Loc) (ls : Array Slot), xw_Gp_reachFrom_7 g1 x2 x3 post k79 n x5 x6 M → xRp G M H → va_S (xA G) s.heap H locs → lv_has ls 7 [(0, .ref (G.1 8 16)), (1, .ref (G.1 g1 0)), (2, .int x2), (3, .int x3), (5, .int x5), (6, .int x6)] → W p l e rm_Gp_reachFrom s m args below meth c H locs 0 0 (MQ below (xPi G post) args s 0 0 (xA G)) (F0 m 7 ls []) := by
  have hx := hC.1
  have hb := hC.2.1
  intro n
  induction n with
  | zero => intro x5 x6 M H locs ls; exact fun h => h.elim
  | succ n ih =>
    intro x5 x6 M H locs ls h hR hS hl
    refine lv_iload (pc := 7) hx hb xd_Gp_reachFrom_7 (lv_at hl 5 rfl) ?_
    refine lv_aload_n (pc := 9) hx hb xd_Gp_reachFrom_9 rfl (lv_at hl 1 rfl) ?_
    refine xr_get (pc := 10) (v := .ref (G.1 g1 3)) hC hR (xo_K0 hg1) xf_Gp_22 rfl xd_Gp_reachFrom_10 ?_
    refine xr_get (pc := 13) (v := .int (M g1 3 0)) hC hR (xo_K3 hg1) xf_Gp_28 rfl xd_Gp_reachFrom_13 ?_
    refine lv_icmp_ge (pc := 16) (tgt := 79) hx hb xd_Gp_reachFrom_16 (by decide) (fun hq => ?_) (fun hq => ?_)
    · have h := h.1 hq
      exact hk79 x5 x6 M H locs ls h hR hS (lv_sub hl [0, 1, 2, 3, 4, 5] rfl)
    · have h := h.2 hq
      refine lv_aload_n (pc := 19) hx hb xd_Gp_reachFrom_19 rfl (lv_at hl 0 rfl) ?_
      refine xr_get (pc := 20) (v := .ref (G.1 8 18)) hC hR xo_C16 xf_Gp_15 rfl xd_Gp_reachFrom_20 ?_
      refine lv_iload (pc := 23) hx hb xd_Gp_reachFrom_23 (lv_at hl 5 rfl) ?_
      obtain ⟨hq, h⟩ := h
      refine xr_zald (pc := 25) hC hR xo_C18 hq xd_Gp_reachFrom_25 ?_
      refine lv_if_ne (pc := 26) (tgt := 73) hx hb xd_Gp_reachFrom_26 (by decide) (fun hq => ?_) (fun hq => ?_)
      · have h := h.1 hq
        refine lv_iinc (pc := 73) (v := (x6 + (1 : Int32))) (lv' := [(6, .int (x6 + (1 : Int32))), (0, .ref (G.1 8 16)), (1, .ref (G.1 g1 0)), (2, .int x2), (3, .int x3), (5, .int x5)]) hx hb xd_Gp_reachFrom_73 hl (k := 5) rfl rfl (by decide) rfl (fun ls hl => ?_)
        refine lv_goto (pc := 76) (tgt := 7) hx hb xd_Gp_reachFrom_76 (by decide) ?_
        exact ih x5 (x6 + (1 : Int32)) M H locs ls h hR hS (lv_sub hl [1, 2, 3, 4, 5, 0] rfl)
      · have h := h.2 hq
        refine lv_aload_n (pc := 29) hx hb xd_Gp_reachFrom_29 rfl (lv_at hl 1 rfl) ?_
        refine xr_get (pc := 30) (v := .ref (G.1 g1 1)) hC hR (xo_K0 hg1) xf_Gp_34 rfl xd_Gp_reachFrom_30 ?_
        refine lv_aload_n (pc := 33) hx hb xd_Gp_reachFrom_33 rfl (lv_at hl 0 rfl) ?_
        refine xr_get (pc := 34) (v := .ref (G.1 8 17)) hC hR xo_C16 xf_Gp_9 rfl xd_Gp_reachFrom_34 ?_
        refine lv_iload_n (pc := 37) hx hb xd_Gp_reachFrom_37 rfl (lv_at hl 2 rfl) ?_
        obtain ⟨hq, h⟩ := h
        refine xr_iald (pc := 38) hC hR xo_C17 hq xd_Gp_reachFrom_38 ?_
        refine lv_aload_n (pc := 39) hx hb xd_Gp_reachFrom_39 rfl (lv_at hl 0 rfl) ?_
        refine xr_get (pc := 40) (v := .ref (G.1 8 17)) hC hR xo_C16 xf_Gp_9 rfl xd_Gp_reachFrom_40 ?_
        refine lv_iload (pc := 43) hx hb xd_Gp_reachFrom_43 (lv_at hl 5 rfl) ?_
        obtain ⟨hq, h⟩ := h
        refine xr_iald (pc := 45) hC hR xo_C17 hq xd_Gp_reachFrom_45 ?_
        refine xr_callV (pc := 46) (As := [.int (M 8 17 x2.toNatClampNeg), .int (M 8 17 x6.toNatClampNeg)]) (rest := []) hC hR hS (xc_Ey_weighed l G hg1 h) (xo_K1 hg1) xv_Gp_56 ⟨rfl, rfl, Nat.le_of_ble_eq_true rfl, Nat.le_of_ble_eq_true rfl⟩ rfl hl.1 rfl (Nat.le_of_ble_eq_true rfl) xd_Gp_reachFrom_46 (fun r2 M1 H locs h hR hS => ?_)
        refine lv_iload_n (pc := 49) hx hb xd_Gp_reachFrom_49 rfl (lv_at hl 3 rfl) ?_
        refine lv_icmp_ge (pc := 50) (tgt := 73) hx hb xd_Gp_reachFrom_50 (by decide) (fun hq => ?_) (fun hq => ?_)
        · have h := h.1 hq
          refine lv_iinc (pc := 73) (v := (x6 + (1 : Int32))) (lv' := [(6, .int (x6 + (1 : Int32))), (0, .ref (G.1 8 16)), (1, .ref (G.1 g1 0)), (2, .int x2), (3, .int x3), (5, .int x5)]) hx hb xd_Gp_reachFrom_73 hl (k := 5) rfl rfl (by decide) rfl (fun ls hl => ?_)
          refine lv_goto (pc := 76) (tgt := 7) hx hb xd_Gp_reachFrom_76 (by decide) ?_
          exact ih x5 (x6 + (1 : Int32)) M1 H locs ls h hR hS (lv_sub hl [1, 2, 3, 4, 5, 0] rfl)
        · have h := h.2 hq
          refine lv_aload_n (pc := 53) hx hb xd_Gp_reachFrom_53 rfl (lv_at hl 0 rfl) ?_
          refine xr_get (pc := 54) (v := .ref (G.1 8 18)) hC hR xo_C16 xf_Gp_15 rfl xd_Gp_reachFrom_54 ?_
          refine lv_iload (pc := 57) hx hb xd_Gp_reachFrom_57 (lv_at hl 5 rfl) ?_
          refine lv_iconst (pc := 59) (v := (1 : Int32)) hx hb xd_Gp_reachFrom_59 (by decide) ?_
          obtain ⟨hq, h⟩ := h
          refine xr_zast (pc := 60) hC hR hS xo_C18 hq (by decide) xd_Gp_reachFrom_60 (fun H locs hR hS => ?_)
          refine lv_aload_n (pc := 61) hx hb xd_Gp_reachFrom_61 rfl (lv_at hl 0 rfl) ?_
          refine xr_get (pc := 62) (v := .ref (G.1 8 19)) hC hR xo_C16 xf_Gp_19 rfl xd_Gp_reachFrom_62 ?_
          refine lv_iload (pc := 65) hx hb xd_Gp_reachFrom_65 (lv_at hl 4 rfl) ?_
          refine lv_iload (pc := 67) hx hb xd_Gp_reachFrom_67 (lv_at hl 5 rfl) ?_
          obtain ⟨hq, h⟩ := h
          refine xr_iast (pc := 69) hC hR hS xo_C19 hq xd_Gp_reachFrom_69 (fun H locs hR hS => ?_)
          refine lv_iinc (pc := 70) (v := (x5 + (1 : Int32))) (lv' := [(5, .int (x5 + (1 : Int32))), (0, .ref (G.1 8 16)), (1, .ref (G.1 g1 0)), (2, .int x2), (3, .int x3), (6, .int x6)]) hx hb xd_Gp_reachFrom_70 hl (k := 4) rfl rfl (by decide) rfl (fun ls hl => ?_)
          refine lv_iinc (pc := 73) (v := (x6 + (1 : Int32))) (lv' := [(6, .int (x6 + (1 : Int32))), (5, .int (x5 + (1 : Int32))), (0, .ref (G.1 8 16)), (1, .ref (G.1 g1 0)), (2, .int x2), (3, .int x3)]) hx hb xd_Gp_reachFrom_73 hl (k := 5) rfl rfl (by decide) rfl (fun ls hl => ?_)
          refine lv_goto (pc := 76) (tgt := 7) hx hb xd_Gp_reachFrom_76 (by decide) ?_
          exact ih (x5 + (1 : Int32)) (x6 + (1 : Int32)) (us (us M1 8 18 x6.toNatClampNeg (1 : Int32)) 8 19 x5.toNatClampNeg x6) H locs ls h hR hS (lv_sub hl [2, 3, 4, 5, 1, 0] rfl)
set_option maxHeartbeats 4000000 in
set_option maxRecDepth 100000 in
theorem xc_Gp_reachFrom (l : Launch) (G : xG) {g1 : Nat} {a2 : Int32} {a3 : Int32} {a4 : Int32} (hg1 : g1 < 4) {M : xM} {post : Int32 → xM → Prop} (h : xw_Gp_reachFrom g1 a2 a3 a4 M post) : Met l y_Gp_reachFrom (Cond.code y_Gp_reachFrom b_Gp_reachFrom 7 (some .int) :: xTG) rm_Gp_reachFrom (xPre G M [.ref (G.1 8 16), .ref (G.1 g1 0), .int a2, .int a3, .int a4]) (xPi G post) 0 0 (xA G) := by
  refine xMet (own := R_Gp) [.ref (G.1 8 16), .ref (G.1 g1 0), .int a2, .int a3, .int a4] (Or.inl (by decide)) rfl (Nat.le_of_ble_eq_true rfl) (fun p e s m args below meth c ls hC hr hlk hR hS hl => ?_)
  have hx := hC.1
  have hb := hC.2.1
  have hl : lv_has ls 7 [(0, .ref (G.1 8 16)), (1, .ref (G.1 g1 0)), (2, .int a2), (3, .int a3), (4, .int a4)] := hl
  obtain ⟨H, eH⟩ : ∃ H : Heap, H = s.heap := ⟨_, rfl⟩
  obtain ⟨locs, eL⟩ : ∃ locs : List Loc, locs = [] := ⟨_, rfl⟩
  rw [← eH] at hR
  replace hS : va_S (xA G) s.heap H locs := by rw [eH, eL]; exact hS
  suffices hh : W p l e rm_Gp_reachFrom s m args below meth c H locs 0 0 (MQ below (xPi G post) args s 0 0 (xA G)) (F0 m 0 ls []) from by rw [eH, eL] at hh; exact hh
  unfold xw_Gp_reachFrom at h
  refine lv_iload (pc := 0) hx hb xd_Gp_reachFrom_0 (lv_at hl 4 rfl) ?_
  refine lv_istore (pc := 2) (lv' := [(5, .int a4), (0, .ref (G.1 8 16)), (1, .ref (G.1 g1 0)), (2, .int a2), (3, .int a3), (4, .int a4)]) hx hb xd_Gp_reachFrom_2 hl (by decide) rfl (fun ls hl => ?_)
  refine lv_iconst (pc := 4) (v := (0 : Int32)) hx hb xd_Gp_reachFrom_4 (by decide) ?_
  refine lv_istore (pc := 5) (lv' := [(6, .int (0 : Int32)), (5, .int a4), (0, .ref (G.1 8 16)), (1, .ref (G.1 g1 0)), (2, .int a2), (3, .int a3), (4, .int a4)]) hx hb xd_Gp_reachFrom_5 hl (by decide) rfl (fun ls hl => ?_)
  obtain ⟨n, h⟩ := h
  refine xt_Gp_reachFrom_7 hC hr hlk hg1 (fun y3 y4 M5 H locs ls h hR hS hl => ?_) n a4 (0 : Int32) M H locs ls h hR hS (lv_sub hl [2, 3, 4, 5, 1, 0] rfl)
  refine lv_iload (pc := 79) hx hb xd_Gp_reachFrom_79 (lv_at hl 4 rfl) ?_
  exact xr_iret hC hr hlk hR hS h xd_Gp_reachFrom_81

/-! ColoursApart$Groups.lowestWith(LColoursApart$Kept;III)I -/
theorem xd_Gp_lowestWith_0 : decode b_Gp_lowestWith 0 = .ok (.aload_n 1, 1) := by decide +kernel
theorem xd_Gp_lowestWith_1 : decode b_Gp_lowestWith 1 = .ok (.getfield 22, 3) := by decide +kernel
theorem xd_Gp_lowestWith_4 : decode b_Gp_lowestWith 4 = .ok (.getfield 28, 3) := by decide +kernel
theorem xd_Gp_lowestWith_7 : decode b_Gp_lowestWith 7 = .ok (.istore 5, 2) := by decide +kernel
theorem xd_Gp_lowestWith_9 : decode b_Gp_lowestWith 9 = .ok (.iconst 0, 1) := by decide +kernel
theorem xd_Gp_lowestWith_10 : decode b_Gp_lowestWith 10 = .ok (.istore 6, 2) := by decide +kernel
theorem xd_Gp_lowestWith_12 : decode b_Gp_lowestWith 12 = .ok (.iload 6, 2) := by decide +kernel
theorem xd_Gp_lowestWith_14 : decode b_Gp_lowestWith 14 = .ok (.iload 5, 2) := by decide +kernel
theorem xd_Gp_lowestWith_16 : decode b_Gp_lowestWith 16 = .ok (.if_icmp .ge 53, 3) := by decide +kernel
theorem xd_Gp_lowestWith_19 : decode b_Gp_lowestWith 19 = .ok (.aload_n 0, 1) := by decide +kernel
theorem xd_Gp_lowestWith_20 : decode b_Gp_lowestWith 20 = .ok (.getfield 9, 3) := by decide +kernel
theorem xd_Gp_lowestWith_23 : decode b_Gp_lowestWith 23 = .ok (.iload 6, 2) := by decide +kernel
theorem xd_Gp_lowestWith_25 : decode b_Gp_lowestWith 25 = .ok (.aload_n 1, 1) := by decide +kernel
theorem xd_Gp_lowestWith_26 : decode b_Gp_lowestWith 26 = .ok (.getfield 34, 3) := by decide +kernel
theorem xd_Gp_lowestWith_29 : decode b_Gp_lowestWith 29 = .ok (.iload_n 2, 1) := by decide +kernel
theorem xd_Gp_lowestWith_30 : decode b_Gp_lowestWith 30 = .ok (.aload_n 1, 1) := by decide +kernel
theorem xd_Gp_lowestWith_31 : decode b_Gp_lowestWith 31 = .ok (.getfield 22, 3) := by decide +kernel
theorem xd_Gp_lowestWith_34 : decode b_Gp_lowestWith 34 = .ok (.getfield 38, 3) := by decide +kernel
theorem xd_Gp_lowestWith_37 : decode b_Gp_lowestWith 37 = .ok (.iload 6, 2) := by decide +kernel
theorem xd_Gp_lowestWith_39 : decode b_Gp_lowestWith 39 = .ok (.iaload, 1) := by decide +kernel
theorem xd_Gp_lowestWith_40 : decode b_Gp_lowestWith 40 = .ok (.invokevirtual 41, 3) := by decide +kernel
theorem xd_Gp_lowestWith_43 : decode b_Gp_lowestWith 43 = .ok (.iastore, 1) := by decide +kernel
theorem xd_Gp_lowestWith_44 : decode b_Gp_lowestWith 44 = .ok (.aload_n 0, 1) := by decide +kernel
theorem xd_Gp_lowestWith_45 : decode b_Gp_lowestWith 45 = .ok (.getfield 15, 3) := by decide +kernel
theorem xd_Gp_lowestWith_48 : decode b_Gp_lowestWith 48 = .ok (.iload 6, 2) := by decide +kernel
theorem xd_Gp_lowestWith_50 : decode b_Gp_lowestWith 50 = .ok (.iload 6, 2) := by decide +kernel
theorem xd_Gp_lowestWith_52 : decode b_Gp_lowestWith 52 = .ok (.iload 4, 2) := by decide +kernel
theorem xd_Gp_lowestWith_54 : decode b_Gp_lowestWith 54 = .ok (.if_icmp .ne 7, 3) := by decide +kernel
theorem xd_Gp_lowestWith_57 : decode b_Gp_lowestWith 57 = .ok (.iconst 1, 1) := by decide +kernel
theorem xd_Gp_lowestWith_58 : decode b_Gp_lowestWith 58 = .ok (.goto 4, 3) := by decide +kernel
theorem xd_Gp_lowestWith_61 : decode b_Gp_lowestWith 61 = .ok (.iconst 0, 1) := by decide +kernel
theorem xd_Gp_lowestWith_62 : decode b_Gp_lowestWith 62 = .ok (.bastore, 1) := by decide +kernel
theorem xd_Gp_lowestWith_63 : decode b_Gp_lowestWith 63 = .ok (.iinc 6 1, 3) := by decide +kernel
theorem xd_Gp_lowestWith_66 : decode b_Gp_lowestWith 66 = .ok (.goto (-54), 3) := by decide +kernel
theorem xd_Gp_lowestWith_69 : decode b_Gp_lowestWith 69 = .ok (.aload_n 0, 1) := by decide +kernel
theorem xd_Gp_lowestWith_70 : decode b_Gp_lowestWith 70 = .ok (.getfield 19, 3) := by decide +kernel
theorem xd_Gp_lowestWith_73 : decode b_Gp_lowestWith 73 = .ok (.iconst 0, 1) := by decide +kernel
theorem xd_Gp_lowestWith_74 : decode b_Gp_lowestWith 74 = .ok (.iload 4, 2) := by decide +kernel
theorem xd_Gp_lowestWith_76 : decode b_Gp_lowestWith 76 = .ok (.iastore, 1) := by decide +kernel
theorem xd_Gp_lowestWith_77 : decode b_Gp_lowestWith 77 = .ok (.iconst 1, 1) := by decide +kernel
theorem xd_Gp_lowestWith_78 : decode b_Gp_lowestWith 78 = .ok (.istore 6, 2) := by decide +kernel
theorem xd_Gp_lowestWith_80 : decode b_Gp_lowestWith 80 = .ok (.iload 4, 2) := by decide +kernel
theorem xd_Gp_lowestWith_82 : decode b_Gp_lowestWith 82 = .ok (.istore 7, 2) := by decide +kernel
theorem xd_Gp_lowestWith_84 : decode b_Gp_lowestWith 84 = .ok (.iconst 0, 1) := by decide +kernel
theorem xd_Gp_lowestWith_85 : decode b_Gp_lowestWith 85 = .ok (.istore 8, 2) := by decide +kernel
theorem xd_Gp_lowestWith_87 : decode b_Gp_lowestWith 87 = .ok (.iload 8, 2) := by decide +kernel
theorem xd_Gp_lowestWith_89 : decode b_Gp_lowestWith 89 = .ok (.iload 5, 2) := by decide +kernel
theorem xd_Gp_lowestWith_91 : decode b_Gp_lowestWith 91 = .ok (.if_icmp .ge 47, 3) := by decide +kernel
theorem xd_Gp_lowestWith_94 : decode b_Gp_lowestWith 94 = .ok (.iload 8, 2) := by decide +kernel
theorem xd_Gp_lowestWith_96 : decode b_Gp_lowestWith 96 = .ok (.iload 6, 2) := by decide +kernel
theorem xd_Gp_lowestWith_98 : decode b_Gp_lowestWith 98 = .ok (.if_icmp .ge 40, 3) := by decide +kernel
theorem xd_Gp_lowestWith_101 : decode b_Gp_lowestWith 101 = .ok (.iload 7, 2) := by decide +kernel
theorem xd_Gp_lowestWith_103 : decode b_Gp_lowestWith 103 = .ok (.aload_n 0, 1) := by decide +kernel
theorem xd_Gp_lowestWith_104 : decode b_Gp_lowestWith 104 = .ok (.getfield 19, 3) := by decide +kernel
theorem xd_Gp_lowestWith_107 : decode b_Gp_lowestWith 107 = .ok (.iload 8, 2) := by decide +kernel
theorem xd_Gp_lowestWith_109 : decode b_Gp_lowestWith 109 = .ok (.iaload, 1) := by decide +kernel
theorem xd_Gp_lowestWith_110 : decode b_Gp_lowestWith 110 = .ok (.invokestatic 47, 3) := by decide +kernel
theorem xd_Gp_lowestWith_113 : decode b_Gp_lowestWith 113 = .ok (.istore 7, 2) := by decide +kernel
theorem xd_Gp_lowestWith_115 : decode b_Gp_lowestWith 115 = .ok (.aload_n 0, 1) := by decide +kernel
theorem xd_Gp_lowestWith_116 : decode b_Gp_lowestWith 116 = .ok (.aload_n 1, 1) := by decide +kernel
theorem xd_Gp_lowestWith_117 : decode b_Gp_lowestWith 117 = .ok (.aload_n 0, 1) := by decide +kernel
theorem xd_Gp_lowestWith_118 : decode b_Gp_lowestWith 118 = .ok (.getfield 19, 3) := by decide +kernel
theorem xd_Gp_lowestWith_121 : decode b_Gp_lowestWith 121 = .ok (.iload 8, 2) := by decide +kernel
theorem xd_Gp_lowestWith_123 : decode b_Gp_lowestWith 123 = .ok (.iaload, 1) := by decide +kernel
theorem xd_Gp_lowestWith_124 : decode b_Gp_lowestWith 124 = .ok (.iload_n 3, 1) := by decide +kernel
theorem xd_Gp_lowestWith_125 : decode b_Gp_lowestWith 125 = .ok (.iload 6, 2) := by decide +kernel
theorem xd_Gp_lowestWith_127 : decode b_Gp_lowestWith 127 = .ok (.invokevirtual 52, 3) := by decide +kernel
theorem xd_Gp_lowestWith_130 : decode b_Gp_lowestWith 130 = .ok (.istore 6, 2) := by decide +kernel
theorem xd_Gp_lowestWith_132 : decode b_Gp_lowestWith 132 = .ok (.iinc 8 1, 3) := by decide +kernel
theorem xd_Gp_lowestWith_135 : decode b_Gp_lowestWith 135 = .ok (.goto (-48), 3) := by decide +kernel
theorem xd_Gp_lowestWith_138 : decode b_Gp_lowestWith 138 = .ok (.iload 7, 2) := by decide +kernel
theorem xd_Gp_lowestWith_140 : decode b_Gp_lowestWith 140 = .ok (.ireturn, 1) := by decide +kernel
abbrev rm_Gp_lowestWith : Room := { frames := 3, cells := 0, slots := 0, locals := 71 }
def xw_Gp_lowestWith_12 (g1 : Nat) (x2 : Int32) (x3 : Int32) (x4 : Int32) (x5 : Int32) (post : Int32 → xM → Prop) (k69 : Int32 → xM → Prop) : Nat → Int32 → xM → Prop
  | 0, _, _ => False
  | n12 + 1, x6, M => ((x5 ≤ x6) → (k69 x6 M)) ∧ ((¬ x5 ≤ x6) → ((vp_in x6 12) ∧ (xw_Ey_look g1 x2 (M g1 4 x6.toNatClampNeg) M (fun (r2 : Int32) (M1 : xM) => (vp_in x6 12) ∧ (((¬ x6 = x4) → ((vp_in x6 12) ∧ (xw_Gp_lowestWith_12 g1 x2 x3 x4 x5 post k69 n12 (x6 + (1 : Int32)) (us (us M1 8 17 x6.toNatClampNeg r2) 8 18 x6.toNatClampNeg (0 : Int32))))) ∧ ((x6 = x4) → ((vp_in x6 12) ∧ (xw_Gp_lowestWith_12 g1 x2 x3 x4 x5 post k69 n12 (x6 + (1 : Int32)) (us (us M1 8 17 x6.toNatClampNeg r2) 8 18 x6.toNatClampNeg (1 : Int32))))))))))
def xw_Gp_lowestWith_87 (g1 : Nat) (x3 : Int32) (x5 : Int32) (post : Int32 → xM → Prop) (k138 : Int32 → Int32 → Int32 → xM → Prop) : Nat → Int32 → Int32 → Int32 → xM → Prop
  | 0, _, _, _, _ => False
  | n87 + 1, x6, x7, x8, M => ((x5 ≤ x8) → (k138 x6 x7 x8 M)) ∧ ((¬ x5 ≤ x8) → (((x6 ≤ x8) → (k138 x6 x7 x8 M)) ∧ ((¬ x6 ≤ x8) → ((vp_in x8 12) ∧ ((vp_in x8 12) ∧ (xw_Gp_reachFrom g1 (M 8 19 x8.toNatClampNeg) x3 x6 M (fun (r6 : Int32) (M5 : xM) => xw_Gp_lowestWith_87 g1 x3 x5 post k138 n87 r6 (if (M 8 19 x8.toNatClampNeg) < x7 then (M 8 19 x8.toNatClampNeg) else x7) (x8 + (1 : Int32)) M5)))))))
def xw_Gp_lowestWith (g1 : Nat) (a2 : Int32) (a3 : Int32) (a4 : Int32) (M : xM) (post : Int32 → xM → Prop) : Prop :=
  ∃ n12 : Nat, xw_Gp_lowestWith_12 g1 a2 a3 a4 (M g1 3 0) post (fun (y3 : Int32) (M4 : xM) => ∃ n87 : Nat, xw_Gp_lowestWith_87 g1 a3 (M g1 3 0) post (fun (y7 : Int32) (y8 : Int32) (y9 : Int32) (M10 : xM) => post y8 M10) n87 (1 : Int32) a4 (0 : Int32) (us M4 8 19 (0 : Int32).toNatClampNeg a4)) n12 (0 : Int32) M
set_option maxHeartbeats 4000000 in
set_option maxRecDepth 100000 in
theorem xt_Gp_lowestWith_12 {p : Program} {l : Launch} {e : Env} {s : State} {m : MethodId} {args : Array Value} {below : List Frame} {meth : Method} {c : Code} {G : xG} (hC : xC p s m args c b_Gp_lowestWith R_Gp 9 G) (hr : meth.sig.returnType = (some .int)) (hlk : meth.locks = false) {g1 : Nat} (hg1 : g1 < 4) {x2 : Int32} {x3 : Int32} {x4 : Int32} {x5 : Int32} {post : Int32 → xM → Prop} {k69 : Int32 → xM → Prop} (hk69 : ∀ (x6 : Int32) (M : xM) (H : Heap) (locs : List Loc) (ls : Array Slot), k69 x6 M → xRp G M H → va_S (xA G) s.heap H locs → lv_has ls 9 [(0, .ref (G.1 8 16)), (1, .ref (G.1 g1 0)), (2, .int x2), (3, .int x3), (4, .int x4), (5, .int x5), (6, .int x6)] → W p l e rm_Gp_lowestWith s m args below meth c H locs 0 0 (MQ below (xPi G post) args s 0 0 (xA G)) (F0 m 69 ls [])) : ∀ (n : Nat) (x6 : Int32) (M : xM) (H : Heap) (locs : List Loc) (ls : Array Slot), xw_Gp_lowestWith_12 g1 x2 x3 x4 x5 post k69 n x6 M → xRp G M H → va_S (xA G) s.heap H locs → lv_has ls 9 [(0, .ref (G.1 8 16)), (1, .ref (G.1 g1 0)), (2, .int x2), (3, .int x3), (4, .int x4), (5, .int x5), (6, .int x6)] → W p l e rm_Gp_lowestWith s m args below meth c H locs 0 0 (MQ below (xPi G post) args s 0 0 (xA G)) (F0 m 12 ls []) := by
  have hx := hC.1
  have hb := hC.2.1
  intro n
  induction n with
  | zero => intro x6 M H locs ls; exact fun h => h.elim
  | succ n ih =>
    intro x6 M H locs ls h hR hS hl
    refine lv_iload (pc := 12) hx hb xd_Gp_lowestWith_12 (lv_at hl 6 rfl) ?_
    refine lv_iload (pc := 14) hx hb xd_Gp_lowestWith_14 (lv_at hl 5 rfl) ?_
    refine lv_icmp_ge (pc := 16) (tgt := 69) hx hb xd_Gp_lowestWith_16 (by decide) (fun hq => ?_) (fun hq => ?_)
    · have h := h.1 hq
      exact hk69 x6 M H locs ls h hR hS (lv_sub hl [0, 1, 2, 3, 4, 5, 6] rfl)
    · have h := h.2 hq
      refine lv_aload_n (pc := 19) hx hb xd_Gp_lowestWith_19 rfl (lv_at hl 0 rfl) ?_
      refine xr_get (pc := 20) (v := .ref (G.1 8 17)) hC hR xo_C16 xf_Gp_9 rfl xd_Gp_lowestWith_20 ?_
      refine lv_iload (pc := 23) hx hb xd_Gp_lowestWith_23 (lv_at hl 6 rfl) ?_
      refine lv_aload_n (pc := 25) hx hb xd_Gp_lowestWith_25 rfl (lv_at hl 1 rfl) ?_
      refine xr_get (pc := 26) (v := .ref (G.1 g1 1)) hC hR (xo_K0 hg1) xf_Gp_34 rfl xd_Gp_lowestWith_26 ?_
      refine lv_iload_n (pc := 29) hx hb xd_Gp_lowestWith_29 rfl (lv_at hl 2 rfl) ?_
      refine lv_aload_n (pc := 30) hx hb xd_Gp_lowestWith_30 rfl (lv_at hl 1 rfl) ?_
      refine xr_get (pc := 31) (v := .ref (G.1 g1 3)) hC hR (xo_K0 hg1) xf_Gp_22 rfl xd_Gp_lowestWith_31 ?_
      refine xr_get (pc := 34) (v := .ref (G.1 g1 4)) hC hR (xo_K3 hg1) xf_Gp_38 rfl xd_Gp_lowestWith_34 ?_
      refine lv_iload (pc := 37) hx hb xd_Gp_lowestWith_37 (lv_at hl 6 rfl) ?_
      obtain ⟨hq, h⟩ := h
      refine xr_iald (pc := 39) hC hR (xo_K4 hg1) hq xd_Gp_lowestWith_39 ?_
      refine xr_callV (pc := 40) (As := [.int x2, .int (M g1 4 x6.toNatClampNeg)]) (rest := [.int x6, .ref (G.1 8 17)]) hC hR hS (xc_Ey_look l G hg1 h) (xo_K1 hg1) xv_Gp_41 ⟨rfl, rfl, Nat.le_of_ble_eq_true rfl, Nat.le_of_ble_eq_true rfl⟩ rfl hl.1 rfl (Nat.le_of_ble_eq_true rfl) xd_Gp_lowestWith_40 (fun r2 M1 H locs h hR hS => ?_)
      obtain ⟨hq, h⟩ := h
      refine xr_iast (pc := 43) hC hR hS xo_C17 hq xd_Gp_lowestWith_43 (fun H locs hR hS => ?_)
      refine lv_aload_n (pc := 44) hx hb xd_Gp_lowestWith_44 rfl (lv_at hl 0 rfl) ?_
      refine xr_get (pc := 45) (v := .ref (G.1 8 18)) hC hR xo_C16 xf_Gp_15 rfl xd_Gp_lowestWith_45 ?_
      refine lv_iload (pc := 48) hx hb xd_Gp_lowestWith_48 (lv_at hl 6 rfl) ?_
      refine lv_iload (pc := 50) hx hb xd_Gp_lowestWith_50 (lv_at hl 6 rfl) ?_
      refine lv_iload (pc := 52) hx hb xd_Gp_lowestWith_52 (lv_at hl 4 rfl) ?_
      refine lv_icmp_ne (pc := 54) (tgt := 61) hx hb xd_Gp_lowestWith_54 (by decide) (fun hq => ?_) (fun hq => ?_)
      · have h := h.1 hq
        refine lv_iconst (pc := 61) (v := (0 : Int32)) hx hb xd_Gp_lowestWith_61 (by decide) ?_
        obtain ⟨hq, h⟩ := h
        refine xr_zast (pc := 62) hC hR hS xo_C18 hq (by decide) xd_Gp_lowestWith_62 (fun H locs hR hS => ?_)
        refine lv_iinc (pc := 63) (v := (x6 + (1 : Int32))) (lv' := [(6, .int (x6 + (1 : Int32))), (0, .ref (G.1 8 16)), (1, .ref (G.1 g1 0)), (2, .int x2), (3, .int x3), (4, .int x4), (5, .int x5)]) hx hb xd_Gp_lowestWith_63 hl (k := 6) rfl rfl (by decide) rfl (fun ls hl => ?_)
        refine lv_goto (pc := 66) (tgt := 12) hx hb xd_Gp_lowestWith_66 (by decide) ?_
        exact ih (x6 + (1 : Int32)) (us (us M1 8 17 x6.toNatClampNeg r2) 8 18 x6.toNatClampNeg (0 : Int32)) H locs ls h hR hS (lv_sub hl [1, 2, 3, 4, 5, 6, 0] rfl)
      · have h := h.2 hq
        refine lv_iconst (pc := 57) (v := (1 : Int32)) hx hb xd_Gp_lowestWith_57 (by decide) ?_
        refine lv_goto (pc := 58) (tgt := 62) hx hb xd_Gp_lowestWith_58 (by decide) ?_
        obtain ⟨hq, h⟩ := h
        refine xr_zast (pc := 62) hC hR hS xo_C18 hq (by decide) xd_Gp_lowestWith_62 (fun H locs hR hS => ?_)
        refine lv_iinc (pc := 63) (v := (x6 + (1 : Int32))) (lv' := [(6, .int (x6 + (1 : Int32))), (0, .ref (G.1 8 16)), (1, .ref (G.1 g1 0)), (2, .int x2), (3, .int x3), (4, .int x4), (5, .int x5)]) hx hb xd_Gp_lowestWith_63 hl (k := 6) rfl rfl (by decide) rfl (fun ls hl => ?_)
        refine lv_goto (pc := 66) (tgt := 12) hx hb xd_Gp_lowestWith_66 (by decide) ?_
        exact ih (x6 + (1 : Int32)) (us (us M1 8 17 x6.toNatClampNeg r2) 8 18 x6.toNatClampNeg (1 : Int32)) H locs ls h hR hS (lv_sub hl [1, 2, 3, 4, 5, 6, 0] rfl)
set_option maxHeartbeats 4000000 in
set_option maxRecDepth 100000 in
theorem xt_Gp_lowestWith_87 {p : Program} {l : Launch} {e : Env} {s : State} {m : MethodId} {args : Array Value} {below : List Frame} {meth : Method} {c : Code} {G : xG} (hC : xC p s m args c b_Gp_lowestWith R_Gp 9 G) (hr : meth.sig.returnType = (some .int)) (hlk : meth.locks = false) {g1 : Nat} (hg1 : g1 < 4) {x3 : Int32} {x5 : Int32} {post : Int32 → xM → Prop} {k138 : Int32 → Int32 → Int32 → xM → Prop} (hk138 : ∀ (x6 : Int32) (x7 : Int32) (x8 : Int32) (M : xM) (H : Heap) (locs : List Loc) (ls : Array Slot), k138 x6 x7 x8 M → xRp G M H → va_S (xA G) s.heap H locs → lv_has ls 9 [(0, .ref (G.1 8 16)), (1, .ref (G.1 g1 0)), (3, .int x3), (5, .int x5), (6, .int x6), (7, .int x7), (8, .int x8)] → W p l e rm_Gp_lowestWith s m args below meth c H locs 0 0 (MQ below (xPi G post) args s 0 0 (xA G)) (F0 m 138 ls [])) : ∀ (n : Nat) (x6 : Int32) (x7 : Int32) (x8 : Int32) (M : xM) (H : Heap) (locs : List Loc) (ls : Array Slot), xw_Gp_lowestWith_87 g1 x3 x5 post k138 n x6 x7 x8 M → xRp G M H → va_S (xA G) s.heap H locs → lv_has ls 9 [(0, .ref (G.1 8 16)), (1, .ref (G.1 g1 0)), (3, .int x3), (5, .int x5), (6, .int x6), (7, .int x7), (8, .int x8)] → W p l e rm_Gp_lowestWith s m args below meth c H locs 0 0 (MQ below (xPi G post) args s 0 0 (xA G)) (F0 m 87 ls []) := by
  have hx := hC.1
  have hb := hC.2.1
  intro n
  induction n with
  | zero => intro x6 x7 x8 M H locs ls; exact fun h => h.elim
  | succ n ih =>
    intro x6 x7 x8 M H locs ls h hR hS hl
    refine lv_iload (pc := 87) hx hb xd_Gp_lowestWith_87 (lv_at hl 6 rfl) ?_
    refine lv_iload (pc := 89) hx hb xd_Gp_lowestWith_89 (lv_at hl 3 rfl) ?_
    refine lv_icmp_ge (pc := 91) (tgt := 138) hx hb xd_Gp_lowestWith_91 (by decide) (fun hq => ?_) (fun hq => ?_)
    · have h := h.1 hq
      exact hk138 x6 x7 x8 M H locs ls h hR hS (lv_sub hl [0, 1, 2, 3, 4, 5, 6] rfl)
    · have h := h.2 hq
      refine lv_iload (pc := 94) hx hb xd_Gp_lowestWith_94 (lv_at hl 6 rfl) ?_
      refine lv_iload (pc := 96) hx hb xd_Gp_lowestWith_96 (lv_at hl 4 rfl) ?_
      refine lv_icmp_ge (pc := 98) (tgt := 138) hx hb xd_Gp_lowestWith_98 (by decide) (fun hq => ?_) (fun hq => ?_)
      · have h := h.1 hq
        exact hk138 x6 x7 x8 M H locs ls h hR hS (lv_sub hl [0, 1, 2, 3, 4, 5, 6] rfl)
      · have h := h.2 hq
        refine lv_iload (pc := 101) hx hb xd_Gp_lowestWith_101 (lv_at hl 5 rfl) ?_
        refine lv_aload_n (pc := 103) hx hb xd_Gp_lowestWith_103 rfl (lv_at hl 0 rfl) ?_
        refine xr_get (pc := 104) (v := .ref (G.1 8 19)) hC hR xo_C16 xf_Gp_19 rfl xd_Gp_lowestWith_104 ?_
        refine lv_iload (pc := 107) hx hb xd_Gp_lowestWith_107 (lv_at hl 6 rfl) ?_
        obtain ⟨hq, h⟩ := h
        refine xr_iald (pc := 109) hC hR xo_C19 hq xd_Gp_lowestWith_109 ?_
        refine xr_min (pc := 110) hC xk_Gp_47 hl.1 (Nat.le_of_ble_eq_true rfl) (Nat.le_of_ble_eq_true rfl) xd_Gp_lowestWith_110 ?_
        refine lv_istore (pc := 113) (lv' := [(7, .int (if (M 8 19 x8.toNatClampNeg) < x7 then (M 8 19 x8.toNatClampNeg) else x7)), (0, .ref (G.1 8 16)), (1, .ref (G.1 g1 0)), (3, .int x3), (5, .int x5), (6, .int x6), (8, .int x8)]) hx hb xd_Gp_lowestWith_113 hl (by decide) rfl (fun ls hl => ?_)
        refine lv_aload_n (pc := 115) hx hb xd_Gp_lowestWith_115 rfl (lv_at hl 1 rfl) ?_
        refine lv_aload_n (pc := 116) hx hb xd_Gp_lowestWith_116 rfl (lv_at hl 2 rfl) ?_
        refine lv_aload_n (pc := 117) hx hb xd_Gp_lowestWith_117 rfl (lv_at hl 1 rfl) ?_
        refine xr_get (pc := 118) (v := .ref (G.1 8 19)) hC hR xo_C16 xf_Gp_19 rfl xd_Gp_lowestWith_118 ?_
        refine lv_iload (pc := 121) hx hb xd_Gp_lowestWith_121 (lv_at hl 6 rfl) ?_
        obtain ⟨hq, h⟩ := h
        refine xr_iald (pc := 123) hC hR xo_C19 hq xd_Gp_lowestWith_123 ?_
        refine lv_iload_n (pc := 124) hx hb xd_Gp_lowestWith_124 rfl (lv_at hl 3 rfl) ?_
        refine lv_iload (pc := 125) hx hb xd_Gp_lowestWith_125 (lv_at hl 5 rfl) ?_
        refine xr_callV (pc := 127) (As := [.ref (G.1 g1 0), .int (M 8 19 x8.toNatClampNeg), .int x3, .int x6]) (rest := []) hC hR hS (xc_Gp_reachFrom l G hg1 h) xo_C16 xv_Gp_52 ⟨rfl, rfl, Nat.le_of_ble_eq_true rfl, Nat.le_of_ble_eq_true rfl⟩ rfl hl.1 rfl (Nat.le_of_ble_eq_true rfl) xd_Gp_lowestWith_127 (fun r6 M5 H locs h hR hS => ?_)
        refine lv_istore (pc := 130) (lv' := [(6, .int r6), (7, .int (if (M 8 19 x8.toNatClampNeg) < x7 then (M 8 19 x8.toNatClampNeg) else x7)), (0, .ref (G.1 8 16)), (1, .ref (G.1 g1 0)), (3, .int x3), (5, .int x5), (8, .int x8)]) hx hb xd_Gp_lowestWith_130 hl (by decide) rfl (fun ls hl => ?_)
        refine lv_iinc (pc := 132) (v := (x8 + (1 : Int32))) (lv' := [(8, .int (x8 + (1 : Int32))), (6, .int r6), (7, .int (if (M 8 19 x8.toNatClampNeg) < x7 then (M 8 19 x8.toNatClampNeg) else x7)), (0, .ref (G.1 8 16)), (1, .ref (G.1 g1 0)), (3, .int x3), (5, .int x5)]) hx hb xd_Gp_lowestWith_132 hl (k := 6) rfl rfl (by decide) rfl (fun ls hl => ?_)
        refine lv_goto (pc := 135) (tgt := 87) hx hb xd_Gp_lowestWith_135 (by decide) ?_
        exact ih r6 (if (M 8 19 x8.toNatClampNeg) < x7 then (M 8 19 x8.toNatClampNeg) else x7) (x8 + (1 : Int32)) M5 H locs ls h hR hS (lv_sub hl [3, 4, 5, 6, 1, 2, 0] rfl)
set_option maxHeartbeats 4000000 in
set_option maxRecDepth 100000 in
theorem xc_Gp_lowestWith (l : Launch) (G : xG) {g1 : Nat} {a2 : Int32} {a3 : Int32} {a4 : Int32} (hg1 : g1 < 4) {M : xM} {post : Int32 → xM → Prop} (h : xw_Gp_lowestWith g1 a2 a3 a4 M post) : Met l y_Gp_lowestWith (Cond.code y_Gp_lowestWith b_Gp_lowestWith 9 (some .int) :: xTG) rm_Gp_lowestWith (xPre G M [.ref (G.1 8 16), .ref (G.1 g1 0), .int a2, .int a3, .int a4]) (xPi G post) 0 0 (xA G) := by
  refine xMet (own := R_Gp) [.ref (G.1 8 16), .ref (G.1 g1 0), .int a2, .int a3, .int a4] (Or.inl (by decide)) rfl (Nat.le_of_ble_eq_true rfl) (fun p e s m args below meth c ls hC hr hlk hR hS hl => ?_)
  have hx := hC.1
  have hb := hC.2.1
  have hl : lv_has ls 9 [(0, .ref (G.1 8 16)), (1, .ref (G.1 g1 0)), (2, .int a2), (3, .int a3), (4, .int a4)] := hl
  obtain ⟨H, eH⟩ : ∃ H : Heap, H = s.heap := ⟨_, rfl⟩
  obtain ⟨locs, eL⟩ : ∃ locs : List Loc, locs = [] := ⟨_, rfl⟩
  rw [← eH] at hR
  replace hS : va_S (xA G) s.heap H locs := by rw [eH, eL]; exact hS
  suffices hh : W p l e rm_Gp_lowestWith s m args below meth c H locs 0 0 (MQ below (xPi G post) args s 0 0 (xA G)) (F0 m 0 ls []) from by rw [eH, eL] at hh; exact hh
  unfold xw_Gp_lowestWith at h
  refine lv_aload_n (pc := 0) hx hb xd_Gp_lowestWith_0 rfl (lv_at hl 1 rfl) ?_
  refine xr_get (pc := 1) (v := .ref (G.1 g1 3)) hC hR (xo_K0 hg1) xf_Gp_22 rfl xd_Gp_lowestWith_1 ?_
  refine xr_get (pc := 4) (v := .int (M g1 3 0)) hC hR (xo_K3 hg1) xf_Gp_28 rfl xd_Gp_lowestWith_4 ?_
  refine lv_istore (pc := 7) (lv' := [(5, .int (M g1 3 0)), (0, .ref (G.1 8 16)), (1, .ref (G.1 g1 0)), (2, .int a2), (3, .int a3), (4, .int a4)]) hx hb xd_Gp_lowestWith_7 hl (by decide) rfl (fun ls hl => ?_)
  refine lv_iconst (pc := 9) (v := (0 : Int32)) hx hb xd_Gp_lowestWith_9 (by decide) ?_
  refine lv_istore (pc := 10) (lv' := [(6, .int (0 : Int32)), (5, .int (M g1 3 0)), (0, .ref (G.1 8 16)), (1, .ref (G.1 g1 0)), (2, .int a2), (3, .int a3), (4, .int a4)]) hx hb xd_Gp_lowestWith_10 hl (by decide) rfl (fun ls hl => ?_)
  obtain ⟨n, h⟩ := h
  refine xt_Gp_lowestWith_12 hC hr hlk hg1 (fun y3 M4 H locs ls h hR hS hl => ?_) n (0 : Int32) M H locs ls h hR hS (lv_sub hl [2, 3, 4, 5, 6, 1, 0] rfl)
  refine lv_aload_n (pc := 69) hx hb xd_Gp_lowestWith_69 rfl (lv_at hl 0 rfl) ?_
  refine xr_get (pc := 70) (v := .ref (G.1 8 19)) hC hR xo_C16 xf_Gp_19 rfl xd_Gp_lowestWith_70 ?_
  refine lv_iconst (pc := 73) (v := (0 : Int32)) hx hb xd_Gp_lowestWith_73 (by decide) ?_
  refine lv_iload (pc := 74) hx hb xd_Gp_lowestWith_74 (lv_at hl 4 rfl) ?_
  refine xr_iast (pc := 76) hC hR hS xo_C19 (by unfold vp_in; decide) xd_Gp_lowestWith_76 (fun H locs hR hS => ?_)
  refine lv_iconst (pc := 77) (v := (1 : Int32)) hx hb xd_Gp_lowestWith_77 (by decide) ?_
  refine lv_istore (pc := 78) (lv' := [(6, .int (1 : Int32)), (0, .ref (G.1 8 16)), (1, .ref (G.1 g1 0)), (2, .int a2), (3, .int a3), (4, .int a4), (5, .int (M g1 3 0))]) hx hb xd_Gp_lowestWith_78 hl (by decide) rfl (fun ls hl => ?_)
  refine lv_iload (pc := 80) hx hb xd_Gp_lowestWith_80 (lv_at hl 5 rfl) ?_
  refine lv_istore (pc := 82) (lv' := [(7, .int a4), (6, .int (1 : Int32)), (0, .ref (G.1 8 16)), (1, .ref (G.1 g1 0)), (2, .int a2), (3, .int a3), (4, .int a4), (5, .int (M g1 3 0))]) hx hb xd_Gp_lowestWith_82 hl (by decide) rfl (fun ls hl => ?_)
  refine lv_iconst (pc := 84) (v := (0 : Int32)) hx hb xd_Gp_lowestWith_84 (by decide) ?_
  refine lv_istore (pc := 85) (lv' := [(8, .int (0 : Int32)), (7, .int a4), (6, .int (1 : Int32)), (0, .ref (G.1 8 16)), (1, .ref (G.1 g1 0)), (2, .int a2), (3, .int a3), (4, .int a4), (5, .int (M g1 3 0))]) hx hb xd_Gp_lowestWith_85 hl (by decide) rfl (fun ls hl => ?_)
  obtain ⟨n, h⟩ := h
  refine xt_Gp_lowestWith_87 hC hr hlk hg1 (fun y7 y8 y9 M10 H locs ls h hR hS hl => ?_) n (1 : Int32) a4 (0 : Int32) (us M4 8 19 (0 : Int32).toNatClampNeg a4) H locs ls h hR hS (lv_sub hl [3, 4, 6, 8, 2, 1, 0] rfl)
  refine lv_iload (pc := 138) hx hb xd_Gp_lowestWith_138 (lv_at hl 5 rfl) ?_
  exact xr_iret hC hr hlk hR hS h xd_Gp_lowestWith_140
