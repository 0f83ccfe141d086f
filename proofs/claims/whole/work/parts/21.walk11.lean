/-! ColoursApartModel.sights(I)I -/
theorem xd_Mo_sights_0 : decode b_Mo_sights 0 = .ok (.iload_n 1, 1) := by decide +kernel
theorem xd_Mo_sights_1 : decode b_Mo_sights 1 = .ok (.iconst 1, 1) := by decide +kernel
theorem xd_Mo_sights_2 : decode b_Mo_sights 2 = .ok (.bipush 63, 2) := by decide +kernel
theorem xd_Mo_sights_4 : decode b_Mo_sights 4 = .ok (.invokestatic 85, 3) := by decide +kernel
theorem xd_Mo_sights_7 : decode b_Mo_sights 7 = .ok (.ifCond .ne 9, 3) := by decide +kernel
theorem xd_Mo_sights_10 : decode b_Mo_sights 10 = .ok (.aload_n 0, 1) := by decide +kernel
theorem xd_Mo_sights_11 : decode b_Mo_sights 11 = .ok (.iconst (-1), 1) := by decide +kernel
theorem xd_Mo_sights_12 : decode b_Mo_sights 12 = .ok (.invokevirtual 89, 3) := by decide +kernel
theorem xd_Mo_sights_15 : decode b_Mo_sights 15 = .ok (.ireturn, 1) := by decide +kernel
theorem xd_Mo_sights_16 : decode b_Mo_sights 16 = .ok (.aload_n 0, 1) := by decide +kernel
theorem xd_Mo_sights_17 : decode b_Mo_sights 17 = .ok (.getfield 26, 3) := by decide +kernel
theorem xd_Mo_sights_20 : decode b_Mo_sights 20 = .ok (.istore_n 2, 1) := by decide +kernel
theorem xd_Mo_sights_21 : decode b_Mo_sights 21 = .ok (.aload_n 0, 1) := by decide +kernel
theorem xd_Mo_sights_22 : decode b_Mo_sights 22 = .ok (.iload_n 1, 1) := by decide +kernel
theorem xd_Mo_sights_23 : decode b_Mo_sights 23 = .ok (.putfield 26, 3) := by decide +kernel
theorem xd_Mo_sights_26 : decode b_Mo_sights 26 = .ok (.aload_n 0, 1) := by decide +kernel
theorem xd_Mo_sights_27 : decode b_Mo_sights 27 = .ok (.iload_n 2, 1) := by decide +kernel
theorem xd_Mo_sights_28 : decode b_Mo_sights 28 = .ok (.invokevirtual 89, 3) := by decide +kernel
theorem xd_Mo_sights_31 : decode b_Mo_sights 31 = .ok (.ireturn, 1) := by decide +kernel
abbrev rm_Mo_sights : Room := { frames := 1, cells := 0, slots := 0, locals := 22 }
def xw_Mo_sights (a1 : Int32) (M : xM) (post : Int32 → xM → Prop) : Prop :=
  xw_Mo_in a1 (1 : Int32) (63 : Int32) M (fun (r2 : Int32) (M1 : xM) => ((¬ r2 = 0) → (xw_Mo_ends (M1 9 0 6) (us M1 9 0 6 a1) (fun (r4 : Int32) (M3 : xM) => post r4 M3))) ∧ ((r2 = 0) → (xw_Mo_ends (-1 : Int32) M1 (fun (r6 : Int32) (M5 : xM) => post r6 M5))))
set_option maxHeartbeats 4000000 in
set_option maxRecDepth 100000 in
theorem xc_Mo_sights (l : Launch) (G : xG) {a1 : Int32}  {M : xM} {post : Int32 → xM → Prop} (h : xw_Mo_sights a1 M post) : Met l y_Mo_sights (Cond.code y_Mo_sights b_Mo_sights 3 (some .int) :: xTG) rm_Mo_sights (xPre G M [.ref (G.1 9 0), .int a1]) (xPi G post) 0 0 (xA G) := by
  refine xMet (own := R_Mo) [.ref (G.1 9 0), .int a1] (Or.inl (by decide)) rfl (Nat.le_of_ble_eq_true rfl) (fun p e s m args below meth c ls hC hr hlk hR hS hl => ?_)
  have hx := hC.1
  have hb := hC.2.1
  have hl : lv_has ls 3 [(0, .ref (G.1 9 0)), (1, .int a1)] := hl
  obtain ⟨H, eH⟩ : ∃ H : Heap, H = s.heap := ⟨_, rfl⟩
  obtain ⟨locs, eL⟩ : ∃ locs : List Loc, locs = [] := ⟨_, rfl⟩
  rw [← eH] at hR
  replace hS : va_S (xA G) s.heap H locs := by rw [eH, eL]; exact hS
  suffices hh : W p l e rm_Mo_sights s m args below meth c H locs 0 0 (MQ below (xPi G post) args s 0 0 (xA G)) (F0 m 0 ls []) from by rw [eH, eL] at hh; exact hh
  unfold xw_Mo_sights at h
  refine lv_iload_n (pc := 0) hx hb xd_Mo_sights_0 rfl (lv_at hl 1 rfl) ?_
  refine lv_iconst (pc := 1) (v := (1 : Int32)) hx hb xd_Mo_sights_1 (by decide) ?_
  refine lv_bipush (pc := 2) (v := (63 : Int32)) hx hb xd_Mo_sights_2 (by decide) ?_
  refine xr_callS (pc := 4) (As := [.int a1, .int (1 : Int32), .int (63 : Int32)]) (rest := []) hC hR hS (xc_Mo_in l G  h) xv_Mo_85 ⟨rfl, rfl, Nat.le_of_ble_eq_true rfl, Nat.le_of_ble_eq_true rfl⟩ rfl hl.1 rfl (Nat.le_of_ble_eq_true rfl) xd_Mo_sights_4 (fun r2 M1 H locs h hR hS => ?_)
  refine lv_if_ne (pc := 7) (tgt := 16) hx hb xd_Mo_sights_7 (by decide) (fun hq => ?_) (fun hq => ?_)
  · have h := h.1 hq
    refine lv_aload_n (pc := 16) hx hb xd_Mo_sights_16 rfl (lv_at hl 0 rfl) ?_
    refine xr_get (pc := 17) (v := .int (M1 9 0 6)) hC hR xo_M0 xf_Mo_26 rfl xd_Mo_sights_17 ?_
    refine lv_istore_n (pc := 20) (lv' := [(2, .int (M1 9 0 6)), (0, .ref (G.1 9 0)), (1, .int a1)]) hx hb xd_Mo_sights_20 rfl hl (by decide) rfl (fun ls hl => ?_)
    refine lv_aload_n (pc := 21) hx hb xd_Mo_sights_21 rfl (lv_at hl 1 rfl) ?_
    refine lv_iload_n (pc := 22) hx hb xd_Mo_sights_22 rfl (lv_at hl 2 rfl) ?_
    refine xr_put (pc := 23) hC hR hS xo_M0 xf_Mo_26 xp_10_6 rfl rfl rfl xd_Mo_sights_23 (fun H locs hR hS => ?_)
    refine lv_aload_n (pc := 26) hx hb xd_Mo_sights_26 rfl (lv_at hl 1 rfl) ?_
    refine lv_iload_n (pc := 27) hx hb xd_Mo_sights_27 rfl (lv_at hl 0 rfl) ?_
    refine xr_callV (pc := 28) (As := [.int (M1 9 0 6)]) (rest := []) hC hR hS (xc_Mo_ends l G  h) xo_M0 xv_Mo_89 ⟨rfl, rfl, Nat.le_of_ble_eq_true rfl, Nat.le_of_ble_eq_true rfl⟩ rfl hl.1 rfl (Nat.le_of_ble_eq_true rfl) xd_Mo_sights_28 (fun r4 M3 H locs h hR hS => ?_)
    exact xr_iret hC hr hlk hR hS h xd_Mo_sights_31
  · have h := h.2 hq
    refine lv_aload_n (pc := 10) hx hb xd_Mo_sights_10 rfl (lv_at hl 0 rfl) ?_
    refine lv_iconst (pc := 11) (v := (-1 : Int32)) hx hb xd_Mo_sights_11 (by decide) ?_
    refine xr_callV (pc := 12) (As := [.int (-1 : Int32)]) (rest := []) hC hR hS (xc_Mo_ends l G  h) xo_M0 xv_Mo_89 ⟨rfl, rfl, Nat.le_of_ble_eq_true rfl, Nat.le_of_ble_eq_true rfl⟩ rfl hl.1 rfl (Nat.le_of_ble_eq_true rfl) xd_Mo_sights_12 (fun r6 M5 H locs h hR hS => ?_)
    exact xr_iret hC hr hlk hR hS h xd_Mo_sights_15

/-! ColoursApartModel.grid(I)I -/
theorem xd_Mo_grid_0 : decode b_Mo_grid 0 = .ok (.iload_n 1, 1) := by decide +kernel
theorem xd_Mo_grid_1 : decode b_Mo_grid 1 = .ok (.iconst 2, 1) := by decide +kernel
theorem xd_Mo_grid_2 : decode b_Mo_grid 2 = .ok (.iconst 4, 1) := by decide +kernel
theorem xd_Mo_grid_3 : decode b_Mo_grid 3 = .ok (.invokestatic 85, 3) := by decide +kernel
theorem xd_Mo_grid_6 : decode b_Mo_grid 6 = .ok (.ifCond .ne 9, 3) := by decide +kernel
theorem xd_Mo_grid_9 : decode b_Mo_grid 9 = .ok (.aload_n 0, 1) := by decide +kernel
theorem xd_Mo_grid_10 : decode b_Mo_grid 10 = .ok (.iconst (-1), 1) := by decide +kernel
theorem xd_Mo_grid_11 : decode b_Mo_grid 11 = .ok (.invokevirtual 89, 3) := by decide +kernel
theorem xd_Mo_grid_14 : decode b_Mo_grid 14 = .ok (.ireturn, 1) := by decide +kernel
theorem xd_Mo_grid_15 : decode b_Mo_grid 15 = .ok (.aload_n 0, 1) := by decide +kernel
theorem xd_Mo_grid_16 : decode b_Mo_grid 16 = .ok (.getfield 29, 3) := by decide +kernel
theorem xd_Mo_grid_19 : decode b_Mo_grid 19 = .ok (.istore_n 2, 1) := by decide +kernel
theorem xd_Mo_grid_20 : decode b_Mo_grid 20 = .ok (.aload_n 0, 1) := by decide +kernel
theorem xd_Mo_grid_21 : decode b_Mo_grid 21 = .ok (.iload_n 1, 1) := by decide +kernel
theorem xd_Mo_grid_22 : decode b_Mo_grid 22 = .ok (.putfield 29, 3) := by decide +kernel
theorem xd_Mo_grid_25 : decode b_Mo_grid 25 = .ok (.aload_n 0, 1) := by decide +kernel
theorem xd_Mo_grid_26 : decode b_Mo_grid 26 = .ok (.iload_n 2, 1) := by decide +kernel
theorem xd_Mo_grid_27 : decode b_Mo_grid 27 = .ok (.invokevirtual 89, 3) := by decide +kernel
theorem xd_Mo_grid_30 : decode b_Mo_grid 30 = .ok (.ireturn, 1) := by decide +kernel
abbrev rm_Mo_grid : Room := { frames := 1, cells := 0, slots := 0, locals := 22 }
def xw_Mo_grid (a1 : Int32) (M : xM) (post : Int32 → xM → Prop) : Prop :=
  xw_Mo_in a1 (2 : Int32) (4 : Int32) M (fun (r2 : Int32) (M1 : xM) => ((¬ r2 = 0) → (xw_Mo_ends (M1 9 0 7) (us M1 9 0 7 a1) (fun (r4 : Int32) (M3 : xM) => post r4 M3))) ∧ ((r2 = 0) → (xw_Mo_ends (-1 : Int32) M1 (fun (r6 : Int32) (M5 : xM) => post r6 M5))))
set_option maxHeartbeats 4000000 in
set_option maxRecDepth 100000 in
theorem xc_Mo_grid (l : Launch) (G : xG) {a1 : Int32}  {M : xM} {post : Int32 → xM → Prop} (h : xw_Mo_grid a1 M post) : Met l y_Mo_grid (Cond.code y_Mo_grid b_Mo_grid 3 (some .int) :: xTG) rm_Mo_grid (xPre G M [.ref (G.1 9 0), .int a1]) (xPi G post) 0 0 (xA G) := by
  refine xMet (own := R_Mo) [.ref (G.1 9 0), .int a1] (Or.inl (by decide)) rfl (Nat.le_of_ble_eq_true rfl) (fun p e s m args below meth c ls hC hr hlk hR hS hl => ?_)
  have hx := hC.1
  have hb := hC.2.1
  have hl : lv_has ls 3 [(0, .ref (G.1 9 0)), (1, .int a1)] := hl
  obtain ⟨H, eH⟩ : ∃ H : Heap, H = s.heap := ⟨_, rfl⟩
  obtain ⟨locs, eL⟩ : ∃ locs : List Loc, locs = [] := ⟨_, rfl⟩
  rw [← eH] at hR
  replace hS : va_S (xA G) s.heap H locs := by rw [eH, eL]; exact hS
  suffices hh : W p l e rm_Mo_grid s m args below meth c H locs 0 0 (MQ below (xPi G post) args s 0 0 (xA G)) (F0 m 0 ls []) from by rw [eH, eL] at hh; exact hh
  unfold xw_Mo_grid at h
  refine lv_iload_n (pc := 0) hx hb xd_Mo_grid_0 rfl (lv_at hl 1 rfl) ?_
  refine lv_iconst (pc := 1) (v := (2 : Int32)) hx hb xd_Mo_grid_1 (by decide) ?_
  refine lv_iconst (pc := 2) (v := (4 : Int32)) hx hb xd_Mo_grid_2 (by decide) ?_
  refine xr_callS (pc := 3) (As := [.int a1, .int (2 : Int32), .int (4 : Int32)]) (rest := []) hC hR hS (xc_Mo_in l G  h) xv_Mo_85 ⟨rfl, rfl, Nat.le_of_ble_eq_true rfl, Nat.le_of_ble_eq_true rfl⟩ rfl hl.1 rfl (Nat.le_of_ble_eq_true rfl) xd_Mo_grid_3 (fun r2 M1 H locs h hR hS => ?_)
  refine lv_if_ne (pc := 6) (tgt := 15) hx hb xd_Mo_grid_6 (by decide) (fun hq => ?_) (fun hq => ?_)
  · have h := h.1 hq
    refine lv_aload_n (pc := 15) hx hb xd_Mo_grid_15 rfl (lv_at hl 0 rfl) ?_
    refine xr_get (pc := 16) (v := .int (M1 9 0 7)) hC hR xo_M0 xf_Mo_29 rfl xd_Mo_grid_16 ?_
    refine lv_istore_n (pc := 19) (lv' := [(2, .int (M1 9 0 7)), (0, .ref (G.1 9 0)), (1, .int a1)]) hx hb xd_Mo_grid_19 rfl hl (by decide) rfl (fun ls hl => ?_)
    refine lv_aload_n (pc := 20) hx hb xd_Mo_grid_20 rfl (lv_at hl 1 rfl) ?_
    refine lv_iload_n (pc := 21) hx hb xd_Mo_grid_21 rfl (lv_at hl 2 rfl) ?_
    refine xr_put (pc := 22) hC hR hS xo_M0 xf_Mo_29 xp_10_7 rfl rfl rfl xd_Mo_grid_22 (fun H locs hR hS => ?_)
    refine lv_aload_n (pc := 25) hx hb xd_Mo_grid_25 rfl (lv_at hl 1 rfl) ?_
    refine lv_iload_n (pc := 26) hx hb xd_Mo_grid_26 rfl (lv_at hl 0 rfl) ?_
    refine xr_callV (pc := 27) (As := [.int (M1 9 0 7)]) (rest := []) hC hR hS (xc_Mo_ends l G  h) xo_M0 xv_Mo_89 ⟨rfl, rfl, Nat.le_of_ble_eq_true rfl, Nat.le_of_ble_eq_true rfl⟩ rfl hl.1 rfl (Nat.le_of_ble_eq_true rfl) xd_Mo_grid_27 (fun r4 M3 H locs h hR hS => ?_)
    exact xr_iret hC hr hlk hR hS h xd_Mo_grid_30
  · have h := h.2 hq
    refine lv_aload_n (pc := 9) hx hb xd_Mo_grid_9 rfl (lv_at hl 0 rfl) ?_
    refine lv_iconst (pc := 10) (v := (-1 : Int32)) hx hb xd_Mo_grid_10 (by decide) ?_
    refine xr_callV (pc := 11) (As := [.int (-1 : Int32)]) (rest := []) hC hR hS (xc_Mo_ends l G  h) xo_M0 xv_Mo_89 ⟨rfl, rfl, Nat.le_of_ble_eq_true rfl, Nat.le_of_ble_eq_true rfl⟩ rfl hl.1 rfl (Nat.le_of_ble_eq_true rfl) xd_Mo_grid_11 (fun r6 M5 H locs h hR hS => ?_)
    exact xr_iret hC hr hlk hR hS h xd_Mo_grid_14

/-! ColoursApartModel.isColour(I)Z -/
theorem xd_Mo_isColour_0 : decode b_Mo_isColour 0 = .ok (.iload_n 0, 1) := by decide +kernel
theorem xd_Mo_isColour_1 : decode b_Mo_isColour 1 = .ok (.iconst 0, 1) := by decide +kernel
theorem xd_Mo_isColour_2 : decode b_Mo_isColour 2 = .ok (.ldc 48, 2) := by decide +kernel
theorem xd_Mo_isColour_4 : decode b_Mo_isColour 4 = .ok (.invokestatic 85, 3) := by decide +kernel
theorem xd_Mo_isColour_7 : decode b_Mo_isColour 7 = .ok (.ireturn, 1) := by decide +kernel
abbrev rm_Mo_isColour : Room := { frames := 1, cells := 0, slots := 0, locals := 22 }
def xw_Mo_isColour (a0 : Int32) (M : xM) (post : Int32 → xM → Prop) : Prop :=
  xw_Mo_in a0 (0 : Int32) (16777215 : Int32) M (fun (r2 : Int32) (M1 : xM) => (r2 &&& 1 = r2) ∧ (post r2 M1))
set_option maxHeartbeats 4000000 in
set_option maxRecDepth 100000 in
theorem xc_Mo_isColour (l : Launch) (G : xG) {a0 : Int32}  {M : xM} {post : Int32 → xM → Prop} (h : xw_Mo_isColour a0 M post) : Met l y_Mo_isColour (Cond.code y_Mo_isColour b_Mo_isColour 1 (some .boolean) :: xTG) rm_Mo_isColour (xPre G M [.int a0]) (xPi G post) 0 0 (xA G) := by
  refine xMet (own := R_Mo) [.int a0] (Or.inl (by decide)) rfl (Nat.le_of_ble_eq_true rfl) (fun p e s m args below meth c ls hC hr hlk hR hS hl => ?_)
  have hx := hC.1
  have hb := hC.2.1
  have hl : lv_has ls 1 [(0, .int a0)] := hl
  obtain ⟨H, eH⟩ : ∃ H : Heap, H = s.heap := ⟨_, rfl⟩
  obtain ⟨locs, eL⟩ : ∃ locs : List Loc, locs = [] := ⟨_, rfl⟩
  rw [← eH] at hR
  replace hS : va_S (xA G) s.heap H locs := by rw [eH, eL]; exact hS
  suffices hh : W p l e rm_Mo_isColour s m args below meth c H locs 0 0 (MQ below (xPi G post) args s 0 0 (xA G)) (F0 m 0 ls []) from by rw [eH, eL] at hh; exact hh
  unfold xw_Mo_isColour at h
  refine lv_iload_n (pc := 0) hx hb xd_Mo_isColour_0 rfl (lv_at hl 0 rfl) ?_
  refine lv_iconst (pc := 1) (v := (0 : Int32)) hx hb xd_Mo_isColour_1 (by decide) ?_
  refine lv_ldc (pc := 2) (v := (16777215 : Int32)) hx hb hC.2.2.2.1 (hC.2.2.2.2.1 _ xk_Mo_48) xd_Mo_isColour_2 ?_
  refine xr_callS (pc := 4) (As := [.int a0, .int (0 : Int32), .int (16777215 : Int32)]) (rest := []) hC hR hS (xc_Mo_in l G  h) xv_Mo_85 ⟨rfl, rfl, Nat.le_of_ble_eq_true rfl, Nat.le_of_ble_eq_true rfl⟩ rfl hl.1 rfl (Nat.le_of_ble_eq_true rfl) xd_Mo_isColour_4 (fun r2 M1 H locs h hR hS => ?_)
  exact xr_zret hC hr hlk hR hS h.1 h.2 xd_Mo_isColour_7

/-! ColoursApartModel.isSight(I)Z -/
theorem xd_Mo_isSight_0 : decode b_Mo_isSight 0 = .ok (.iload_n 0, 1) := by decide +kernel
theorem xd_Mo_isSight_1 : decode b_Mo_isSight 1 = .ok (.iconst 0, 1) := by decide +kernel
theorem xd_Mo_isSight_2 : decode b_Mo_isSight 2 = .ok (.iconst 5, 1) := by decide +kernel
theorem xd_Mo_isSight_3 : decode b_Mo_isSight 3 = .ok (.invokestatic 85, 3) := by decide +kernel
theorem xd_Mo_isSight_6 : decode b_Mo_isSight 6 = .ok (.ireturn, 1) := by decide +kernel
abbrev rm_Mo_isSight : Room := { frames := 1, cells := 0, slots := 0, locals := 22 }
def xw_Mo_isSight (a0 : Int32) (M : xM) (post : Int32 → xM → Prop) : Prop :=
  xw_Mo_in a0 (0 : Int32) (5 : Int32) M (fun (r2 : Int32) (M1 : xM) => (r2 &&& 1 = r2) ∧ (post r2 M1))
set_option maxHeartbeats 4000000 in
set_option maxRecDepth 100000 in
theorem xc_Mo_isSight (l : Launch) (G : xG) {a0 : Int32}  {M : xM} {post : Int32 → xM → Prop} (h : xw_Mo_isSight a0 M post) : Met l y_Mo_isSight (Cond.code y_Mo_isSight b_Mo_isSight 1 (some .boolean) :: xTG) rm_Mo_isSight (xPre G M [.int a0]) (xPi G post) 0 0 (xA G) := by
  refine xMet (own := R_Mo) [.int a0] (Or.inl (by decide)) rfl (Nat.le_of_ble_eq_true rfl) (fun p e s m args below meth c ls hC hr hlk hR hS hl => ?_)
  have hx := hC.1
  have hb := hC.2.1
  have hl : lv_has ls 1 [(0, .int a0)] := hl
  obtain ⟨H, eH⟩ : ∃ H : Heap, H = s.heap := ⟨_, rfl⟩
  obtain ⟨locs, eL⟩ : ∃ locs : List Loc, locs = [] := ⟨_, rfl⟩
  rw [← eH] at hR
  replace hS : va_S (xA G) s.heap H locs := by rw [eH, eL]; exact hS
  suffices hh : W p l e rm_Mo_isSight s m args below meth c H locs 0 0 (MQ below (xPi G post) args s 0 0 (xA G)) (F0 m 0 ls []) from by rw [eH, eL] at hh; exact hh
  unfold xw_Mo_isSight at h
  refine lv_iload_n (pc := 0) hx hb xd_Mo_isSight_0 rfl (lv_at hl 0 rfl) ?_
  refine lv_iconst (pc := 1) (v := (0 : Int32)) hx hb xd_Mo_isSight_1 (by decide) ?_
  refine lv_iconst (pc := 2) (v := (5 : Int32)) hx hb xd_Mo_isSight_2 (by decide) ?_
  refine xr_callS (pc := 3) (As := [.int a0, .int (0 : Int32), .int (5 : Int32)]) (rest := []) hC hR hS (xc_Mo_in l G  h) xv_Mo_85 ⟨rfl, rfl, Nat.le_of_ble_eq_true rfl, Nat.le_of_ble_eq_true rfl⟩ rfl hl.1 rfl (Nat.le_of_ble_eq_true rfl) xd_Mo_isSight_3 (fun r2 M1 H locs h hR hS => ?_)
  exact xr_zret hC hr hlk hR hS h.1 h.2 xd_Mo_isSight_6

/-! ColoursApartModel.third(II)I -/
theorem xd_Mo_third_0 : decode b_Mo_third 0 = .ok (.iload_n 0, 1) := by decide +kernel
theorem xd_Mo_third_1 : decode b_Mo_third 1 = .ok (.bipush 16, 2) := by decide +kernel
theorem xd_Mo_third_3 : decode b_Mo_third 3 = .ok (.bipush 8, 2) := by decide +kernel
theorem xd_Mo_third_5 : decode b_Mo_third 5 = .ok (.iload_n 1, 1) := by decide +kernel
theorem xd_Mo_third_6 : decode b_Mo_third 6 = .ok (.imul, 1) := by decide +kernel
theorem xd_Mo_third_7 : decode b_Mo_third 7 = .ok (.isub, 1) := by decide +kernel
theorem xd_Mo_third_8 : decode b_Mo_third 8 = .ok (.ishr, 1) := by decide +kernel
theorem xd_Mo_third_9 : decode b_Mo_third 9 = .ok (.sipush 255, 3) := by decide +kernel
theorem xd_Mo_third_12 : decode b_Mo_third 12 = .ok (.iand, 1) := by decide +kernel
theorem xd_Mo_third_13 : decode b_Mo_third 13 = .ok (.ireturn, 1) := by decide +kernel
abbrev rm_Mo_third : Room := { frames := 0, cells := 0, slots := 0, locals := 0 }
def xw_Mo_third (a0 : Int32) (a1 : Int32) (M : xM) (post : Int32 → xM → Prop) : Prop :=
  post ((a0 >>> (((16 : Int32) - ((8 : Int32) * a1)) &&& 31)) &&& (255 : Int32)) M
set_option maxHeartbeats 4000000 in
set_option maxRecDepth 100000 in
theorem xc_Mo_third (l : Launch) (G : xG) {a0 : Int32} {a1 : Int32}  {M : xM} {post : Int32 → xM → Prop} (h : xw_Mo_third a0 a1 M post) : Met l y_Mo_third (Cond.code y_Mo_third b_Mo_third 2 (some .int) :: xTG) rm_Mo_third (xPre G M [.int a0, .int a1]) (xPi G post) 0 0 (xA G) := by
  refine xMet (own := R_Mo) [.int a0, .int a1] (Or.inl (by decide)) rfl (Nat.le_of_ble_eq_true rfl) (fun p e s m args below meth c ls hC hr hlk hR hS hl => ?_)
  have hx := hC.1
  have hb := hC.2.1
  have hl : lv_has ls 2 [(0, .int a0), (1, .int a1)] := hl
  obtain ⟨H, eH⟩ : ∃ H : Heap, H = s.heap := ⟨_, rfl⟩
  obtain ⟨locs, eL⟩ : ∃ locs : List Loc, locs = [] := ⟨_, rfl⟩
  rw [← eH] at hR
  replace hS : va_S (xA G) s.heap H locs := by rw [eH, eL]; exact hS
  suffices hh : W p l e rm_Mo_third s m args below meth c H locs 0 0 (MQ below (xPi G post) args s 0 0 (xA G)) (F0 m 0 ls []) from by rw [eH, eL] at hh; exact hh
  unfold xw_Mo_third at h
  refine lv_iload_n (pc := 0) hx hb xd_Mo_third_0 rfl (lv_at hl 0 rfl) ?_
  refine lv_bipush (pc := 1) (v := (16 : Int32)) hx hb xd_Mo_third_1 (by decide) ?_
  refine lv_bipush (pc := 3) (v := (8 : Int32)) hx hb xd_Mo_third_3 (by decide) ?_
  refine lv_iload_n (pc := 5) hx hb xd_Mo_third_5 rfl (lv_at hl 1 rfl) ?_
  refine lv_imul (pc := 6) hx hb xd_Mo_third_6 ?_
  refine lv_isub (pc := 7) hx hb xd_Mo_third_7 ?_
  refine lv_ishr (pc := 8) hx hb xd_Mo_third_8 ?_
  refine lv_sipush (pc := 9) (v := (255 : Int32)) hx hb xd_Mo_third_9 (by decide) ?_
  refine lv_iand (pc := 12) hx hb xd_Mo_third_12 ?_
  exact xr_iret hC hr hlk hR hS h xd_Mo_third_13

/-! ColoursApartModel.made(III)I -/
theorem xd_Mo_made_0 : decode b_Mo_made 0 = .ok (.iload_n 0, 1) := by decide +kernel
theorem xd_Mo_made_1 : decode b_Mo_made 1 = .ok (.bipush 16, 2) := by decide +kernel
theorem xd_Mo_made_3 : decode b_Mo_made 3 = .ok (.ishl, 1) := by decide +kernel
theorem xd_Mo_made_4 : decode b_Mo_made 4 = .ok (.iload_n 1, 1) := by decide +kernel
theorem xd_Mo_made_5 : decode b_Mo_made 5 = .ok (.bipush 8, 2) := by decide +kernel
theorem xd_Mo_made_7 : decode b_Mo_made 7 = .ok (.ishl, 1) := by decide +kernel
theorem xd_Mo_made_8 : decode b_Mo_made 8 = .ok (.ior, 1) := by decide +kernel
theorem xd_Mo_made_9 : decode b_Mo_made 9 = .ok (.iload_n 2, 1) := by decide +kernel
theorem xd_Mo_made_10 : decode b_Mo_made 10 = .ok (.ior, 1) := by decide +kernel
theorem xd_Mo_made_11 : decode b_Mo_made 11 = .ok (.ireturn, 1) := by decide +kernel
abbrev rm_Mo_made : Room := { frames := 0, cells := 0, slots := 0, locals := 0 }
def xw_Mo_made (a0 : Int32) (a1 : Int32) (a2 : Int32) (M : xM) (post : Int32 → xM → Prop) : Prop :=
  post (((a0 <<< ((16 : Int32) &&& 31)) ||| (a1 <<< ((8 : Int32) &&& 31))) ||| a2) M
set_option maxHeartbeats 4000000 in
set_option maxRecDepth 100000 in
theorem xc_Mo_made (l : Launch) (G : xG) {a0 : Int32} {a1 : Int32} {a2 : Int32}  {M : xM} {post : Int32 → xM → Prop} (h : xw_Mo_made a0 a1 a2 M post) : Met l y_Mo_made (Cond.code y_Mo_made b_Mo_made 3 (some .int) :: xTG) rm_Mo_made (xPre G M [.int a0, .int a1, .int a2]) (xPi G post) 0 0 (xA G) := by
  refine xMet (own := R_Mo) [.int a0, .int a1, .int a2] (Or.inl (by decide)) rfl (Nat.le_of_ble_eq_true rfl) (fun p e s m args below meth c ls hC hr hlk hR hS hl => ?_)
  have hx := hC.1
  have hb := hC.2.1
  have hl : lv_has ls 3 [(0, .int a0), (1, .int a1), (2, .int a2)] := hl
  obtain ⟨H, eH⟩ : ∃ H : Heap, H = s.heap := ⟨_, rfl⟩
  obtain ⟨locs, eL⟩ : ∃ locs : List Loc, locs = [] := ⟨_, rfl⟩
  rw [← eH] at hR
  replace hS : va_S (xA G) s.heap H locs := by rw [eH, eL]; exact hS
  suffices hh : W p l e rm_Mo_made s m args below meth c H locs 0 0 (MQ below (xPi G post) args s 0 0 (xA G)) (F0 m 0 ls []) from by rw [eH, eL] at hh; exact hh
  unfold xw_Mo_made at h
  refine lv_iload_n (pc := 0) hx hb xd_Mo_made_0 rfl (lv_at hl 0 rfl) ?_
  refine lv_bipush (pc := 1) (v := (16 : Int32)) hx hb xd_Mo_made_1 (by decide) ?_
  refine lv_ishl (pc := 3) hx hb xd_Mo_made_3 ?_
  refine lv_iload_n (pc := 4) hx hb xd_Mo_made_4 rfl (lv_at hl 1 rfl) ?_
  refine lv_bipush (pc := 5) (v := (8 : Int32)) hx hb xd_Mo_made_5 (by decide) ?_
  refine lv_ishl (pc := 7) hx hb xd_Mo_made_7 ?_
  refine lv_ior (pc := 8) hx hb xd_Mo_made_8 ?_
  refine lv_iload_n (pc := 9) hx hb xd_Mo_made_9 rfl (lv_at hl 2 rfl) ?_
  refine lv_ior (pc := 10) hx hb xd_Mo_made_10 ?_
  exact xr_iret hC hr hlk hR hS h xd_Mo_made_11

/-! ColoursApartModel.lightOf(I)I -/
theorem xd_Mo_lightOf_0 : decode b_Mo_lightOf 0 = .ok (.sipush 299, 3) := by decide +kernel
theorem xd_Mo_lightOf_3 : decode b_Mo_lightOf 3 = .ok (.iload_n 0, 1) := by decide +kernel
theorem xd_Mo_lightOf_4 : decode b_Mo_lightOf 4 = .ok (.iconst 0, 1) := by decide +kernel
theorem xd_Mo_lightOf_5 : decode b_Mo_lightOf 5 = .ok (.invokestatic 97, 3) := by decide +kernel
theorem xd_Mo_lightOf_8 : decode b_Mo_lightOf 8 = .ok (.imul, 1) := by decide +kernel
theorem xd_Mo_lightOf_9 : decode b_Mo_lightOf 9 = .ok (.sipush 587, 3) := by decide +kernel
theorem xd_Mo_lightOf_12 : decode b_Mo_lightOf 12 = .ok (.iload_n 0, 1) := by decide +kernel
theorem xd_Mo_lightOf_13 : decode b_Mo_lightOf 13 = .ok (.iconst 1, 1) := by decide +kernel
theorem xd_Mo_lightOf_14 : decode b_Mo_lightOf 14 = .ok (.invokestatic 97, 3) := by decide +kernel
theorem xd_Mo_lightOf_17 : decode b_Mo_lightOf 17 = .ok (.imul, 1) := by decide +kernel
theorem xd_Mo_lightOf_18 : decode b_Mo_lightOf 18 = .ok (.iadd, 1) := by decide +kernel
theorem xd_Mo_lightOf_19 : decode b_Mo_lightOf 19 = .ok (.bipush 114, 2) := by decide +kernel
theorem xd_Mo_lightOf_21 : decode b_Mo_lightOf 21 = .ok (.iload_n 0, 1) := by decide +kernel
theorem xd_Mo_lightOf_22 : decode b_Mo_lightOf 22 = .ok (.iconst 2, 1) := by decide +kernel
theorem xd_Mo_lightOf_23 : decode b_Mo_lightOf 23 = .ok (.invokestatic 97, 3) := by decide +kernel
theorem xd_Mo_lightOf_26 : decode b_Mo_lightOf 26 = .ok (.imul, 1) := by decide +kernel
theorem xd_Mo_lightOf_27 : decode b_Mo_lightOf 27 = .ok (.iadd, 1) := by decide +kernel
theorem xd_Mo_lightOf_28 : decode b_Mo_lightOf 28 = .ok (.sipush 1000, 3) := by decide +kernel
theorem xd_Mo_lightOf_31 : decode b_Mo_lightOf 31 = .ok (.idiv, 1) := by decide +kernel
theorem xd_Mo_lightOf_32 : decode b_Mo_lightOf 32 = .ok (.ireturn, 1) := by decide +kernel
abbrev rm_Mo_lightOf : Room := { frames := 1, cells := 0, slots := 0, locals := 21 }
def xw_Mo_lightOf (a0 : Int32) (M : xM) (post : Int32 → xM → Prop) : Prop :=
  xw_Mo_third a0 (0 : Int32) M (fun (r2 : Int32) (M1 : xM) => xw_Mo_third a0 (1 : Int32) M1 (fun (r4 : Int32) (M3 : xM) => xw_Mo_third a0 (2 : Int32) M3 (fun (r6 : Int32) (M5 : xM) => post (((((299 : Int32) * r2) + ((587 : Int32) * r4)) + ((114 : Int32) * r6)) / (1000 : Int32)) M5)))
set_option maxHeartbeats 4000000 in
set_option maxRecDepth 100000 in
theorem xc_Mo_lightOf (l : Launch) (G : xG) {a0 : Int32}  {M : xM} {post : Int32 → xM → Prop} (h : xw_Mo_lightOf a0 M post) : Met l y_Mo_lightOf (Cond.code y_Mo_lightOf b_Mo_lightOf 1 (some .int) :: xTG) rm_Mo_lightOf (xPre G M [.int a0]) (xPi G post) 0 0 (xA G) := by
  refine xMet (own := R_Mo) [.int a0] (Or.inl (by decide)) rfl (Nat.le_of_ble_eq_true rfl) (fun p e s m args below meth c ls hC hr hlk hR hS hl => ?_)
  have hx := hC.1
  have hb := hC.2.1
  have hl : lv_has ls 1 [(0, .int a0)] := hl
  obtain ⟨H, eH⟩ : ∃ H : Heap, H = s.heap := ⟨_, rfl⟩
  obtain ⟨locs, eL⟩ : ∃ locs : List Loc, locs = [] := ⟨_, rfl⟩
  rw [← eH] at hR
  replace hS : va_S (xA G) s.heap H locs := by rw [eH, eL]; exact hS
  suffices hh : W p l e rm_Mo_lightOf s m args below meth c H locs 0 0 (MQ below (xPi G post) args s 0 0 (xA G)) (F0 m 0 ls []) from by rw [eH, eL] at hh; exact hh
  unfold xw_Mo_lightOf at h
  refine lv_sipush (pc := 0) (v := (299 : Int32)) hx hb xd_Mo_lightOf_0 (by decide) ?_
  refine lv_iload_n (pc := 3) hx hb xd_Mo_lightOf_3 rfl (lv_at hl 0 rfl) ?_
  refine lv_iconst (pc := 4) (v := (0 : Int32)) hx hb xd_Mo_lightOf_4 (by decide) ?_
  refine xr_callS (pc := 5) (As := [.int a0, .int (0 : Int32)]) (rest := [.int (299 : Int32)]) hC hR hS (xc_Mo_third l G  h) xv_Mo_97 ⟨rfl, rfl, Nat.le_of_ble_eq_true rfl, Nat.le_of_ble_eq_true rfl⟩ rfl hl.1 rfl (Nat.le_of_ble_eq_true rfl) xd_Mo_lightOf_5 (fun r2 M1 H locs h hR hS => ?_)
  refine lv_imul (pc := 8) hx hb xd_Mo_lightOf_8 ?_
  refine lv_sipush (pc := 9) (v := (587 : Int32)) hx hb xd_Mo_lightOf_9 (by decide) ?_
  refine lv_iload_n (pc := 12) hx hb xd_Mo_lightOf_12 rfl (lv_at hl 0 rfl) ?_
  refine lv_iconst (pc := 13) (v := (1 : Int32)) hx hb xd_Mo_lightOf_13 (by decide) ?_
  refine xr_callS (pc := 14) (As := [.int a0, .int (1 : Int32)]) (rest := [.int (587 : Int32), .int ((299 : Int32) * r2)]) hC hR hS (xc_Mo_third l G  h) xv_Mo_97 ⟨rfl, rfl, Nat.le_of_ble_eq_true rfl, Nat.le_of_ble_eq_true rfl⟩ rfl hl.1 rfl (Nat.le_of_ble_eq_true rfl) xd_Mo_lightOf_14 (fun r4 M3 H locs h hR hS => ?_)
  refine lv_imul (pc := 17) hx hb xd_Mo_lightOf_17 ?_
  refine lv_iadd (pc := 18) hx hb xd_Mo_lightOf_18 ?_
  refine lv_bipush (pc := 19) (v := (114 : Int32)) hx hb xd_Mo_lightOf_19 (by decide) ?_
  refine lv_iload_n (pc := 21) hx hb xd_Mo_lightOf_21 rfl (lv_at hl 0 rfl) ?_
  refine lv_iconst (pc := 22) (v := (2 : Int32)) hx hb xd_Mo_lightOf_22 (by decide) ?_
  refine xr_callS (pc := 23) (As := [.int a0, .int (2 : Int32)]) (rest := [.int (114 : Int32), .int (((299 : Int32) * r2) + ((587 : Int32) * r4))]) hC hR hS (xc_Mo_third l G  h) xv_Mo_97 ⟨rfl, rfl, Nat.le_of_ble_eq_true rfl, Nat.le_of_ble_eq_true rfl⟩ rfl hl.1 rfl (Nat.le_of_ble_eq_true rfl) xd_Mo_lightOf_23 (fun r6 M5 H locs h hR hS => ?_)
  refine lv_imul (pc := 26) hx hb xd_Mo_lightOf_26 ?_
  refine lv_iadd (pc := 27) hx hb xd_Mo_lightOf_27 ?_
  refine lv_sipush (pc := 28) (v := (1000 : Int32)) hx hb xd_Mo_lightOf_28 (by decide) ?_
  refine lv_idiv (pc := 31) hx hb xd_Mo_lightOf_31 (by decide) ?_
  exact xr_iret hC hr hlk hR hS h xd_Mo_lightOf_32

/-! ColoursApartModel.places()I -/
theorem xd_Mo_places_0 : decode b_Mo_places 0 = .ok (.aload_n 0, 1) := by decide +kernel
theorem xd_Mo_places_1 : decode b_Mo_places 1 = .ok (.getfield 29, 3) := by decide +kernel
theorem xd_Mo_places_4 : decode b_Mo_places 4 = .ok (.aload_n 0, 1) := by decide +kernel
theorem xd_Mo_places_5 : decode b_Mo_places 5 = .ok (.getfield 29, 3) := by decide +kernel
theorem xd_Mo_places_8 : decode b_Mo_places 8 = .ok (.imul, 1) := by decide +kernel
theorem xd_Mo_places_9 : decode b_Mo_places 9 = .ok (.aload_n 0, 1) := by decide +kernel
theorem xd_Mo_places_10 : decode b_Mo_places 10 = .ok (.getfield 29, 3) := by decide +kernel
theorem xd_Mo_places_13 : decode b_Mo_places 13 = .ok (.imul, 1) := by decide +kernel
theorem xd_Mo_places_14 : decode b_Mo_places 14 = .ok (.ireturn, 1) := by decide +kernel
abbrev rm_Mo_places : Room := { frames := 0, cells := 0, slots := 0, locals := 0 }
def xw_Mo_places  (M : xM) (post : Int32 → xM → Prop) : Prop :=
  post (((M 9 0 7) * (M 9 0 7)) * (M 9 0 7)) M
set_option maxHeartbeats 4000000 in
set_option maxRecDepth 100000 in
theorem xc_Mo_places (l : Launch) (G : xG)   {M : xM} {post : Int32 → xM → Prop} (h : xw_Mo_places  M post) : Met l y_Mo_places (Cond.code y_Mo_places b_Mo_places 1 (some .int) :: xTG) rm_Mo_places (xPre G M [.ref (G.1 9 0)]) (xPi G post) 0 0 (xA G) := by
  refine xMet (own := R_Mo) [.ref (G.1 9 0)] (Or.inl (by decide)) rfl (Nat.le_of_ble_eq_true rfl) (fun p e s m args below meth c ls hC hr hlk hR hS hl => ?_)
  have hx := hC.1
  have hb := hC.2.1
  have hl : lv_has ls 1 [(0, .ref (G.1 9 0))] := hl
  obtain ⟨H, eH⟩ : ∃ H : Heap, H = s.heap := ⟨_, rfl⟩
  obtain ⟨locs, eL⟩ : ∃ locs : List Loc, locs = [] := ⟨_, rfl⟩
  rw [← eH] at hR
  replace hS : va_S (xA G) s.heap H locs := by rw [eH, eL]; exact hS
  suffices hh : W p l e rm_Mo_places s m args below meth c H locs 0 0 (MQ below (xPi G post) args s 0 0 (xA G)) (F0 m 0 ls []) from by rw [eH, eL] at hh; exact hh
  unfold xw_Mo_places at h
  refine lv_aload_n (pc := 0) hx hb xd_Mo_places_0 rfl (lv_at hl 0 rfl) ?_
  refine xr_get (pc := 1) (v := .int (M 9 0 7)) hC hR xo_M0 xf_Mo_29 rfl xd_Mo_places_1 ?_
  refine lv_aload_n (pc := 4) hx hb xd_Mo_places_4 rfl (lv_at hl 0 rfl) ?_
  refine xr_get (pc := 5) (v := .int (M 9 0 7)) hC hR xo_M0 xf_Mo_29 rfl xd_Mo_places_5 ?_
  refine lv_imul (pc := 8) hx hb xd_Mo_places_8 ?_
  refine lv_aload_n (pc := 9) hx hb xd_Mo_places_9 rfl (lv_at hl 0 rfl) ?_
  refine xr_get (pc := 10) (v := .int (M 9 0 7)) hC hR xo_M0 xf_Mo_29 rfl xd_Mo_places_10 ?_
  refine lv_imul (pc := 13) hx hb xd_Mo_places_13 ?_
  exact xr_iret hC hr hlk hR hS h xd_Mo_places_14

/-! ColoursApartModel.gridLevel(I)I -/
theorem xd_Mo_gridLevel_0 : decode b_Mo_gridLevel 0 = .ok (.iload_n 1, 1) := by decide +kernel
theorem xd_Mo_gridLevel_1 : decode b_Mo_gridLevel 1 = .ok (.sipush 255, 3) := by decide +kernel
theorem xd_Mo_gridLevel_4 : decode b_Mo_gridLevel 4 = .ok (.imul, 1) := by decide +kernel
theorem xd_Mo_gridLevel_5 : decode b_Mo_gridLevel 5 = .ok (.aload_n 0, 1) := by decide +kernel
theorem xd_Mo_gridLevel_6 : decode b_Mo_gridLevel 6 = .ok (.getfield 29, 3) := by decide +kernel
theorem xd_Mo_gridLevel_9 : decode b_Mo_gridLevel 9 = .ok (.iconst 1, 1) := by decide +kernel
theorem xd_Mo_gridLevel_10 : decode b_Mo_gridLevel 10 = .ok (.isub, 1) := by decide +kernel
theorem xd_Mo_gridLevel_11 : decode b_Mo_gridLevel 11 = .ok (.idiv, 1) := by decide +kernel
theorem xd_Mo_gridLevel_12 : decode b_Mo_gridLevel 12 = .ok (.ireturn, 1) := by decide +kernel
abbrev rm_Mo_gridLevel : Room := { frames := 0, cells := 0, slots := 0, locals := 0 }
def xw_Mo_gridLevel (a1 : Int32) (M : xM) (post : Int32 → xM → Prop) : Prop :=
  (¬ ((M 9 0 7) - (1 : Int32)) = 0) ∧ (post ((a1 * (255 : Int32)) / ((M 9 0 7) - (1 : Int32))) M)
set_option maxHeartbeats 4000000 in
set_option maxRecDepth 100000 in
theorem xc_Mo_gridLevel (l : Launch) (G : xG) {a1 : Int32}  {M : xM} {post : Int32 → xM → Prop} (h : xw_Mo_gridLevel a1 M post) : Met l y_Mo_gridLevel (Cond.code y_Mo_gridLevel b_Mo_gridLevel 2 (some .int) :: xTG) rm_Mo_gridLevel (xPre G M [.ref (G.1 9 0), .int a1]) (xPi G post) 0 0 (xA G) := by
  refine xMet (own := R_Mo) [.ref (G.1 9 0), .int a1] (Or.inl (by decide)) rfl (Nat.le_of_ble_eq_true rfl) (fun p e s m args below meth c ls hC hr hlk hR hS hl => ?_)
  have hx := hC.1
  have hb := hC.2.1
  have hl : lv_has ls 2 [(0, .ref (G.1 9 0)), (1, .int a1)] := hl
  obtain ⟨H, eH⟩ : ∃ H : Heap, H = s.heap := ⟨_, rfl⟩
  obtain ⟨locs, eL⟩ : ∃ locs : List Loc, locs = [] := ⟨_, rfl⟩
  rw [← eH] at hR
  replace hS : va_S (xA G) s.heap H locs := by rw [eH, eL]; exact hS
  suffices hh : W p l e rm_Mo_gridLevel s m args below meth c H locs 0 0 (MQ below (xPi G post) args s 0 0 (xA G)) (F0 m 0 ls []) from by rw [eH, eL] at hh; exact hh
  unfold xw_Mo_gridLevel at h
  refine lv_iload_n (pc := 0) hx hb xd_Mo_gridLevel_0 rfl (lv_at hl 1 rfl) ?_
  refine lv_sipush (pc := 1) (v := (255 : Int32)) hx hb xd_Mo_gridLevel_1 (by decide) ?_
  refine lv_imul (pc := 4) hx hb xd_Mo_gridLevel_4 ?_
  refine lv_aload_n (pc := 5) hx hb xd_Mo_gridLevel_5 rfl (lv_at hl 0 rfl) ?_
  refine xr_get (pc := 6) (v := .int (M 9 0 7)) hC hR xo_M0 xf_Mo_29 rfl xd_Mo_gridLevel_6 ?_
  refine lv_iconst (pc := 9) (v := (1 : Int32)) hx hb xd_Mo_gridLevel_9 (by decide) ?_
  refine lv_isub (pc := 10) hx hb xd_Mo_gridLevel_10 ?_
  obtain ⟨hq, h⟩ := h
  refine lv_idiv (pc := 11) hx hb xd_Mo_gridLevel_11 hq ?_
  exact xr_iret hC hr hlk hR hS h xd_Mo_gridLevel_12

/-! ColoursApartModel.placeOf(I)I -/
theorem xd_Mo_placeOf_0 : decode b_Mo_placeOf 0 = .ok (.aload_n 0, 1) := by decide +kernel
theorem xd_Mo_placeOf_1 : decode b_Mo_placeOf 1 = .ok (.iload_n 1, 1) := by decide +kernel
theorem xd_Mo_placeOf_2 : decode b_Mo_placeOf 2 = .ok (.aload_n 0, 1) := by decide +kernel
theorem xd_Mo_placeOf_3 : decode b_Mo_placeOf 3 = .ok (.getfield 29, 3) := by decide +kernel
theorem xd_Mo_placeOf_6 : decode b_Mo_placeOf 6 = .ok (.aload_n 0, 1) := by decide +kernel
theorem xd_Mo_placeOf_7 : decode b_Mo_placeOf 7 = .ok (.getfield 29, 3) := by decide +kernel
theorem xd_Mo_placeOf_10 : decode b_Mo_placeOf 10 = .ok (.imul, 1) := by decide +kernel
theorem xd_Mo_placeOf_11 : decode b_Mo_placeOf 11 = .ok (.idiv, 1) := by decide +kernel
theorem xd_Mo_placeOf_12 : decode b_Mo_placeOf 12 = .ok (.invokevirtual 101, 3) := by decide +kernel
theorem xd_Mo_placeOf_15 : decode b_Mo_placeOf 15 = .ok (.aload_n 0, 1) := by decide +kernel
theorem xd_Mo_placeOf_16 : decode b_Mo_placeOf 16 = .ok (.iload_n 1, 1) := by decide +kernel
theorem xd_Mo_placeOf_17 : decode b_Mo_placeOf 17 = .ok (.aload_n 0, 1) := by decide +kernel
theorem xd_Mo_placeOf_18 : decode b_Mo_placeOf 18 = .ok (.getfield 29, 3) := by decide +kernel
theorem xd_Mo_placeOf_21 : decode b_Mo_placeOf 21 = .ok (.idiv, 1) := by decide +kernel
theorem xd_Mo_placeOf_22 : decode b_Mo_placeOf 22 = .ok (.aload_n 0, 1) := by decide +kernel
theorem xd_Mo_placeOf_23 : decode b_Mo_placeOf 23 = .ok (.getfield 29, 3) := by decide +kernel
theorem xd_Mo_placeOf_26 : decode b_Mo_placeOf 26 = .ok (.irem, 1) := by decide +kernel
theorem xd_Mo_placeOf_27 : decode b_Mo_placeOf 27 = .ok (.invokevirtual 101, 3) := by decide +kernel
theorem xd_Mo_placeOf_30 : decode b_Mo_placeOf 30 = .ok (.aload_n 0, 1) := by decide +kernel
theorem xd_Mo_placeOf_31 : decode b_Mo_placeOf 31 = .ok (.iload_n 1, 1) := by decide +kernel
theorem xd_Mo_placeOf_32 : decode b_Mo_placeOf 32 = .ok (.aload_n 0, 1) := by decide +kernel
theorem xd_Mo_placeOf_33 : decode b_Mo_placeOf 33 = .ok (.getfield 29, 3) := by decide +kernel
theorem xd_Mo_placeOf_36 : decode b_Mo_placeOf 36 = .ok (.irem, 1) := by decide +kernel
theorem xd_Mo_placeOf_37 : decode b_Mo_placeOf 37 = .ok (.invokevirtual 101, 3) := by decide +kernel
theorem xd_Mo_placeOf_40 : decode b_Mo_placeOf 40 = .ok (.invokestatic 104, 3) := by decide +kernel
theorem xd_Mo_placeOf_43 : decode b_Mo_placeOf 43 = .ok (.ireturn, 1) := by decide +kernel
abbrev rm_Mo_placeOf : Room := { frames := 1, cells := 0, slots := 0, locals := 22 }
def xw_Mo_placeOf (a1 : Int32) (M : xM) (post : Int32 → xM → Prop) : Prop :=
  (¬ ((M 9 0 7) * (M 9 0 7)) = 0) ∧ (xw_Mo_gridLevel (a1 / ((M 9 0 7) * (M 9 0 7))) M (fun (r2 : Int32) (M1 : xM) => (¬ (M1 9 0 7) = 0) ∧ ((¬ (M1 9 0 7) = 0) ∧ (xw_Mo_gridLevel ((a1 / (M1 9 0 7)) - (a1 / (M1 9 0 7)) / (M1 9 0 7) * (M1 9 0 7)) M1 (fun (r4 : Int32) (M3 : xM) => (¬ (M3 9 0 7) = 0) ∧ (xw_Mo_gridLevel (a1 - a1 / (M3 9 0 7) * (M3 9 0 7)) M3 (fun (r6 : Int32) (M5 : xM) => xw_Mo_made r2 r4 r6 M5 (fun (r8 : Int32) (M7 : xM) => post r8 M7))))))))
set_option maxHeartbeats 4000000 in
set_option maxRecDepth 100000 in
theorem xc_Mo_placeOf (l : Launch) (G : xG) {a1 : Int32}  {M : xM} {post : Int32 → xM → Prop} (h : xw_Mo_placeOf a1 M post) : Met l y_Mo_placeOf (Cond.code y_Mo_placeOf b_Mo_placeOf 2 (some .int) :: xTG) rm_Mo_placeOf (xPre G M [.ref (G.1 9 0), .int a1]) (xPi G post) 0 0 (xA G) := by
  refine xMet (own := R_Mo) [.ref (G.1 9 0), .int a1] (Or.inl (by decide)) rfl (Nat.le_of_ble_eq_true rfl) (fun p e s m args below meth c ls hC hr hlk hR hS hl => ?_)
  have hx := hC.1
  have hb := hC.2.1
  have hl : lv_has ls 2 [(0, .ref (G.1 9 0)), (1, .int a1)] := hl
  obtain ⟨H, eH⟩ : ∃ H : Heap, H = s.heap := ⟨_, rfl⟩
  obtain ⟨locs, eL⟩ : ∃ locs : List Loc, locs = [] := ⟨_, rfl⟩
  rw [← eH] at hR
  replace hS : va_S (xA G) s.heap H locs := by rw [eH, eL]; exact hS
  suffices hh : W p l e rm_Mo_placeOf s m args below meth c H locs 0 0 (MQ below (xPi G post) args s 0 0 (xA G)) (F0 m 0 ls []) from by rw [eH, eL] at hh; exact hh
  unfold xw_Mo_placeOf at h
  refine lv_aload_n (pc := 0) hx hb xd_Mo_placeOf_0 rfl (lv_at hl 0 rfl) ?_
  refine lv_iload_n (pc := 1) hx hb xd_Mo_placeOf_1 rfl (lv_at hl 1 rfl) ?_
  refine lv_aload_n (pc := 2) hx hb xd_Mo_placeOf_2 rfl (lv_at hl 0 rfl) ?_
  refine xr_get (pc := 3) (v := .int (M 9 0 7)) hC hR xo_M0 xf_Mo_29 rfl xd_Mo_placeOf_3 ?_
  refine lv_aload_n (pc := 6) hx hb xd_Mo_placeOf_6 rfl (lv_at hl 0 rfl) ?_
  refine xr_get (pc := 7) (v := .int (M 9 0 7)) hC hR xo_M0 xf_Mo_29 rfl xd_Mo_placeOf_7 ?_
  refine lv_imul (pc := 10) hx hb xd_Mo_placeOf_10 ?_
  obtain ⟨hq, h⟩ := h
  refine lv_idiv (pc := 11) hx hb xd_Mo_placeOf_11 hq ?_
  refine xr_callV (pc := 12) (As := [.int (a1 / ((M 9 0 7) * (M 9 0 7)))]) (rest := []) hC hR hS (xc_Mo_gridLevel l G  h) xo_M0 xv_Mo_101 ⟨rfl, rfl, Nat.le_of_ble_eq_true rfl, Nat.le_of_ble_eq_true rfl⟩ rfl hl.1 rfl (Nat.le_of_ble_eq_true rfl) xd_Mo_placeOf_12 (fun r2 M1 H locs h hR hS => ?_)
  refine lv_aload_n (pc := 15) hx hb xd_Mo_placeOf_15 rfl (lv_at hl 0 rfl) ?_
  refine lv_iload_n (pc := 16) hx hb xd_Mo_placeOf_16 rfl (lv_at hl 1 rfl) ?_
  refine lv_aload_n (pc := 17) hx hb xd_Mo_placeOf_17 rfl (lv_at hl 0 rfl) ?_
  refine xr_get (pc := 18) (v := .int (M1 9 0 7)) hC hR xo_M0 xf_Mo_29 rfl xd_Mo_placeOf_18 ?_
  obtain ⟨hq, h⟩ := h
  refine lv_idiv (pc := 21) hx hb xd_Mo_placeOf_21 hq ?_
  refine lv_aload_n (pc := 22) hx hb xd_Mo_placeOf_22 rfl (lv_at hl 0 rfl) ?_
  refine xr_get (pc := 23) (v := .int (M1 9 0 7)) hC hR xo_M0 xf_Mo_29 rfl xd_Mo_placeOf_23 ?_
  obtain ⟨hq, h⟩ := h
  refine lv_irem (pc := 26) hx hb xd_Mo_placeOf_26 hq ?_
  refine xr_callV (pc := 27) (As := [.int ((a1 / (M1 9 0 7)) - (a1 / (M1 9 0 7)) / (M1 9 0 7) * (M1 9 0 7))]) (rest := [.int r2]) hC hR hS (xc_Mo_gridLevel l G  h) xo_M0 xv_Mo_101 ⟨rfl, rfl, Nat.le_of_ble_eq_true rfl, Nat.le_of_ble_eq_true rfl⟩ rfl hl.1 rfl (Nat.le_of_ble_eq_true rfl) xd_Mo_placeOf_27 (fun r4 M3 H locs h hR hS => ?_)
  refine lv_aload_n (pc := 30) hx hb xd_Mo_placeOf_30 rfl (lv_at hl 0 rfl) ?_
  refine lv_iload_n (pc := 31) hx hb xd_Mo_placeOf_31 rfl (lv_at hl 1 rfl) ?_
  refine lv_aload_n (pc := 32) hx hb xd_Mo_placeOf_32 rfl (lv_at hl 0 rfl) ?_
  refine xr_get (pc := 33) (v := .int (M3 9 0 7)) hC hR xo_M0 xf_Mo_29 rfl xd_Mo_placeOf_33 ?_
  obtain ⟨hq, h⟩ := h
  refine lv_irem (pc := 36) hx hb xd_Mo_placeOf_36 hq ?_
  refine xr_callV (pc := 37) (As := [.int (a1 - a1 / (M3 9 0 7) * (M3 9 0 7))]) (rest := [.int r4, .int r2]) hC hR hS (xc_Mo_gridLevel l G  h) xo_M0 xv_Mo_101 ⟨rfl, rfl, Nat.le_of_ble_eq_true rfl, Nat.le_of_ble_eq_true rfl⟩ rfl hl.1 rfl (Nat.le_of_ble_eq_true rfl) xd_Mo_placeOf_37 (fun r6 M5 H locs h hR hS => ?_)
  refine xr_callS (pc := 40) (As := [.int r2, .int r4, .int r6]) (rest := []) hC hR hS (xc_Mo_made l G  h) xv_Mo_104 ⟨rfl, rfl, Nat.le_of_ble_eq_true rfl, Nat.le_of_ble_eq_true rfl⟩ rfl hl.1 rfl (Nat.le_of_ble_eq_true rfl) xd_Mo_placeOf_40 (fun r8 M7 H locs h hR hS => ?_)
  exact xr_iret hC hr hlk hR hS h xd_Mo_placeOf_43

/-! ColoursApartModel.place(I)I -/
theorem xd_Mo_place_0 : decode b_Mo_place 0 = .ok (.iload_n 1, 1) := by decide +kernel
theorem xd_Mo_place_1 : decode b_Mo_place 1 = .ok (.iconst 0, 1) := by decide +kernel
theorem xd_Mo_place_2 : decode b_Mo_place 2 = .ok (.aload_n 0, 1) := by decide +kernel
theorem xd_Mo_place_3 : decode b_Mo_place 3 = .ok (.invokevirtual 107, 3) := by decide +kernel
theorem xd_Mo_place_6 : decode b_Mo_place 6 = .ok (.iconst 1, 1) := by decide +kernel
theorem xd_Mo_place_7 : decode b_Mo_place 7 = .ok (.isub, 1) := by decide +kernel
theorem xd_Mo_place_8 : decode b_Mo_place 8 = .ok (.invokestatic 85, 3) := by decide +kernel
theorem xd_Mo_place_11 : decode b_Mo_place 11 = .ok (.ifCond .eq 11, 3) := by decide +kernel
theorem xd_Mo_place_14 : decode b_Mo_place 14 = .ok (.aload_n 0, 1) := by decide +kernel
theorem xd_Mo_place_15 : decode b_Mo_place 15 = .ok (.iload_n 1, 1) := by decide +kernel
theorem xd_Mo_place_16 : decode b_Mo_place 16 = .ok (.invokevirtual 111, 3) := by decide +kernel
theorem xd_Mo_place_19 : decode b_Mo_place 19 = .ok (.goto 4, 3) := by decide +kernel
theorem xd_Mo_place_22 : decode b_Mo_place 22 = .ok (.iconst (-1), 1) := by decide +kernel
theorem xd_Mo_place_23 : decode b_Mo_place 23 = .ok (.ireturn, 1) := by decide +kernel
abbrev rm_Mo_place : Room := { frames := 2, cells := 0, slots := 0, locals := 43 }
def xw_Mo_place (a1 : Int32) (M : xM) (post : Int32 → xM → Prop) : Prop :=
  xw_Mo_places M (fun (r2 : Int32) (M1 : xM) => xw_Mo_in a1 (0 : Int32) (r2 - (1 : Int32)) M1 (fun (r4 : Int32) (M3 : xM) => ((r4 = 0) → (post (-1 : Int32) M3)) ∧ ((¬ r4 = 0) → (xw_Mo_placeOf a1 M3 (fun (r6 : Int32) (M5 : xM) => post r6 M5)))))
set_option maxHeartbeats 4000000 in
set_option maxRecDepth 100000 in
theorem xc_Mo_place (l : Launch) (G : xG) {a1 : Int32}  {M : xM} {post : Int32 → xM → Prop} (h : xw_Mo_place a1 M post) : Met l y_Mo_place (Cond.code y_Mo_place b_Mo_place 2 (some .int) :: xTG) rm_Mo_place (xPre G M [.ref (G.1 9 0), .int a1]) (xPi G post) 0 0 (xA G) := by
  refine xMet (own := R_Mo) [.ref (G.1 9 0), .int a1] (Or.inl (by decide)) rfl (Nat.le_of_ble_eq_true rfl) (fun p e s m args below meth c ls hC hr hlk hR hS hl => ?_)
  have hx := hC.1
  have hb := hC.2.1
  have hl : lv_has ls 2 [(0, .ref (G.1 9 0)), (1, .int a1)] := hl
  obtain ⟨H, eH⟩ : ∃ H : Heap, H = s.heap := ⟨_, rfl⟩
  obtain ⟨locs, eL⟩ : ∃ locs : List Loc, locs = [] := ⟨_, rfl⟩
  rw [← eH] at hR
  replace hS : va_S (xA G) s.heap H locs := by rw [eH, eL]; exact hS
  suffices hh : W p l e rm_Mo_place s m args below meth c H locs 0 0 (MQ below (xPi G post) args s 0 0 (xA G)) (F0 m 0 ls []) from by rw [eH, eL] at hh; exact hh
  unfold xw_Mo_place at h
  refine lv_iload_n (pc := 0) hx hb xd_Mo_place_0 rfl (lv_at hl 1 rfl) ?_
  refine lv_iconst (pc := 1) (v := (0 : Int32)) hx hb xd_Mo_place_1 (by decide) ?_
  refine lv_aload_n (pc := 2) hx hb xd_Mo_place_2 rfl (lv_at hl 0 rfl) ?_
  refine xr_callV (pc := 3) (As := []) (rest := [.int (0 : Int32), .int a1]) hC hR hS (xc_Mo_places l G  h) xo_M0 xv_Mo_107 ⟨rfl, rfl, Nat.le_of_ble_eq_true rfl, Nat.le_of_ble_eq_true rfl⟩ rfl hl.1 rfl (Nat.le_of_ble_eq_true rfl) xd_Mo_place_3 (fun r2 M1 H locs h hR hS => ?_)
  refine lv_iconst (pc := 6) (v := (1 : Int32)) hx hb xd_Mo_place_6 (by decide) ?_
  refine lv_isub (pc := 7) hx hb xd_Mo_place_7 ?_
  refine xr_callS (pc := 8) (As := [.int a1, .int (0 : Int32), .int (r2 - (1 : Int32))]) (rest := []) hC hR hS (xc_Mo_in l G  h) xv_Mo_85 ⟨rfl, rfl, Nat.le_of_ble_eq_true rfl, Nat.le_of_ble_eq_true rfl⟩ rfl hl.1 rfl (Nat.le_of_ble_eq_true rfl) xd_Mo_place_8 (fun r4 M3 H locs h hR hS => ?_)
  refine lv_if_eq (pc := 11) (tgt := 22) hx hb xd_Mo_place_11 (by decide) (fun hq => ?_) (fun hq => ?_)
  · have h := h.1 hq
    refine lv_iconst (pc := 22) (v := (-1 : Int32)) hx hb xd_Mo_place_22 (by decide) ?_
    exact xr_iret hC hr hlk hR hS h xd_Mo_place_23
  · have h := h.2 hq
    refine lv_aload_n (pc := 14) hx hb xd_Mo_place_14 rfl (lv_at hl 0 rfl) ?_
    refine lv_iload_n (pc := 15) hx hb xd_Mo_place_15 rfl (lv_at hl 1 rfl) ?_
    refine xr_callV (pc := 16) (As := [.int a1]) (rest := []) hC hR hS (xc_Mo_placeOf l G  h) xo_M0 xv_Mo_111 ⟨rfl, rfl, Nat.le_of_ble_eq_true rfl, Nat.le_of_ble_eq_true rfl⟩ rfl hl.1 rfl (Nat.le_of_ble_eq_true rfl) xd_Mo_place_16 (fun r6 M5 H locs h hR hS => ?_)
    refine lv_goto (pc := 19) (tgt := 23) hx hb xd_Mo_place_19 (by decide) ?_
    exact xr_iret hC hr hlk hR hS h xd_Mo_place_23

/-! ColoursApartModel.weakThird(III)I -/
theorem xd_Mo_weakThird_0 : decode b_Mo_weakThird 0 = .ok (.sipush 500, 3) := by decide +kernel
theorem xd_Mo_weakThird_3 : decode b_Mo_weakThird 3 = .ok (.istore 4, 2) := by decide +kernel
theorem xd_Mo_weakThird_5 : decode b_Mo_weakThird 5 = .ok (.iconst 0, 1) := by decide +kernel
theorem xd_Mo_weakThird_6 : decode b_Mo_weakThird 6 = .ok (.istore 5, 2) := by decide +kernel
theorem xd_Mo_weakThird_8 : decode b_Mo_weakThird 8 = .ok (.iload 5, 2) := by decide +kernel
theorem xd_Mo_weakThird_10 : decode b_Mo_weakThird 10 = .ok (.iconst 3, 1) := by decide +kernel
theorem xd_Mo_weakThird_11 : decode b_Mo_weakThird 11 = .ok (.if_icmp .ge 40, 3) := by decide +kernel
theorem xd_Mo_weakThird_14 : decode b_Mo_weakThird 14 = .ok (.iload 4, 2) := by decide +kernel
theorem xd_Mo_weakThird_16 : decode b_Mo_weakThird 16 = .ok (.aload_n 0, 1) := by decide +kernel
theorem xd_Mo_weakThird_17 : decode b_Mo_weakThird 17 = .ok (.getfield 19, 3) := by decide +kernel
theorem xd_Mo_weakThird_20 : decode b_Mo_weakThird 20 = .ok (.bipush 9, 2) := by decide +kernel
theorem xd_Mo_weakThird_22 : decode b_Mo_weakThird 22 = .ok (.iload_n 1, 1) := by decide +kernel
theorem xd_Mo_weakThird_23 : decode b_Mo_weakThird 23 = .ok (.imul, 1) := by decide +kernel
theorem xd_Mo_weakThird_24 : decode b_Mo_weakThird 24 = .ok (.bipush 9, 2) := by decide +kernel
theorem xd_Mo_weakThird_26 : decode b_Mo_weakThird 26 = .ok (.isub, 1) := by decide +kernel
theorem xd_Mo_weakThird_27 : decode b_Mo_weakThird 27 = .ok (.iconst 3, 1) := by decide +kernel
theorem xd_Mo_weakThird_28 : decode b_Mo_weakThird 28 = .ok (.iload_n 3, 1) := by decide +kernel
theorem xd_Mo_weakThird_29 : decode b_Mo_weakThird 29 = .ok (.imul, 1) := by decide +kernel
theorem xd_Mo_weakThird_30 : decode b_Mo_weakThird 30 = .ok (.iadd, 1) := by decide +kernel
theorem xd_Mo_weakThird_31 : decode b_Mo_weakThird 31 = .ok (.iload 5, 2) := by decide +kernel
theorem xd_Mo_weakThird_33 : decode b_Mo_weakThird 33 = .ok (.iadd, 1) := by decide +kernel
theorem xd_Mo_weakThird_34 : decode b_Mo_weakThird 34 = .ok (.iaload, 1) := by decide +kernel
theorem xd_Mo_weakThird_35 : decode b_Mo_weakThird 35 = .ok (.iload_n 2, 1) := by decide +kernel
theorem xd_Mo_weakThird_36 : decode b_Mo_weakThird 36 = .ok (.iload 5, 2) := by decide +kernel
theorem xd_Mo_weakThird_38 : decode b_Mo_weakThird 38 = .ok (.invokestatic 97, 3) := by decide +kernel
theorem xd_Mo_weakThird_41 : decode b_Mo_weakThird 41 = .ok (.imul, 1) := by decide +kernel
theorem xd_Mo_weakThird_42 : decode b_Mo_weakThird 42 = .ok (.iadd, 1) := by decide +kernel
theorem xd_Mo_weakThird_43 : decode b_Mo_weakThird 43 = .ok (.istore 4, 2) := by decide +kernel
theorem xd_Mo_weakThird_45 : decode b_Mo_weakThird 45 = .ok (.iinc 5 1, 3) := by decide +kernel
theorem xd_Mo_weakThird_48 : decode b_Mo_weakThird 48 = .ok (.goto (-40), 3) := by decide +kernel
theorem xd_Mo_weakThird_51 : decode b_Mo_weakThird 51 = .ok (.iload 4, 2) := by decide +kernel
theorem xd_Mo_weakThird_53 : decode b_Mo_weakThird 53 = .ok (.ifCond .lt 12, 3) := by decide +kernel
theorem xd_Mo_weakThird_56 : decode b_Mo_weakThird 56 = .ok (.iload 4, 2) := by decide +kernel
theorem xd_Mo_weakThird_58 : decode b_Mo_weakThird 58 = .ok (.sipush 1000, 3) := by decide +kernel
theorem xd_Mo_weakThird_61 : decode b_Mo_weakThird 61 = .ok (.idiv, 1) := by decide +kernel
theorem xd_Mo_weakThird_62 : decode b_Mo_weakThird 62 = .ok (.goto 4, 3) := by decide +kernel
theorem xd_Mo_weakThird_65 : decode b_Mo_weakThird 65 = .ok (.iconst (-1), 1) := by decide +kernel
theorem xd_Mo_weakThird_66 : decode b_Mo_weakThird 66 = .ok (.istore 5, 2) := by decide +kernel
theorem xd_Mo_weakThird_68 : decode b_Mo_weakThird 68 = .ok (.iload 5, 2) := by decide +kernel
theorem xd_Mo_weakThird_70 : decode b_Mo_weakThird 70 = .ok (.ifCond .ge 7, 3) := by decide +kernel
theorem xd_Mo_weakThird_73 : decode b_Mo_weakThird 73 = .ok (.iconst 0, 1) := by decide +kernel
theorem xd_Mo_weakThird_74 : decode b_Mo_weakThird 74 = .ok (.goto 19, 3) := by decide +kernel
theorem xd_Mo_weakThird_77 : decode b_Mo_weakThird 77 = .ok (.iload 5, 2) := by decide +kernel
theorem xd_Mo_weakThird_79 : decode b_Mo_weakThird 79 = .ok (.sipush 255, 3) := by decide +kernel
theorem xd_Mo_weakThird_82 : decode b_Mo_weakThird 82 = .ok (.if_icmp .le 9, 3) := by decide +kernel
theorem xd_Mo_weakThird_85 : decode b_Mo_weakThird 85 = .ok (.sipush 255, 3) := by decide +kernel
theorem xd_Mo_weakThird_88 : decode b_Mo_weakThird 88 = .ok (.goto 5, 3) := by decide +kernel
theorem xd_Mo_weakThird_91 : decode b_Mo_weakThird 91 = .ok (.iload 5, 2) := by decide +kernel
theorem xd_Mo_weakThird_93 : decode b_Mo_weakThird 93 = .ok (.ireturn, 1) := by decide +kernel
abbrev rm_Mo_weakThird : Room := { frames := 1, cells := 0, slots := 0, locals := 21 }
def xw_Mo_weakThird_8 (x1 : Int32) (x2 : Int32) (x3 : Int32) (post : Int32 → xM → Prop) (k51 : Int32 → Int32 → xM → Prop) : Nat → Int32 → Int32 → xM → Prop
  | 0, _, _, _ => False
  | n8 + 1, x4, x5, M => (((3 : Int32) ≤ x5) → (k51 x4 x5 M)) ∧ ((¬ (3 : Int32) ≤ x5) → ((vp_in (((((9 : Int32) * x1) - (9 : Int32)) + ((3 : Int32) * x3)) + x5) 27) ∧ (xw_Mo_third x2 x5 M (fun (r2 : Int32) (M1 : xM) => xw_Mo_weakThird_8 x1 x2 x3 post k51 n8 (x4 + ((M 9 4 (((((9 : Int32) * x1) - (9 : Int32)) + ((3 : Int32) * x3)) + x5).toNatClampNeg) * r2)) (x5 + (1 : Int32)) M1))))
def xw_Mo_weakThird (a1 : Int32) (a2 : Int32) (a3 : Int32) (M : xM) (post : Int32 → xM → Prop) : Prop :=
  ∃ n8 : Nat, xw_Mo_weakThird_8 a1 a2 a3 post (fun (y3 : Int32) (y4 : Int32) (M5 : xM) => xj (fun (J66_5 : Int32 → xM → Prop) => ((y3 < 0) → (J66_5 (-1 : Int32) M5)) ∧ ((¬ y3 < 0) → (J66_5 (y3 / (1000 : Int32)) M5))) (fun (v7 : Int32) (M8 : xM) => ((0 ≤ v7) → (((v7 ≤ (255 : Int32)) → (post v7 M8)) ∧ ((¬ v7 ≤ (255 : Int32)) → (post (255 : Int32) M8)))) ∧ ((¬ 0 ≤ v7) → (post (0 : Int32) M8)))) n8 (500 : Int32) (0 : Int32) M
set_option maxHeartbeats 4000000 in
set_option maxRecDepth 100000 in
theorem xt_Mo_weakThird_8 {p : Program} {l : Launch} {e : Env} {s : State} {m : MethodId} {args : Array Value} {below : List Frame} {meth : Method} {c : Code} {G : xG} (hC : xC p s m args c b_Mo_weakThird R_Mo 6 G) (hr : meth.sig.returnType = (some .int)) (hlk : meth.locks = false) {x1 : Int32} {x2 : Int32} {x3 : Int32} {post : Int32 → xM → Prop} {k51 : Int32 → Int32 → xM → Prop} (hk51 : ∀ (x4 : Int32) (x5 : Int32) (M : xM) (H : Heap) (locs : List Loc) (ls : Array Slot), k51 x4 x5 M → xRp G M H → va_S (xA G) s.heap H locs → lv_has ls 6 [(0, .ref (G.1 9 0)), (1, .int x1), (2, .int x2), (3, .int x3), (4, .int x4), (5, .int x5)] → W p l e rm_Mo_weakThird s m args below meth c H locs 0 0 (MQ below (xPi G post) args s 0 0 (xA G)) (F0 m 51 ls [])) : ∀ (n : Nat) (x4 : Int32) (x5 : Int32) (M : xM) (H : Heap) (locs : List Loc) (ls : Array Slot), xw_Mo_weakThird_8 x1 x2 x3 post k51 n x4 x5 M → xRp G M H → va_S (xA G) s.heap H locs → lv_has ls 6 [(0, .ref (G.1 9 0)), (1, .int x1), (2, .int x2), (3, .int x3), (4, .int x4), (5, .int x5)] → W p l e rm_Mo_weakThird s m args below meth c H locs 0 0 (MQ below (xPi G post) args s 0 0 (xA G)) (F0 m 8 ls []) := by
  have hx := hC.1
  have hb := hC.2.1
  intro n
  induction n with
  | zero => intro x4 x5 M H locs ls; exact fun h => h.elim
  | succ n ih =>
    intro x4 x5 M H locs ls h hR hS hl
    refine lv_iload (pc := 8) hx hb xd_Mo_weakThird_8 (lv_at hl 5 rfl) ?_
    refine lv_iconst (pc := 10) (v := (3 : Int32)) hx hb xd_Mo_weakThird_10 (by decide) ?_
    refine lv_icmp_ge (pc := 11) (tgt := 51) hx hb xd_Mo_weakThird_11 (by decide) (fun hq => ?_) (fun hq => ?_)
    · have h := h.1 hq
      exact hk51 x4 x5 M H locs ls h hR hS (lv_sub hl [0, 1, 2, 3, 4, 5] rfl)
    · have h := h.2 hq
      refine lv_iload (pc := 14) hx hb xd_Mo_weakThird_14 (lv_at hl 4 rfl) ?_
      refine lv_aload_n (pc := 16) hx hb xd_Mo_weakThird_16 rfl (lv_at hl 0 rfl) ?_
      refine xr_get (pc := 17) (v := .ref (G.1 9 4)) hC hR xo_M0 xf_Mo_19 rfl xd_Mo_weakThird_17 ?_
      refine lv_bipush (pc := 20) (v := (9 : Int32)) hx hb xd_Mo_weakThird_20 (by decide) ?_
      refine lv_iload_n (pc := 22) hx hb xd_Mo_weakThird_22 rfl (lv_at hl 1 rfl) ?_
      refine lv_imul (pc := 23) hx hb xd_Mo_weakThird_23 ?_
      refine lv_bipush (pc := 24) (v := (9 : Int32)) hx hb xd_Mo_weakThird_24 (by decide) ?_
      refine lv_isub (pc := 26) hx hb xd_Mo_weakThird_26 ?_
      refine lv_iconst (pc := 27) (v := (3 : Int32)) hx hb xd_Mo_weakThird_27 (by decide) ?_
      refine lv_iload_n (pc := 28) hx hb xd_Mo_weakThird_28 rfl (lv_at hl 3 rfl) ?_
      refine lv_imul (pc := 29) hx hb xd_Mo_weakThird_29 ?_
      refine lv_iadd (pc := 30) hx hb xd_Mo_weakThird_30 ?_
      refine lv_iload (pc := 31) hx hb xd_Mo_weakThird_31 (lv_at hl 5 rfl) ?_
      refine lv_iadd (pc := 33) hx hb xd_Mo_weakThird_33 ?_
      obtain ⟨hq, h⟩ := h
      refine xr_iald (pc := 34) hC hR xo_M4 hq xd_Mo_weakThird_34 ?_
      refine lv_iload_n (pc := 35) hx hb xd_Mo_weakThird_35 rfl (lv_at hl 2 rfl) ?_
      refine lv_iload (pc := 36) hx hb xd_Mo_weakThird_36 (lv_at hl 5 rfl) ?_
      refine xr_callS (pc := 38) (As := [.int x2, .int x5]) (rest := [.int (M 9 4 (((((9 : Int32) * x1) - (9 : Int32)) + ((3 : Int32) * x3)) + x5).toNatClampNeg), .int x4]) hC hR hS (xc_Mo_third l G  h) xv_Mo_97 ⟨rfl, rfl, Nat.le_of_ble_eq_true rfl, Nat.le_of_ble_eq_true rfl⟩ rfl hl.1 rfl (Nat.le_of_ble_eq_true rfl) xd_Mo_weakThird_38 (fun r2 M1 H locs h hR hS => ?_)
      refine lv_imul (pc := 41) hx hb xd_Mo_weakThird_41 ?_
      refine lv_iadd (pc := 42) hx hb xd_Mo_weakThird_42 ?_
      refine lv_istore (pc := 43) (lv' := [(4, .int (x4 + ((M 9 4 (((((9 : Int32) * x1) - (9 : Int32)) + ((3 : Int32) * x3)) + x5).toNatClampNeg) * r2))), (0, .ref (G.1 9 0)), (1, .int x1), (2, .int x2), (3, .int x3), (5, .int x5)]) hx hb xd_Mo_weakThird_43 hl (by decide) rfl (fun ls hl => ?_)
      refine lv_iinc (pc := 45) (v := (x5 + (1 : Int32))) (lv' := [(5, .int (x5 + (1 : Int32))), (4, .int (x4 + ((M 9 4 (((((9 : Int32) * x1) - (9 : Int32)) + ((3 : Int32) * x3)) + x5).toNatClampNeg) * r2))), (0, .ref (G.1 9 0)), (1, .int x1), (2, .int x2), (3, .int x3)]) hx hb xd_Mo_weakThird_45 hl (k := 5) rfl rfl (by decide) rfl (fun ls hl => ?_)
      refine lv_goto (pc := 48) (tgt := 8) hx hb xd_Mo_weakThird_48 (by decide) ?_
      exact ih (x4 + ((M 9 4 (((((9 : Int32) * x1) - (9 : Int32)) + ((3 : Int32) * x3)) + x5).toNatClampNeg) * r2)) (x5 + (1 : Int32)) M1 H locs ls h hR hS (lv_sub hl [2, 3, 4, 5, 1, 0] rfl)
set_option maxHeartbeats 4000000 in
set_option maxRecDepth 100000 in
theorem xc_Mo_weakThird (l : Launch) (G : xG) {a1 : Int32} {a2 : Int32} {a3 : Int32}  {M : xM} {post : Int32 → xM → Prop} (h : xw_Mo_weakThird a1 a2 a3 M post) : Met l y_Mo_weakThird (Cond.code y_Mo_weakThird b_Mo_weakThird 6 (some .int) :: xTG) rm_Mo_weakThird (xPre G M [.ref (G.1 9 0), .int a1, .int a2, .int a3]) (xPi G post) 0 0 (xA G) := by
  refine xMet (own := R_Mo) [.ref (G.1 9 0), .int a1, .int a2, .int a3] (Or.inl (by decide)) rfl (Nat.le_of_ble_eq_true rfl) (fun p e s m args below meth c ls hC hr hlk hR hS hl => ?_)
  have hx := hC.1
  have hb := hC.2.1
  have hl : lv_has ls 6 [(0, .ref (G.1 9 0)), (1, .int a1), (2, .int a2), (3, .int a3)] := hl
  obtain ⟨H, eH⟩ : ∃ H : Heap, H = s.heap := ⟨_, rfl⟩
  obtain ⟨locs, eL⟩ : ∃ locs : List Loc, locs = [] := ⟨_, rfl⟩
  rw [← eH] at hR
  replace hS : va_S (xA G) s.heap H locs := by rw [eH, eL]; exact hS
  suffices hh : W p l e rm_Mo_weakThird s m args below meth c H locs 0 0 (MQ below (xPi G post) args s 0 0 (xA G)) (F0 m 0 ls []) from by rw [eH, eL] at hh; exact hh
  unfold xw_Mo_weakThird at h
  refine lv_sipush (pc := 0) (v := (500 : Int32)) hx hb xd_Mo_weakThird_0 (by decide) ?_
  refine lv_istore (pc := 3) (lv' := [(4, .int (500 : Int32)), (0, .ref (G.1 9 0)), (1, .int a1), (2, .int a2), (3, .int a3)]) hx hb xd_Mo_weakThird_3 hl (by decide) rfl (fun ls hl => ?_)
  refine lv_iconst (pc := 5) (v := (0 : Int32)) hx hb xd_Mo_weakThird_5 (by decide) ?_
  refine lv_istore (pc := 6) (lv' := [(5, .int (0 : Int32)), (4, .int (500 : Int32)), (0, .ref (G.1 9 0)), (1, .int a1), (2, .int a2), (3, .int a3)]) hx hb xd_Mo_weakThird_6 hl (by decide) rfl (fun ls hl => ?_)
  obtain ⟨n, h⟩ := h
  refine xt_Mo_weakThird_8 hC hr hlk  (fun y3 y4 M5 H locs ls h hR hS hl => ?_) n (500 : Int32) (0 : Int32) M H locs ls h hR hS (lv_sub hl [2, 3, 4, 5, 1, 0] rfl)
  refine lv_iload (pc := 51) hx hb xd_Mo_weakThird_51 (lv_at hl 4 rfl) ?_
  obtain ⟨J66_5, eJ66_5, h⟩ := xj_open h
  have kJ66_5 : ∀ (v7 : Int32) (M8 : xM) (H : Heap) (locs : List Loc) (ls : Array Slot), J66_5 v7 M8 → xRp G M8 H → va_S (xA G) s.heap H locs → lv_has ls 6 [] → W p l e rm_Mo_weakThird s m args below meth c H locs 0 0 (MQ below (xPi G post) args s 0 0 (xA G)) (F0 m 66 ls [.int v7]) := by
    intro v7 M8 H locs ls h hR hS hl
    rw [eJ66_5] at h
    refine lv_istore (pc := 66) (lv' := [(5, .int v7)]) hx hb xd_Mo_weakThird_66 hl (by decide) rfl (fun ls hl => ?_)
    refine lv_iload (pc := 68) hx hb xd_Mo_weakThird_68 (lv_at hl 0 rfl) ?_
    refine lv_if_ge (pc := 70) (tgt := 77) hx hb xd_Mo_weakThird_70 (by decide) (fun hq => ?_) (fun hq => ?_)
    · have h := h.1 hq
      refine lv_iload (pc := 77) hx hb xd_Mo_weakThird_77 (lv_at hl 0 rfl) ?_
      refine lv_sipush (pc := 79) (v := (255 : Int32)) hx hb xd_Mo_weakThird_79 (by decide) ?_
      refine lv_icmp_le (pc := 82) (tgt := 91) hx hb xd_Mo_weakThird_82 (by decide) (fun hq => ?_) (fun hq => ?_)
      · have h := h.1 hq
        refine lv_iload (pc := 91) hx hb xd_Mo_weakThird_91 (lv_at hl 0 rfl) ?_
        exact xr_iret hC hr hlk hR hS h xd_Mo_weakThird_93
      · have h := h.2 hq
        refine lv_sipush (pc := 85) (v := (255 : Int32)) hx hb xd_Mo_weakThird_85 (by decide) ?_
        refine lv_goto (pc := 88) (tgt := 93) hx hb xd_Mo_weakThird_88 (by decide) ?_
        exact xr_iret hC hr hlk hR hS h xd_Mo_weakThird_93
    · have h := h.2 hq
      refine lv_iconst (pc := 73) (v := (0 : Int32)) hx hb xd_Mo_weakThird_73 (by decide) ?_
      refine lv_goto (pc := 74) (tgt := 93) hx hb xd_Mo_weakThird_74 (by decide) ?_
      exact xr_iret hC hr hlk hR hS h xd_Mo_weakThird_93
  refine lv_if_lt (pc := 53) (tgt := 65) hx hb xd_Mo_weakThird_53 (by decide) (fun hq => ?_) (fun hq => ?_)
  · have h := h.1 hq
    refine lv_iconst (pc := 65) (v := (-1 : Int32)) hx hb xd_Mo_weakThird_65 (by decide) ?_
    exact kJ66_5 (-1 : Int32) M5 H locs ls h hR hS (lv_sub hl [] rfl)
  · have h := h.2 hq
    refine lv_iload (pc := 56) hx hb xd_Mo_weakThird_56 (lv_at hl 4 rfl) ?_
    refine lv_sipush (pc := 58) (v := (1000 : Int32)) hx hb xd_Mo_weakThird_58 (by decide) ?_
    refine lv_idiv (pc := 61) hx hb xd_Mo_weakThird_61 (by decide) ?_
    refine lv_goto (pc := 62) (tgt := 66) hx hb xd_Mo_weakThird_62 (by decide) ?_
    exact kJ66_5 (y3 / (1000 : Int32)) M5 H locs ls h hR hS (lv_sub hl [] rfl)

/-! ColoursApartModel.far(II)I -/
theorem xd_Mo_far_0 : decode b_Mo_far 0 = .ok (.iload_n 0, 1) := by decide +kernel
theorem xd_Mo_far_1 : decode b_Mo_far 1 = .ok (.iload_n 1, 1) := by decide +kernel
theorem xd_Mo_far_2 : decode b_Mo_far 2 = .ok (.if_icmp .ge 9, 3) := by decide +kernel
theorem xd_Mo_far_5 : decode b_Mo_far 5 = .ok (.iload_n 1, 1) := by decide +kernel
theorem xd_Mo_far_6 : decode b_Mo_far 6 = .ok (.iload_n 0, 1) := by decide +kernel
theorem xd_Mo_far_7 : decode b_Mo_far 7 = .ok (.isub, 1) := by decide +kernel
theorem xd_Mo_far_8 : decode b_Mo_far 8 = .ok (.goto 6, 3) := by decide +kernel
theorem xd_Mo_far_11 : decode b_Mo_far 11 = .ok (.iload_n 0, 1) := by decide +kernel
theorem xd_Mo_far_12 : decode b_Mo_far 12 = .ok (.iload_n 1, 1) := by decide +kernel
theorem xd_Mo_far_13 : decode b_Mo_far 13 = .ok (.isub, 1) := by decide +kernel
theorem xd_Mo_far_14 : decode b_Mo_far 14 = .ok (.ireturn, 1) := by decide +kernel
abbrev rm_Mo_far : Room := { frames := 0, cells := 0, slots := 0, locals := 0 }
def xw_Mo_far (a0 : Int32) (a1 : Int32) (M : xM) (post : Int32 → xM → Prop) : Prop :=
  ((a1 ≤ a0) → (post (a0 - a1) M)) ∧ ((¬ a1 ≤ a0) → (post (a1 - a0) M))
set_option maxHeartbeats 4000000 in
set_option maxRecDepth 100000 in
theorem xc_Mo_far (l : Launch) (G : xG) {a0 : Int32} {a1 : Int32}  {M : xM} {post : Int32 → xM → Prop} (h : xw_Mo_far a0 a1 M post) : Met l y_Mo_far (Cond.code y_Mo_far b_Mo_far 2 (some .int) :: xTG) rm_Mo_far (xPre G M [.int a0, .int a1]) (xPi G post) 0 0 (xA G) := by
  refine xMet (own := R_Mo) [.int a0, .int a1] (Or.inl (by decide)) rfl (Nat.le_of_ble_eq_true rfl) (fun p e s m args below meth c ls hC hr hlk hR hS hl => ?_)
  have hx := hC.1
  have hb := hC.2.1
  have hl : lv_has ls 2 [(0, .int a0), (1, .int a1)] := hl
  obtain ⟨H, eH⟩ : ∃ H : Heap, H = s.heap := ⟨_, rfl⟩
  obtain ⟨locs, eL⟩ : ∃ locs : List Loc, locs = [] := ⟨_, rfl⟩
  rw [← eH] at hR
  replace hS : va_S (xA G) s.heap H locs := by rw [eH, eL]; exact hS
  suffices hh : W p l e rm_Mo_far s m args below meth c H locs 0 0 (MQ below (xPi G post) args s 0 0 (xA G)) (F0 m 0 ls []) from by rw [eH, eL] at hh; exact hh
  unfold xw_Mo_far at h
  refine lv_iload_n (pc := 0) hx hb xd_Mo_far_0 rfl (lv_at hl 0 rfl) ?_
  refine lv_iload_n (pc := 1) hx hb xd_Mo_far_1 rfl (lv_at hl 1 rfl) ?_
  refine lv_icmp_ge (pc := 2) (tgt := 11) hx hb xd_Mo_far_2 (by decide) (fun hq => ?_) (fun hq => ?_)
  · have h := h.1 hq
    refine lv_iload_n (pc := 11) hx hb xd_Mo_far_11 rfl (lv_at hl 0 rfl) ?_
    refine lv_iload_n (pc := 12) hx hb xd_Mo_far_12 rfl (lv_at hl 1 rfl) ?_
    refine lv_isub (pc := 13) hx hb xd_Mo_far_13 ?_
    exact xr_iret hC hr hlk hR hS h xd_Mo_far_14
  · have h := h.2 hq
    refine lv_iload_n (pc := 5) hx hb xd_Mo_far_5 rfl (lv_at hl 1 rfl) ?_
    refine lv_iload_n (pc := 6) hx hb xd_Mo_far_6 rfl (lv_at hl 0 rfl) ?_
    refine lv_isub (pc := 7) hx hb xd_Mo_far_7 ?_
    refine lv_goto (pc := 8) (tgt := 14) hx hb xd_Mo_far_8 (by decide) ?_
    exact xr_iret hC hr hlk hR hS h xd_Mo_far_14

/-! ColoursApartModel.printed(I)I -/
theorem xd_Mo_printed_0 : decode b_Mo_printed 0 = .ok (.iconst 0, 1) := by decide +kernel
theorem xd_Mo_printed_1 : decode b_Mo_printed 1 = .ok (.istore_n 2, 1) := by decide +kernel
theorem xd_Mo_printed_2 : decode b_Mo_printed 2 = .ok (.iconst 0, 1) := by decide +kernel
theorem xd_Mo_printed_3 : decode b_Mo_printed 3 = .ok (.istore_n 3, 1) := by decide +kernel
theorem xd_Mo_printed_4 : decode b_Mo_printed 4 = .ok (.iload_n 3, 1) := by decide +kernel
theorem xd_Mo_printed_5 : decode b_Mo_printed 5 = .ok (.aload_n 0, 1) := by decide +kernel
theorem xd_Mo_printed_6 : decode b_Mo_printed 6 = .ok (.getfield 22, 3) := by decide +kernel
theorem xd_Mo_printed_9 : decode b_Mo_printed 9 = .ok (.if_icmp .ge 72, 3) := by decide +kernel
theorem xd_Mo_printed_12 : decode b_Mo_printed 12 = .ok (.iload_n 3, 1) := by decide +kernel
theorem xd_Mo_printed_13 : decode b_Mo_printed 13 = .ok (.sipush 255, 3) := by decide +kernel
theorem xd_Mo_printed_16 : decode b_Mo_printed 16 = .ok (.imul, 1) := by decide +kernel
theorem xd_Mo_printed_17 : decode b_Mo_printed 17 = .ok (.aload_n 0, 1) := by decide +kernel
theorem xd_Mo_printed_18 : decode b_Mo_printed 18 = .ok (.getfield 22, 3) := by decide +kernel
theorem xd_Mo_printed_21 : decode b_Mo_printed 21 = .ok (.iconst 1, 1) := by decide +kernel
theorem xd_Mo_printed_22 : decode b_Mo_printed 22 = .ok (.isub, 1) := by decide +kernel
theorem xd_Mo_printed_23 : decode b_Mo_printed 23 = .ok (.iconst 2, 1) := by decide +kernel
theorem xd_Mo_printed_24 : decode b_Mo_printed 24 = .ok (.idiv, 1) := by decide +kernel
theorem xd_Mo_printed_25 : decode b_Mo_printed 25 = .ok (.iadd, 1) := by decide +kernel
theorem xd_Mo_printed_26 : decode b_Mo_printed 26 = .ok (.aload_n 0, 1) := by decide +kernel
theorem xd_Mo_printed_27 : decode b_Mo_printed 27 = .ok (.getfield 22, 3) := by decide +kernel
theorem xd_Mo_printed_30 : decode b_Mo_printed 30 = .ok (.iconst 1, 1) := by decide +kernel
theorem xd_Mo_printed_31 : decode b_Mo_printed 31 = .ok (.isub, 1) := by decide +kernel
theorem xd_Mo_printed_32 : decode b_Mo_printed 32 = .ok (.idiv, 1) := by decide +kernel
theorem xd_Mo_printed_33 : decode b_Mo_printed 33 = .ok (.istore 4, 2) := by decide +kernel
theorem xd_Mo_printed_35 : decode b_Mo_printed 35 = .ok (.iload_n 2, 1) := by decide +kernel
theorem xd_Mo_printed_36 : decode b_Mo_printed 36 = .ok (.sipush 255, 3) := by decide +kernel
theorem xd_Mo_printed_39 : decode b_Mo_printed 39 = .ok (.imul, 1) := by decide +kernel
theorem xd_Mo_printed_40 : decode b_Mo_printed 40 = .ok (.aload_n 0, 1) := by decide +kernel
theorem xd_Mo_printed_41 : decode b_Mo_printed 41 = .ok (.getfield 22, 3) := by decide +kernel
theorem xd_Mo_printed_44 : decode b_Mo_printed 44 = .ok (.iconst 1, 1) := by decide +kernel
theorem xd_Mo_printed_45 : decode b_Mo_printed 45 = .ok (.isub, 1) := by decide +kernel
theorem xd_Mo_printed_46 : decode b_Mo_printed 46 = .ok (.iconst 2, 1) := by decide +kernel
theorem xd_Mo_printed_47 : decode b_Mo_printed 47 = .ok (.idiv, 1) := by decide +kernel
theorem xd_Mo_printed_48 : decode b_Mo_printed 48 = .ok (.iadd, 1) := by decide +kernel
theorem xd_Mo_printed_49 : decode b_Mo_printed 49 = .ok (.aload_n 0, 1) := by decide +kernel
theorem xd_Mo_printed_50 : decode b_Mo_printed 50 = .ok (.getfield 22, 3) := by decide +kernel
theorem xd_Mo_printed_53 : decode b_Mo_printed 53 = .ok (.iconst 1, 1) := by decide +kernel
theorem xd_Mo_printed_54 : decode b_Mo_printed 54 = .ok (.isub, 1) := by decide +kernel
theorem xd_Mo_printed_55 : decode b_Mo_printed 55 = .ok (.idiv, 1) := by decide +kernel
theorem xd_Mo_printed_56 : decode b_Mo_printed 56 = .ok (.istore 5, 2) := by decide +kernel
theorem xd_Mo_printed_58 : decode b_Mo_printed 58 = .ok (.iload_n 1, 1) := by decide +kernel
theorem xd_Mo_printed_59 : decode b_Mo_printed 59 = .ok (.iload 4, 2) := by decide +kernel
theorem xd_Mo_printed_61 : decode b_Mo_printed 61 = .ok (.invokestatic 114, 3) := by decide +kernel
theorem xd_Mo_printed_64 : decode b_Mo_printed 64 = .ok (.iload_n 1, 1) := by decide +kernel
theorem xd_Mo_printed_65 : decode b_Mo_printed 65 = .ok (.iload 5, 2) := by decide +kernel
theorem xd_Mo_printed_67 : decode b_Mo_printed 67 = .ok (.invokestatic 114, 3) := by decide +kernel
theorem xd_Mo_printed_70 : decode b_Mo_printed 70 = .ok (.if_icmp .ge 5, 3) := by decide +kernel
theorem xd_Mo_printed_73 : decode b_Mo_printed 73 = .ok (.iload_n 3, 1) := by decide +kernel
theorem xd_Mo_printed_74 : decode b_Mo_printed 74 = .ok (.istore_n 2, 1) := by decide +kernel
theorem xd_Mo_printed_75 : decode b_Mo_printed 75 = .ok (.iinc 3 1, 3) := by decide +kernel
theorem xd_Mo_printed_78 : decode b_Mo_printed 78 = .ok (.goto (-74), 3) := by decide +kernel
theorem xd_Mo_printed_81 : decode b_Mo_printed 81 = .ok (.iload_n 2, 1) := by decide +kernel
theorem xd_Mo_printed_82 : decode b_Mo_printed 82 = .ok (.sipush 255, 3) := by decide +kernel
theorem xd_Mo_printed_85 : decode b_Mo_printed 85 = .ok (.imul, 1) := by decide +kernel
theorem xd_Mo_printed_86 : decode b_Mo_printed 86 = .ok (.aload_n 0, 1) := by decide +kernel
theorem xd_Mo_printed_87 : decode b_Mo_printed 87 = .ok (.getfield 22, 3) := by decide +kernel
theorem xd_Mo_printed_90 : decode b_Mo_printed 90 = .ok (.iconst 1, 1) := by decide +kernel
theorem xd_Mo_printed_91 : decode b_Mo_printed 91 = .ok (.isub, 1) := by decide +kernel
theorem xd_Mo_printed_92 : decode b_Mo_printed 92 = .ok (.iconst 2, 1) := by decide +kernel
theorem xd_Mo_printed_93 : decode b_Mo_printed 93 = .ok (.idiv, 1) := by decide +kernel
theorem xd_Mo_printed_94 : decode b_Mo_printed 94 = .ok (.iadd, 1) := by decide +kernel
theorem xd_Mo_printed_95 : decode b_Mo_printed 95 = .ok (.aload_n 0, 1) := by decide +kernel
theorem xd_Mo_printed_96 : decode b_Mo_printed 96 = .ok (.getfield 22, 3) := by decide +kernel
theorem xd_Mo_printed_99 : decode b_Mo_printed 99 = .ok (.iconst 1, 1) := by decide +kernel
theorem xd_Mo_printed_100 : decode b_Mo_printed 100 = .ok (.isub, 1) := by decide +kernel
theorem xd_Mo_printed_101 : decode b_Mo_printed 101 = .ok (.idiv, 1) := by decide +kernel
theorem xd_Mo_printed_102 : decode b_Mo_printed 102 = .ok (.ireturn, 1) := by decide +kernel
abbrev rm_Mo_printed : Room := { frames := 1, cells := 0, slots := 0, locals := 21 }
def xw_Mo_printed_4 (x1 : Int32) (post : Int32 → xM → Prop) (k81 : Int32 → Int32 → xM → Prop) : Nat → Int32 → Int32 → xM → Prop
  | 0, _, _, _ => False
  | n4 + 1, x2, x3, M => (((M 9 0 5) ≤ x3) → (k81 x2 x3 M)) ∧ ((¬ (M 9 0 5) ≤ x3) → ((¬ ((M 9 0 5) - (1 : Int32)) = 0) ∧ ((¬ ((M 9 0 5) - (1 : Int32)) = 0) ∧ (xw_Mo_far x1 (((x3 * (255 : Int32)) + (((M 9 0 5) - (1 : Int32)) / (2 : Int32))) / ((M 9 0 5) - (1 : Int32))) M (fun (r2 : Int32) (M1 : xM) => xw_Mo_far x1 (((x2 * (255 : Int32)) + (((M 9 0 5) - (1 : Int32)) / (2 : Int32))) / ((M 9 0 5) - (1 : Int32))) M1 (fun (r4 : Int32) (M3 : xM) => ((r4 ≤ r2) → (xw_Mo_printed_4 x1 post k81 n4 x2 (x3 + (1 : Int32)) M3)) ∧ ((¬ r4 ≤ r2) → (xw_Mo_printed_4 x1 post k81 n4 x3 (x3 + (1 : Int32)) M3))))))))
def xw_Mo_printed (a1 : Int32) (M : xM) (post : Int32 → xM → Prop) : Prop :=
  ∃ n4 : Nat, xw_Mo_printed_4 a1 post (fun (y5 : Int32) (y6 : Int32) (M7 : xM) => (¬ ((M7 9 0 5) - (1 : Int32)) = 0) ∧ (post (((y5 * (255 : Int32)) + (((M7 9 0 5) - (1 : Int32)) / (2 : Int32))) / ((M7 9 0 5) - (1 : Int32))) M7)) n4 (0 : Int32) (0 : Int32) M
set_option maxHeartbeats 4000000 in
set_option maxRecDepth 100000 in
theorem xt_Mo_printed_4 {p : Program} {l : Launch} {e : Env} {s : State} {m : MethodId} {args : Array Value} {below : List Frame} {meth : Method} {c : Code} {G : xG} (hC : xC p s m args c b_Mo_printed R_Mo 6 G) (hr : meth.sig.returnType = (some .int)) (hlk : meth.locks = false) {x1 : Int32} {post : Int32 → xM → Prop} {k81 : Int32 → Int32 → xM → Prop} (hk81 : ∀ (x2 : Int32) (x3 : Int32) (M : xM) (H : Heap) (locs : List Loc) (ls : Array Slot), k81 x2 x3 M → xRp G M H → va_S (xA G) s.heap H locs → lv_has ls 6 [(0, .ref (G.1 9 0)), (1, .int x1), (2, .int x2), (3, .int x3)] → W p l e rm_Mo_printed s m args below meth c H locs 0 0 (MQ below (xPi G post) args s 0 0 (xA G)) (F0 m 81 ls [])) : ∀ (n : Nat) (x2 : Int32) (x3 : Int32) (M : xM) (H : Heap) (locs : List Loc) (ls : Array Slot), xw_Mo_printed_4 x1 post k81 n x2 x3 M → xRp G M H → va_S (xA G) s.heap H locs → lv_has ls 6 [(0, .ref (G.1 9 0)), (1, .int x1), (2, .int x2), (3, .int x3)] → W p l e rm_Mo_printed s m args below meth c H locs 0 0 (MQ below (xPi G post) args s 0 0 (xA G)) (F0 m 4 ls []) := by
  have hx := hC.1
  have hb := hC.2.1
  intro n
  induction n with
  | zero => intro x2 x3 M H locs ls; exact fun h => h.elim
  | succ n ih =>
    intro x2 x3 M H locs ls h hR hS hl
    refine lv_iload_n (pc := 4) hx hb xd_Mo_printed_4 rfl (lv_at hl 3 rfl) ?_
    refine lv_aload_n (pc := 5) hx hb xd_Mo_printed_5 rfl (lv_at hl 0 rfl) ?_
    refine xr_get (pc := 6) (v := .int (M 9 0 5)) hC hR xo_M0 xf_Mo_22 rfl xd_Mo_printed_6 ?_
    refine lv_icmp_ge (pc := 9) (tgt := 81) hx hb xd_Mo_printed_9 (by decide) (fun hq => ?_) (fun hq => ?_)
    · have h := h.1 hq
      exact hk81 x2 x3 M H locs ls h hR hS (lv_sub hl [0, 1, 2, 3] rfl)
    · have h := h.2 hq
      refine lv_iload_n (pc := 12) hx hb xd_Mo_printed_12 rfl (lv_at hl 3 rfl) ?_
      refine lv_sipush (pc := 13) (v := (255 : Int32)) hx hb xd_Mo_printed_13 (by decide) ?_
      refine lv_imul (pc := 16) hx hb xd_Mo_printed_16 ?_
      refine lv_aload_n (pc := 17) hx hb xd_Mo_printed_17 rfl (lv_at hl 0 rfl) ?_
      refine xr_get (pc := 18) (v := .int (M 9 0 5)) hC hR xo_M0 xf_Mo_22 rfl xd_Mo_printed_18 ?_
      refine lv_iconst (pc := 21) (v := (1 : Int32)) hx hb xd_Mo_printed_21 (by decide) ?_
      refine lv_isub (pc := 22) hx hb xd_Mo_printed_22 ?_
      refine lv_iconst (pc := 23) (v := (2 : Int32)) hx hb xd_Mo_printed_23 (by decide) ?_
      refine lv_idiv (pc := 24) hx hb xd_Mo_printed_24 (by decide) ?_
      refine lv_iadd (pc := 25) hx hb xd_Mo_printed_25 ?_
      refine lv_aload_n (pc := 26) hx hb xd_Mo_printed_26 rfl (lv_at hl 0 rfl) ?_
      refine xr_get (pc := 27) (v := .int (M 9 0 5)) hC hR xo_M0 xf_Mo_22 rfl xd_Mo_printed_27 ?_
      refine lv_iconst (pc := 30) (v := (1 : Int32)) hx hb xd_Mo_printed_30 (by decide) ?_
      refine lv_isub (pc := 31) hx hb xd_Mo_printed_31 ?_
      obtain ⟨hq, h⟩ := h
      refine lv_idiv (pc := 32) hx hb xd_Mo_printed_32 hq ?_
      refine lv_istore (pc := 33) (lv' := [(4, .int (((x3 * (255 : Int32)) + (((M 9 0 5) - (1 : Int32)) / (2 : Int32))) / ((M 9 0 5) - (1 : Int32)))), (0, .ref (G.1 9 0)), (1, .int x1), (2, .int x2), (3, .int x3)]) hx hb xd_Mo_printed_33 hl (by decide) rfl (fun ls hl => ?_)
      refine lv_iload_n (pc := 35) hx hb xd_Mo_printed_35 rfl (lv_at hl 3 rfl) ?_
      refine lv_sipush (pc := 36) (v := (255 : Int32)) hx hb xd_Mo_printed_36 (by decide) ?_
      refine lv_imul (pc := 39) hx hb xd_Mo_printed_39 ?_
      refine lv_aload_n (pc := 40) hx hb xd_Mo_printed_40 rfl (lv_at hl 1 rfl) ?_
      refine xr_get (pc := 41) (v := .int (M 9 0 5)) hC hR xo_M0 xf_Mo_22 rfl xd_Mo_printed_41 ?_
      refine lv_iconst (pc := 44) (v := (1 : Int32)) hx hb xd_Mo_printed_44 (by decide) ?_
      refine lv_isub (pc := 45) hx hb xd_Mo_printed_45 ?_
      refine lv_iconst (pc := 46) (v := (2 : Int32)) hx hb xd_Mo_printed_46 (by decide) ?_
      refine lv_idiv (pc := 47) hx hb xd_Mo_printed_47 (by decide) ?_
      refine lv_iadd (pc := 48) hx hb xd_Mo_printed_48 ?_
      refine lv_aload_n (pc := 49) hx hb xd_Mo_printed_49 rfl (lv_at hl 1 rfl) ?_
      refine xr_get (pc := 50) (v := .int (M 9 0 5)) hC hR xo_M0 xf_Mo_22 rfl xd_Mo_printed_50 ?_
      refine lv_iconst (pc := 53) (v := (1 : Int32)) hx hb xd_Mo_printed_53 (by decide) ?_
      refine lv_isub (pc := 54) hx hb xd_Mo_printed_54 ?_
      obtain ⟨hq, h⟩ := h
      refine lv_idiv (pc := 55) hx hb xd_Mo_printed_55 hq ?_
      refine lv_istore (pc := 56) (lv' := [(5, .int (((x2 * (255 : Int32)) + (((M 9 0 5) - (1 : Int32)) / (2 : Int32))) / ((M 9 0 5) - (1 : Int32)))), (4, .int (((x3 * (255 : Int32)) + (((M 9 0 5) - (1 : Int32)) / (2 : Int32))) / ((M 9 0 5) - (1 : Int32)))), (0, .ref (G.1 9 0)), (1, .int x1), (2, .int x2), (3, .int x3)]) hx hb xd_Mo_printed_56 hl (by decide) rfl (fun ls hl => ?_)
      refine lv_iload_n (pc := 58) hx hb xd_Mo_printed_58 rfl (lv_at hl 3 rfl) ?_
      refine lv_iload (pc := 59) hx hb xd_Mo_printed_59 (lv_at hl 1 rfl) ?_
      refine xr_callS (pc := 61) (As := [.int x1, .int (((x3 * (255 : Int32)) + (((M 9 0 5) - (1 : Int32)) / (2 : Int32))) / ((M 9 0 5) - (1 : Int32)))]) (rest := []) hC hR hS (xc_Mo_far l G  h) xv_Mo_114 ⟨rfl, rfl, Nat.le_of_ble_eq_true rfl, Nat.le_of_ble_eq_true rfl⟩ rfl hl.1 rfl (Nat.le_of_ble_eq_true rfl) xd_Mo_printed_61 (fun r2 M1 H locs h hR hS => ?_)
      refine lv_iload_n (pc := 64) hx hb xd_Mo_printed_64 rfl (lv_at hl 3 rfl) ?_
      refine lv_iload (pc := 65) hx hb xd_Mo_printed_65 (lv_at hl 0 rfl) ?_
      refine xr_callS (pc := 67) (As := [.int x1, .int (((x2 * (255 : Int32)) + (((M 9 0 5) - (1 : Int32)) / (2 : Int32))) / ((M 9 0 5) - (1 : Int32)))]) (rest := [.int r2]) hC hR hS (xc_Mo_far l G  h) xv_Mo_114 ⟨rfl, rfl, Nat.le_of_ble_eq_true rfl, Nat.le_of_ble_eq_true rfl⟩ rfl hl.1 rfl (Nat.le_of_ble_eq_true rfl) xd_Mo_printed_67 (fun r4 M3 H locs h hR hS => ?_)
      refine lv_icmp_ge (pc := 70) (tgt := 75) hx hb xd_Mo_printed_70 (by decide) (fun hq => ?_) (fun hq => ?_)
      · have h := h.1 hq
        refine lv_iinc (pc := 75) (v := (x3 + (1 : Int32))) (lv' := [(3, .int (x3 + (1 : Int32))), (5, .int (((x2 * (255 : Int32)) + (((M 9 0 5) - (1 : Int32)) / (2 : Int32))) / ((M 9 0 5) - (1 : Int32)))), (4, .int (((x3 * (255 : Int32)) + (((M 9 0 5) - (1 : Int32)) / (2 : Int32))) / ((M 9 0 5) - (1 : Int32)))), (0, .ref (G.1 9 0)), (1, .int x1), (2, .int x2)]) hx hb xd_Mo_printed_75 hl (k := 5) rfl rfl (by decide) rfl (fun ls hl => ?_)
        refine lv_goto (pc := 78) (tgt := 4) hx hb xd_Mo_printed_78 (by decide) ?_
        exact ih x2 (x3 + (1 : Int32)) M3 H locs ls h hR hS (lv_sub hl [3, 4, 5, 0] rfl)
      · have h := h.2 hq
        refine lv_iload_n (pc := 73) hx hb xd_Mo_printed_73 rfl (lv_at hl 5 rfl) ?_
        refine lv_istore_n (pc := 74) (lv' := [(2, .int x3), (5, .int (((x2 * (255 : Int32)) + (((M 9 0 5) - (1 : Int32)) / (2 : Int32))) / ((M 9 0 5) - (1 : Int32)))), (4, .int (((x3 * (255 : Int32)) + (((M 9 0 5) - (1 : Int32)) / (2 : Int32))) / ((M 9 0 5) - (1 : Int32)))), (0, .ref (G.1 9 0)), (1, .int x1), (3, .int x3)]) hx hb xd_Mo_printed_74 rfl hl (by decide) rfl (fun ls hl => ?_)
        refine lv_iinc (pc := 75) (v := (x3 + (1 : Int32))) (lv' := [(3, .int (x3 + (1 : Int32))), (2, .int x3), (5, .int (((x2 * (255 : Int32)) + (((M 9 0 5) - (1 : Int32)) / (2 : Int32))) / ((M 9 0 5) - (1 : Int32)))), (4, .int (((x3 * (255 : Int32)) + (((M 9 0 5) - (1 : Int32)) / (2 : Int32))) / ((M 9 0 5) - (1 : Int32)))), (0, .ref (G.1 9 0)), (1, .int x1)]) hx hb xd_Mo_printed_75 hl (k := 5) rfl rfl (by decide) rfl (fun ls hl => ?_)
        refine lv_goto (pc := 78) (tgt := 4) hx hb xd_Mo_printed_78 (by decide) ?_
        exact ih x3 (x3 + (1 : Int32)) M3 H locs ls h hR hS (lv_sub hl [4, 5, 1, 0] rfl)
set_option maxHeartbeats 4000000 in
set_option maxRecDepth 100000 in
theorem xc_Mo_printed (l : Launch) (G : xG) {a1 : Int32}  {M : xM} {post : Int32 → xM → Prop} (h : xw_Mo_printed a1 M post) : Met l y_Mo_printed (Cond.code y_Mo_printed b_Mo_printed 6 (some .int) :: xTG) rm_Mo_printed (xPre G M [.ref (G.1 9 0), .int a1]) (xPi G post) 0 0 (xA G) := by
  refine xMet (own := R_Mo) [.ref (G.1 9 0), .int a1] (Or.inl (by decide)) rfl (Nat.le_of_ble_eq_true rfl) (fun p e s m args below meth c ls hC hr hlk hR hS hl => ?_)
  have hx := hC.1
  have hb := hC.2.1
  have hl : lv_has ls 6 [(0, .ref (G.1 9 0)), (1, .int a1)] := hl
  obtain ⟨H, eH⟩ : ∃ H : Heap, H = s.heap := ⟨_, rfl⟩
  obtain ⟨locs, eL⟩ : ∃ locs : List Loc, locs = [] := ⟨_, rfl⟩
  rw [← eH] at hR
  replace hS : va_S (xA G) s.heap H locs := by rw [eH, eL]; exact hS
  suffices hh : W p l e rm_Mo_printed s m args below meth c H locs 0 0 (MQ below (xPi G post) args s 0 0 (xA G)) (F0 m 0 ls []) from by rw [eH, eL] at hh; exact hh
  unfold xw_Mo_printed at h
  refine lv_iconst (pc := 0) (v := (0 : Int32)) hx hb xd_Mo_printed_0 (by decide) ?_
  refine lv_istore_n (pc := 1) (lv' := [(2, .int (0 : Int32)), (0, .ref (G.1 9 0)), (1, .int a1)]) hx hb xd_Mo_printed_1 rfl hl (by decide) rfl (fun ls hl => ?_)
  refine lv_iconst (pc := 2) (v := (0 : Int32)) hx hb xd_Mo_printed_2 (by decide) ?_
  refine lv_istore_n (pc := 3) (lv' := [(3, .int (0 : Int32)), (2, .int (0 : Int32)), (0, .ref (G.1 9 0)), (1, .int a1)]) hx hb xd_Mo_printed_3 rfl hl (by decide) rfl (fun ls hl => ?_)
  obtain ⟨n, h⟩ := h
  refine xt_Mo_printed_4 hC hr hlk  (fun y5 y6 M7 H locs ls h hR hS hl => ?_) n (0 : Int32) (0 : Int32) M H locs ls h hR hS (lv_sub hl [2, 3, 1, 0] rfl)
  refine lv_iload_n (pc := 81) hx hb xd_Mo_printed_81 rfl (lv_at hl 2 rfl) ?_
  refine lv_sipush (pc := 82) (v := (255 : Int32)) hx hb xd_Mo_printed_82 (by decide) ?_
  refine lv_imul (pc := 85) hx hb xd_Mo_printed_85 ?_
  refine lv_aload_n (pc := 86) hx hb xd_Mo_printed_86 rfl (lv_at hl 0 rfl) ?_
  refine xr_get (pc := 87) (v := .int (M7 9 0 5)) hC hR xo_M0 xf_Mo_22 rfl xd_Mo_printed_87 ?_
  refine lv_iconst (pc := 90) (v := (1 : Int32)) hx hb xd_Mo_printed_90 (by decide) ?_
  refine lv_isub (pc := 91) hx hb xd_Mo_printed_91 ?_
  refine lv_iconst (pc := 92) (v := (2 : Int32)) hx hb xd_Mo_printed_92 (by decide) ?_
  refine lv_idiv (pc := 93) hx hb xd_Mo_printed_93 (by decide) ?_
  refine lv_iadd (pc := 94) hx hb xd_Mo_printed_94 ?_
  refine lv_aload_n (pc := 95) hx hb xd_Mo_printed_95 rfl (lv_at hl 0 rfl) ?_
  refine xr_get (pc := 96) (v := .int (M7 9 0 5)) hC hR xo_M0 xf_Mo_22 rfl xd_Mo_printed_96 ?_
  refine lv_iconst (pc := 99) (v := (1 : Int32)) hx hb xd_Mo_printed_99 (by decide) ?_
  refine lv_isub (pc := 100) hx hb xd_Mo_printed_100 ?_
  obtain ⟨hq, h⟩ := h
  refine lv_idiv (pc := 101) hx hb xd_Mo_printed_101 hq ?_
  exact xr_iret hC hr hlk hR hS h xd_Mo_printed_102
