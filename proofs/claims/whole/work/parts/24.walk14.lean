/-! ColoursApartModel.brighter(II)I -/
theorem xd_Mo_brighter_0 : decode b_Mo_brighter 0 = .ok (.iload_n 0, 1) := by decide +kernel
theorem xd_Mo_brighter_1 : decode b_Mo_brighter 1 = .ok (.invokestatic 120, 3) := by decide +kernel
theorem xd_Mo_brighter_4 : decode b_Mo_brighter 4 = .ok (.iload_n 1, 1) := by decide +kernel
theorem xd_Mo_brighter_5 : decode b_Mo_brighter 5 = .ok (.invokestatic 120, 3) := by decide +kernel
theorem xd_Mo_brighter_8 : decode b_Mo_brighter 8 = .ok (.if_icmp .le 10, 3) := by decide +kernel
theorem xd_Mo_brighter_11 : decode b_Mo_brighter 11 = .ok (.iload_n 0, 1) := by decide +kernel
theorem xd_Mo_brighter_12 : decode b_Mo_brighter 12 = .ok (.invokestatic 120, 3) := by decide +kernel
theorem xd_Mo_brighter_15 : decode b_Mo_brighter 15 = .ok (.goto 7, 3) := by decide +kernel
theorem xd_Mo_brighter_18 : decode b_Mo_brighter 18 = .ok (.iload_n 1, 1) := by decide +kernel
theorem xd_Mo_brighter_19 : decode b_Mo_brighter 19 = .ok (.invokestatic 120, 3) := by decide +kernel
theorem xd_Mo_brighter_22 : decode b_Mo_brighter 22 = .ok (.bipush 13, 2) := by decide +kernel
theorem xd_Mo_brighter_24 : decode b_Mo_brighter 24 = .ok (.iadd, 1) := by decide +kernel
theorem xd_Mo_brighter_25 : decode b_Mo_brighter 25 = .ok (.ireturn, 1) := by decide +kernel
abbrev rm_Mo_brighter : Room := { frames := 2, cells := 0, slots := 0, locals := 41 }
def xw_Mo_brighter (a0 : Int32) (a1 : Int32) (M : xM) (post : Int32 → xM → Prop) : Prop :=
  xw_Mo_lightOf a0 M (fun (r2 : Int32) (M1 : xM) => xw_Mo_lightOf a1 M1 (fun (r4 : Int32) (M3 : xM) => ((r2 ≤ r4) → (xw_Mo_lightOf a1 M3 (fun (r6 : Int32) (M5 : xM) => post (r6 + (13 : Int32)) M5))) ∧ ((¬ r2 ≤ r4) → (xw_Mo_lightOf a0 M3 (fun (r8 : Int32) (M7 : xM) => post (r8 + (13 : Int32)) M7)))))
set_option maxHeartbeats 4000000 in
set_option maxRecDepth 100000 in
theorem xc_Mo_brighter (l : Launch) (G : xG) {a0 : Int32} {a1 : Int32}  {M : xM} {post : Int32 → xM → Prop} (h : xw_Mo_brighter a0 a1 M post) : Met l y_Mo_brighter (Cond.code y_Mo_brighter b_Mo_brighter 2 (some .int) :: xTG) rm_Mo_brighter (xPre G M [.int a0, .int a1]) (xPi G post) 0 0 (xA G) := by
  refine xMet (own := R_Mo) [.int a0, .int a1] (Or.inl (by decide)) rfl (Nat.le_of_ble_eq_true rfl) (fun p e s m args below meth c ls hC hr hlk hR hS hl => ?_)
  have hx := hC.1
  have hb := hC.2.1
  have hl : lv_has ls 2 [(0, .int a0), (1, .int a1)] := hl
  obtain ⟨H, eH⟩ : ∃ H : Heap, H = s.heap := ⟨_, rfl⟩
  obtain ⟨locs, eL⟩ : ∃ locs : List Loc, locs = [] := ⟨_, rfl⟩
  rw [← eH] at hR
  replace hS : va_S (xA G) s.heap H locs := by rw [eH, eL]; exact hS
  suffices hh : W p l e rm_Mo_brighter s m args below meth c H locs 0 0 (MQ below (xPi G post) args s 0 0 (xA G)) (F0 m 0 ls []) from by rw [eH, eL] at hh; exact hh
  unfold xw_Mo_brighter at h
  refine lv_iload_n (pc := 0) hx hb xd_Mo_brighter_0 rfl (lv_at hl 0 rfl) ?_
  refine xr_callS (pc := 1) (As := [.int a0]) (rest := []) hC hR hS (xc_Mo_lightOf l G  h) xv_Mo_120 ⟨rfl, rfl, Nat.le_of_ble_eq_true rfl, Nat.le_of_ble_eq_true rfl⟩ rfl hl.1 rfl (Nat.le_of_ble_eq_true rfl) xd_Mo_brighter_1 (fun r2 M1 H locs h hR hS => ?_)
  refine lv_iload_n (pc := 4) hx hb xd_Mo_brighter_4 rfl (lv_at hl 1 rfl) ?_
  refine xr_callS (pc := 5) (As := [.int a1]) (rest := [.int r2]) hC hR hS (xc_Mo_lightOf l G  h) xv_Mo_120 ⟨rfl, rfl, Nat.le_of_ble_eq_true rfl, Nat.le_of_ble_eq_true rfl⟩ rfl hl.1 rfl (Nat.le_of_ble_eq_true rfl) xd_Mo_brighter_5 (fun r4 M3 H locs h hR hS => ?_)
  refine lv_icmp_le (pc := 8) (tgt := 18) hx hb xd_Mo_brighter_8 (by decide) (fun hq => ?_) (fun hq => ?_)
  · have h := h.1 hq
    refine lv_iload_n (pc := 18) hx hb xd_Mo_brighter_18 rfl (lv_at hl 1 rfl) ?_
    refine xr_callS (pc := 19) (As := [.int a1]) (rest := []) hC hR hS (xc_Mo_lightOf l G  h) xv_Mo_120 ⟨rfl, rfl, Nat.le_of_ble_eq_true rfl, Nat.le_of_ble_eq_true rfl⟩ rfl hl.1 rfl (Nat.le_of_ble_eq_true rfl) xd_Mo_brighter_19 (fun r6 M5 H locs h hR hS => ?_)
    refine lv_bipush (pc := 22) (v := (13 : Int32)) hx hb xd_Mo_brighter_22 (by decide) ?_
    refine lv_iadd (pc := 24) hx hb xd_Mo_brighter_24 ?_
    exact xr_iret hC hr hlk hR hS h xd_Mo_brighter_25
  · have h := h.2 hq
    refine lv_iload_n (pc := 11) hx hb xd_Mo_brighter_11 rfl (lv_at hl 0 rfl) ?_
    refine xr_callS (pc := 12) (As := [.int a0]) (rest := []) hC hR hS (xc_Mo_lightOf l G  h) xv_Mo_120 ⟨rfl, rfl, Nat.le_of_ble_eq_true rfl, Nat.le_of_ble_eq_true rfl⟩ rfl hl.1 rfl (Nat.le_of_ble_eq_true rfl) xd_Mo_brighter_12 (fun r8 M7 H locs h hR hS => ?_)
    refine lv_goto (pc := 15) (tgt := 22) hx hb xd_Mo_brighter_15 (by decide) ?_
    refine lv_bipush (pc := 22) (v := (13 : Int32)) hx hb xd_Mo_brighter_22 (by decide) ?_
    refine lv_iadd (pc := 24) hx hb xd_Mo_brighter_24 ?_
    exact xr_iret hC hr hlk hR hS h xd_Mo_brighter_25

/-! ColoursApartModel.darker(II)I -/
theorem xd_Mo_darker_0 : decode b_Mo_darker 0 = .ok (.iload_n 0, 1) := by decide +kernel
theorem xd_Mo_darker_1 : decode b_Mo_darker 1 = .ok (.invokestatic 120, 3) := by decide +kernel
theorem xd_Mo_darker_4 : decode b_Mo_darker 4 = .ok (.iload_n 1, 1) := by decide +kernel
theorem xd_Mo_darker_5 : decode b_Mo_darker 5 = .ok (.invokestatic 120, 3) := by decide +kernel
theorem xd_Mo_darker_8 : decode b_Mo_darker 8 = .ok (.if_icmp .le 10, 3) := by decide +kernel
theorem xd_Mo_darker_11 : decode b_Mo_darker 11 = .ok (.iload_n 1, 1) := by decide +kernel
theorem xd_Mo_darker_12 : decode b_Mo_darker 12 = .ok (.invokestatic 120, 3) := by decide +kernel
theorem xd_Mo_darker_15 : decode b_Mo_darker 15 = .ok (.goto 7, 3) := by decide +kernel
theorem xd_Mo_darker_18 : decode b_Mo_darker 18 = .ok (.iload_n 0, 1) := by decide +kernel
theorem xd_Mo_darker_19 : decode b_Mo_darker 19 = .ok (.invokestatic 120, 3) := by decide +kernel
theorem xd_Mo_darker_22 : decode b_Mo_darker 22 = .ok (.bipush 13, 2) := by decide +kernel
theorem xd_Mo_darker_24 : decode b_Mo_darker 24 = .ok (.iadd, 1) := by decide +kernel
theorem xd_Mo_darker_25 : decode b_Mo_darker 25 = .ok (.ireturn, 1) := by decide +kernel
abbrev rm_Mo_darker : Room := { frames := 2, cells := 0, slots := 0, locals := 41 }
def xw_Mo_darker (a0 : Int32) (a1 : Int32) (M : xM) (post : Int32 → xM → Prop) : Prop :=
  xw_Mo_lightOf a0 M (fun (r2 : Int32) (M1 : xM) => xw_Mo_lightOf a1 M1 (fun (r4 : Int32) (M3 : xM) => ((r2 ≤ r4) → (xw_Mo_lightOf a0 M3 (fun (r6 : Int32) (M5 : xM) => post (r6 + (13 : Int32)) M5))) ∧ ((¬ r2 ≤ r4) → (xw_Mo_lightOf a1 M3 (fun (r8 : Int32) (M7 : xM) => post (r8 + (13 : Int32)) M7)))))
set_option maxHeartbeats 4000000 in
set_option maxRecDepth 100000 in
theorem xc_Mo_darker (l : Launch) (G : xG) {a0 : Int32} {a1 : Int32}  {M : xM} {post : Int32 → xM → Prop} (h : xw_Mo_darker a0 a1 M post) : Met l y_Mo_darker (Cond.code y_Mo_darker b_Mo_darker 2 (some .int) :: xTG) rm_Mo_darker (xPre G M [.int a0, .int a1]) (xPi G post) 0 0 (xA G) := by
  refine xMet (own := R_Mo) [.int a0, .int a1] (Or.inl (by decide)) rfl (Nat.le_of_ble_eq_true rfl) (fun p e s m args below meth c ls hC hr hlk hR hS hl => ?_)
  have hx := hC.1
  have hb := hC.2.1
  have hl : lv_has ls 2 [(0, .int a0), (1, .int a1)] := hl
  obtain ⟨H, eH⟩ : ∃ H : Heap, H = s.heap := ⟨_, rfl⟩
  obtain ⟨locs, eL⟩ : ∃ locs : List Loc, locs = [] := ⟨_, rfl⟩
  rw [← eH] at hR
  replace hS : va_S (xA G) s.heap H locs := by rw [eH, eL]; exact hS
  suffices hh : W p l e rm_Mo_darker s m args below meth c H locs 0 0 (MQ below (xPi G post) args s 0 0 (xA G)) (F0 m 0 ls []) from by rw [eH, eL] at hh; exact hh
  unfold xw_Mo_darker at h
  refine lv_iload_n (pc := 0) hx hb xd_Mo_darker_0 rfl (lv_at hl 0 rfl) ?_
  refine xr_callS (pc := 1) (As := [.int a0]) (rest := []) hC hR hS (xc_Mo_lightOf l G  h) xv_Mo_120 ⟨rfl, rfl, Nat.le_of_ble_eq_true rfl, Nat.le_of_ble_eq_true rfl⟩ rfl hl.1 rfl (Nat.le_of_ble_eq_true rfl) xd_Mo_darker_1 (fun r2 M1 H locs h hR hS => ?_)
  refine lv_iload_n (pc := 4) hx hb xd_Mo_darker_4 rfl (lv_at hl 1 rfl) ?_
  refine xr_callS (pc := 5) (As := [.int a1]) (rest := [.int r2]) hC hR hS (xc_Mo_lightOf l G  h) xv_Mo_120 ⟨rfl, rfl, Nat.le_of_ble_eq_true rfl, Nat.le_of_ble_eq_true rfl⟩ rfl hl.1 rfl (Nat.le_of_ble_eq_true rfl) xd_Mo_darker_5 (fun r4 M3 H locs h hR hS => ?_)
  refine lv_icmp_le (pc := 8) (tgt := 18) hx hb xd_Mo_darker_8 (by decide) (fun hq => ?_) (fun hq => ?_)
  · have h := h.1 hq
    refine lv_iload_n (pc := 18) hx hb xd_Mo_darker_18 rfl (lv_at hl 0 rfl) ?_
    refine xr_callS (pc := 19) (As := [.int a0]) (rest := []) hC hR hS (xc_Mo_lightOf l G  h) xv_Mo_120 ⟨rfl, rfl, Nat.le_of_ble_eq_true rfl, Nat.le_of_ble_eq_true rfl⟩ rfl hl.1 rfl (Nat.le_of_ble_eq_true rfl) xd_Mo_darker_19 (fun r6 M5 H locs h hR hS => ?_)
    refine lv_bipush (pc := 22) (v := (13 : Int32)) hx hb xd_Mo_darker_22 (by decide) ?_
    refine lv_iadd (pc := 24) hx hb xd_Mo_darker_24 ?_
    exact xr_iret hC hr hlk hR hS h xd_Mo_darker_25
  · have h := h.2 hq
    refine lv_iload_n (pc := 11) hx hb xd_Mo_darker_11 rfl (lv_at hl 1 rfl) ?_
    refine xr_callS (pc := 12) (As := [.int a1]) (rest := []) hC hR hS (xc_Mo_lightOf l G  h) xv_Mo_120 ⟨rfl, rfl, Nat.le_of_ble_eq_true rfl, Nat.le_of_ble_eq_true rfl⟩ rfl hl.1 rfl (Nat.le_of_ble_eq_true rfl) xd_Mo_darker_12 (fun r8 M7 H locs h hR hS => ?_)
    refine lv_goto (pc := 15) (tgt := 22) hx hb xd_Mo_darker_15 (by decide) ?_
    refine lv_bipush (pc := 22) (v := (13 : Int32)) hx hb xd_Mo_darker_22 (by decide) ?_
    refine lv_iadd (pc := 24) hx hb xd_Mo_darker_24 ?_
    exact xr_iret hC hr hlk hR hS h xd_Mo_darker_25

/-! ColoursApartModel.isMet(III)Z -/
theorem xd_Mo_isMet_0 : decode b_Mo_isMet 0 = .ok (.bipush 10, 2) := by decide +kernel
theorem xd_Mo_isMet_2 : decode b_Mo_isMet 2 = .ok (.iload_n 0, 1) := by decide +kernel
theorem xd_Mo_isMet_3 : decode b_Mo_isMet 3 = .ok (.iload_n 1, 1) := by decide +kernel
theorem xd_Mo_isMet_4 : decode b_Mo_isMet 4 = .ok (.invokestatic 161, 3) := by decide +kernel
theorem xd_Mo_isMet_7 : decode b_Mo_isMet 7 = .ok (.imul, 1) := by decide +kernel
theorem xd_Mo_isMet_8 : decode b_Mo_isMet 8 = .ok (.iload_n 2, 1) := by decide +kernel
theorem xd_Mo_isMet_9 : decode b_Mo_isMet 9 = .ok (.iload_n 0, 1) := by decide +kernel
theorem xd_Mo_isMet_10 : decode b_Mo_isMet 10 = .ok (.iload_n 1, 1) := by decide +kernel
theorem xd_Mo_isMet_11 : decode b_Mo_isMet 11 = .ok (.invokestatic 164, 3) := by decide +kernel
theorem xd_Mo_isMet_14 : decode b_Mo_isMet 14 = .ok (.imul, 1) := by decide +kernel
theorem xd_Mo_isMet_15 : decode b_Mo_isMet 15 = .ok (.if_icmp .lt 7, 3) := by decide +kernel
theorem xd_Mo_isMet_18 : decode b_Mo_isMet 18 = .ok (.iconst 1, 1) := by decide +kernel
theorem xd_Mo_isMet_19 : decode b_Mo_isMet 19 = .ok (.goto 4, 3) := by decide +kernel
theorem xd_Mo_isMet_22 : decode b_Mo_isMet 22 = .ok (.iconst 0, 1) := by decide +kernel
theorem xd_Mo_isMet_23 : decode b_Mo_isMet 23 = .ok (.ireturn, 1) := by decide +kernel
abbrev rm_Mo_isMet : Room := { frames := 3, cells := 0, slots := 0, locals := 62 }
def xw_Mo_isMet (a0 : Int32) (a1 : Int32) (a2 : Int32) (M : xM) (post : Int32 → xM → Prop) : Prop :=
  xw_Mo_brighter a0 a1 M (fun (r2 : Int32) (M1 : xM) => xw_Mo_darker a0 a1 M1 (fun (r4 : Int32) (M3 : xM) => ((((10 : Int32) * r2) < (a2 * r4)) → (post (0 : Int32) M3)) ∧ ((¬ ((10 : Int32) * r2) < (a2 * r4)) → (post (1 : Int32) M3))))
set_option maxHeartbeats 4000000 in
set_option maxRecDepth 100000 in
theorem xc_Mo_isMet (l : Launch) (G : xG) {a0 : Int32} {a1 : Int32} {a2 : Int32}  {M : xM} {post : Int32 → xM → Prop} (h : xw_Mo_isMet a0 a1 a2 M post) : Met l y_Mo_isMet (Cond.code y_Mo_isMet b_Mo_isMet 3 (some .boolean) :: xTG) rm_Mo_isMet (xPre G M [.int a0, .int a1, .int a2]) (xPi G post) 0 0 (xA G) := by
  refine xMet (own := R_Mo) [.int a0, .int a1, .int a2] (Or.inl (by decide)) rfl (Nat.le_of_ble_eq_true rfl) (fun p e s m args below meth c ls hC hr hlk hR hS hl => ?_)
  have hx := hC.1
  have hb := hC.2.1
  have hl : lv_has ls 3 [(0, .int a0), (1, .int a1), (2, .int a2)] := hl
  obtain ⟨H, eH⟩ : ∃ H : Heap, H = s.heap := ⟨_, rfl⟩
  obtain ⟨locs, eL⟩ : ∃ locs : List Loc, locs = [] := ⟨_, rfl⟩
  rw [← eH] at hR
  replace hS : va_S (xA G) s.heap H locs := by rw [eH, eL]; exact hS
  suffices hh : W p l e rm_Mo_isMet s m args below meth c H locs 0 0 (MQ below (xPi G post) args s 0 0 (xA G)) (F0 m 0 ls []) from by rw [eH, eL] at hh; exact hh
  unfold xw_Mo_isMet at h
  refine lv_bipush (pc := 0) (v := (10 : Int32)) hx hb xd_Mo_isMet_0 (by decide) ?_
  refine lv_iload_n (pc := 2) hx hb xd_Mo_isMet_2 rfl (lv_at hl 0 rfl) ?_
  refine lv_iload_n (pc := 3) hx hb xd_Mo_isMet_3 rfl (lv_at hl 1 rfl) ?_
  refine xr_callS (pc := 4) (As := [.int a0, .int a1]) (rest := [.int (10 : Int32)]) hC hR hS (xc_Mo_brighter l G  h) xv_Mo_161 ⟨rfl, rfl, Nat.le_of_ble_eq_true rfl, Nat.le_of_ble_eq_true rfl⟩ rfl hl.1 rfl (Nat.le_of_ble_eq_true rfl) xd_Mo_isMet_4 (fun r2 M1 H locs h hR hS => ?_)
  refine lv_imul (pc := 7) hx hb xd_Mo_isMet_7 ?_
  refine lv_iload_n (pc := 8) hx hb xd_Mo_isMet_8 rfl (lv_at hl 2 rfl) ?_
  refine lv_iload_n (pc := 9) hx hb xd_Mo_isMet_9 rfl (lv_at hl 0 rfl) ?_
  refine lv_iload_n (pc := 10) hx hb xd_Mo_isMet_10 rfl (lv_at hl 1 rfl) ?_
  refine xr_callS (pc := 11) (As := [.int a0, .int a1]) (rest := [.int a2, .int ((10 : Int32) * r2)]) hC hR hS (xc_Mo_darker l G  h) xv_Mo_164 ⟨rfl, rfl, Nat.le_of_ble_eq_true rfl, Nat.le_of_ble_eq_true rfl⟩ rfl hl.1 rfl (Nat.le_of_ble_eq_true rfl) xd_Mo_isMet_11 (fun r4 M3 H locs h hR hS => ?_)
  refine lv_imul (pc := 14) hx hb xd_Mo_isMet_14 ?_
  refine lv_icmp_lt (pc := 15) (tgt := 22) hx hb xd_Mo_isMet_15 (by decide) (fun hq => ?_) (fun hq => ?_)
  · have h := h.1 hq
    refine lv_iconst (pc := 22) (v := (0 : Int32)) hx hb xd_Mo_isMet_22 (by decide) ?_
    exact xr_zret hC hr hlk hR hS (by decide) h xd_Mo_isMet_23
  · have h := h.2 hq
    refine lv_iconst (pc := 18) (v := (1 : Int32)) hx hb xd_Mo_isMet_18 (by decide) ?_
    refine lv_goto (pc := 19) (tgt := 23) hx hb xd_Mo_isMet_19 (by decide) ?_
    exact xr_zret hC hr hlk hR hS (by decide) h xd_Mo_isMet_23

/-! ColoursApartModel.contrast(III)I -/
theorem xd_Mo_contrast_0 : decode b_Mo_contrast 0 = .ok (.iload_n 1, 1) := by decide +kernel
theorem xd_Mo_contrast_1 : decode b_Mo_contrast 1 = .ok (.invokestatic 133, 3) := by decide +kernel
theorem xd_Mo_contrast_4 : decode b_Mo_contrast 4 = .ok (.ifCond .eq 19, 3) := by decide +kernel
theorem xd_Mo_contrast_7 : decode b_Mo_contrast 7 = .ok (.iload_n 2, 1) := by decide +kernel
theorem xd_Mo_contrast_8 : decode b_Mo_contrast 8 = .ok (.invokestatic 133, 3) := by decide +kernel
theorem xd_Mo_contrast_11 : decode b_Mo_contrast 11 = .ok (.ifCond .eq 12, 3) := by decide +kernel
theorem xd_Mo_contrast_14 : decode b_Mo_contrast 14 = .ok (.iload_n 3, 1) := by decide +kernel
theorem xd_Mo_contrast_15 : decode b_Mo_contrast 15 = .ok (.iconst 0, 1) := by decide +kernel
theorem xd_Mo_contrast_16 : decode b_Mo_contrast 16 = .ok (.iconst 1, 1) := by decide +kernel
theorem xd_Mo_contrast_17 : decode b_Mo_contrast 17 = .ok (.invokestatic 85, 3) := by decide +kernel
theorem xd_Mo_contrast_20 : decode b_Mo_contrast 20 = .ok (.ifCond .ne 5, 3) := by decide +kernel
theorem xd_Mo_contrast_23 : decode b_Mo_contrast 23 = .ok (.iconst (-1), 1) := by decide +kernel
theorem xd_Mo_contrast_24 : decode b_Mo_contrast 24 = .ok (.ireturn, 1) := by decide +kernel
theorem xd_Mo_contrast_25 : decode b_Mo_contrast 25 = .ok (.iload_n 1, 1) := by decide +kernel
theorem xd_Mo_contrast_26 : decode b_Mo_contrast 26 = .ok (.iload_n 2, 1) := by decide +kernel
theorem xd_Mo_contrast_27 : decode b_Mo_contrast 27 = .ok (.invokestatic 161, 3) := by decide +kernel
theorem xd_Mo_contrast_30 : decode b_Mo_contrast 30 = .ok (.istore 4, 2) := by decide +kernel
theorem xd_Mo_contrast_32 : decode b_Mo_contrast 32 = .ok (.iload_n 1, 1) := by decide +kernel
theorem xd_Mo_contrast_33 : decode b_Mo_contrast 33 = .ok (.iload_n 2, 1) := by decide +kernel
theorem xd_Mo_contrast_34 : decode b_Mo_contrast 34 = .ok (.invokestatic 164, 3) := by decide +kernel
theorem xd_Mo_contrast_37 : decode b_Mo_contrast 37 = .ok (.istore 5, 2) := by decide +kernel
theorem xd_Mo_contrast_39 : decode b_Mo_contrast 39 = .ok (.iload 5, 2) := by decide +kernel
theorem xd_Mo_contrast_41 : decode b_Mo_contrast 41 = .ok (.ifCond .le 21, 3) := by decide +kernel
theorem xd_Mo_contrast_44 : decode b_Mo_contrast 44 = .ok (.iload 4, 2) := by decide +kernel
theorem xd_Mo_contrast_46 : decode b_Mo_contrast 46 = .ok (.iload 5, 2) := by decide +kernel
theorem xd_Mo_contrast_48 : decode b_Mo_contrast 48 = .ok (.irem, 1) := by decide +kernel
theorem xd_Mo_contrast_49 : decode b_Mo_contrast 49 = .ok (.istore 6, 2) := by decide +kernel
theorem xd_Mo_contrast_51 : decode b_Mo_contrast 51 = .ok (.iload 5, 2) := by decide +kernel
theorem xd_Mo_contrast_53 : decode b_Mo_contrast 53 = .ok (.istore 4, 2) := by decide +kernel
theorem xd_Mo_contrast_55 : decode b_Mo_contrast 55 = .ok (.iload 6, 2) := by decide +kernel
theorem xd_Mo_contrast_57 : decode b_Mo_contrast 57 = .ok (.istore 5, 2) := by decide +kernel
theorem xd_Mo_contrast_59 : decode b_Mo_contrast 59 = .ok (.goto (-20), 3) := by decide +kernel
theorem xd_Mo_contrast_62 : decode b_Mo_contrast 62 = .ok (.iload_n 3, 1) := by decide +kernel
theorem xd_Mo_contrast_63 : decode b_Mo_contrast 63 = .ok (.ifCond .ne 14, 3) := by decide +kernel
theorem xd_Mo_contrast_66 : decode b_Mo_contrast 66 = .ok (.iload_n 1, 1) := by decide +kernel
theorem xd_Mo_contrast_67 : decode b_Mo_contrast 67 = .ok (.iload_n 2, 1) := by decide +kernel
theorem xd_Mo_contrast_68 : decode b_Mo_contrast 68 = .ok (.invokestatic 161, 3) := by decide +kernel
theorem xd_Mo_contrast_71 : decode b_Mo_contrast 71 = .ok (.iload 4, 2) := by decide +kernel
theorem xd_Mo_contrast_73 : decode b_Mo_contrast 73 = .ok (.idiv, 1) := by decide +kernel
theorem xd_Mo_contrast_74 : decode b_Mo_contrast 74 = .ok (.goto 11, 3) := by decide +kernel
theorem xd_Mo_contrast_77 : decode b_Mo_contrast 77 = .ok (.iload_n 1, 1) := by decide +kernel
theorem xd_Mo_contrast_78 : decode b_Mo_contrast 78 = .ok (.iload_n 2, 1) := by decide +kernel
theorem xd_Mo_contrast_79 : decode b_Mo_contrast 79 = .ok (.invokestatic 164, 3) := by decide +kernel
theorem xd_Mo_contrast_82 : decode b_Mo_contrast 82 = .ok (.iload 4, 2) := by decide +kernel
theorem xd_Mo_contrast_84 : decode b_Mo_contrast 84 = .ok (.idiv, 1) := by decide +kernel
theorem xd_Mo_contrast_85 : decode b_Mo_contrast 85 = .ok (.ireturn, 1) := by decide +kernel
abbrev rm_Mo_contrast : Room := { frames := 3, cells := 0, slots := 0, locals := 62 }
def xw_Mo_contrast_39 (x1 : Int32) (x2 : Int32) (x3 : Int32) (post : Int32 → xM → Prop) (k62 : Int32 → Int32 → xM → Prop) : Nat → Int32 → Int32 → xM → Prop
  | 0, _, _, _ => False
  | n39 + 1, x4, x5, M => ((x5 ≤ 0) → (k62 x4 x5 M)) ∧ ((¬ x5 ≤ 0) → ((¬ x5 = 0) ∧ (xw_Mo_contrast_39 x1 x2 x3 post k62 n39 x5 (x4 - x4 / x5 * x5) M)))
def xw_Mo_contrast (a1 : Int32) (a2 : Int32) (a3 : Int32) (M : xM) (post : Int32 → xM → Prop) : Prop :=
  xw_Mo_isColour a1 M (fun (r2 : Int32) (M1 : xM) => ((r2 = 0) → (post (-1 : Int32) M1)) ∧ ((¬ r2 = 0) → (xw_Mo_isColour a2 M1 (fun (r4 : Int32) (M3 : xM) => ((r4 = 0) → (post (-1 : Int32) M3)) ∧ ((¬ r4 = 0) → (xw_Mo_in a3 (0 : Int32) (1 : Int32) M3 (fun (r6 : Int32) (M5 : xM) => ((¬ r6 = 0) → (xw_Mo_brighter a1 a2 M5 (fun (r8 : Int32) (M7 : xM) => xw_Mo_darker a1 a2 M7 (fun (r10 : Int32) (M9 : xM) => ∃ n39 : Nat, xw_Mo_contrast_39 a1 a2 a3 post (fun (y11 : Int32) (y12 : Int32) (M13 : xM) => ((¬ a3 = 0) → (xw_Mo_darker a1 a2 M13 (fun (r15 : Int32) (M14 : xM) => (¬ y11 = 0) ∧ (post (r15 / y11) M14)))) ∧ ((a3 = 0) → (xw_Mo_brighter a1 a2 M13 (fun (r17 : Int32) (M16 : xM) => (¬ y11 = 0) ∧ (post (r17 / y11) M16))))) n39 r8 r10 M9)))) ∧ ((r6 = 0) → (post (-1 : Int32) M5)))))))))
set_option maxHeartbeats 4000000 in
set_option maxRecDepth 100000 in
theorem xt_Mo_contrast_39 {p : Program} {l : Launch} {e : Env} {s : State} {m : MethodId} {args : Array Value} {below : List Frame} {meth : Method} {c : Code} {G : xG} (hC : xC p s m args c b_Mo_contrast R_Mo 7 G) (hr : meth.sig.returnType = (some .int)) (hlk : meth.locks = false) {x1 : Int32} {x2 : Int32} {x3 : Int32} {post : Int32 → xM → Prop} {k62 : Int32 → Int32 → xM → Prop} (hk62 : ∀ (x4 : Int32) (x5 : Int32) (M : xM) (H : Heap) (locs : List Loc) (ls : Array Slot), k62 x4 x5 M → xRp G M H → va_S (xA G) s.heap H locs → lv_has ls 7 [(1, .int x1), (2, .int x2), (3, .int x3), (4, .int x4), (5, .int x5)] → W p l e rm_Mo_contrast s m args below meth c H locs 0 0 (MQ below (xPi G post) args s 0 0 (xA G)) (F0 m 62 ls [])) : ∀ (n : Nat) (x4 : Int32) (x5 : Int32) (M : xM) (H : Heap) (locs : List Loc) (ls : Array Slot), xw_Mo_contrast_39 x1 x2 x3 post k62 n x4 x5 M → xRp G M H → va_S (xA G) s.heap H locs → lv_has ls 7 [(1, .int x1), (2, .int x2), (3, .int x3), (4, .int x4), (5, .int x5)] → W p l e rm_Mo_contrast s m args below meth c H locs 0 0 (MQ below (xPi G post) args s 0 0 (xA G)) (F0 m 39 ls []) := by
  have hx := hC.1
  have hb := hC.2.1
  intro n
  induction n with
  | zero => intro x4 x5 M H locs ls; exact fun h => h.elim
  | succ n ih =>
    intro x4 x5 M H locs ls h hR hS hl
    refine lv_iload (pc := 39) hx hb xd_Mo_contrast_39 (lv_at hl 4 rfl) ?_
    refine lv_if_le (pc := 41) (tgt := 62) hx hb xd_Mo_contrast_41 (by decide) (fun hq => ?_) (fun hq => ?_)
    · have h := h.1 hq
      exact hk62 x4 x5 M H locs ls h hR hS (lv_sub hl [0, 1, 2, 3, 4] rfl)
    · have h := h.2 hq
      refine lv_iload (pc := 44) hx hb xd_Mo_contrast_44 (lv_at hl 3 rfl) ?_
      refine lv_iload (pc := 46) hx hb xd_Mo_contrast_46 (lv_at hl 4 rfl) ?_
      obtain ⟨hq, h⟩ := h
      refine lv_irem (pc := 48) hx hb xd_Mo_contrast_48 hq ?_
      refine lv_istore (pc := 49) (lv' := [(6, .int (x4 - x4 / x5 * x5)), (1, .int x1), (2, .int x2), (3, .int x3), (4, .int x4), (5, .int x5)]) hx hb xd_Mo_contrast_49 hl (by decide) rfl (fun ls hl => ?_)
      refine lv_iload (pc := 51) hx hb xd_Mo_contrast_51 (lv_at hl 5 rfl) ?_
      refine lv_istore (pc := 53) (lv' := [(4, .int x5), (6, .int (x4 - x4 / x5 * x5)), (1, .int x1), (2, .int x2), (3, .int x3), (5, .int x5)]) hx hb xd_Mo_contrast_53 hl (by decide) rfl (fun ls hl => ?_)
      refine lv_iload (pc := 55) hx hb xd_Mo_contrast_55 (lv_at hl 1 rfl) ?_
      refine lv_istore (pc := 57) (lv' := [(5, .int (x4 - x4 / x5 * x5)), (4, .int x5), (6, .int (x4 - x4 / x5 * x5)), (1, .int x1), (2, .int x2), (3, .int x3)]) hx hb xd_Mo_contrast_57 hl (by decide) rfl (fun ls hl => ?_)
      refine lv_goto (pc := 59) (tgt := 39) hx hb xd_Mo_contrast_59 (by decide) ?_
      exact ih x5 (x4 - x4 / x5 * x5) M H locs ls h hR hS (lv_sub hl [3, 4, 5, 1, 0] rfl)
set_option maxHeartbeats 4000000 in
set_option maxRecDepth 100000 in
theorem xc_Mo_contrast (l : Launch) (G : xG) {a1 : Int32} {a2 : Int32} {a3 : Int32}  {M : xM} {post : Int32 → xM → Prop} (h : xw_Mo_contrast a1 a2 a3 M post) : Met l y_Mo_contrast (Cond.code y_Mo_contrast b_Mo_contrast 7 (some .int) :: xTG) rm_Mo_contrast (xPre G M [.ref (G.1 9 0), .int a1, .int a2, .int a3]) (xPi G post) 0 0 (xA G) := by
  refine xMet (own := R_Mo) [.ref (G.1 9 0), .int a1, .int a2, .int a3] (Or.inl (by decide)) rfl (Nat.le_of_ble_eq_true rfl) (fun p e s m args below meth c ls hC hr hlk hR hS hl => ?_)
  have hx := hC.1
  have hb := hC.2.1
  have hl : lv_has ls 7 [(0, .ref (G.1 9 0)), (1, .int a1), (2, .int a2), (3, .int a3)] := hl
  obtain ⟨H, eH⟩ : ∃ H : Heap, H = s.heap := ⟨_, rfl⟩
  obtain ⟨locs, eL⟩ : ∃ locs : List Loc, locs = [] := ⟨_, rfl⟩
  rw [← eH] at hR
  replace hS : va_S (xA G) s.heap H locs := by rw [eH, eL]; exact hS
  suffices hh : W p l e rm_Mo_contrast s m args below meth c H locs 0 0 (MQ below (xPi G post) args s 0 0 (xA G)) (F0 m 0 ls []) from by rw [eH, eL] at hh; exact hh
  unfold xw_Mo_contrast at h
  refine lv_iload_n (pc := 0) hx hb xd_Mo_contrast_0 rfl (lv_at hl 1 rfl) ?_
  refine xr_callS (pc := 1) (As := [.int a1]) (rest := []) hC hR hS (xc_Mo_isColour l G  h) xv_Mo_133 ⟨rfl, rfl, Nat.le_of_ble_eq_true rfl, Nat.le_of_ble_eq_true rfl⟩ rfl hl.1 rfl (Nat.le_of_ble_eq_true rfl) xd_Mo_contrast_1 (fun r2 M1 H locs h hR hS => ?_)
  refine lv_if_eq (pc := 4) (tgt := 23) hx hb xd_Mo_contrast_4 (by decide) (fun hq => ?_) (fun hq => ?_)
  · have h := h.1 hq
    refine lv_iconst (pc := 23) (v := (-1 : Int32)) hx hb xd_Mo_contrast_23 (by decide) ?_
    exact xr_iret hC hr hlk hR hS h xd_Mo_contrast_24
  · have h := h.2 hq
    refine lv_iload_n (pc := 7) hx hb xd_Mo_contrast_7 rfl (lv_at hl 2 rfl) ?_
    refine xr_callS (pc := 8) (As := [.int a2]) (rest := []) hC hR hS (xc_Mo_isColour l G  h) xv_Mo_133 ⟨rfl, rfl, Nat.le_of_ble_eq_true rfl, Nat.le_of_ble_eq_true rfl⟩ rfl hl.1 rfl (Nat.le_of_ble_eq_true rfl) xd_Mo_contrast_8 (fun r4 M3 H locs h hR hS => ?_)
    refine lv_if_eq (pc := 11) (tgt := 23) hx hb xd_Mo_contrast_11 (by decide) (fun hq => ?_) (fun hq => ?_)
    · have h := h.1 hq
      refine lv_iconst (pc := 23) (v := (-1 : Int32)) hx hb xd_Mo_contrast_23 (by decide) ?_
      exact xr_iret hC hr hlk hR hS h xd_Mo_contrast_24
    · have h := h.2 hq
      refine lv_iload_n (pc := 14) hx hb xd_Mo_contrast_14 rfl (lv_at hl 3 rfl) ?_
      refine lv_iconst (pc := 15) (v := (0 : Int32)) hx hb xd_Mo_contrast_15 (by decide) ?_
      refine lv_iconst (pc := 16) (v := (1 : Int32)) hx hb xd_Mo_contrast_16 (by decide) ?_
      refine xr_callS (pc := 17) (As := [.int a3, .int (0 : Int32), .int (1 : Int32)]) (rest := []) hC hR hS (xc_Mo_in l G  h) xv_Mo_85 ⟨rfl, rfl, Nat.le_of_ble_eq_true rfl, Nat.le_of_ble_eq_true rfl⟩ rfl hl.1 rfl (Nat.le_of_ble_eq_true rfl) xd_Mo_contrast_17 (fun r6 M5 H locs h hR hS => ?_)
      refine lv_if_ne (pc := 20) (tgt := 25) hx hb xd_Mo_contrast_20 (by decide) (fun hq => ?_) (fun hq => ?_)
      · have h := h.1 hq
        refine lv_iload_n (pc := 25) hx hb xd_Mo_contrast_25 rfl (lv_at hl 1 rfl) ?_
        refine lv_iload_n (pc := 26) hx hb xd_Mo_contrast_26 rfl (lv_at hl 2 rfl) ?_
        refine xr_callS (pc := 27) (As := [.int a1, .int a2]) (rest := []) hC hR hS (xc_Mo_brighter l G  h) xv_Mo_161 ⟨rfl, rfl, Nat.le_of_ble_eq_true rfl, Nat.le_of_ble_eq_true rfl⟩ rfl hl.1 rfl (Nat.le_of_ble_eq_true rfl) xd_Mo_contrast_27 (fun r8 M7 H locs h hR hS => ?_)
        refine lv_istore (pc := 30) (lv' := [(4, .int r8), (0, .ref (G.1 9 0)), (1, .int a1), (2, .int a2), (3, .int a3)]) hx hb xd_Mo_contrast_30 hl (by decide) rfl (fun ls hl => ?_)
        refine lv_iload_n (pc := 32) hx hb xd_Mo_contrast_32 rfl (lv_at hl 2 rfl) ?_
        refine lv_iload_n (pc := 33) hx hb xd_Mo_contrast_33 rfl (lv_at hl 3 rfl) ?_
        refine xr_callS (pc := 34) (As := [.int a1, .int a2]) (rest := []) hC hR hS (xc_Mo_darker l G  h) xv_Mo_164 ⟨rfl, rfl, Nat.le_of_ble_eq_true rfl, Nat.le_of_ble_eq_true rfl⟩ rfl hl.1 rfl (Nat.le_of_ble_eq_true rfl) xd_Mo_contrast_34 (fun r10 M9 H locs h hR hS => ?_)
        refine lv_istore (pc := 37) (lv' := [(5, .int r10), (4, .int r8), (0, .ref (G.1 9 0)), (1, .int a1), (2, .int a2), (3, .int a3)]) hx hb xd_Mo_contrast_37 hl (by decide) rfl (fun ls hl => ?_)
        obtain ⟨n, h⟩ := h
        refine xt_Mo_contrast_39 hC hr hlk  (fun y11 y12 M13 H locs ls h hR hS hl => ?_) n r8 r10 M9 H locs ls h hR hS (lv_sub hl [3, 4, 5, 1, 0] rfl)
        refine lv_iload_n (pc := 62) hx hb xd_Mo_contrast_62 rfl (lv_at hl 2 rfl) ?_
        refine lv_if_ne (pc := 63) (tgt := 77) hx hb xd_Mo_contrast_63 (by decide) (fun hq => ?_) (fun hq => ?_)
        · have h := h.1 hq
          refine lv_iload_n (pc := 77) hx hb xd_Mo_contrast_77 rfl (lv_at hl 0 rfl) ?_
          refine lv_iload_n (pc := 78) hx hb xd_Mo_contrast_78 rfl (lv_at hl 1 rfl) ?_
          refine xr_callS (pc := 79) (As := [.int a1, .int a2]) (rest := []) hC hR hS (xc_Mo_darker l G  h) xv_Mo_164 ⟨rfl, rfl, Nat.le_of_ble_eq_true rfl, Nat.le_of_ble_eq_true rfl⟩ rfl hl.1 rfl (Nat.le_of_ble_eq_true rfl) xd_Mo_contrast_79 (fun r15 M14 H locs h hR hS => ?_)
          refine lv_iload (pc := 82) hx hb xd_Mo_contrast_82 (lv_at hl 3 rfl) ?_
          obtain ⟨hq, h⟩ := h
          refine lv_idiv (pc := 84) hx hb xd_Mo_contrast_84 hq ?_
          exact xr_iret hC hr hlk hR hS h xd_Mo_contrast_85
        · have h := h.2 hq
          refine lv_iload_n (pc := 66) hx hb xd_Mo_contrast_66 rfl (lv_at hl 0 rfl) ?_
          refine lv_iload_n (pc := 67) hx hb xd_Mo_contrast_67 rfl (lv_at hl 1 rfl) ?_
          refine xr_callS (pc := 68) (As := [.int a1, .int a2]) (rest := []) hC hR hS (xc_Mo_brighter l G  h) xv_Mo_161 ⟨rfl, rfl, Nat.le_of_ble_eq_true rfl, Nat.le_of_ble_eq_true rfl⟩ rfl hl.1 rfl (Nat.le_of_ble_eq_true rfl) xd_Mo_contrast_68 (fun r17 M16 H locs h hR hS => ?_)
          refine lv_iload (pc := 71) hx hb xd_Mo_contrast_71 (lv_at hl 3 rfl) ?_
          obtain ⟨hq, h⟩ := h
          refine lv_idiv (pc := 73) hx hb xd_Mo_contrast_73 hq ?_
          refine lv_goto (pc := 74) (tgt := 85) hx hb xd_Mo_contrast_74 (by decide) ?_
          exact xr_iret hC hr hlk hR hS h xd_Mo_contrast_85
      · have h := h.2 hq
        refine lv_iconst (pc := 23) (v := (-1 : Int32)) hx hb xd_Mo_contrast_23 (by decide) ?_
        exact xr_iret hC hr hlk hR hS h xd_Mo_contrast_24

/-! ColoursApartModel.unmet()I -/
theorem xd_Mo_unmet_0 : decode b_Mo_unmet 0 = .ok (.iconst 0, 1) := by decide +kernel
theorem xd_Mo_unmet_1 : decode b_Mo_unmet 1 = .ok (.istore_n 1, 1) := by decide +kernel
theorem xd_Mo_unmet_2 : decode b_Mo_unmet 2 = .ok (.iload_n 1, 1) := by decide +kernel
theorem xd_Mo_unmet_3 : decode b_Mo_unmet 3 = .ok (.aload_n 0, 1) := by decide +kernel
theorem xd_Mo_unmet_4 : decode b_Mo_unmet 4 = .ok (.getfield 158, 3) := by decide +kernel
theorem xd_Mo_unmet_7 : decode b_Mo_unmet 7 = .ok (.if_icmp .ge 45, 3) := by decide +kernel
theorem xd_Mo_unmet_10 : decode b_Mo_unmet 10 = .ok (.aload_n 0, 1) := by decide +kernel
theorem xd_Mo_unmet_11 : decode b_Mo_unmet 11 = .ok (.getfield 35, 3) := by decide +kernel
theorem xd_Mo_unmet_14 : decode b_Mo_unmet 14 = .ok (.aload_n 0, 1) := by decide +kernel
theorem xd_Mo_unmet_15 : decode b_Mo_unmet 15 = .ok (.getfield 52, 3) := by decide +kernel
theorem xd_Mo_unmet_18 : decode b_Mo_unmet 18 = .ok (.iload_n 1, 1) := by decide +kernel
theorem xd_Mo_unmet_19 : decode b_Mo_unmet 19 = .ok (.iaload, 1) := by decide +kernel
theorem xd_Mo_unmet_20 : decode b_Mo_unmet 20 = .ok (.iaload, 1) := by decide +kernel
theorem xd_Mo_unmet_21 : decode b_Mo_unmet 21 = .ok (.aload_n 0, 1) := by decide +kernel
theorem xd_Mo_unmet_22 : decode b_Mo_unmet 22 = .ok (.getfield 35, 3) := by decide +kernel
theorem xd_Mo_unmet_25 : decode b_Mo_unmet 25 = .ok (.aload_n 0, 1) := by decide +kernel
theorem xd_Mo_unmet_26 : decode b_Mo_unmet 26 = .ok (.getfield 55, 3) := by decide +kernel
theorem xd_Mo_unmet_29 : decode b_Mo_unmet 29 = .ok (.iload_n 1, 1) := by decide +kernel
theorem xd_Mo_unmet_30 : decode b_Mo_unmet 30 = .ok (.iaload, 1) := by decide +kernel
theorem xd_Mo_unmet_31 : decode b_Mo_unmet 31 = .ok (.iaload, 1) := by decide +kernel
theorem xd_Mo_unmet_32 : decode b_Mo_unmet 32 = .ok (.aload_n 0, 1) := by decide +kernel
theorem xd_Mo_unmet_33 : decode b_Mo_unmet 33 = .ok (.getfield 58, 3) := by decide +kernel
theorem xd_Mo_unmet_36 : decode b_Mo_unmet 36 = .ok (.iload_n 1, 1) := by decide +kernel
theorem xd_Mo_unmet_37 : decode b_Mo_unmet 37 = .ok (.iaload, 1) := by decide +kernel
theorem xd_Mo_unmet_38 : decode b_Mo_unmet 38 = .ok (.invokestatic 167, 3) := by decide +kernel
theorem xd_Mo_unmet_41 : decode b_Mo_unmet 41 = .ok (.ifCond .ne 5, 3) := by decide +kernel
theorem xd_Mo_unmet_44 : decode b_Mo_unmet 44 = .ok (.iload_n 1, 1) := by decide +kernel
theorem xd_Mo_unmet_45 : decode b_Mo_unmet 45 = .ok (.ireturn, 1) := by decide +kernel
theorem xd_Mo_unmet_46 : decode b_Mo_unmet 46 = .ok (.iinc 1 1, 3) := by decide +kernel
theorem xd_Mo_unmet_49 : decode b_Mo_unmet 49 = .ok (.goto (-47), 3) := by decide +kernel
theorem xd_Mo_unmet_52 : decode b_Mo_unmet 52 = .ok (.iconst (-1), 1) := by decide +kernel
theorem xd_Mo_unmet_53 : decode b_Mo_unmet 53 = .ok (.ireturn, 1) := by decide +kernel
abbrev rm_Mo_unmet : Room := { frames := 4, cells := 0, slots := 0, locals := 84 }
def xw_Mo_unmet_2 (post : Int32 → xM → Prop) (k52 : Int32 → xM → Prop) : Nat → Int32 → xM → Prop
  | 0, _, _ => False
  | n2 + 1, x1, M => (((M 9 0 10) ≤ x1) → (k52 x1 M)) ∧ ((¬ (M 9 0 10) ≤ x1) → ((vp_in x1 20) ∧ ((vp_in (M 9 11 x1.toNatClampNeg) 12) ∧ ((vp_in x1 20) ∧ ((vp_in (M 9 12 x1.toNatClampNeg) 12) ∧ ((vp_in x1 20) ∧ (xw_Mo_isMet (M 9 6 (M 9 11 x1.toNatClampNeg).toNatClampNeg) (M 9 6 (M 9 12 x1.toNatClampNeg).toNatClampNeg) (M 9 13 x1.toNatClampNeg) M (fun (r2 : Int32) (M1 : xM) => ((¬ r2 = 0) → (xw_Mo_unmet_2 post k52 n2 (x1 + (1 : Int32)) M1)) ∧ ((r2 = 0) → (post x1 M1))))))))))
def xw_Mo_unmet  (M : xM) (post : Int32 → xM → Prop) : Prop :=
  ∃ n2 : Nat, xw_Mo_unmet_2 post (fun (y3 : Int32) (M4 : xM) => post (-1 : Int32) M4) n2 (0 : Int32) M
set_option maxHeartbeats 4000000 in
set_option maxRecDepth 100000 in
theorem xt_Mo_unmet_2 {p : Program} {l : Launch} {e : Env} {s : State} {m : MethodId} {args : Array Value} {below : List Frame} {meth : Method} {c : Code} {G : xG} (hC : xC p s m args c b_Mo_unmet R_Mo 2 G) (hr : meth.sig.returnType = (some .int)) (hlk : meth.locks = false)  {post : Int32 → xM → Prop} {k52 : Int32 → xM → Prop} (hk52 : ∀ (x1 : Int32) (M : xM) (H : Heap) (locs : List Loc) (ls : Array Slot), k52 x1 M → xRp G M H → va_S (xA G) s.heap H locs → lv_has ls 2 [(0, .ref (G.1 9 0)), (1, .int x1)] → W p l e rm_Mo_unmet s m args below meth c H locs 0 0 (MQ below (xPi G post) args s 0 0 (xA G)) (F0 m 52 ls [])) : ∀ (n : Nat) (x1 : Int32) (M : xM) (H : Heap) (locs : List Loc) (ls : Array Slot), xw_Mo_unmet_2 post k52 n x1 M → xRp G M H → va_S (xA G) s.heap H locs → lv_has ls 2 [(0, .ref (G.1 9 0)), (1, .int x1)] → W p l e rm_Mo_unmet s m args below meth c H locs 0 0 (MQ below (xPi G post) args s 0 0 (xA G)) (F0 m 2 ls []) := by
  have hx := hC.1
  have hb := hC.2.1
  intro n
  induction n with
  | zero => intro x1 M H locs ls; exact fun h => h.elim
  | succ n ih =>
    intro x1 M H locs ls h hR hS hl
    refine lv_iload_n (pc := 2) hx hb xd_Mo_unmet_2 rfl (lv_at hl 1 rfl) ?_
    refine lv_aload_n (pc := 3) hx hb xd_Mo_unmet_3 rfl (lv_at hl 0 rfl) ?_
    refine xr_get (pc := 4) (v := .int (M 9 0 10)) hC hR xo_M0 xf_Mo_158 rfl xd_Mo_unmet_4 ?_
    refine lv_icmp_ge (pc := 7) (tgt := 52) hx hb xd_Mo_unmet_7 (by decide) (fun hq => ?_) (fun hq => ?_)
    · have h := h.1 hq
      exact hk52 x1 M H locs ls h hR hS (lv_sub hl [0, 1] rfl)
    · have h := h.2 hq
      refine lv_aload_n (pc := 10) hx hb xd_Mo_unmet_10 rfl (lv_at hl 0 rfl) ?_
      refine xr_get (pc := 11) (v := .ref (G.1 9 6)) hC hR xo_M0 xf_Mo_35 rfl xd_Mo_unmet_11 ?_
      refine lv_aload_n (pc := 14) hx hb xd_Mo_unmet_14 rfl (lv_at hl 0 rfl) ?_
      refine xr_get (pc := 15) (v := .ref (G.1 9 11)) hC hR xo_M0 xf_Mo_52 rfl xd_Mo_unmet_15 ?_
      refine lv_iload_n (pc := 18) hx hb xd_Mo_unmet_18 rfl (lv_at hl 1 rfl) ?_
      obtain ⟨hq, h⟩ := h
      refine xr_iald (pc := 19) hC hR xo_M11 hq xd_Mo_unmet_19 ?_
      obtain ⟨hq, h⟩ := h
      refine xr_iald (pc := 20) hC hR xo_M6 hq xd_Mo_unmet_20 ?_
      refine lv_aload_n (pc := 21) hx hb xd_Mo_unmet_21 rfl (lv_at hl 0 rfl) ?_
      refine xr_get (pc := 22) (v := .ref (G.1 9 6)) hC hR xo_M0 xf_Mo_35 rfl xd_Mo_unmet_22 ?_
      refine lv_aload_n (pc := 25) hx hb xd_Mo_unmet_25 rfl (lv_at hl 0 rfl) ?_
      refine xr_get (pc := 26) (v := .ref (G.1 9 12)) hC hR xo_M0 xf_Mo_55 rfl xd_Mo_unmet_26 ?_
      refine lv_iload_n (pc := 29) hx hb xd_Mo_unmet_29 rfl (lv_at hl 1 rfl) ?_
      obtain ⟨hq, h⟩ := h
      refine xr_iald (pc := 30) hC hR xo_M12 hq xd_Mo_unmet_30 ?_
      obtain ⟨hq, h⟩ := h
      refine xr_iald (pc := 31) hC hR xo_M6 hq xd_Mo_unmet_31 ?_
      refine lv_aload_n (pc := 32) hx hb xd_Mo_unmet_32 rfl (lv_at hl 0 rfl) ?_
      refine xr_get (pc := 33) (v := .ref (G.1 9 13)) hC hR xo_M0 xf_Mo_58 rfl xd_Mo_unmet_33 ?_
      refine lv_iload_n (pc := 36) hx hb xd_Mo_unmet_36 rfl (lv_at hl 1 rfl) ?_
      obtain ⟨hq, h⟩ := h
      refine xr_iald (pc := 37) hC hR xo_M13 hq xd_Mo_unmet_37 ?_
      refine xr_callS (pc := 38) (As := [.int (M 9 6 (M 9 11 x1.toNatClampNeg).toNatClampNeg), .int (M 9 6 (M 9 12 x1.toNatClampNeg).toNatClampNeg), .int (M 9 13 x1.toNatClampNeg)]) (rest := []) hC hR hS (xc_Mo_isMet l G  h) xv_Mo_167 ⟨rfl, rfl, Nat.le_of_ble_eq_true rfl, Nat.le_of_ble_eq_true rfl⟩ rfl hl.1 rfl (Nat.le_of_ble_eq_true rfl) xd_Mo_unmet_38 (fun r2 M1 H locs h hR hS => ?_)
      refine lv_if_ne (pc := 41) (tgt := 46) hx hb xd_Mo_unmet_41 (by decide) (fun hq => ?_) (fun hq => ?_)
      · have h := h.1 hq
        refine lv_iinc (pc := 46) (v := (x1 + (1 : Int32))) (lv' := [(1, .int (x1 + (1 : Int32))), (0, .ref (G.1 9 0))]) hx hb xd_Mo_unmet_46 hl (k := 1) rfl rfl (by decide) rfl (fun ls hl => ?_)
        refine lv_goto (pc := 49) (tgt := 2) hx hb xd_Mo_unmet_49 (by decide) ?_
        exact ih (x1 + (1 : Int32)) M1 H locs ls h hR hS (lv_sub hl [1, 0] rfl)
      · have h := h.2 hq
        refine lv_iload_n (pc := 44) hx hb xd_Mo_unmet_44 rfl (lv_at hl 1 rfl) ?_
        exact xr_iret hC hr hlk hR hS h xd_Mo_unmet_45
set_option maxHeartbeats 4000000 in
set_option maxRecDepth 100000 in
theorem xc_Mo_unmet (l : Launch) (G : xG)   {M : xM} {post : Int32 → xM → Prop} (h : xw_Mo_unmet  M post) : Met l y_Mo_unmet (Cond.code y_Mo_unmet b_Mo_unmet 2 (some .int) :: xTG) rm_Mo_unmet (xPre G M [.ref (G.1 9 0)]) (xPi G post) 0 0 (xA G) := by
  refine xMet (own := R_Mo) [.ref (G.1 9 0)] (Or.inl (by decide)) rfl (Nat.le_of_ble_eq_true rfl) (fun p e s m args below meth c ls hC hr hlk hR hS hl => ?_)
  have hx := hC.1
  have hb := hC.2.1
  have hl : lv_has ls 2 [(0, .ref (G.1 9 0))] := hl
  obtain ⟨H, eH⟩ : ∃ H : Heap, H = s.heap := ⟨_, rfl⟩
  obtain ⟨locs, eL⟩ : ∃ locs : List Loc, locs = [] := ⟨_, rfl⟩
  rw [← eH] at hR
  replace hS : va_S (xA G) s.heap H locs := by rw [eH, eL]; exact hS
  suffices hh : W p l e rm_Mo_unmet s m args below meth c H locs 0 0 (MQ below (xPi G post) args s 0 0 (xA G)) (F0 m 0 ls []) from by rw [eH, eL] at hh; exact hh
  unfold xw_Mo_unmet at h
  refine lv_iconst (pc := 0) (v := (0 : Int32)) hx hb xd_Mo_unmet_0 (by decide) ?_
  refine lv_istore_n (pc := 1) (lv' := [(1, .int (0 : Int32)), (0, .ref (G.1 9 0))]) hx hb xd_Mo_unmet_1 rfl hl (by decide) rfl (fun ls hl => ?_)
  obtain ⟨n, h⟩ := h
  refine xt_Mo_unmet_2 hC hr hlk  (fun y3 M4 H locs ls h hR hS hl => ?_) n (0 : Int32) M H locs ls h hR hS (lv_sub hl [1, 0] rfl)
  refine lv_iconst (pc := 52) (v := (-1 : Int32)) hx hb xd_Mo_unmet_52 (by decide) ?_
  exact xr_iret hC hr hlk hR hS h xd_Mo_unmet_53

/-! ColoursApartModel.of(II)I -/
theorem xd_Mo_of_0 : decode b_Mo_of 0 = .ok (.aload_n 0, 1) := by decide +kernel
theorem xd_Mo_of_1 : decode b_Mo_of 1 = .ok (.iload_n 1, 1) := by decide +kernel
theorem xd_Mo_of_2 : decode b_Mo_of 2 = .ok (.invokevirtual 151, 3) := by decide +kernel
theorem xd_Mo_of_5 : decode b_Mo_of 5 = .ok (.ifCond .ne 6, 3) := by decide +kernel
theorem xd_Mo_of_8 : decode b_Mo_of 8 = .ok (.bipush (-2), 2) := by decide +kernel
theorem xd_Mo_of_10 : decode b_Mo_of 10 = .ok (.ireturn, 1) := by decide +kernel
theorem xd_Mo_of_11 : decode b_Mo_of 11 = .ok (.iload_n 2, 1) := by decide +kernel
theorem xd_Mo_of_12 : decode b_Mo_of 12 = .ok (.tableswitch 125 0 3 #[32, 39, 54, 61], 32) := by decide +kernel
theorem xd_Mo_of_44 : decode b_Mo_of 44 = .ok (.aload_n 0, 1) := by decide +kernel
theorem xd_Mo_of_45 : decode b_Mo_of 45 = .ok (.getfield 35, 3) := by decide +kernel
theorem xd_Mo_of_48 : decode b_Mo_of 48 = .ok (.iload_n 1, 1) := by decide +kernel
theorem xd_Mo_of_49 : decode b_Mo_of 49 = .ok (.iaload, 1) := by decide +kernel
theorem xd_Mo_of_50 : decode b_Mo_of 50 = .ok (.ireturn, 1) := by decide +kernel
theorem xd_Mo_of_51 : decode b_Mo_of 51 = .ok (.aload_n 0, 1) := by decide +kernel
theorem xd_Mo_of_52 : decode b_Mo_of 52 = .ok (.getfield 38, 3) := by decide +kernel
theorem xd_Mo_of_55 : decode b_Mo_of 55 = .ok (.iload_n 1, 1) := by decide +kernel
theorem xd_Mo_of_56 : decode b_Mo_of 56 = .ok (.baload, 1) := by decide +kernel
theorem xd_Mo_of_57 : decode b_Mo_of 57 = .ok (.ifCond .eq 7, 3) := by decide +kernel
theorem xd_Mo_of_60 : decode b_Mo_of 60 = .ok (.iconst 1, 1) := by decide +kernel
theorem xd_Mo_of_61 : decode b_Mo_of 61 = .ok (.goto 4, 3) := by decide +kernel
theorem xd_Mo_of_64 : decode b_Mo_of 64 = .ok (.iconst 0, 1) := by decide +kernel
theorem xd_Mo_of_65 : decode b_Mo_of 65 = .ok (.ireturn, 1) := by decide +kernel
theorem xd_Mo_of_66 : decode b_Mo_of 66 = .ok (.aload_n 0, 1) := by decide +kernel
theorem xd_Mo_of_67 : decode b_Mo_of 67 = .ok (.getfield 42, 3) := by decide +kernel
theorem xd_Mo_of_70 : decode b_Mo_of 70 = .ok (.iload_n 1, 1) := by decide +kernel
theorem xd_Mo_of_71 : decode b_Mo_of 71 = .ok (.iaload, 1) := by decide +kernel
theorem xd_Mo_of_72 : decode b_Mo_of 72 = .ok (.ireturn, 1) := by decide +kernel
theorem xd_Mo_of_73 : decode b_Mo_of 73 = .ok (.iconst (-1), 1) := by decide +kernel
theorem xd_Mo_of_74 : decode b_Mo_of 74 = .ok (.istore_n 3, 1) := by decide +kernel
theorem xd_Mo_of_75 : decode b_Mo_of 75 = .ok (.iconst 0, 1) := by decide +kernel
theorem xd_Mo_of_76 : decode b_Mo_of 76 = .ok (.istore 4, 2) := by decide +kernel
theorem xd_Mo_of_78 : decode b_Mo_of 78 = .ok (.iload 4, 2) := by decide +kernel
theorem xd_Mo_of_80 : decode b_Mo_of 80 = .ok (.aload_n 0, 1) := by decide +kernel
theorem xd_Mo_of_81 : decode b_Mo_of 81 = .ok (.getfield 145, 3) := by decide +kernel
theorem xd_Mo_of_84 : decode b_Mo_of 84 = .ok (.if_icmp .ge 51, 3) := by decide +kernel
theorem xd_Mo_of_87 : decode b_Mo_of 87 = .ok (.iload 4, 2) := by decide +kernel
theorem xd_Mo_of_89 : decode b_Mo_of 89 = .ok (.iload_n 1, 1) := by decide +kernel
theorem xd_Mo_of_90 : decode b_Mo_of 90 = .ok (.if_icmp .ne 6, 3) := by decide +kernel
theorem xd_Mo_of_93 : decode b_Mo_of 93 = .ok (.goto 36, 3) := by decide +kernel
theorem xd_Mo_of_96 : decode b_Mo_of 96 = .ok (.aload_n 0, 1) := by decide +kernel
theorem xd_Mo_of_97 : decode b_Mo_of 97 = .ok (.aload_n 0, 1) := by decide +kernel
theorem xd_Mo_of_98 : decode b_Mo_of 98 = .ok (.getfield 35, 3) := by decide +kernel
theorem xd_Mo_of_101 : decode b_Mo_of 101 = .ok (.iload_n 1, 1) := by decide +kernel
theorem xd_Mo_of_102 : decode b_Mo_of 102 = .ok (.iaload, 1) := by decide +kernel
theorem xd_Mo_of_103 : decode b_Mo_of 103 = .ok (.aload_n 0, 1) := by decide +kernel
theorem xd_Mo_of_104 : decode b_Mo_of 104 = .ok (.getfield 35, 3) := by decide +kernel
theorem xd_Mo_of_107 : decode b_Mo_of 107 = .ok (.iload 4, 2) := by decide +kernel
theorem xd_Mo_of_109 : decode b_Mo_of 109 = .ok (.iaload, 1) := by decide +kernel
theorem xd_Mo_of_110 : decode b_Mo_of 110 = .ok (.invokevirtual 142, 3) := by decide +kernel
theorem xd_Mo_of_113 : decode b_Mo_of 113 = .ok (.istore 5, 2) := by decide +kernel
theorem xd_Mo_of_115 : decode b_Mo_of 115 = .ok (.iload_n 3, 1) := by decide +kernel
theorem xd_Mo_of_116 : decode b_Mo_of 116 = .ok (.iconst (-1), 1) := by decide +kernel
theorem xd_Mo_of_117 : decode b_Mo_of 117 = .ok (.if_icmp .eq 9, 3) := by decide +kernel
theorem xd_Mo_of_120 : decode b_Mo_of 120 = .ok (.iload 5, 2) := by decide +kernel
theorem xd_Mo_of_122 : decode b_Mo_of 122 = .ok (.iload_n 3, 1) := by decide +kernel
theorem xd_Mo_of_123 : decode b_Mo_of 123 = .ok (.if_icmp .ge 6, 3) := by decide +kernel
theorem xd_Mo_of_126 : decode b_Mo_of 126 = .ok (.iload 5, 2) := by decide +kernel
theorem xd_Mo_of_128 : decode b_Mo_of 128 = .ok (.istore_n 3, 1) := by decide +kernel
theorem xd_Mo_of_129 : decode b_Mo_of 129 = .ok (.iinc 4 1, 3) := by decide +kernel
theorem xd_Mo_of_132 : decode b_Mo_of 132 = .ok (.goto (-54), 3) := by decide +kernel
theorem xd_Mo_of_135 : decode b_Mo_of 135 = .ok (.iload_n 3, 1) := by decide +kernel
theorem xd_Mo_of_136 : decode b_Mo_of 136 = .ok (.ireturn, 1) := by decide +kernel
theorem xd_Mo_of_137 : decode b_Mo_of 137 = .ok (.iconst (-1), 1) := by decide +kernel
theorem xd_Mo_of_138 : decode b_Mo_of 138 = .ok (.ireturn, 1) := by decide +kernel
abbrev rm_Mo_of : Room := { frames := 5, cells := 0, slots := 0, locals := 120 }
def xw_Mo_of_78 (x1 : Int32) (post : Int32 → xM → Prop) (k135 : Int32 → Int32 → xM → Prop) : Nat → Int32 → Int32 → xM → Prop
  | 0, _, _, _ => False
  | n78 + 1, x3, x4, M => (((M 9 0 9) ≤ x4) → (k135 x3 x4 M)) ∧ ((¬ (M 9 0 9) ≤ x4) → (((¬ x4 = x1) → ((vp_in x1 12) ∧ ((vp_in x4 12) ∧ (xw_Mo_apartOf (M 9 6 x1.toNatClampNeg) (M 9 6 x4.toNatClampNeg) M (fun (r4 : Int32) (M3 : xM) => ((x3 = (-1 : Int32)) → (xw_Mo_of_78 x1 post k135 n78 r4 (x4 + (1 : Int32)) M3)) ∧ ((¬ x3 = (-1 : Int32)) → (((x3 ≤ r4) → (xw_Mo_of_78 x1 post k135 n78 x3 (x4 + (1 : Int32)) M3)) ∧ ((¬ x3 ≤ r4) → (xw_Mo_of_78 x1 post k135 n78 r4 (x4 + (1 : Int32)) M3))))))))) ∧ ((x4 = x1) → (xw_Mo_of_78 x1 post k135 n78 x3 (x4 + (1 : Int32)) M))))
def xw_Mo_of (a1 : Int32) (a2 : Int32) (M : xM) (post : Int32 → xM → Prop) : Prop :=
  xw_Mo_isIn a1 M (fun (r2 : Int32) (M1 : xM) => ((¬ r2 = 0) → ((a2 = (0 : Int32) → ((vp_in a1 12) ∧ (post (M1 9 6 a1.toNatClampNeg) M1))) ∧ (a2 = (1 : Int32) → ((vp_in a1 12) ∧ ((((M1 9 7 a1.toNatClampNeg) = 0) → (post (0 : Int32) M1)) ∧ ((¬ (M1 9 7 a1.toNatClampNeg) = 0) → (post (1 : Int32) M1))))) ∧ (a2 = (2 : Int32) → ((vp_in a1 12) ∧ (post (M1 9 8 a1.toNatClampNeg) M1))) ∧ (a2 = (3 : Int32) → (∃ n78 : Nat, xw_Mo_of_78 a1 post (fun (y5 : Int32) (y6 : Int32) (M7 : xM) => post y5 M7) n78 (-1 : Int32) (0 : Int32) M1)) ∧ (¬ a2 = (0 : Int32) → ¬ a2 = (1 : Int32) → ¬ a2 = (2 : Int32) → ¬ a2 = (3 : Int32) → (post (-1 : Int32) M1)))) ∧ ((r2 = 0) → (post (-2 : Int32) M1)))
set_option maxHeartbeats 4000000 in
set_option maxRecDepth 100000 in
theorem xt_Mo_of_78 {p : Program} {l : Launch} {e : Env} {s : State} {m : MethodId} {args : Array Value} {below : List Frame} {meth : Method} {c : Code} {G : xG} (hC : xC p s m args c b_Mo_of R_Mo 6 G) (hr : meth.sig.returnType = (some .int)) (hlk : meth.locks = false) {x1 : Int32} {post : Int32 → xM → Prop} {k135 : Int32 → Int32 → xM → Prop} (hk135 : ∀ (x3 : Int32) (x4 : Int32) (M : xM) (H : Heap) (locs : List Loc) (ls : Array Slot), k135 x3 x4 M → xRp G M H → va_S (xA G) s.heap H locs → lv_has ls 6 [(0, .ref (G.1 9 0)), (1, .int x1), (3, .int x3), (4, .int x4)] → W p l e rm_Mo_of s m args below meth c H locs 0 0 (MQ below (xPi G post) args s 0 0 (xA G)) (F0 m 135 ls [])) : ∀ (n : Nat) (x3 : Int32) (x4 : Int32) (M : xM) (H : Heap) (locs : List Loc) (ls : Array Slot), xw_Mo_of_78 x1 post k135 n x3 x4 M → xRp G M H → va_S (xA G) s.heap H locs → lv_has ls 6 [(0, .ref (G.1 9 0)), (1, .int x1), (3, .int x3), (4, .int x4)] → W p l e rm_Mo_of s m args below meth c H locs 0 0 (MQ below (xPi G post) args s 0 0 (xA G)) (F0 m 78 ls []) := by
  have hx := hC.1
  have hb := hC.2.1
  intro n
  induction n with
  | zero => intro x3 x4 M H locs ls; exact fun h => h.elim
  | succ n ih =>
    intro x3 x4 M H locs ls h hR hS hl
    refine lv_iload (pc := 78) hx hb xd_Mo_of_78 (lv_at hl 3 rfl) ?_
    refine lv_aload_n (pc := 80) hx hb xd_Mo_of_80 rfl (lv_at hl 0 rfl) ?_
    refine xr_get (pc := 81) (v := .int (M 9 0 9)) hC hR xo_M0 xf_Mo_145 rfl xd_Mo_of_81 ?_
    refine lv_icmp_ge (pc := 84) (tgt := 135) hx hb xd_Mo_of_84 (by decide) (fun hq => ?_) (fun hq => ?_)
    · have h := h.1 hq
      exact hk135 x3 x4 M H locs ls h hR hS (lv_sub hl [0, 1, 2, 3] rfl)
    · have h := h.2 hq
      refine lv_iload (pc := 87) hx hb xd_Mo_of_87 (lv_at hl 3 rfl) ?_
      refine lv_iload_n (pc := 89) hx hb xd_Mo_of_89 rfl (lv_at hl 1 rfl) ?_
      refine lv_icmp_ne (pc := 90) (tgt := 96) hx hb xd_Mo_of_90 (by decide) (fun hq => ?_) (fun hq => ?_)
      · have h := h.1 hq
        refine lv_aload_n (pc := 96) hx hb xd_Mo_of_96 rfl (lv_at hl 0 rfl) ?_
        refine lv_aload_n (pc := 97) hx hb xd_Mo_of_97 rfl (lv_at hl 0 rfl) ?_
        refine xr_get (pc := 98) (v := .ref (G.1 9 6)) hC hR xo_M0 xf_Mo_35 rfl xd_Mo_of_98 ?_
        refine lv_iload_n (pc := 101) hx hb xd_Mo_of_101 rfl (lv_at hl 1 rfl) ?_
        obtain ⟨hq, h⟩ := h
        refine xr_iald (pc := 102) hC hR xo_M6 hq xd_Mo_of_102 ?_
        refine lv_aload_n (pc := 103) hx hb xd_Mo_of_103 rfl (lv_at hl 0 rfl) ?_
        refine xr_get (pc := 104) (v := .ref (G.1 9 6)) hC hR xo_M0 xf_Mo_35 rfl xd_Mo_of_104 ?_
        refine lv_iload (pc := 107) hx hb xd_Mo_of_107 (lv_at hl 3 rfl) ?_
        obtain ⟨hq, h⟩ := h
        refine xr_iald (pc := 109) hC hR xo_M6 hq xd_Mo_of_109 ?_
        refine xr_callV (pc := 110) (As := [.int (M 9 6 x1.toNatClampNeg), .int (M 9 6 x4.toNatClampNeg)]) (rest := []) hC hR hS (xc_Mo_apartOf l G  h) xo_M0 xv_Mo_142 ⟨rfl, rfl, Nat.le_of_ble_eq_true rfl, Nat.le_of_ble_eq_true rfl⟩ rfl hl.1 rfl (Nat.le_of_ble_eq_true rfl) xd_Mo_of_110 (fun r4 M3 H locs h hR hS => ?_)
        refine lv_istore (pc := 113) (lv' := [(5, .int r4), (0, .ref (G.1 9 0)), (1, .int x1), (3, .int x3), (4, .int x4)]) hx hb xd_Mo_of_113 hl (by decide) rfl (fun ls hl => ?_)
        refine lv_iload_n (pc := 115) hx hb xd_Mo_of_115 rfl (lv_at hl 3 rfl) ?_
        refine lv_iconst (pc := 116) (v := (-1 : Int32)) hx hb xd_Mo_of_116 (by decide) ?_
        refine lv_icmp_eq (pc := 117) (tgt := 126) hx hb xd_Mo_of_117 (by decide) (fun hq => ?_) (fun hq => ?_)
        · have h := h.1 hq
          refine lv_iload (pc := 126) hx hb xd_Mo_of_126 (lv_at hl 0 rfl) ?_
          refine lv_istore_n (pc := 128) (lv' := [(3, .int r4), (5, .int r4), (0, .ref (G.1 9 0)), (1, .int x1), (4, .int x4)]) hx hb xd_Mo_of_128 rfl hl (by decide) rfl (fun ls hl => ?_)
          refine lv_iinc (pc := 129) (v := (x4 + (1 : Int32))) (lv' := [(4, .int (x4 + (1 : Int32))), (3, .int r4), (5, .int r4), (0, .ref (G.1 9 0)), (1, .int x1)]) hx hb xd_Mo_of_129 hl (k := 4) rfl rfl (by decide) rfl (fun ls hl => ?_)
          refine lv_goto (pc := 132) (tgt := 78) hx hb xd_Mo_of_132 (by decide) ?_
          exact ih r4 (x4 + (1 : Int32)) M3 H locs ls h hR hS (lv_sub hl [3, 4, 1, 0] rfl)
        · have h := h.2 hq
          refine lv_iload (pc := 120) hx hb xd_Mo_of_120 (lv_at hl 0 rfl) ?_
          refine lv_iload_n (pc := 122) hx hb xd_Mo_of_122 rfl (lv_at hl 3 rfl) ?_
          refine lv_icmp_ge (pc := 123) (tgt := 129) hx hb xd_Mo_of_123 (by decide) (fun hq => ?_) (fun hq => ?_)
          · have h := h.1 hq
            refine lv_iinc (pc := 129) (v := (x4 + (1 : Int32))) (lv' := [(4, .int (x4 + (1 : Int32))), (5, .int r4), (0, .ref (G.1 9 0)), (1, .int x1), (3, .int x3)]) hx hb xd_Mo_of_129 hl (k := 4) rfl rfl (by decide) rfl (fun ls hl => ?_)
            refine lv_goto (pc := 132) (tgt := 78) hx hb xd_Mo_of_132 (by decide) ?_
            exact ih x3 (x4 + (1 : Int32)) M3 H locs ls h hR hS (lv_sub hl [2, 3, 4, 0] rfl)
          · have h := h.2 hq
            refine lv_iload (pc := 126) hx hb xd_Mo_of_126 (lv_at hl 0 rfl) ?_
            refine lv_istore_n (pc := 128) (lv' := [(3, .int r4), (5, .int r4), (0, .ref (G.1 9 0)), (1, .int x1), (4, .int x4)]) hx hb xd_Mo_of_128 rfl hl (by decide) rfl (fun ls hl => ?_)
            refine lv_iinc (pc := 129) (v := (x4 + (1 : Int32))) (lv' := [(4, .int (x4 + (1 : Int32))), (3, .int r4), (5, .int r4), (0, .ref (G.1 9 0)), (1, .int x1)]) hx hb xd_Mo_of_129 hl (k := 4) rfl rfl (by decide) rfl (fun ls hl => ?_)
            refine lv_goto (pc := 132) (tgt := 78) hx hb xd_Mo_of_132 (by decide) ?_
            exact ih r4 (x4 + (1 : Int32)) M3 H locs ls h hR hS (lv_sub hl [3, 4, 1, 0] rfl)
      · have h := h.2 hq
        refine lv_goto (pc := 93) (tgt := 129) hx hb xd_Mo_of_93 (by decide) ?_
        refine lv_iinc (pc := 129) (v := (x4 + (1 : Int32))) (lv' := [(4, .int (x4 + (1 : Int32))), (0, .ref (G.1 9 0)), (1, .int x1), (3, .int x3)]) hx hb xd_Mo_of_129 hl (k := 3) rfl rfl (by decide) rfl (fun ls hl => ?_)
        refine lv_goto (pc := 132) (tgt := 78) hx hb xd_Mo_of_132 (by decide) ?_
        exact ih x3 (x4 + (1 : Int32)) M H locs ls h hR hS (lv_sub hl [1, 2, 3, 0] rfl)
set_option maxHeartbeats 4000000 in
set_option maxRecDepth 100000 in
theorem xc_Mo_of (l : Launch) (G : xG) {a1 : Int32} {a2 : Int32}  {M : xM} {post : Int32 → xM → Prop} (h : xw_Mo_of a1 a2 M post) : Met l y_Mo_of (Cond.code y_Mo_of b_Mo_of 6 (some .int) :: xTG) rm_Mo_of (xPre G M [.ref (G.1 9 0), .int a1, .int a2]) (xPi G post) 0 0 (xA G) := by
  refine xMet (own := R_Mo) [.ref (G.1 9 0), .int a1, .int a2] (Or.inl (by decide)) rfl (Nat.le_of_ble_eq_true rfl) (fun p e s m args below meth c ls hC hr hlk hR hS hl => ?_)
  have hx := hC.1
  have hb := hC.2.1
  have hl : lv_has ls 6 [(0, .ref (G.1 9 0)), (1, .int a1), (2, .int a2)] := hl
  obtain ⟨H, eH⟩ : ∃ H : Heap, H = s.heap := ⟨_, rfl⟩
  obtain ⟨locs, eL⟩ : ∃ locs : List Loc, locs = [] := ⟨_, rfl⟩
  rw [← eH] at hR
  replace hS : va_S (xA G) s.heap H locs := by rw [eH, eL]; exact hS
  suffices hh : W p l e rm_Mo_of s m args below meth c H locs 0 0 (MQ below (xPi G post) args s 0 0 (xA G)) (F0 m 0 ls []) from by rw [eH, eL] at hh; exact hh
  unfold xw_Mo_of at h
  refine lv_aload_n (pc := 0) hx hb xd_Mo_of_0 rfl (lv_at hl 0 rfl) ?_
  refine lv_iload_n (pc := 1) hx hb xd_Mo_of_1 rfl (lv_at hl 1 rfl) ?_
  refine xr_callV (pc := 2) (As := [.int a1]) (rest := []) hC hR hS (xc_Mo_isIn l G  h) xo_M0 xv_Mo_151 ⟨rfl, rfl, Nat.le_of_ble_eq_true rfl, Nat.le_of_ble_eq_true rfl⟩ rfl hl.1 rfl (Nat.le_of_ble_eq_true rfl) xd_Mo_of_2 (fun r2 M1 H locs h hR hS => ?_)
  refine lv_if_ne (pc := 5) (tgt := 11) hx hb xd_Mo_of_5 (by decide) (fun hq => ?_) (fun hq => ?_)
  · have h := h.1 hq
    refine lv_iload_n (pc := 11) hx hb xd_Mo_of_11 rfl (lv_at hl 2 rfl) ?_
    by_cases hs0 : a2 = (0 : Int32)
    · have h := h.1 hs0
      refine lv_tableIn (pc := 12) (tgt := 44) (off := 32) hx hb xd_Mo_of_12 (by rw [hs0]; decide) (by rw [hs0]; decide) (by rw [hs0]; rfl) (by decide) ?_
      refine lv_aload_n (pc := 44) hx hb xd_Mo_of_44 rfl (lv_at hl 0 rfl) ?_
      refine xr_get (pc := 45) (v := .ref (G.1 9 6)) hC hR xo_M0 xf_Mo_35 rfl xd_Mo_of_45 ?_
      refine lv_iload_n (pc := 48) hx hb xd_Mo_of_48 rfl (lv_at hl 1 rfl) ?_
      obtain ⟨hq, h⟩ := h
      refine xr_iald (pc := 49) hC hR xo_M6 hq xd_Mo_of_49 ?_
      exact xr_iret hC hr hlk hR hS h xd_Mo_of_50
    by_cases hs1 : a2 = (1 : Int32)
    · have h := h.2.1 hs1
      refine lv_tableIn (pc := 12) (tgt := 51) (off := 39) hx hb xd_Mo_of_12 (by rw [hs1]; decide) (by rw [hs1]; decide) (by rw [hs1]; rfl) (by decide) ?_
      refine lv_aload_n (pc := 51) hx hb xd_Mo_of_51 rfl (lv_at hl 0 rfl) ?_
      refine xr_get (pc := 52) (v := .ref (G.1 9 7)) hC hR xo_M0 xf_Mo_38 rfl xd_Mo_of_52 ?_
      refine lv_iload_n (pc := 55) hx hb xd_Mo_of_55 rfl (lv_at hl 1 rfl) ?_
      obtain ⟨hq, h⟩ := h
      refine xr_zald (pc := 56) hC hR xo_M7 hq xd_Mo_of_56 ?_
      refine lv_if_eq (pc := 57) (tgt := 64) hx hb xd_Mo_of_57 (by decide) (fun hq => ?_) (fun hq => ?_)
      · have h := h.1 hq
        refine lv_iconst (pc := 64) (v := (0 : Int32)) hx hb xd_Mo_of_64 (by decide) ?_
        exact xr_iret hC hr hlk hR hS h xd_Mo_of_65
      · have h := h.2 hq
        refine lv_iconst (pc := 60) (v := (1 : Int32)) hx hb xd_Mo_of_60 (by decide) ?_
        refine lv_goto (pc := 61) (tgt := 65) hx hb xd_Mo_of_61 (by decide) ?_
        exact xr_iret hC hr hlk hR hS h xd_Mo_of_65
    by_cases hs2 : a2 = (2 : Int32)
    · have h := h.2.2.1 hs2
      refine lv_tableIn (pc := 12) (tgt := 66) (off := 54) hx hb xd_Mo_of_12 (by rw [hs2]; decide) (by rw [hs2]; decide) (by rw [hs2]; rfl) (by decide) ?_
      refine lv_aload_n (pc := 66) hx hb xd_Mo_of_66 rfl (lv_at hl 0 rfl) ?_
      refine xr_get (pc := 67) (v := .ref (G.1 9 8)) hC hR xo_M0 xf_Mo_42 rfl xd_Mo_of_67 ?_
      refine lv_iload_n (pc := 70) hx hb xd_Mo_of_70 rfl (lv_at hl 1 rfl) ?_
      obtain ⟨hq, h⟩ := h
      refine xr_iald (pc := 71) hC hR xo_M8 hq xd_Mo_of_71 ?_
      exact xr_iret hC hr hlk hR hS h xd_Mo_of_72
    by_cases hs3 : a2 = (3 : Int32)
    · have h := h.2.2.2.1 hs3
      refine lv_tableIn (pc := 12) (tgt := 73) (off := 61) hx hb xd_Mo_of_12 (by rw [hs3]; decide) (by rw [hs3]; decide) (by rw [hs3]; rfl) (by decide) ?_
      refine lv_iconst (pc := 73) (v := (-1 : Int32)) hx hb xd_Mo_of_73 (by decide) ?_
      refine lv_istore_n (pc := 74) (lv' := [(3, .int (-1 : Int32)), (0, .ref (G.1 9 0)), (1, .int a1), (2, .int a2)]) hx hb xd_Mo_of_74 rfl hl (by decide) rfl (fun ls hl => ?_)
      refine lv_iconst (pc := 75) (v := (0 : Int32)) hx hb xd_Mo_of_75 (by decide) ?_
      refine lv_istore (pc := 76) (lv' := [(4, .int (0 : Int32)), (3, .int (-1 : Int32)), (0, .ref (G.1 9 0)), (1, .int a1), (2, .int a2)]) hx hb xd_Mo_of_76 hl (by decide) rfl (fun ls hl => ?_)
      obtain ⟨n, h⟩ := h
      refine xt_Mo_of_78 hC hr hlk  (fun y5 y6 M7 H locs ls h hR hS hl => ?_) n (-1 : Int32) (0 : Int32) M1 H locs ls h hR hS (lv_sub hl [2, 3, 1, 0] rfl)
      refine lv_iload_n (pc := 135) hx hb xd_Mo_of_135 rfl (lv_at hl 2 rfl) ?_
      exact xr_iret hC hr hlk hR hS h xd_Mo_of_136
    have h := h.2.2.2.2 hs0 hs1 hs2 hs3
    refine lv_tableOut (pc := 12) (tgt := 137) hx hb xd_Mo_of_12 (xsw4 hs0 hs1 hs2 hs3) (by decide) ?_
    refine lv_iconst (pc := 137) (v := (-1 : Int32)) hx hb xd_Mo_of_137 (by decide) ?_
    exact xr_iret hC hr hlk hR hS h xd_Mo_of_138
  · have h := h.2 hq
    refine lv_bipush (pc := 8) (v := (-2 : Int32)) hx hb xd_Mo_of_8 (by decide) ?_
    exact xr_iret hC hr hlk hR hS h xd_Mo_of_10

/-! ColoursApartModel.measures()V -/
theorem xd_Mo_measures_0 : decode b_Mo_measures 0 = .ok (.iconst 0, 1) := by decide +kernel
theorem xd_Mo_measures_1 : decode b_Mo_measures 1 = .ok (.istore_n 1, 1) := by decide +kernel
theorem xd_Mo_measures_2 : decode b_Mo_measures 2 = .ok (.iload_n 1, 1) := by decide +kernel
theorem xd_Mo_measures_3 : decode b_Mo_measures 3 = .ok (.aload_n 0, 1) := by decide +kernel
theorem xd_Mo_measures_4 : decode b_Mo_measures 4 = .ok (.invokevirtual 107, 3) := by decide +kernel
theorem xd_Mo_measures_7 : decode b_Mo_measures 7 = .ok (.if_icmp .ge 130, 3) := by decide +kernel
theorem xd_Mo_measures_10 : decode b_Mo_measures 10 = .ok (.aload_n 0, 1) := by decide +kernel
theorem xd_Mo_measures_11 : decode b_Mo_measures 11 = .ok (.getfield 64, 3) := by decide +kernel
theorem xd_Mo_measures_14 : decode b_Mo_measures 14 = .ok (.iload_n 1, 1) := by decide +kernel
theorem xd_Mo_measures_15 : decode b_Mo_measures 15 = .ok (.ldc 170, 2) := by decide +kernel
theorem xd_Mo_measures_17 : decode b_Mo_measures 17 = .ok (.iastore, 1) := by decide +kernel
theorem xd_Mo_measures_18 : decode b_Mo_measures 18 = .ok (.iconst 0, 1) := by decide +kernel
theorem xd_Mo_measures_19 : decode b_Mo_measures 19 = .ok (.istore_n 2, 1) := by decide +kernel
theorem xd_Mo_measures_20 : decode b_Mo_measures 20 = .ok (.iload_n 2, 1) := by decide +kernel
theorem xd_Mo_measures_21 : decode b_Mo_measures 21 = .ok (.aload_n 0, 1) := by decide +kernel
theorem xd_Mo_measures_22 : decode b_Mo_measures 22 = .ok (.getfield 145, 3) := by decide +kernel
theorem xd_Mo_measures_25 : decode b_Mo_measures 25 = .ok (.if_icmp .ge 65, 3) := by decide +kernel
theorem xd_Mo_measures_28 : decode b_Mo_measures 28 = .ok (.aload_n 0, 1) := by decide +kernel
theorem xd_Mo_measures_29 : decode b_Mo_measures 29 = .ok (.getfield 38, 3) := by decide +kernel
theorem xd_Mo_measures_32 : decode b_Mo_measures 32 = .ok (.iload_n 2, 1) := by decide +kernel
theorem xd_Mo_measures_33 : decode b_Mo_measures 33 = .ok (.baload, 1) := by decide +kernel
theorem xd_Mo_measures_34 : decode b_Mo_measures 34 = .ok (.ifCond .eq 21, 3) := by decide +kernel
theorem xd_Mo_measures_37 : decode b_Mo_measures 37 = .ok (.aload_n 0, 1) := by decide +kernel
theorem xd_Mo_measures_38 : decode b_Mo_measures 38 = .ok (.aload_n 0, 1) := by decide +kernel
theorem xd_Mo_measures_39 : decode b_Mo_measures 39 = .ok (.iload_n 1, 1) := by decide +kernel
theorem xd_Mo_measures_40 : decode b_Mo_measures 40 = .ok (.invokevirtual 111, 3) := by decide +kernel
theorem xd_Mo_measures_43 : decode b_Mo_measures 43 = .ok (.aload_n 0, 1) := by decide +kernel
theorem xd_Mo_measures_44 : decode b_Mo_measures 44 = .ok (.getfield 35, 3) := by decide +kernel
theorem xd_Mo_measures_47 : decode b_Mo_measures 47 = .ok (.iload_n 2, 1) := by decide +kernel
theorem xd_Mo_measures_48 : decode b_Mo_measures 48 = .ok (.iaload, 1) := by decide +kernel
theorem xd_Mo_measures_49 : decode b_Mo_measures 49 = .ok (.invokevirtual 142, 3) := by decide +kernel
theorem xd_Mo_measures_52 : decode b_Mo_measures 52 = .ok (.goto 5, 3) := by decide +kernel
theorem xd_Mo_measures_55 : decode b_Mo_measures 55 = .ok (.ldc 170, 2) := by decide +kernel
theorem xd_Mo_measures_57 : decode b_Mo_measures 57 = .ok (.istore_n 3, 1) := by decide +kernel
theorem xd_Mo_measures_58 : decode b_Mo_measures 58 = .ok (.aload_n 0, 1) := by decide +kernel
theorem xd_Mo_measures_59 : decode b_Mo_measures 59 = .ok (.getfield 64, 3) := by decide +kernel
theorem xd_Mo_measures_62 : decode b_Mo_measures 62 = .ok (.iload_n 1, 1) := by decide +kernel
theorem xd_Mo_measures_63 : decode b_Mo_measures 63 = .ok (.iload_n 3, 1) := by decide +kernel
theorem xd_Mo_measures_64 : decode b_Mo_measures 64 = .ok (.aload_n 0, 1) := by decide +kernel
theorem xd_Mo_measures_65 : decode b_Mo_measures 65 = .ok (.getfield 64, 3) := by decide +kernel
theorem xd_Mo_measures_68 : decode b_Mo_measures 68 = .ok (.iload_n 1, 1) := by decide +kernel
theorem xd_Mo_measures_69 : decode b_Mo_measures 69 = .ok (.iaload, 1) := by decide +kernel
theorem xd_Mo_measures_70 : decode b_Mo_measures 70 = .ok (.if_icmp .ge 7, 3) := by decide +kernel
theorem xd_Mo_measures_73 : decode b_Mo_measures 73 = .ok (.iload_n 3, 1) := by decide +kernel
theorem xd_Mo_measures_74 : decode b_Mo_measures 74 = .ok (.goto 9, 3) := by decide +kernel
theorem xd_Mo_measures_77 : decode b_Mo_measures 77 = .ok (.aload_n 0, 1) := by decide +kernel
theorem xd_Mo_measures_78 : decode b_Mo_measures 78 = .ok (.getfield 64, 3) := by decide +kernel
theorem xd_Mo_measures_81 : decode b_Mo_measures 81 = .ok (.iload_n 1, 1) := by decide +kernel
theorem xd_Mo_measures_82 : decode b_Mo_measures 82 = .ok (.iaload, 1) := by decide +kernel
theorem xd_Mo_measures_83 : decode b_Mo_measures 83 = .ok (.iastore, 1) := by decide +kernel
theorem xd_Mo_measures_84 : decode b_Mo_measures 84 = .ok (.iinc 2 1, 3) := by decide +kernel
theorem xd_Mo_measures_87 : decode b_Mo_measures 87 = .ok (.goto (-67), 3) := by decide +kernel
theorem xd_Mo_measures_90 : decode b_Mo_measures 90 = .ok (.iconst 0, 1) := by decide +kernel
theorem xd_Mo_measures_91 : decode b_Mo_measures 91 = .ok (.istore_n 2, 1) := by decide +kernel
theorem xd_Mo_measures_92 : decode b_Mo_measures 92 = .ok (.iload_n 2, 1) := by decide +kernel
theorem xd_Mo_measures_93 : decode b_Mo_measures 93 = .ok (.aload_n 0, 1) := by decide +kernel
theorem xd_Mo_measures_94 : decode b_Mo_measures 94 = .ok (.invokevirtual 107, 3) := by decide +kernel
theorem xd_Mo_measures_97 : decode b_Mo_measures 97 = .ok (.if_icmp .ge 34, 3) := by decide +kernel
theorem xd_Mo_measures_100 : decode b_Mo_measures 100 = .ok (.aload_n 0, 1) := by decide +kernel
theorem xd_Mo_measures_101 : decode b_Mo_measures 101 = .ok (.getfield 61, 3) := by decide +kernel
theorem xd_Mo_measures_104 : decode b_Mo_measures 104 = .ok (.bipush 64, 2) := by decide +kernel
theorem xd_Mo_measures_106 : decode b_Mo_measures 106 = .ok (.iload_n 1, 1) := by decide +kernel
theorem xd_Mo_measures_107 : decode b_Mo_measures 107 = .ok (.imul, 1) := by decide +kernel
theorem xd_Mo_measures_108 : decode b_Mo_measures 108 = .ok (.iload_n 2, 1) := by decide +kernel
theorem xd_Mo_measures_109 : decode b_Mo_measures 109 = .ok (.iadd, 1) := by decide +kernel
theorem xd_Mo_measures_110 : decode b_Mo_measures 110 = .ok (.aload_n 0, 1) := by decide +kernel
theorem xd_Mo_measures_111 : decode b_Mo_measures 111 = .ok (.aload_n 0, 1) := by decide +kernel
theorem xd_Mo_measures_112 : decode b_Mo_measures 112 = .ok (.iload_n 1, 1) := by decide +kernel
theorem xd_Mo_measures_113 : decode b_Mo_measures 113 = .ok (.invokevirtual 111, 3) := by decide +kernel
theorem xd_Mo_measures_116 : decode b_Mo_measures 116 = .ok (.aload_n 0, 1) := by decide +kernel
theorem xd_Mo_measures_117 : decode b_Mo_measures 117 = .ok (.iload_n 2, 1) := by decide +kernel
theorem xd_Mo_measures_118 : decode b_Mo_measures 118 = .ok (.invokevirtual 111, 3) := by decide +kernel
theorem xd_Mo_measures_121 : decode b_Mo_measures 121 = .ok (.invokevirtual 142, 3) := by decide +kernel
theorem xd_Mo_measures_124 : decode b_Mo_measures 124 = .ok (.iastore, 1) := by decide +kernel
theorem xd_Mo_measures_125 : decode b_Mo_measures 125 = .ok (.iinc 2 1, 3) := by decide +kernel
theorem xd_Mo_measures_128 : decode b_Mo_measures 128 = .ok (.goto (-36), 3) := by decide +kernel
theorem xd_Mo_measures_131 : decode b_Mo_measures 131 = .ok (.iinc 1 1, 3) := by decide +kernel
theorem xd_Mo_measures_134 : decode b_Mo_measures 134 = .ok (.goto (-132), 3) := by decide +kernel
theorem xd_Mo_measures_137 : decode b_Mo_measures 137 = .ok (.return_, 1) := by decide +kernel
abbrev rm_Mo_measures : Room := { frames := 5, cells := 0, slots := 0, locals := 120 }
def xw_Mo_measures_20 (x1 : Int32) (post : xM → Prop) (k90 : Int32 → xM → Prop) : Nat → Int32 → xM → Prop
  | 0, _, _ => False
  | n20 + 1, x2, M => (((M 9 0 9) ≤ x2) → (k90 x2 M)) ∧ ((¬ (M 9 0 9) ≤ x2) → ((vp_in x2 12) ∧ (xj (fun (J57_2 : Int32 → xM → Prop) => (((M 9 7 x2.toNatClampNeg) = 0) → (J57_2 (2000000 : Int32) M)) ∧ ((¬ (M 9 7 x2.toNatClampNeg) = 0) → (xw_Mo_placeOf x1 M (fun (r7 : Int32) (M6 : xM) => (vp_in x2 12) ∧ (xw_Mo_apartOf r7 (M6 9 6 x2.toNatClampNeg) M6 (fun (r9 : Int32) (M8 : xM) => J57_2 r9 M8)))))) (fun (v4 : Int32) (M5 : xM) => (vp_in x1 64) ∧ ((((M5 9 15 x1.toNatClampNeg) ≤ v4) → ((vp_in x1 64) ∧ ((vp_in x1 64) ∧ (xw_Mo_measures_20 x1 post k90 n20 (x2 + (1 : Int32)) (us M5 9 15 x1.toNatClampNeg (M5 9 15 x1.toNatClampNeg)))))) ∧ ((¬ (M5 9 15 x1.toNatClampNeg) ≤ v4) → ((vp_in x1 64) ∧ (xw_Mo_measures_20 x1 post k90 n20 (x2 + (1 : Int32)) (us M5 9 15 x1.toNatClampNeg v4)))))))))
def xw_Mo_measures_92 (x1 : Int32) (post : xM → Prop) (k131 : Int32 → xM → Prop) : Nat → Int32 → xM → Prop
  | 0, _, _ => False
  | n92 + 1, x2, M => xw_Mo_places M (fun (r13 : Int32) (M12 : xM) => ((r13 ≤ x2) → (k131 x2 M12)) ∧ ((¬ r13 ≤ x2) → (xw_Mo_placeOf x1 M12 (fun (r15 : Int32) (M14 : xM) => xw_Mo_placeOf x2 M14 (fun (r17 : Int32) (M16 : xM) => xw_Mo_apartOf r15 r17 M16 (fun (r19 : Int32) (M18 : xM) => (vp_in (((64 : Int32) * x1) + x2) 4096) ∧ (xw_Mo_measures_92 x1 post k131 n92 (x2 + (1 : Int32)) (us M18 9 14 (((64 : Int32) * x1) + x2).toNatClampNeg r19))))))))
def xw_Mo_measures_2 (post : xM → Prop) (k137 : Int32 → xM → Prop) : Nat → Int32 → xM → Prop
  | 0, _, _ => False
  | n2 + 1, x1, M => xw_Mo_places M (fun (r2 : Int32) (M1 : xM) => ((r2 ≤ x1) → (k137 x1 M1)) ∧ ((¬ r2 ≤ x1) → ((vp_in x1 64) ∧ (∃ n20 : Nat, xw_Mo_measures_20 x1 post (fun (y10 : Int32) (M11 : xM) => ∃ n92 : Nat, xw_Mo_measures_92 x1 post (fun (y20 : Int32) (M21 : xM) => xw_Mo_measures_2 post k137 n2 (x1 + (1 : Int32)) M21) n92 (0 : Int32) M11) n20 (0 : Int32) (us M1 9 15 x1.toNatClampNeg (2000000 : Int32))))))
def xw_Mo_measures  (M : xM) (post : xM → Prop) : Prop :=
  ∃ n2 : Nat, xw_Mo_measures_2 post (fun (y22 : Int32) (M23 : xM) => post M23) n2 (0 : Int32) M
set_option maxHeartbeats 4000000 in
set_option maxRecDepth 100000 in
theorem xt_Mo_measures_20 {p : Program} {l : Launch} {e : Env} {s : State} {m : MethodId} {args : Array Value} {below : List Frame} {meth : Method} {c : Code} {G : xG} (hC : xC p s m args c b_Mo_measures R_Mo 4 G) (hr : meth.sig.returnType = none) (hlk : meth.locks = false) {x1 : Int32} {post : xM → Prop} {k90 : Int32 → xM → Prop} (hk90 : ∀ (x2 : Int32) (M : xM) (H : Heap) (locs : List Loc) (ls : Array Slot), k90 x2 M → xRp G M H → va_S (xA G) s.heap H locs → lv_has ls 4 [(0, .ref (G.1 9 0)), (1, .int x1), (2, .int x2)] → W p l e rm_Mo_measures s m args below meth c H locs 0 0 (MQ below (xPv G post) args s 0 0 (xA G)) (F0 m 90 ls [])) : ∀ (n : Nat) (x2 : Int32) (M : xM) (H : Heap) (locs : List Loc) (ls : Array Slot), xw_Mo_measures_20 x1 post k90 n x2 M → xRp G M H → va_S (xA G) s.heap H locs → lv_has ls 4 [(0, .ref (G.1 9 0)), (1, .int x1), (2, .int x2)] → W p l e rm_Mo_measures s m args below meth c H locs 0 0 (MQ below (xPv G post) args s 0 0 (xA G)) (F0 m 20 ls []) := by
  have hx := hC.1
  have hb := hC.2.1
  intro n
  induction n with
  | zero => intro x2 M H locs ls; exact fun h => h.elim
  | succ n ih =>
    intro x2 M H locs ls h hR hS hl
    refine lv_iload_n (pc := 20) hx hb xd_Mo_measures_20 rfl (lv_at hl 2 rfl) ?_
    refine lv_aload_n (pc := 21) hx hb xd_Mo_measures_21 rfl (lv_at hl 0 rfl) ?_
    refine xr_get (pc := 22) (v := .int (M 9 0 9)) hC hR xo_M0 xf_Mo_145 rfl xd_Mo_measures_22 ?_
    refine lv_icmp_ge (pc := 25) (tgt := 90) hx hb xd_Mo_measures_25 (by decide) (fun hq => ?_) (fun hq => ?_)
    · have h := h.1 hq
      exact hk90 x2 M H locs ls h hR hS (lv_sub hl [0, 1, 2] rfl)
    · have h := h.2 hq
      refine lv_aload_n (pc := 28) hx hb xd_Mo_measures_28 rfl (lv_at hl 0 rfl) ?_
      refine xr_get (pc := 29) (v := .ref (G.1 9 7)) hC hR xo_M0 xf_Mo_38 rfl xd_Mo_measures_29 ?_
      refine lv_iload_n (pc := 32) hx hb xd_Mo_measures_32 rfl (lv_at hl 2 rfl) ?_
      obtain ⟨hq, h⟩ := h
      refine xr_zald (pc := 33) hC hR xo_M7 hq xd_Mo_measures_33 ?_
      obtain ⟨J57_2, eJ57_2, h⟩ := xj_open h
      have kJ57_2 : ∀ (v4 : Int32) (M5 : xM) (H : Heap) (locs : List Loc) (ls : Array Slot), J57_2 v4 M5 → xRp G M5 H → va_S (xA G) s.heap H locs → lv_has ls 4 [(0, .ref (G.1 9 0)), (1, .int x1), (2, .int x2)] → W p l e rm_Mo_measures s m args below meth c H locs 0 0 (MQ below (xPv G post) args s 0 0 (xA G)) (F0 m 57 ls [.int v4]) := by
        intro v4 M5 H locs ls h hR hS hl
        rw [eJ57_2] at h
        refine lv_istore_n (pc := 57) (lv' := [(3, .int v4), (0, .ref (G.1 9 0)), (1, .int x1), (2, .int x2)]) hx hb xd_Mo_measures_57 rfl hl (by decide) rfl (fun ls hl => ?_)
        refine lv_aload_n (pc := 58) hx hb xd_Mo_measures_58 rfl (lv_at hl 1 rfl) ?_
        refine xr_get (pc := 59) (v := .ref (G.1 9 15)) hC hR xo_M0 xf_Mo_64 rfl xd_Mo_measures_59 ?_
        refine lv_iload_n (pc := 62) hx hb xd_Mo_measures_62 rfl (lv_at hl 2 rfl) ?_
        refine lv_iload_n (pc := 63) hx hb xd_Mo_measures_63 rfl (lv_at hl 0 rfl) ?_
        refine lv_aload_n (pc := 64) hx hb xd_Mo_measures_64 rfl (lv_at hl 1 rfl) ?_
        refine xr_get (pc := 65) (v := .ref (G.1 9 15)) hC hR xo_M0 xf_Mo_64 rfl xd_Mo_measures_65 ?_
        refine lv_iload_n (pc := 68) hx hb xd_Mo_measures_68 rfl (lv_at hl 2 rfl) ?_
        obtain ⟨hq, h⟩ := h
        refine xr_iald (pc := 69) hC hR xo_M15 hq xd_Mo_measures_69 ?_
        refine lv_icmp_ge (pc := 70) (tgt := 77) hx hb xd_Mo_measures_70 (by decide) (fun hq => ?_) (fun hq => ?_)
        · have h := h.1 hq
          refine lv_aload_n (pc := 77) hx hb xd_Mo_measures_77 rfl (lv_at hl 1 rfl) ?_
          refine xr_get (pc := 78) (v := .ref (G.1 9 15)) hC hR xo_M0 xf_Mo_64 rfl xd_Mo_measures_78 ?_
          refine lv_iload_n (pc := 81) hx hb xd_Mo_measures_81 rfl (lv_at hl 2 rfl) ?_
          obtain ⟨hq, h⟩ := h
          refine xr_iald (pc := 82) hC hR xo_M15 hq xd_Mo_measures_82 ?_
          obtain ⟨hq, h⟩ := h
          refine xr_iast (pc := 83) hC hR hS xo_M15 hq xd_Mo_measures_83 (fun H locs hR hS => ?_)
          refine lv_iinc (pc := 84) (v := (x2 + (1 : Int32))) (lv' := [(2, .int (x2 + (1 : Int32))), (3, .int v4), (0, .ref (G.1 9 0)), (1, .int x1)]) hx hb xd_Mo_measures_84 hl (k := 3) rfl rfl (by decide) rfl (fun ls hl => ?_)
          refine lv_goto (pc := 87) (tgt := 20) hx hb xd_Mo_measures_87 (by decide) ?_
          exact ih (x2 + (1 : Int32)) (us M5 9 15 x1.toNatClampNeg (M5 9 15 x1.toNatClampNeg)) H locs ls h hR hS (lv_sub hl [2, 3, 0] rfl)
        · have h := h.2 hq
          refine lv_iload_n (pc := 73) hx hb xd_Mo_measures_73 rfl (lv_at hl 0 rfl) ?_
          refine lv_goto (pc := 74) (tgt := 83) hx hb xd_Mo_measures_74 (by decide) ?_
          obtain ⟨hq, h⟩ := h
          refine xr_iast (pc := 83) hC hR hS xo_M15 hq xd_Mo_measures_83 (fun H locs hR hS => ?_)
          refine lv_iinc (pc := 84) (v := (x2 + (1 : Int32))) (lv' := [(2, .int (x2 + (1 : Int32))), (3, .int v4), (0, .ref (G.1 9 0)), (1, .int x1)]) hx hb xd_Mo_measures_84 hl (k := 3) rfl rfl (by decide) rfl (fun ls hl => ?_)
          refine lv_goto (pc := 87) (tgt := 20) hx hb xd_Mo_measures_87 (by decide) ?_
          exact ih (x2 + (1 : Int32)) (us M5 9 15 x1.toNatClampNeg v4) H locs ls h hR hS (lv_sub hl [2, 3, 0] rfl)
      refine lv_if_eq (pc := 34) (tgt := 55) hx hb xd_Mo_measures_34 (by decide) (fun hq => ?_) (fun hq => ?_)
      · have h := h.1 hq
        refine lv_ldc (pc := 55) (v := (2000000 : Int32)) hx hb hC.2.2.2.1 (hC.2.2.2.2.1 _ xk_Mo_170) xd_Mo_measures_55 ?_
        exact kJ57_2 (2000000 : Int32) M H locs ls h hR hS (lv_sub hl [0, 1, 2] rfl)
      · have h := h.2 hq
        refine lv_aload_n (pc := 37) hx hb xd_Mo_measures_37 rfl (lv_at hl 0 rfl) ?_
        refine lv_aload_n (pc := 38) hx hb xd_Mo_measures_38 rfl (lv_at hl 0 rfl) ?_
        refine lv_iload_n (pc := 39) hx hb xd_Mo_measures_39 rfl (lv_at hl 1 rfl) ?_
        refine xr_callV (pc := 40) (As := [.int x1]) (rest := [.ref (G.1 9 0)]) hC hR hS (xc_Mo_placeOf l G  h) xo_M0 xv_Mo_111 ⟨rfl, rfl, Nat.le_of_ble_eq_true rfl, Nat.le_of_ble_eq_true rfl⟩ rfl hl.1 rfl (Nat.le_of_ble_eq_true rfl) xd_Mo_measures_40 (fun r7 M6 H locs h hR hS => ?_)
        refine lv_aload_n (pc := 43) hx hb xd_Mo_measures_43 rfl (lv_at hl 0 rfl) ?_
        refine xr_get (pc := 44) (v := .ref (G.1 9 6)) hC hR xo_M0 xf_Mo_35 rfl xd_Mo_measures_44 ?_
        refine lv_iload_n (pc := 47) hx hb xd_Mo_measures_47 rfl (lv_at hl 2 rfl) ?_
        obtain ⟨hq, h⟩ := h
        refine xr_iald (pc := 48) hC hR xo_M6 hq xd_Mo_measures_48 ?_
        refine xr_callV (pc := 49) (As := [.int r7, .int (M6 9 6 x2.toNatClampNeg)]) (rest := []) hC hR hS (xc_Mo_apartOf l G  h) xo_M0 xv_Mo_142 ⟨rfl, rfl, Nat.le_of_ble_eq_true rfl, Nat.le_of_ble_eq_true rfl⟩ rfl hl.1 rfl (Nat.le_of_ble_eq_true rfl) xd_Mo_measures_49 (fun r9 M8 H locs h hR hS => ?_)
        refine lv_goto (pc := 52) (tgt := 57) hx hb xd_Mo_measures_52 (by decide) ?_
        exact kJ57_2 r9 M8 H locs ls h hR hS (lv_sub hl [0, 1, 2] rfl)
set_option maxHeartbeats 4000000 in
set_option maxRecDepth 100000 in
theorem xt_Mo_measures_92 {p : Program} {l : Launch} {e : Env} {s : State} {m : MethodId} {args : Array Value} {below : List Frame} {meth : Method} {c : Code} {G : xG} (hC : xC p s m args c b_Mo_measures R_Mo 4 G) (hr : meth.sig.returnType = none) (hlk : meth.locks = false) {x1 : Int32} {post : xM → Prop} {k131 : Int32 → xM → Prop} (hk131 : ∀ (x2 : Int32) (M : xM) (H : Heap) (locs : List Loc) (ls : Array Slot), k131 x2 M → xRp G M H → va_S (xA G) s.heap H locs → lv_has ls 4 [(0, .ref (G.1 9 0)), (1, .int x1), (2, .int x2)] → W p l e rm_Mo_measures s m args below meth c H locs 0 0 (MQ below (xPv G post) args s 0 0 (xA G)) (F0 m 131 ls [])) : ∀ (n : Nat) (x2 : Int32) (M : xM) (H : Heap) (locs : List Loc) (ls : Array Slot), xw_Mo_measures_92 x1 post k131 n x2 M → xRp G M H → va_S (xA G) s.heap H locs → lv_has ls 4 [(0, .ref (G.1 9 0)), (1, .int x1), (2, .int x2)] → W p l e rm_Mo_measures s m args below meth c H locs 0 0 (MQ below (xPv G post) args s 0 0 (xA G)) (F0 m 92 ls []) := by
  have hx := hC.1
  have hb := hC.2.1
  intro n
  induction n with
  | zero => intro x2 M H locs ls; exact fun h => h.elim
  | succ n ih =>
    intro x2 M H locs ls h hR hS hl
    refine lv_iload_n (pc := 92) hx hb xd_Mo_measures_92 rfl (lv_at hl 2 rfl) ?_
    refine lv_aload_n (pc := 93) hx hb xd_Mo_measures_93 rfl (lv_at hl 0 rfl) ?_
    refine xr_callV (pc := 94) (As := []) (rest := [.int x2]) hC hR hS (xc_Mo_places l G  h) xo_M0 xv_Mo_107 ⟨rfl, rfl, Nat.le_of_ble_eq_true rfl, Nat.le_of_ble_eq_true rfl⟩ rfl hl.1 rfl (Nat.le_of_ble_eq_true rfl) xd_Mo_measures_94 (fun r13 M12 H locs h hR hS => ?_)
    refine lv_icmp_ge (pc := 97) (tgt := 131) hx hb xd_Mo_measures_97 (by decide) (fun hq => ?_) (fun hq => ?_)
    · have h := h.1 hq
      exact hk131 x2 M12 H locs ls h hR hS (lv_sub hl [0, 1, 2] rfl)
    · have h := h.2 hq
      refine lv_aload_n (pc := 100) hx hb xd_Mo_measures_100 rfl (lv_at hl 0 rfl) ?_
      refine xr_get (pc := 101) (v := .ref (G.1 9 14)) hC hR xo_M0 xf_Mo_61 rfl xd_Mo_measures_101 ?_
      refine lv_bipush (pc := 104) (v := (64 : Int32)) hx hb xd_Mo_measures_104 (by decide) ?_
      refine lv_iload_n (pc := 106) hx hb xd_Mo_measures_106 rfl (lv_at hl 1 rfl) ?_
      refine lv_imul (pc := 107) hx hb xd_Mo_measures_107 ?_
      refine lv_iload_n (pc := 108) hx hb xd_Mo_measures_108 rfl (lv_at hl 2 rfl) ?_
      refine lv_iadd (pc := 109) hx hb xd_Mo_measures_109 ?_
      refine lv_aload_n (pc := 110) hx hb xd_Mo_measures_110 rfl (lv_at hl 0 rfl) ?_
      refine lv_aload_n (pc := 111) hx hb xd_Mo_measures_111 rfl (lv_at hl 0 rfl) ?_
      refine lv_iload_n (pc := 112) hx hb xd_Mo_measures_112 rfl (lv_at hl 1 rfl) ?_
      refine xr_callV (pc := 113) (As := [.int x1]) (rest := [.ref (G.1 9 0), .int (((64 : Int32) * x1) + x2), .ref (G.1 9 14)]) hC hR hS (xc_Mo_placeOf l G  h) xo_M0 xv_Mo_111 ⟨rfl, rfl, Nat.le_of_ble_eq_true rfl, Nat.le_of_ble_eq_true rfl⟩ rfl hl.1 rfl (Nat.le_of_ble_eq_true rfl) xd_Mo_measures_113 (fun r15 M14 H locs h hR hS => ?_)
      refine lv_aload_n (pc := 116) hx hb xd_Mo_measures_116 rfl (lv_at hl 0 rfl) ?_
      refine lv_iload_n (pc := 117) hx hb xd_Mo_measures_117 rfl (lv_at hl 2 rfl) ?_
      refine xr_callV (pc := 118) (As := [.int x2]) (rest := [.int r15, .ref (G.1 9 0), .int (((64 : Int32) * x1) + x2), .ref (G.1 9 14)]) hC hR hS (xc_Mo_placeOf l G  h) xo_M0 xv_Mo_111 ⟨rfl, rfl, Nat.le_of_ble_eq_true rfl, Nat.le_of_ble_eq_true rfl⟩ rfl hl.1 rfl (Nat.le_of_ble_eq_true rfl) xd_Mo_measures_118 (fun r17 M16 H locs h hR hS => ?_)
      refine xr_callV (pc := 121) (As := [.int r15, .int r17]) (rest := [.int (((64 : Int32) * x1) + x2), .ref (G.1 9 14)]) hC hR hS (xc_Mo_apartOf l G  h) xo_M0 xv_Mo_142 ⟨rfl, rfl, Nat.le_of_ble_eq_true rfl, Nat.le_of_ble_eq_true rfl⟩ rfl hl.1 rfl (Nat.le_of_ble_eq_true rfl) xd_Mo_measures_121 (fun r19 M18 H locs h hR hS => ?_)
      obtain ⟨hq, h⟩ := h
      refine xr_iast (pc := 124) hC hR hS xo_M14 hq xd_Mo_measures_124 (fun H locs hR hS => ?_)
      refine lv_iinc (pc := 125) (v := (x2 + (1 : Int32))) (lv' := [(2, .int (x2 + (1 : Int32))), (0, .ref (G.1 9 0)), (1, .int x1)]) hx hb xd_Mo_measures_125 hl (k := 2) rfl rfl (by decide) rfl (fun ls hl => ?_)
      refine lv_goto (pc := 128) (tgt := 92) hx hb xd_Mo_measures_128 (by decide) ?_
      exact ih (x2 + (1 : Int32)) (us M18 9 14 (((64 : Int32) * x1) + x2).toNatClampNeg r19) H locs ls h hR hS (lv_sub hl [1, 2, 0] rfl)
set_option maxHeartbeats 4000000 in
set_option maxRecDepth 100000 in
theorem xt_Mo_measures_2 {p : Program} {l : Launch} {e : Env} {s : State} {m : MethodId} {args : Array Value} {below : List Frame} {meth : Method} {c : Code} {G : xG} (hC : xC p s m args c b_Mo_measures R_Mo 4 G) (hr : meth.sig.returnType = none) (hlk : meth.locks = false)  {post : xM → Prop} {k137 : Int32 → xM → Prop} (hk137 : ∀ (x1 : Int32) (M : xM) (H : Heap) (locs : List Loc) (ls : Array Slot), k137 x1 M → xRp G M H → va_S (xA G) s.heap H locs → lv_has ls 4 [(0, .ref (G.1 9 0)), (1, .int x1)] → W p l e rm_Mo_measures s m args below meth c H locs 0 0 (MQ below (xPv G post) args s 0 0 (xA G)) (F0 m 137 ls [])) : ∀ (n : Nat) (x1 : Int32) (M : xM) (H : Heap) (locs : List Loc) (ls : Array Slot), xw_Mo_measures_2 post k137 n x1 M → xRp G M H → va_S (xA G) s.heap H locs → lv_has ls 4 [(0, .ref (G.1 9 0)), (1, .int x1)] → W p l e rm_Mo_measures s m args below meth c H locs 0 0 (MQ below (xPv G post) args s 0 0 (xA G)) (F0 m 2 ls []) := by
  have hx := hC.1
  have hb := hC.2.1
  intro n
  induction n with
  | zero => intro x1 M H locs ls; exact fun h => h.elim
  | succ n ih =>
    intro x1 M H locs ls h hR hS hl
    refine lv_iload_n (pc := 2) hx hb xd_Mo_measures_2 rfl (lv_at hl 1 rfl) ?_
    refine lv_aload_n (pc := 3) hx hb xd_Mo_measures_3 rfl (lv_at hl 0 rfl) ?_
    refine xr_callV (pc := 4) (As := []) (rest := [.int x1]) hC hR hS (xc_Mo_places l G  h) xo_M0 xv_Mo_107 ⟨rfl, rfl, Nat.le_of_ble_eq_true rfl, Nat.le_of_ble_eq_true rfl⟩ rfl hl.1 rfl (Nat.le_of_ble_eq_true rfl) xd_Mo_measures_4 (fun r2 M1 H locs h hR hS => ?_)
    refine lv_icmp_ge (pc := 7) (tgt := 137) hx hb xd_Mo_measures_7 (by decide) (fun hq => ?_) (fun hq => ?_)
    · have h := h.1 hq
      exact hk137 x1 M1 H locs ls h hR hS (lv_sub hl [0, 1] rfl)
    · have h := h.2 hq
      refine lv_aload_n (pc := 10) hx hb xd_Mo_measures_10 rfl (lv_at hl 0 rfl) ?_
      refine xr_get (pc := 11) (v := .ref (G.1 9 15)) hC hR xo_M0 xf_Mo_64 rfl xd_Mo_measures_11 ?_
      refine lv_iload_n (pc := 14) hx hb xd_Mo_measures_14 rfl (lv_at hl 1 rfl) ?_
      refine lv_ldc (pc := 15) (v := (2000000 : Int32)) hx hb hC.2.2.2.1 (hC.2.2.2.2.1 _ xk_Mo_170) xd_Mo_measures_15 ?_
      obtain ⟨hq, h⟩ := h
      refine xr_iast (pc := 17) hC hR hS xo_M15 hq xd_Mo_measures_17 (fun H locs hR hS => ?_)
      refine lv_iconst (pc := 18) (v := (0 : Int32)) hx hb xd_Mo_measures_18 (by decide) ?_
      refine lv_istore_n (pc := 19) (lv' := [(2, .int (0 : Int32)), (0, .ref (G.1 9 0)), (1, .int x1)]) hx hb xd_Mo_measures_19 rfl hl (by decide) rfl (fun ls hl => ?_)
      obtain ⟨n, h⟩ := h
      refine xt_Mo_measures_20 hC hr hlk  (fun y10 M11 H locs ls h hR hS hl => ?_) n (0 : Int32) (us M1 9 15 x1.toNatClampNeg (2000000 : Int32)) H locs ls h hR hS (lv_sub hl [1, 2, 0] rfl)
      refine lv_iconst (pc := 90) (v := (0 : Int32)) hx hb xd_Mo_measures_90 (by decide) ?_
      refine lv_istore_n (pc := 91) (lv' := [(2, .int (0 : Int32)), (0, .ref (G.1 9 0)), (1, .int x1)]) hx hb xd_Mo_measures_91 rfl hl (by decide) rfl (fun ls hl => ?_)
      obtain ⟨n, h⟩ := h
      refine xt_Mo_measures_92 hC hr hlk  (fun y20 M21 H locs ls h hR hS hl => ?_) n (0 : Int32) M11 H locs ls h hR hS (lv_sub hl [1, 2, 0] rfl)
      refine lv_iinc (pc := 131) (v := (x1 + (1 : Int32))) (lv' := [(1, .int (x1 + (1 : Int32))), (0, .ref (G.1 9 0)), (2, .int y20)]) hx hb xd_Mo_measures_131 hl (k := 1) rfl rfl (by decide) rfl (fun ls hl => ?_)
      refine lv_goto (pc := 134) (tgt := 2) hx hb xd_Mo_measures_134 (by decide) ?_
      exact ih (x1 + (1 : Int32)) M21 H locs ls h hR hS (lv_sub hl [1, 0] rfl)
set_option maxHeartbeats 4000000 in
set_option maxRecDepth 100000 in
theorem xc_Mo_measures (l : Launch) (G : xG)   {M : xM} {post : xM → Prop} (h : xw_Mo_measures  M post) : Met l y_Mo_measures (Cond.code y_Mo_measures b_Mo_measures 4 none :: xTG) rm_Mo_measures (xPre G M [.ref (G.1 9 0)]) (xPv G post) 0 0 (xA G) := by
  refine xMet (own := R_Mo) [.ref (G.1 9 0)] (Or.inl (by decide)) rfl (Nat.le_of_ble_eq_true rfl) (fun p e s m args below meth c ls hC hr hlk hR hS hl => ?_)
  have hx := hC.1
  have hb := hC.2.1
  have hl : lv_has ls 4 [(0, .ref (G.1 9 0))] := hl
  obtain ⟨H, eH⟩ : ∃ H : Heap, H = s.heap := ⟨_, rfl⟩
  obtain ⟨locs, eL⟩ : ∃ locs : List Loc, locs = [] := ⟨_, rfl⟩
  rw [← eH] at hR
  replace hS : va_S (xA G) s.heap H locs := by rw [eH, eL]; exact hS
  suffices hh : W p l e rm_Mo_measures s m args below meth c H locs 0 0 (MQ below (xPv G post) args s 0 0 (xA G)) (F0 m 0 ls []) from by rw [eH, eL] at hh; exact hh
  unfold xw_Mo_measures at h
  refine lv_iconst (pc := 0) (v := (0 : Int32)) hx hb xd_Mo_measures_0 (by decide) ?_
  refine lv_istore_n (pc := 1) (lv' := [(1, .int (0 : Int32)), (0, .ref (G.1 9 0))]) hx hb xd_Mo_measures_1 rfl hl (by decide) rfl (fun ls hl => ?_)
  obtain ⟨n, h⟩ := h
  refine xt_Mo_measures_2 hC hr hlk  (fun y22 M23 H locs ls h hR hS hl => ?_) n (0 : Int32) M H locs ls h hR hS (lv_sub hl [1, 0] rfl)
  exact xr_vret hC hr hlk hR hS h xd_Mo_measures_137
