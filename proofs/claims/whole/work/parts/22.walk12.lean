/-! ColoursApartModel.seenThird(III)I -/
theorem xd_Mo_seenThird_0 : decode b_Mo_seenThird 0 = .ok (.iload_n 1, 1) := by decide +kernel
theorem xd_Mo_seenThird_1 : decode b_Mo_seenThird 1 = .ok (.ifCond .ne 9, 3) := by decide +kernel
theorem xd_Mo_seenThird_4 : decode b_Mo_seenThird 4 = .ok (.iload_n 2, 1) := by decide +kernel
theorem xd_Mo_seenThird_5 : decode b_Mo_seenThird 5 = .ok (.iload_n 3, 1) := by decide +kernel
theorem xd_Mo_seenThird_6 : decode b_Mo_seenThird 6 = .ok (.invokestatic 97, 3) := by decide +kernel
theorem xd_Mo_seenThird_9 : decode b_Mo_seenThird 9 = .ok (.ireturn, 1) := by decide +kernel
theorem xd_Mo_seenThird_10 : decode b_Mo_seenThird 10 = .ok (.iload_n 1, 1) := by decide +kernel
theorem xd_Mo_seenThird_11 : decode b_Mo_seenThird 11 = .ok (.iconst 4, 1) := by decide +kernel
theorem xd_Mo_seenThird_12 : decode b_Mo_seenThird 12 = .ok (.if_icmp .ge 11, 3) := by decide +kernel
theorem xd_Mo_seenThird_15 : decode b_Mo_seenThird 15 = .ok (.aload_n 0, 1) := by decide +kernel
theorem xd_Mo_seenThird_16 : decode b_Mo_seenThird 16 = .ok (.iload_n 1, 1) := by decide +kernel
theorem xd_Mo_seenThird_17 : decode b_Mo_seenThird 17 = .ok (.iload_n 2, 1) := by decide +kernel
theorem xd_Mo_seenThird_18 : decode b_Mo_seenThird 18 = .ok (.iload_n 3, 1) := by decide +kernel
theorem xd_Mo_seenThird_19 : decode b_Mo_seenThird 19 = .ok (.invokevirtual 117, 3) := by decide +kernel
theorem xd_Mo_seenThird_22 : decode b_Mo_seenThird 22 = .ok (.ireturn, 1) := by decide +kernel
theorem xd_Mo_seenThird_23 : decode b_Mo_seenThird 23 = .ok (.iload_n 1, 1) := by decide +kernel
theorem xd_Mo_seenThird_24 : decode b_Mo_seenThird 24 = .ok (.iconst 4, 1) := by decide +kernel
theorem xd_Mo_seenThird_25 : decode b_Mo_seenThird 25 = .ok (.if_icmp .ne 10, 3) := by decide +kernel
theorem xd_Mo_seenThird_28 : decode b_Mo_seenThird 28 = .ok (.iload_n 2, 1) := by decide +kernel
theorem xd_Mo_seenThird_29 : decode b_Mo_seenThird 29 = .ok (.invokestatic 120, 3) := by decide +kernel
theorem xd_Mo_seenThird_32 : decode b_Mo_seenThird 32 = .ok (.goto 12, 3) := by decide +kernel
theorem xd_Mo_seenThird_35 : decode b_Mo_seenThird 35 = .ok (.aload_n 0, 1) := by decide +kernel
theorem xd_Mo_seenThird_36 : decode b_Mo_seenThird 36 = .ok (.iload_n 2, 1) := by decide +kernel
theorem xd_Mo_seenThird_37 : decode b_Mo_seenThird 37 = .ok (.iload_n 3, 1) := by decide +kernel
theorem xd_Mo_seenThird_38 : decode b_Mo_seenThird 38 = .ok (.invokestatic 97, 3) := by decide +kernel
theorem xd_Mo_seenThird_41 : decode b_Mo_seenThird 41 = .ok (.invokevirtual 123, 3) := by decide +kernel
theorem xd_Mo_seenThird_44 : decode b_Mo_seenThird 44 = .ok (.ireturn, 1) := by decide +kernel
abbrev rm_Mo_seenThird : Room := { frames := 2, cells := 0, slots := 0, locals := 46 }
def xw_Mo_seenThird (a1 : Int32) (a2 : Int32) (a3 : Int32) (M : xM) (post : Int32 → xM → Prop) : Prop :=
  ((¬ a1 = 0) → ((((4 : Int32) ≤ a1) → (((¬ a1 = (4 : Int32)) → (xw_Mo_third a2 a3 M (fun (r2 : Int32) (M1 : xM) => xw_Mo_printed r2 M1 (fun (r4 : Int32) (M3 : xM) => post r4 M3)))) ∧ ((a1 = (4 : Int32)) → (xw_Mo_lightOf a2 M (fun (r6 : Int32) (M5 : xM) => post r6 M5))))) ∧ ((¬ (4 : Int32) ≤ a1) → (xw_Mo_weakThird a1 a2 a3 M (fun (r8 : Int32) (M7 : xM) => post r8 M7))))) ∧ ((a1 = 0) → (xw_Mo_third a2 a3 M (fun (r10 : Int32) (M9 : xM) => post r10 M9)))
set_option maxHeartbeats 4000000 in
set_option maxRecDepth 100000 in
theorem xc_Mo_seenThird (l : Launch) (G : xG) {a1 : Int32} {a2 : Int32} {a3 : Int32}  {M : xM} {post : Int32 → xM → Prop} (h : xw_Mo_seenThird a1 a2 a3 M post) : Met l y_Mo_seenThird (Cond.code y_Mo_seenThird b_Mo_seenThird 4 (some .int) :: xTG) rm_Mo_seenThird (xPre G M [.ref (G.1 9 0), .int a1, .int a2, .int a3]) (xPi G post) 0 0 (xA G) := by
  refine xMet (own := R_Mo) [.ref (G.1 9 0), .int a1, .int a2, .int a3] (Or.inl (by decide)) rfl (Nat.le_of_ble_eq_true rfl) (fun p e s m args below meth c ls hC hr hlk hR hS hl => ?_)
  have hx := hC.1
  have hb := hC.2.1
  have hl : lv_has ls 4 [(0, .ref (G.1 9 0)), (1, .int a1), (2, .int a2), (3, .int a3)] := hl
  obtain ⟨H, eH⟩ : ∃ H : Heap, H = s.heap := ⟨_, rfl⟩
  obtain ⟨locs, eL⟩ : ∃ locs : List Loc, locs = [] := ⟨_, rfl⟩
  rw [← eH] at hR
  replace hS : va_S (xA G) s.heap H locs := by rw [eH, eL]; exact hS
  suffices hh : W p l e rm_Mo_seenThird s m args below meth c H locs 0 0 (MQ below (xPi G post) args s 0 0 (xA G)) (F0 m 0 ls []) from by rw [eH, eL] at hh; exact hh
  unfold xw_Mo_seenThird at h
  refine lv_iload_n (pc := 0) hx hb xd_Mo_seenThird_0 rfl (lv_at hl 1 rfl) ?_
  refine lv_if_ne (pc := 1) (tgt := 10) hx hb xd_Mo_seenThird_1 (by decide) (fun hq => ?_) (fun hq => ?_)
  · have h := h.1 hq
    refine lv_iload_n (pc := 10) hx hb xd_Mo_seenThird_10 rfl (lv_at hl 1 rfl) ?_
    refine lv_iconst (pc := 11) (v := (4 : Int32)) hx hb xd_Mo_seenThird_11 (by decide) ?_
    refine lv_icmp_ge (pc := 12) (tgt := 23) hx hb xd_Mo_seenThird_12 (by decide) (fun hq => ?_) (fun hq => ?_)
    · have h := h.1 hq
      refine lv_iload_n (pc := 23) hx hb xd_Mo_seenThird_23 rfl (lv_at hl 1 rfl) ?_
      refine lv_iconst (pc := 24) (v := (4 : Int32)) hx hb xd_Mo_seenThird_24 (by decide) ?_
      refine lv_icmp_ne (pc := 25) (tgt := 35) hx hb xd_Mo_seenThird_25 (by decide) (fun hq => ?_) (fun hq => ?_)
      · have h := h.1 hq
        refine lv_aload_n (pc := 35) hx hb xd_Mo_seenThird_35 rfl (lv_at hl 0 rfl) ?_
        refine lv_iload_n (pc := 36) hx hb xd_Mo_seenThird_36 rfl (lv_at hl 2 rfl) ?_
        refine lv_iload_n (pc := 37) hx hb xd_Mo_seenThird_37 rfl (lv_at hl 3 rfl) ?_
        refine xr_callS (pc := 38) (As := [.int a2, .int a3]) (rest := [.ref (G.1 9 0)]) hC hR hS (xc_Mo_third l G  h) xv_Mo_97 ⟨rfl, rfl, Nat.le_of_ble_eq_true rfl, Nat.le_of_ble_eq_true rfl⟩ rfl hl.1 rfl (Nat.le_of_ble_eq_true rfl) xd_Mo_seenThird_38 (fun r2 M1 H locs h hR hS => ?_)
        refine xr_callV (pc := 41) (As := [.int r2]) (rest := []) hC hR hS (xc_Mo_printed l G  h) xo_M0 xv_Mo_123 ⟨rfl, rfl, Nat.le_of_ble_eq_true rfl, Nat.le_of_ble_eq_true rfl⟩ rfl hl.1 rfl (Nat.le_of_ble_eq_true rfl) xd_Mo_seenThird_41 (fun r4 M3 H locs h hR hS => ?_)
        exact xr_iret hC hr hlk hR hS h xd_Mo_seenThird_44
      · have h := h.2 hq
        refine lv_iload_n (pc := 28) hx hb xd_Mo_seenThird_28 rfl (lv_at hl 2 rfl) ?_
        refine xr_callS (pc := 29) (As := [.int a2]) (rest := []) hC hR hS (xc_Mo_lightOf l G  h) xv_Mo_120 ⟨rfl, rfl, Nat.le_of_ble_eq_true rfl, Nat.le_of_ble_eq_true rfl⟩ rfl hl.1 rfl (Nat.le_of_ble_eq_true rfl) xd_Mo_seenThird_29 (fun r6 M5 H locs h hR hS => ?_)
        refine lv_goto (pc := 32) (tgt := 44) hx hb xd_Mo_seenThird_32 (by decide) ?_
        exact xr_iret hC hr hlk hR hS h xd_Mo_seenThird_44
    · have h := h.2 hq
      refine lv_aload_n (pc := 15) hx hb xd_Mo_seenThird_15 rfl (lv_at hl 0 rfl) ?_
      refine lv_iload_n (pc := 16) hx hb xd_Mo_seenThird_16 rfl (lv_at hl 1 rfl) ?_
      refine lv_iload_n (pc := 17) hx hb xd_Mo_seenThird_17 rfl (lv_at hl 2 rfl) ?_
      refine lv_iload_n (pc := 18) hx hb xd_Mo_seenThird_18 rfl (lv_at hl 3 rfl) ?_
      refine xr_callV (pc := 19) (As := [.int a1, .int a2, .int a3]) (rest := []) hC hR hS (xc_Mo_weakThird l G  h) xo_M0 xv_Mo_117 ⟨rfl, rfl, Nat.le_of_ble_eq_true rfl, Nat.le_of_ble_eq_true rfl⟩ rfl hl.1 rfl (Nat.le_of_ble_eq_true rfl) xd_Mo_seenThird_19 (fun r8 M7 H locs h hR hS => ?_)
      exact xr_iret hC hr hlk hR hS h xd_Mo_seenThird_22
  · have h := h.2 hq
    refine lv_iload_n (pc := 4) hx hb xd_Mo_seenThird_4 rfl (lv_at hl 2 rfl) ?_
    refine lv_iload_n (pc := 5) hx hb xd_Mo_seenThird_5 rfl (lv_at hl 3 rfl) ?_
    refine xr_callS (pc := 6) (As := [.int a2, .int a3]) (rest := []) hC hR hS (xc_Mo_third l G  h) xv_Mo_97 ⟨rfl, rfl, Nat.le_of_ble_eq_true rfl, Nat.le_of_ble_eq_true rfl⟩ rfl hl.1 rfl (Nat.le_of_ble_eq_true rfl) xd_Mo_seenThird_6 (fun r10 M9 H locs h hR hS => ?_)
    exact xr_iret hC hr hlk hR hS h xd_Mo_seenThird_9

/-! ColoursApartModel.seenOf(II)I -/
theorem xd_Mo_seenOf_0 : decode b_Mo_seenOf 0 = .ok (.aload_n 0, 1) := by decide +kernel
theorem xd_Mo_seenOf_1 : decode b_Mo_seenOf 1 = .ok (.iload_n 1, 1) := by decide +kernel
theorem xd_Mo_seenOf_2 : decode b_Mo_seenOf 2 = .ok (.iload_n 2, 1) := by decide +kernel
theorem xd_Mo_seenOf_3 : decode b_Mo_seenOf 3 = .ok (.iconst 0, 1) := by decide +kernel
theorem xd_Mo_seenOf_4 : decode b_Mo_seenOf 4 = .ok (.invokevirtual 126, 3) := by decide +kernel
theorem xd_Mo_seenOf_7 : decode b_Mo_seenOf 7 = .ok (.aload_n 0, 1) := by decide +kernel
theorem xd_Mo_seenOf_8 : decode b_Mo_seenOf 8 = .ok (.iload_n 1, 1) := by decide +kernel
theorem xd_Mo_seenOf_9 : decode b_Mo_seenOf 9 = .ok (.iload_n 2, 1) := by decide +kernel
theorem xd_Mo_seenOf_10 : decode b_Mo_seenOf 10 = .ok (.iconst 1, 1) := by decide +kernel
theorem xd_Mo_seenOf_11 : decode b_Mo_seenOf 11 = .ok (.invokevirtual 126, 3) := by decide +kernel
theorem xd_Mo_seenOf_14 : decode b_Mo_seenOf 14 = .ok (.aload_n 0, 1) := by decide +kernel
theorem xd_Mo_seenOf_15 : decode b_Mo_seenOf 15 = .ok (.iload_n 1, 1) := by decide +kernel
theorem xd_Mo_seenOf_16 : decode b_Mo_seenOf 16 = .ok (.iload_n 2, 1) := by decide +kernel
theorem xd_Mo_seenOf_17 : decode b_Mo_seenOf 17 = .ok (.iconst 2, 1) := by decide +kernel
theorem xd_Mo_seenOf_18 : decode b_Mo_seenOf 18 = .ok (.invokevirtual 126, 3) := by decide +kernel
theorem xd_Mo_seenOf_21 : decode b_Mo_seenOf 21 = .ok (.invokestatic 104, 3) := by decide +kernel
theorem xd_Mo_seenOf_24 : decode b_Mo_seenOf 24 = .ok (.ireturn, 1) := by decide +kernel
abbrev rm_Mo_seenOf : Room := { frames := 3, cells := 0, slots := 0, locals := 69 }
def xw_Mo_seenOf (a1 : Int32) (a2 : Int32) (M : xM) (post : Int32 → xM → Prop) : Prop :=
  xw_Mo_seenThird a1 a2 (0 : Int32) M (fun (r2 : Int32) (M1 : xM) => xw_Mo_seenThird a1 a2 (1 : Int32) M1 (fun (r4 : Int32) (M3 : xM) => xw_Mo_seenThird a1 a2 (2 : Int32) M3 (fun (r6 : Int32) (M5 : xM) => xw_Mo_made r2 r4 r6 M5 (fun (r8 : Int32) (M7 : xM) => post r8 M7))))
set_option maxHeartbeats 4000000 in
set_option maxRecDepth 100000 in
theorem xc_Mo_seenOf (l : Launch) (G : xG) {a1 : Int32} {a2 : Int32}  {M : xM} {post : Int32 → xM → Prop} (h : xw_Mo_seenOf a1 a2 M post) : Met l y_Mo_seenOf (Cond.code y_Mo_seenOf b_Mo_seenOf 3 (some .int) :: xTG) rm_Mo_seenOf (xPre G M [.ref (G.1 9 0), .int a1, .int a2]) (xPi G post) 0 0 (xA G) := by
  refine xMet (own := R_Mo) [.ref (G.1 9 0), .int a1, .int a2] (Or.inl (by decide)) rfl (Nat.le_of_ble_eq_true rfl) (fun p e s m args below meth c ls hC hr hlk hR hS hl => ?_)
  have hx := hC.1
  have hb := hC.2.1
  have hl : lv_has ls 3 [(0, .ref (G.1 9 0)), (1, .int a1), (2, .int a2)] := hl
  obtain ⟨H, eH⟩ : ∃ H : Heap, H = s.heap := ⟨_, rfl⟩
  obtain ⟨locs, eL⟩ : ∃ locs : List Loc, locs = [] := ⟨_, rfl⟩
  rw [← eH] at hR
  replace hS : va_S (xA G) s.heap H locs := by rw [eH, eL]; exact hS
  suffices hh : W p l e rm_Mo_seenOf s m args below meth c H locs 0 0 (MQ below (xPi G post) args s 0 0 (xA G)) (F0 m 0 ls []) from by rw [eH, eL] at hh; exact hh
  unfold xw_Mo_seenOf at h
  refine lv_aload_n (pc := 0) hx hb xd_Mo_seenOf_0 rfl (lv_at hl 0 rfl) ?_
  refine lv_iload_n (pc := 1) hx hb xd_Mo_seenOf_1 rfl (lv_at hl 1 rfl) ?_
  refine lv_iload_n (pc := 2) hx hb xd_Mo_seenOf_2 rfl (lv_at hl 2 rfl) ?_
  refine lv_iconst (pc := 3) (v := (0 : Int32)) hx hb xd_Mo_seenOf_3 (by decide) ?_
  refine xr_callV (pc := 4) (As := [.int a1, .int a2, .int (0 : Int32)]) (rest := []) hC hR hS (xc_Mo_seenThird l G  h) xo_M0 xv_Mo_126 ⟨rfl, rfl, Nat.le_of_ble_eq_true rfl, Nat.le_of_ble_eq_true rfl⟩ rfl hl.1 rfl (Nat.le_of_ble_eq_true rfl) xd_Mo_seenOf_4 (fun r2 M1 H locs h hR hS => ?_)
  refine lv_aload_n (pc := 7) hx hb xd_Mo_seenOf_7 rfl (lv_at hl 0 rfl) ?_
  refine lv_iload_n (pc := 8) hx hb xd_Mo_seenOf_8 rfl (lv_at hl 1 rfl) ?_
  refine lv_iload_n (pc := 9) hx hb xd_Mo_seenOf_9 rfl (lv_at hl 2 rfl) ?_
  refine lv_iconst (pc := 10) (v := (1 : Int32)) hx hb xd_Mo_seenOf_10 (by decide) ?_
  refine xr_callV (pc := 11) (As := [.int a1, .int a2, .int (1 : Int32)]) (rest := [.int r2]) hC hR hS (xc_Mo_seenThird l G  h) xo_M0 xv_Mo_126 ⟨rfl, rfl, Nat.le_of_ble_eq_true rfl, Nat.le_of_ble_eq_true rfl⟩ rfl hl.1 rfl (Nat.le_of_ble_eq_true rfl) xd_Mo_seenOf_11 (fun r4 M3 H locs h hR hS => ?_)
  refine lv_aload_n (pc := 14) hx hb xd_Mo_seenOf_14 rfl (lv_at hl 0 rfl) ?_
  refine lv_iload_n (pc := 15) hx hb xd_Mo_seenOf_15 rfl (lv_at hl 1 rfl) ?_
  refine lv_iload_n (pc := 16) hx hb xd_Mo_seenOf_16 rfl (lv_at hl 2 rfl) ?_
  refine lv_iconst (pc := 17) (v := (2 : Int32)) hx hb xd_Mo_seenOf_17 (by decide) ?_
  refine xr_callV (pc := 18) (As := [.int a1, .int a2, .int (2 : Int32)]) (rest := [.int r4, .int r2]) hC hR hS (xc_Mo_seenThird l G  h) xo_M0 xv_Mo_126 ⟨rfl, rfl, Nat.le_of_ble_eq_true rfl, Nat.le_of_ble_eq_true rfl⟩ rfl hl.1 rfl (Nat.le_of_ble_eq_true rfl) xd_Mo_seenOf_18 (fun r6 M5 H locs h hR hS => ?_)
  refine xr_callS (pc := 21) (As := [.int r2, .int r4, .int r6]) (rest := []) hC hR hS (xc_Mo_made l G  h) xv_Mo_104 ⟨rfl, rfl, Nat.le_of_ble_eq_true rfl, Nat.le_of_ble_eq_true rfl⟩ rfl hl.1 rfl (Nat.le_of_ble_eq_true rfl) xd_Mo_seenOf_21 (fun r8 M7 H locs h hR hS => ?_)
  exact xr_iret hC hr hlk hR hS h xd_Mo_seenOf_24

/-! ColoursApartModel.seen(II)I -/
theorem xd_Mo_seen_0 : decode b_Mo_seen 0 = .ok (.iload_n 1, 1) := by decide +kernel
theorem xd_Mo_seen_1 : decode b_Mo_seen 1 = .ok (.invokestatic 129, 3) := by decide +kernel
theorem xd_Mo_seen_4 : decode b_Mo_seen 4 = .ok (.ifCond .eq 19, 3) := by decide +kernel
theorem xd_Mo_seen_7 : decode b_Mo_seen 7 = .ok (.iload_n 2, 1) := by decide +kernel
theorem xd_Mo_seen_8 : decode b_Mo_seen 8 = .ok (.invokestatic 133, 3) := by decide +kernel
theorem xd_Mo_seen_11 : decode b_Mo_seen 11 = .ok (.ifCond .eq 12, 3) := by decide +kernel
theorem xd_Mo_seen_14 : decode b_Mo_seen 14 = .ok (.aload_n 0, 1) := by decide +kernel
theorem xd_Mo_seen_15 : decode b_Mo_seen 15 = .ok (.iload_n 1, 1) := by decide +kernel
theorem xd_Mo_seen_16 : decode b_Mo_seen 16 = .ok (.iload_n 2, 1) := by decide +kernel
theorem xd_Mo_seen_17 : decode b_Mo_seen 17 = .ok (.invokevirtual 136, 3) := by decide +kernel
theorem xd_Mo_seen_20 : decode b_Mo_seen 20 = .ok (.goto 4, 3) := by decide +kernel
theorem xd_Mo_seen_23 : decode b_Mo_seen 23 = .ok (.iconst (-1), 1) := by decide +kernel
theorem xd_Mo_seen_24 : decode b_Mo_seen 24 = .ok (.ireturn, 1) := by decide +kernel
abbrev rm_Mo_seen : Room := { frames := 4, cells := 0, slots := 0, locals := 91 }
def xw_Mo_seen (a1 : Int32) (a2 : Int32) (M : xM) (post : Int32 → xM → Prop) : Prop :=
  xw_Mo_isSight a1 M (fun (r2 : Int32) (M1 : xM) => ((r2 = 0) → (post (-1 : Int32) M1)) ∧ ((¬ r2 = 0) → (xw_Mo_isColour a2 M1 (fun (r4 : Int32) (M3 : xM) => ((r4 = 0) → (post (-1 : Int32) M3)) ∧ ((¬ r4 = 0) → (xw_Mo_seenOf a1 a2 M3 (fun (r6 : Int32) (M5 : xM) => post r6 M5)))))))
set_option maxHeartbeats 4000000 in
set_option maxRecDepth 100000 in
theorem xc_Mo_seen (l : Launch) (G : xG) {a1 : Int32} {a2 : Int32}  {M : xM} {post : Int32 → xM → Prop} (h : xw_Mo_seen a1 a2 M post) : Met l y_Mo_seen (Cond.code y_Mo_seen b_Mo_seen 3 (some .int) :: xTG) rm_Mo_seen (xPre G M [.ref (G.1 9 0), .int a1, .int a2]) (xPi G post) 0 0 (xA G) := by
  refine xMet (own := R_Mo) [.ref (G.1 9 0), .int a1, .int a2] (Or.inl (by decide)) rfl (Nat.le_of_ble_eq_true rfl) (fun p e s m args below meth c ls hC hr hlk hR hS hl => ?_)
  have hx := hC.1
  have hb := hC.2.1
  have hl : lv_has ls 3 [(0, .ref (G.1 9 0)), (1, .int a1), (2, .int a2)] := hl
  obtain ⟨H, eH⟩ : ∃ H : Heap, H = s.heap := ⟨_, rfl⟩
  obtain ⟨locs, eL⟩ : ∃ locs : List Loc, locs = [] := ⟨_, rfl⟩
  rw [← eH] at hR
  replace hS : va_S (xA G) s.heap H locs := by rw [eH, eL]; exact hS
  suffices hh : W p l e rm_Mo_seen s m args below meth c H locs 0 0 (MQ below (xPi G post) args s 0 0 (xA G)) (F0 m 0 ls []) from by rw [eH, eL] at hh; exact hh
  unfold xw_Mo_seen at h
  refine lv_iload_n (pc := 0) hx hb xd_Mo_seen_0 rfl (lv_at hl 1 rfl) ?_
  refine xr_callS (pc := 1) (As := [.int a1]) (rest := []) hC hR hS (xc_Mo_isSight l G  h) xv_Mo_129 ⟨rfl, rfl, Nat.le_of_ble_eq_true rfl, Nat.le_of_ble_eq_true rfl⟩ rfl hl.1 rfl (Nat.le_of_ble_eq_true rfl) xd_Mo_seen_1 (fun r2 M1 H locs h hR hS => ?_)
  refine lv_if_eq (pc := 4) (tgt := 23) hx hb xd_Mo_seen_4 (by decide) (fun hq => ?_) (fun hq => ?_)
  · have h := h.1 hq
    refine lv_iconst (pc := 23) (v := (-1 : Int32)) hx hb xd_Mo_seen_23 (by decide) ?_
    exact xr_iret hC hr hlk hR hS h xd_Mo_seen_24
  · have h := h.2 hq
    refine lv_iload_n (pc := 7) hx hb xd_Mo_seen_7 rfl (lv_at hl 2 rfl) ?_
    refine xr_callS (pc := 8) (As := [.int a2]) (rest := []) hC hR hS (xc_Mo_isColour l G  h) xv_Mo_133 ⟨rfl, rfl, Nat.le_of_ble_eq_true rfl, Nat.le_of_ble_eq_true rfl⟩ rfl hl.1 rfl (Nat.le_of_ble_eq_true rfl) xd_Mo_seen_8 (fun r4 M3 H locs h hR hS => ?_)
    refine lv_if_eq (pc := 11) (tgt := 23) hx hb xd_Mo_seen_11 (by decide) (fun hq => ?_) (fun hq => ?_)
    · have h := h.1 hq
      refine lv_iconst (pc := 23) (v := (-1 : Int32)) hx hb xd_Mo_seen_23 (by decide) ?_
      exact xr_iret hC hr hlk hR hS h xd_Mo_seen_24
    · have h := h.2 hq
      refine lv_aload_n (pc := 14) hx hb xd_Mo_seen_14 rfl (lv_at hl 0 rfl) ?_
      refine lv_iload_n (pc := 15) hx hb xd_Mo_seen_15 rfl (lv_at hl 1 rfl) ?_
      refine lv_iload_n (pc := 16) hx hb xd_Mo_seen_16 rfl (lv_at hl 2 rfl) ?_
      refine xr_callV (pc := 17) (As := [.int a1, .int a2]) (rest := []) hC hR hS (xc_Mo_seenOf l G  h) xo_M0 xv_Mo_136 ⟨rfl, rfl, Nat.le_of_ble_eq_true rfl, Nat.le_of_ble_eq_true rfl⟩ rfl hl.1 rfl (Nat.le_of_ble_eq_true rfl) xd_Mo_seen_17 (fun r6 M5 H locs h hR hS => ?_)
      refine lv_goto (pc := 20) (tgt := 24) hx hb xd_Mo_seen_20 (by decide) ?_
      exact xr_iret hC hr hlk hR hS h xd_Mo_seen_24

/-! ColoursApartModel.light(I)I -/
theorem xd_Mo_light_0 : decode b_Mo_light 0 = .ok (.iload_n 1, 1) := by decide +kernel
theorem xd_Mo_light_1 : decode b_Mo_light 1 = .ok (.invokestatic 133, 3) := by decide +kernel
theorem xd_Mo_light_4 : decode b_Mo_light 4 = .ok (.ifCond .eq 10, 3) := by decide +kernel
theorem xd_Mo_light_7 : decode b_Mo_light 7 = .ok (.iload_n 1, 1) := by decide +kernel
theorem xd_Mo_light_8 : decode b_Mo_light 8 = .ok (.invokestatic 120, 3) := by decide +kernel
theorem xd_Mo_light_11 : decode b_Mo_light 11 = .ok (.goto 4, 3) := by decide +kernel
theorem xd_Mo_light_14 : decode b_Mo_light 14 = .ok (.iconst (-1), 1) := by decide +kernel
theorem xd_Mo_light_15 : decode b_Mo_light 15 = .ok (.ireturn, 1) := by decide +kernel
abbrev rm_Mo_light : Room := { frames := 2, cells := 0, slots := 0, locals := 42 }
def xw_Mo_light (a1 : Int32) (M : xM) (post : Int32 → xM → Prop) : Prop :=
  xw_Mo_isColour a1 M (fun (r2 : Int32) (M1 : xM) => ((r2 = 0) → (post (-1 : Int32) M1)) ∧ ((¬ r2 = 0) → (xw_Mo_lightOf a1 M1 (fun (r4 : Int32) (M3 : xM) => post r4 M3))))
set_option maxHeartbeats 4000000 in
set_option maxRecDepth 100000 in
theorem xc_Mo_light (l : Launch) (G : xG) {a1 : Int32}  {M : xM} {post : Int32 → xM → Prop} (h : xw_Mo_light a1 M post) : Met l y_Mo_light (Cond.code y_Mo_light b_Mo_light 2 (some .int) :: xTG) rm_Mo_light (xPre G M [.ref (G.1 9 0), .int a1]) (xPi G post) 0 0 (xA G) := by
  refine xMet (own := R_Mo) [.ref (G.1 9 0), .int a1] (Or.inl (by decide)) rfl (Nat.le_of_ble_eq_true rfl) (fun p e s m args below meth c ls hC hr hlk hR hS hl => ?_)
  have hx := hC.1
  have hb := hC.2.1
  have hl : lv_has ls 2 [(0, .ref (G.1 9 0)), (1, .int a1)] := hl
  obtain ⟨H, eH⟩ : ∃ H : Heap, H = s.heap := ⟨_, rfl⟩
  obtain ⟨locs, eL⟩ : ∃ locs : List Loc, locs = [] := ⟨_, rfl⟩
  rw [← eH] at hR
  replace hS : va_S (xA G) s.heap H locs := by rw [eH, eL]; exact hS
  suffices hh : W p l e rm_Mo_light s m args below meth c H locs 0 0 (MQ below (xPi G post) args s 0 0 (xA G)) (F0 m 0 ls []) from by rw [eH, eL] at hh; exact hh
  unfold xw_Mo_light at h
  refine lv_iload_n (pc := 0) hx hb xd_Mo_light_0 rfl (lv_at hl 1 rfl) ?_
  refine xr_callS (pc := 1) (As := [.int a1]) (rest := []) hC hR hS (xc_Mo_isColour l G  h) xv_Mo_133 ⟨rfl, rfl, Nat.le_of_ble_eq_true rfl, Nat.le_of_ble_eq_true rfl⟩ rfl hl.1 rfl (Nat.le_of_ble_eq_true rfl) xd_Mo_light_1 (fun r2 M1 H locs h hR hS => ?_)
  refine lv_if_eq (pc := 4) (tgt := 14) hx hb xd_Mo_light_4 (by decide) (fun hq => ?_) (fun hq => ?_)
  · have h := h.1 hq
    refine lv_iconst (pc := 14) (v := (-1 : Int32)) hx hb xd_Mo_light_14 (by decide) ?_
    exact xr_iret hC hr hlk hR hS h xd_Mo_light_15
  · have h := h.2 hq
    refine lv_iload_n (pc := 7) hx hb xd_Mo_light_7 rfl (lv_at hl 1 rfl) ?_
    refine xr_callS (pc := 8) (As := [.int a1]) (rest := []) hC hR hS (xc_Mo_lightOf l G  h) xv_Mo_120 ⟨rfl, rfl, Nat.le_of_ble_eq_true rfl, Nat.le_of_ble_eq_true rfl⟩ rfl hl.1 rfl (Nat.le_of_ble_eq_true rfl) xd_Mo_light_8 (fun r4 M3 H locs h hR hS => ?_)
    refine lv_goto (pc := 11) (tgt := 15) hx hb xd_Mo_light_11 (by decide) ?_
    exact xr_iret hC hr hlk hR hS h xd_Mo_light_15

/-! ColoursApartModel.distanceOf(III)I -/
theorem xd_Mo_distanceOf_0 : decode b_Mo_distanceOf 0 = .ok (.iconst 0, 1) := by decide +kernel
theorem xd_Mo_distanceOf_1 : decode b_Mo_distanceOf 1 = .ok (.istore 4, 2) := by decide +kernel
theorem xd_Mo_distanceOf_3 : decode b_Mo_distanceOf 3 = .ok (.iconst 0, 1) := by decide +kernel
theorem xd_Mo_distanceOf_4 : decode b_Mo_distanceOf 4 = .ok (.istore 5, 2) := by decide +kernel
theorem xd_Mo_distanceOf_6 : decode b_Mo_distanceOf 6 = .ok (.iload 5, 2) := by decide +kernel
theorem xd_Mo_distanceOf_8 : decode b_Mo_distanceOf 8 = .ok (.iconst 3, 1) := by decide +kernel
theorem xd_Mo_distanceOf_9 : decode b_Mo_distanceOf 9 = .ok (.if_icmp .ge 46, 3) := by decide +kernel
theorem xd_Mo_distanceOf_12 : decode b_Mo_distanceOf 12 = .ok (.aload_n 0, 1) := by decide +kernel
theorem xd_Mo_distanceOf_13 : decode b_Mo_distanceOf 13 = .ok (.iload_n 1, 1) := by decide +kernel
theorem xd_Mo_distanceOf_14 : decode b_Mo_distanceOf 14 = .ok (.iload_n 2, 1) := by decide +kernel
theorem xd_Mo_distanceOf_15 : decode b_Mo_distanceOf 15 = .ok (.iload 5, 2) := by decide +kernel
theorem xd_Mo_distanceOf_17 : decode b_Mo_distanceOf 17 = .ok (.invokevirtual 126, 3) := by decide +kernel
theorem xd_Mo_distanceOf_20 : decode b_Mo_distanceOf 20 = .ok (.aload_n 0, 1) := by decide +kernel
theorem xd_Mo_distanceOf_21 : decode b_Mo_distanceOf 21 = .ok (.iload_n 1, 1) := by decide +kernel
theorem xd_Mo_distanceOf_22 : decode b_Mo_distanceOf 22 = .ok (.iload_n 3, 1) := by decide +kernel
theorem xd_Mo_distanceOf_23 : decode b_Mo_distanceOf 23 = .ok (.iload 5, 2) := by decide +kernel
theorem xd_Mo_distanceOf_25 : decode b_Mo_distanceOf 25 = .ok (.invokevirtual 126, 3) := by decide +kernel
theorem xd_Mo_distanceOf_28 : decode b_Mo_distanceOf 28 = .ok (.isub, 1) := by decide +kernel
theorem xd_Mo_distanceOf_29 : decode b_Mo_distanceOf 29 = .ok (.istore 6, 2) := by decide +kernel
theorem xd_Mo_distanceOf_31 : decode b_Mo_distanceOf 31 = .ok (.iload 4, 2) := by decide +kernel
theorem xd_Mo_distanceOf_33 : decode b_Mo_distanceOf 33 = .ok (.aload_n 0, 1) := by decide +kernel
theorem xd_Mo_distanceOf_34 : decode b_Mo_distanceOf 34 = .ok (.getfield 32, 3) := by decide +kernel
theorem xd_Mo_distanceOf_37 : decode b_Mo_distanceOf 37 = .ok (.iload 5, 2) := by decide +kernel
theorem xd_Mo_distanceOf_39 : decode b_Mo_distanceOf 39 = .ok (.iaload, 1) := by decide +kernel
theorem xd_Mo_distanceOf_40 : decode b_Mo_distanceOf 40 = .ok (.iload 6, 2) := by decide +kernel
theorem xd_Mo_distanceOf_42 : decode b_Mo_distanceOf 42 = .ok (.imul, 1) := by decide +kernel
theorem xd_Mo_distanceOf_43 : decode b_Mo_distanceOf 43 = .ok (.iload 6, 2) := by decide +kernel
theorem xd_Mo_distanceOf_45 : decode b_Mo_distanceOf 45 = .ok (.imul, 1) := by decide +kernel
theorem xd_Mo_distanceOf_46 : decode b_Mo_distanceOf 46 = .ok (.iadd, 1) := by decide +kernel
theorem xd_Mo_distanceOf_47 : decode b_Mo_distanceOf 47 = .ok (.istore 4, 2) := by decide +kernel
theorem xd_Mo_distanceOf_49 : decode b_Mo_distanceOf 49 = .ok (.iinc 5 1, 3) := by decide +kernel
theorem xd_Mo_distanceOf_52 : decode b_Mo_distanceOf 52 = .ok (.goto (-46), 3) := by decide +kernel
theorem xd_Mo_distanceOf_55 : decode b_Mo_distanceOf 55 = .ok (.iload 4, 2) := by decide +kernel
theorem xd_Mo_distanceOf_57 : decode b_Mo_distanceOf 57 = .ok (.ireturn, 1) := by decide +kernel
abbrev rm_Mo_distanceOf : Room := { frames := 3, cells := 0, slots := 0, locals := 69 }
def xw_Mo_distanceOf_6 (x1 : Int32) (x2 : Int32) (x3 : Int32) (post : Int32 → xM → Prop) (k55 : Int32 → Int32 → xM → Prop) : Nat → Int32 → Int32 → xM → Prop
  | 0, _, _, _ => False
  | n6 + 1, x4, x5, M => (((3 : Int32) ≤ x5) → (k55 x4 x5 M)) ∧ ((¬ (3 : Int32) ≤ x5) → (xw_Mo_seenThird x1 x2 x5 M (fun (r2 : Int32) (M1 : xM) => xw_Mo_seenThird x1 x3 x5 M1 (fun (r4 : Int32) (M3 : xM) => (vp_in x5 3) ∧ (xw_Mo_distanceOf_6 x1 x2 x3 post k55 n6 (x4 + (((M3 9 5 x5.toNatClampNeg) * (r2 - r4)) * (r2 - r4))) (x5 + (1 : Int32)) M3)))))
def xw_Mo_distanceOf (a1 : Int32) (a2 : Int32) (a3 : Int32) (M : xM) (post : Int32 → xM → Prop) : Prop :=
  ∃ n6 : Nat, xw_Mo_distanceOf_6 a1 a2 a3 post (fun (y5 : Int32) (y6 : Int32) (M7 : xM) => post y5 M7) n6 (0 : Int32) (0 : Int32) M
set_option maxHeartbeats 4000000 in
set_option maxRecDepth 100000 in
theorem xt_Mo_distanceOf_6 {p : Program} {l : Launch} {e : Env} {s : State} {m : MethodId} {args : Array Value} {below : List Frame} {meth : Method} {c : Code} {G : xG} (hC : xC p s m args c b_Mo_distanceOf R_Mo 7 G) (hr : meth.sig.returnType = (some .int)) (hlk : meth.locks = false) {x1 : Int32} {x2 : Int32} {x3 : Int32} {post : Int32 → xM → Prop} {k55 : Int32 → Int32 → xM → Prop} (hk55 : ∀ (x4 : Int32) (x5 : Int32) (M : xM) (H : Heap) (locs : List Loc) (ls : Array Slot), k55 x4 x5 M → xRp G M H → va_S (xA G) s.heap H locs → lv_has ls 7 [(0, .ref (G.1 9 0)), (1, .int x1), (2, .int x2), (3, .int x3), (4, .int x4), (5, .int x5)] → W p l e rm_Mo_distanceOf s m args below meth c H locs 0 0 (MQ below (xPi G post) args s 0 0 (xA G)) (F0 m 55 ls [])) : ∀ (n : Nat) (x4 : Int32) (x5 : Int32) (M : xM) (H : Heap) (locs : List Loc) (ls : Array Slot), xw_Mo_distanceOf_6 x1 x2 x3 post k55 n x4 x5 M → xRp G M H → va_S (xA G) s.heap H locs → lv_has ls 7 [(0, .ref (G.1 9 0)), (1, .int x1), (2, .int x2), (3, .int x3), (4, .int x4), (5, .int x5)] → W p l e rm_Mo_distanceOf s m args below meth c H locs 0 0 (MQ below (xPi G post) args s 0 0 (xA G)) (F0 m 6 ls []) := by
  have hx := hC.1
  have hb := hC.2.1
  intro n
  induction n with
  | zero => intro x4 x5 M H locs ls; exact fun h => h.elim
  | succ n ih =>
    intro x4 x5 M H locs ls h hR hS hl
    refine lv_iload (pc := 6) hx hb xd_Mo_distanceOf_6 (lv_at hl 5 rfl) ?_
    refine lv_iconst (pc := 8) (v := (3 : Int32)) hx hb xd_Mo_distanceOf_8 (by decide) ?_
    refine lv_icmp_ge (pc := 9) (tgt := 55) hx hb xd_Mo_distanceOf_9 (by decide) (fun hq => ?_) (fun hq => ?_)
    · have h := h.1 hq
      exact hk55 x4 x5 M H locs ls h hR hS (lv_sub hl [0, 1, 2, 3, 4, 5] rfl)
    · have h := h.2 hq
      refine lv_aload_n (pc := 12) hx hb xd_Mo_distanceOf_12 rfl (lv_at hl 0 rfl) ?_
      refine lv_iload_n (pc := 13) hx hb xd_Mo_distanceOf_13 rfl (lv_at hl 1 rfl) ?_
      refine lv_iload_n (pc := 14) hx hb xd_Mo_distanceOf_14 rfl (lv_at hl 2 rfl) ?_
      refine lv_iload (pc := 15) hx hb xd_Mo_distanceOf_15 (lv_at hl 5 rfl) ?_
      refine xr_callV (pc := 17) (As := [.int x1, .int x2, .int x5]) (rest := []) hC hR hS (xc_Mo_seenThird l G  h) xo_M0 xv_Mo_126 ⟨rfl, rfl, Nat.le_of_ble_eq_true rfl, Nat.le_of_ble_eq_true rfl⟩ rfl hl.1 rfl (Nat.le_of_ble_eq_true rfl) xd_Mo_distanceOf_17 (fun r2 M1 H locs h hR hS => ?_)
      refine lv_aload_n (pc := 20) hx hb xd_Mo_distanceOf_20 rfl (lv_at hl 0 rfl) ?_
      refine lv_iload_n (pc := 21) hx hb xd_Mo_distanceOf_21 rfl (lv_at hl 1 rfl) ?_
      refine lv_iload_n (pc := 22) hx hb xd_Mo_distanceOf_22 rfl (lv_at hl 3 rfl) ?_
      refine lv_iload (pc := 23) hx hb xd_Mo_distanceOf_23 (lv_at hl 5 rfl) ?_
      refine xr_callV (pc := 25) (As := [.int x1, .int x3, .int x5]) (rest := [.int r2]) hC hR hS (xc_Mo_seenThird l G  h) xo_M0 xv_Mo_126 ⟨rfl, rfl, Nat.le_of_ble_eq_true rfl, Nat.le_of_ble_eq_true rfl⟩ rfl hl.1 rfl (Nat.le_of_ble_eq_true rfl) xd_Mo_distanceOf_25 (fun r4 M3 H locs h hR hS => ?_)
      refine lv_isub (pc := 28) hx hb xd_Mo_distanceOf_28 ?_
      refine lv_istore (pc := 29) (lv' := [(6, .int (r2 - r4)), (0, .ref (G.1 9 0)), (1, .int x1), (2, .int x2), (3, .int x3), (4, .int x4), (5, .int x5)]) hx hb xd_Mo_distanceOf_29 hl (by decide) rfl (fun ls hl => ?_)
      refine lv_iload (pc := 31) hx hb xd_Mo_distanceOf_31 (lv_at hl 5 rfl) ?_
      refine lv_aload_n (pc := 33) hx hb xd_Mo_distanceOf_33 rfl (lv_at hl 1 rfl) ?_
      refine xr_get (pc := 34) (v := .ref (G.1 9 5)) hC hR xo_M0 xf_Mo_32 rfl xd_Mo_distanceOf_34 ?_
      refine lv_iload (pc := 37) hx hb xd_Mo_distanceOf_37 (lv_at hl 6 rfl) ?_
      obtain ⟨hq, h⟩ := h
      refine xr_iald (pc := 39) hC hR xo_M5 hq xd_Mo_distanceOf_39 ?_
      refine lv_iload (pc := 40) hx hb xd_Mo_distanceOf_40 (lv_at hl 0 rfl) ?_
      refine lv_imul (pc := 42) hx hb xd_Mo_distanceOf_42 ?_
      refine lv_iload (pc := 43) hx hb xd_Mo_distanceOf_43 (lv_at hl 0 rfl) ?_
      refine lv_imul (pc := 45) hx hb xd_Mo_distanceOf_45 ?_
      refine lv_iadd (pc := 46) hx hb xd_Mo_distanceOf_46 ?_
      refine lv_istore (pc := 47) (lv' := [(4, .int (x4 + (((M3 9 5 x5.toNatClampNeg) * (r2 - r4)) * (r2 - r4)))), (6, .int (r2 - r4)), (0, .ref (G.1 9 0)), (1, .int x1), (2, .int x2), (3, .int x3), (5, .int x5)]) hx hb xd_Mo_distanceOf_47 hl (by decide) rfl (fun ls hl => ?_)
      refine lv_iinc (pc := 49) (v := (x5 + (1 : Int32))) (lv' := [(5, .int (x5 + (1 : Int32))), (4, .int (x4 + (((M3 9 5 x5.toNatClampNeg) * (r2 - r4)) * (r2 - r4)))), (6, .int (r2 - r4)), (0, .ref (G.1 9 0)), (1, .int x1), (2, .int x2), (3, .int x3)]) hx hb xd_Mo_distanceOf_49 hl (k := 6) rfl rfl (by decide) rfl (fun ls hl => ?_)
      refine lv_goto (pc := 52) (tgt := 6) hx hb xd_Mo_distanceOf_52 (by decide) ?_
      exact ih (x4 + (((M3 9 5 x5.toNatClampNeg) * (r2 - r4)) * (r2 - r4))) (x5 + (1 : Int32)) M3 H locs ls h hR hS (lv_sub hl [3, 4, 5, 6, 1, 0] rfl)
set_option maxHeartbeats 4000000 in
set_option maxRecDepth 100000 in
theorem xc_Mo_distanceOf (l : Launch) (G : xG) {a1 : Int32} {a2 : Int32} {a3 : Int32}  {M : xM} {post : Int32 → xM → Prop} (h : xw_Mo_distanceOf a1 a2 a3 M post) : Met l y_Mo_distanceOf (Cond.code y_Mo_distanceOf b_Mo_distanceOf 7 (some .int) :: xTG) rm_Mo_distanceOf (xPre G M [.ref (G.1 9 0), .int a1, .int a2, .int a3]) (xPi G post) 0 0 (xA G) := by
  refine xMet (own := R_Mo) [.ref (G.1 9 0), .int a1, .int a2, .int a3] (Or.inl (by decide)) rfl (Nat.le_of_ble_eq_true rfl) (fun p e s m args below meth c ls hC hr hlk hR hS hl => ?_)
  have hx := hC.1
  have hb := hC.2.1
  have hl : lv_has ls 7 [(0, .ref (G.1 9 0)), (1, .int a1), (2, .int a2), (3, .int a3)] := hl
  obtain ⟨H, eH⟩ : ∃ H : Heap, H = s.heap := ⟨_, rfl⟩
  obtain ⟨locs, eL⟩ : ∃ locs : List Loc, locs = [] := ⟨_, rfl⟩
  rw [← eH] at hR
  replace hS : va_S (xA G) s.heap H locs := by rw [eH, eL]; exact hS
  suffices hh : W p l e rm_Mo_distanceOf s m args below meth c H locs 0 0 (MQ below (xPi G post) args s 0 0 (xA G)) (F0 m 0 ls []) from by rw [eH, eL] at hh; exact hh
  unfold xw_Mo_distanceOf at h
  refine lv_iconst (pc := 0) (v := (0 : Int32)) hx hb xd_Mo_distanceOf_0 (by decide) ?_
  refine lv_istore (pc := 1) (lv' := [(4, .int (0 : Int32)), (0, .ref (G.1 9 0)), (1, .int a1), (2, .int a2), (3, .int a3)]) hx hb xd_Mo_distanceOf_1 hl (by decide) rfl (fun ls hl => ?_)
  refine lv_iconst (pc := 3) (v := (0 : Int32)) hx hb xd_Mo_distanceOf_3 (by decide) ?_
  refine lv_istore (pc := 4) (lv' := [(5, .int (0 : Int32)), (4, .int (0 : Int32)), (0, .ref (G.1 9 0)), (1, .int a1), (2, .int a2), (3, .int a3)]) hx hb xd_Mo_distanceOf_4 hl (by decide) rfl (fun ls hl => ?_)
  obtain ⟨n, h⟩ := h
  refine xt_Mo_distanceOf_6 hC hr hlk  (fun y5 y6 M7 H locs ls h hR hS hl => ?_) n (0 : Int32) (0 : Int32) M H locs ls h hR hS (lv_sub hl [2, 3, 4, 5, 1, 0] rfl)
  refine lv_iload (pc := 55) hx hb xd_Mo_distanceOf_55 (lv_at hl 4 rfl) ?_
  exact xr_iret hC hr hlk hR hS h xd_Mo_distanceOf_57

/-! ColoursApartModel.distance(III)I -/
theorem xd_Mo_distance_0 : decode b_Mo_distance 0 = .ok (.iload_n 1, 1) := by decide +kernel
theorem xd_Mo_distance_1 : decode b_Mo_distance 1 = .ok (.invokestatic 129, 3) := by decide +kernel
theorem xd_Mo_distance_4 : decode b_Mo_distance 4 = .ok (.ifCond .eq 27, 3) := by decide +kernel
theorem xd_Mo_distance_7 : decode b_Mo_distance 7 = .ok (.iload_n 2, 1) := by decide +kernel
theorem xd_Mo_distance_8 : decode b_Mo_distance 8 = .ok (.invokestatic 133, 3) := by decide +kernel
theorem xd_Mo_distance_11 : decode b_Mo_distance 11 = .ok (.ifCond .eq 20, 3) := by decide +kernel
theorem xd_Mo_distance_14 : decode b_Mo_distance 14 = .ok (.iload_n 3, 1) := by decide +kernel
theorem xd_Mo_distance_15 : decode b_Mo_distance 15 = .ok (.invokestatic 133, 3) := by decide +kernel
theorem xd_Mo_distance_18 : decode b_Mo_distance 18 = .ok (.ifCond .eq 13, 3) := by decide +kernel
theorem xd_Mo_distance_21 : decode b_Mo_distance 21 = .ok (.aload_n 0, 1) := by decide +kernel
theorem xd_Mo_distance_22 : decode b_Mo_distance 22 = .ok (.iload_n 1, 1) := by decide +kernel
theorem xd_Mo_distance_23 : decode b_Mo_distance 23 = .ok (.iload_n 2, 1) := by decide +kernel
theorem xd_Mo_distance_24 : decode b_Mo_distance 24 = .ok (.iload_n 3, 1) := by decide +kernel
theorem xd_Mo_distance_25 : decode b_Mo_distance 25 = .ok (.invokevirtual 139, 3) := by decide +kernel
theorem xd_Mo_distance_28 : decode b_Mo_distance 28 = .ok (.goto 4, 3) := by decide +kernel
theorem xd_Mo_distance_31 : decode b_Mo_distance 31 = .ok (.iconst (-1), 1) := by decide +kernel
theorem xd_Mo_distance_32 : decode b_Mo_distance 32 = .ok (.ireturn, 1) := by decide +kernel
abbrev rm_Mo_distance : Room := { frames := 4, cells := 0, slots := 0, locals := 95 }
def xw_Mo_distance (a1 : Int32) (a2 : Int32) (a3 : Int32) (M : xM) (post : Int32 → xM → Prop) : Prop :=
  xw_Mo_isSight a1 M (fun (r2 : Int32) (M1 : xM) => ((r2 = 0) → (post (-1 : Int32) M1)) ∧ ((¬ r2 = 0) → (xw_Mo_isColour a2 M1 (fun (r4 : Int32) (M3 : xM) => ((r4 = 0) → (post (-1 : Int32) M3)) ∧ ((¬ r4 = 0) → (xw_Mo_isColour a3 M3 (fun (r6 : Int32) (M5 : xM) => ((r6 = 0) → (post (-1 : Int32) M5)) ∧ ((¬ r6 = 0) → (xw_Mo_distanceOf a1 a2 a3 M5 (fun (r8 : Int32) (M7 : xM) => post r8 M7))))))))))
set_option maxHeartbeats 4000000 in
set_option maxRecDepth 100000 in
theorem xc_Mo_distance (l : Launch) (G : xG) {a1 : Int32} {a2 : Int32} {a3 : Int32}  {M : xM} {post : Int32 → xM → Prop} (h : xw_Mo_distance a1 a2 a3 M post) : Met l y_Mo_distance (Cond.code y_Mo_distance b_Mo_distance 4 (some .int) :: xTG) rm_Mo_distance (xPre G M [.ref (G.1 9 0), .int a1, .int a2, .int a3]) (xPi G post) 0 0 (xA G) := by
  refine xMet (own := R_Mo) [.ref (G.1 9 0), .int a1, .int a2, .int a3] (Or.inl (by decide)) rfl (Nat.le_of_ble_eq_true rfl) (fun p e s m args below meth c ls hC hr hlk hR hS hl => ?_)
  have hx := hC.1
  have hb := hC.2.1
  have hl : lv_has ls 4 [(0, .ref (G.1 9 0)), (1, .int a1), (2, .int a2), (3, .int a3)] := hl
  obtain ⟨H, eH⟩ : ∃ H : Heap, H = s.heap := ⟨_, rfl⟩
  obtain ⟨locs, eL⟩ : ∃ locs : List Loc, locs = [] := ⟨_, rfl⟩
  rw [← eH] at hR
  replace hS : va_S (xA G) s.heap H locs := by rw [eH, eL]; exact hS
  suffices hh : W p l e rm_Mo_distance s m args below meth c H locs 0 0 (MQ below (xPi G post) args s 0 0 (xA G)) (F0 m 0 ls []) from by rw [eH, eL] at hh; exact hh
  unfold xw_Mo_distance at h
  refine lv_iload_n (pc := 0) hx hb xd_Mo_distance_0 rfl (lv_at hl 1 rfl) ?_
  refine xr_callS (pc := 1) (As := [.int a1]) (rest := []) hC hR hS (xc_Mo_isSight l G  h) xv_Mo_129 ⟨rfl, rfl, Nat.le_of_ble_eq_true rfl, Nat.le_of_ble_eq_true rfl⟩ rfl hl.1 rfl (Nat.le_of_ble_eq_true rfl) xd_Mo_distance_1 (fun r2 M1 H locs h hR hS => ?_)
  refine lv_if_eq (pc := 4) (tgt := 31) hx hb xd_Mo_distance_4 (by decide) (fun hq => ?_) (fun hq => ?_)
  · have h := h.1 hq
    refine lv_iconst (pc := 31) (v := (-1 : Int32)) hx hb xd_Mo_distance_31 (by decide) ?_
    exact xr_iret hC hr hlk hR hS h xd_Mo_distance_32
  · have h := h.2 hq
    refine lv_iload_n (pc := 7) hx hb xd_Mo_distance_7 rfl (lv_at hl 2 rfl) ?_
    refine xr_callS (pc := 8) (As := [.int a2]) (rest := []) hC hR hS (xc_Mo_isColour l G  h) xv_Mo_133 ⟨rfl, rfl, Nat.le_of_ble_eq_true rfl, Nat.le_of_ble_eq_true rfl⟩ rfl hl.1 rfl (Nat.le_of_ble_eq_true rfl) xd_Mo_distance_8 (fun r4 M3 H locs h hR hS => ?_)
    refine lv_if_eq (pc := 11) (tgt := 31) hx hb xd_Mo_distance_11 (by decide) (fun hq => ?_) (fun hq => ?_)
    · have h := h.1 hq
      refine lv_iconst (pc := 31) (v := (-1 : Int32)) hx hb xd_Mo_distance_31 (by decide) ?_
      exact xr_iret hC hr hlk hR hS h xd_Mo_distance_32
    · have h := h.2 hq
      refine lv_iload_n (pc := 14) hx hb xd_Mo_distance_14 rfl (lv_at hl 3 rfl) ?_
      refine xr_callS (pc := 15) (As := [.int a3]) (rest := []) hC hR hS (xc_Mo_isColour l G  h) xv_Mo_133 ⟨rfl, rfl, Nat.le_of_ble_eq_true rfl, Nat.le_of_ble_eq_true rfl⟩ rfl hl.1 rfl (Nat.le_of_ble_eq_true rfl) xd_Mo_distance_15 (fun r6 M5 H locs h hR hS => ?_)
      refine lv_if_eq (pc := 18) (tgt := 31) hx hb xd_Mo_distance_18 (by decide) (fun hq => ?_) (fun hq => ?_)
      · have h := h.1 hq
        refine lv_iconst (pc := 31) (v := (-1 : Int32)) hx hb xd_Mo_distance_31 (by decide) ?_
        exact xr_iret hC hr hlk hR hS h xd_Mo_distance_32
      · have h := h.2 hq
        refine lv_aload_n (pc := 21) hx hb xd_Mo_distance_21 rfl (lv_at hl 0 rfl) ?_
        refine lv_iload_n (pc := 22) hx hb xd_Mo_distance_22 rfl (lv_at hl 1 rfl) ?_
        refine lv_iload_n (pc := 23) hx hb xd_Mo_distance_23 rfl (lv_at hl 2 rfl) ?_
        refine lv_iload_n (pc := 24) hx hb xd_Mo_distance_24 rfl (lv_at hl 3 rfl) ?_
        refine xr_callV (pc := 25) (As := [.int a1, .int a2, .int a3]) (rest := []) hC hR hS (xc_Mo_distanceOf l G  h) xo_M0 xv_Mo_139 ⟨rfl, rfl, Nat.le_of_ble_eq_true rfl, Nat.le_of_ble_eq_true rfl⟩ rfl hl.1 rfl (Nat.le_of_ble_eq_true rfl) xd_Mo_distance_25 (fun r8 M7 H locs h hR hS => ?_)
        refine lv_goto (pc := 28) (tgt := 32) hx hb xd_Mo_distance_28 (by decide) ?_
        exact xr_iret hC hr hlk hR hS h xd_Mo_distance_32

/-! ColoursApartModel.apartOf(II)I -/
theorem xd_Mo_apartOf_0 : decode b_Mo_apartOf 0 = .ok (.iconst (-1), 1) := by decide +kernel
theorem xd_Mo_apartOf_1 : decode b_Mo_apartOf 1 = .ok (.istore_n 3, 1) := by decide +kernel
theorem xd_Mo_apartOf_2 : decode b_Mo_apartOf 2 = .ok (.iconst 0, 1) := by decide +kernel
theorem xd_Mo_apartOf_3 : decode b_Mo_apartOf 3 = .ok (.istore 4, 2) := by decide +kernel
theorem xd_Mo_apartOf_5 : decode b_Mo_apartOf 5 = .ok (.iload 4, 2) := by decide +kernel
theorem xd_Mo_apartOf_7 : decode b_Mo_apartOf 7 = .ok (.bipush 6, 2) := by decide +kernel
theorem xd_Mo_apartOf_9 : decode b_Mo_apartOf 9 = .ok (.if_icmp .ge 48, 3) := by decide +kernel
theorem xd_Mo_apartOf_12 : decode b_Mo_apartOf 12 = .ok (.aload_n 0, 1) := by decide +kernel
theorem xd_Mo_apartOf_13 : decode b_Mo_apartOf 13 = .ok (.getfield 26, 3) := by decide +kernel
theorem xd_Mo_apartOf_16 : decode b_Mo_apartOf 16 = .ok (.iload 4, 2) := by decide +kernel
theorem xd_Mo_apartOf_18 : decode b_Mo_apartOf 18 = .ok (.ishr, 1) := by decide +kernel
theorem xd_Mo_apartOf_19 : decode b_Mo_apartOf 19 = .ok (.iconst 1, 1) := by decide +kernel
theorem xd_Mo_apartOf_20 : decode b_Mo_apartOf 20 = .ok (.iand, 1) := by decide +kernel
theorem xd_Mo_apartOf_21 : decode b_Mo_apartOf 21 = .ok (.ifCond .ne 6, 3) := by decide +kernel
theorem xd_Mo_apartOf_24 : decode b_Mo_apartOf 24 = .ok (.goto 27, 3) := by decide +kernel
theorem xd_Mo_apartOf_27 : decode b_Mo_apartOf 27 = .ok (.aload_n 0, 1) := by decide +kernel
theorem xd_Mo_apartOf_28 : decode b_Mo_apartOf 28 = .ok (.iload 4, 2) := by decide +kernel
theorem xd_Mo_apartOf_30 : decode b_Mo_apartOf 30 = .ok (.iload_n 1, 1) := by decide +kernel
theorem xd_Mo_apartOf_31 : decode b_Mo_apartOf 31 = .ok (.iload_n 2, 1) := by decide +kernel
theorem xd_Mo_apartOf_32 : decode b_Mo_apartOf 32 = .ok (.invokevirtual 139, 3) := by decide +kernel
theorem xd_Mo_apartOf_35 : decode b_Mo_apartOf 35 = .ok (.istore 5, 2) := by decide +kernel
theorem xd_Mo_apartOf_37 : decode b_Mo_apartOf 37 = .ok (.iload_n 3, 1) := by decide +kernel
theorem xd_Mo_apartOf_38 : decode b_Mo_apartOf 38 = .ok (.iconst (-1), 1) := by decide +kernel
theorem xd_Mo_apartOf_39 : decode b_Mo_apartOf 39 = .ok (.if_icmp .eq 9, 3) := by decide +kernel
theorem xd_Mo_apartOf_42 : decode b_Mo_apartOf 42 = .ok (.iload 5, 2) := by decide +kernel
theorem xd_Mo_apartOf_44 : decode b_Mo_apartOf 44 = .ok (.iload_n 3, 1) := by decide +kernel
theorem xd_Mo_apartOf_45 : decode b_Mo_apartOf 45 = .ok (.if_icmp .ge 6, 3) := by decide +kernel
theorem xd_Mo_apartOf_48 : decode b_Mo_apartOf 48 = .ok (.iload 5, 2) := by decide +kernel
theorem xd_Mo_apartOf_50 : decode b_Mo_apartOf 50 = .ok (.istore_n 3, 1) := by decide +kernel
theorem xd_Mo_apartOf_51 : decode b_Mo_apartOf 51 = .ok (.iinc 4 1, 3) := by decide +kernel
theorem xd_Mo_apartOf_54 : decode b_Mo_apartOf 54 = .ok (.goto (-49), 3) := by decide +kernel
theorem xd_Mo_apartOf_57 : decode b_Mo_apartOf 57 = .ok (.iload_n 3, 1) := by decide +kernel
theorem xd_Mo_apartOf_58 : decode b_Mo_apartOf 58 = .ok (.ireturn, 1) := by decide +kernel
abbrev rm_Mo_apartOf : Room := { frames := 4, cells := 0, slots := 0, locals := 95 }
def xw_Mo_apartOf_5 (x1 : Int32) (x2 : Int32) (post : Int32 → xM → Prop) (k57 : Int32 → Int32 → xM → Prop) : Nat → Int32 → Int32 → xM → Prop
  | 0, _, _, _ => False
  | n5 + 1, x3, x4, M => (((6 : Int32) ≤ x4) → (k57 x3 x4 M)) ∧ ((¬ (6 : Int32) ≤ x4) → (((¬ (((M 9 0 6) >>> (x4 &&& 31)) &&& (1 : Int32)) = 0) → (xw_Mo_distanceOf x4 x1 x2 M (fun (r2 : Int32) (M1 : xM) => ((x3 = (-1 : Int32)) → (xw_Mo_apartOf_5 x1 x2 post k57 n5 r2 (x4 + (1 : Int32)) M1)) ∧ ((¬ x3 = (-1 : Int32)) → (((x3 ≤ r2) → (xw_Mo_apartOf_5 x1 x2 post k57 n5 x3 (x4 + (1 : Int32)) M1)) ∧ ((¬ x3 ≤ r2) → (xw_Mo_apartOf_5 x1 x2 post k57 n5 r2 (x4 + (1 : Int32)) M1))))))) ∧ (((((M 9 0 6) >>> (x4 &&& 31)) &&& (1 : Int32)) = 0) → (xw_Mo_apartOf_5 x1 x2 post k57 n5 x3 (x4 + (1 : Int32)) M))))
def xw_Mo_apartOf (a1 : Int32) (a2 : Int32) (M : xM) (post : Int32 → xM → Prop) : Prop :=
  ∃ n5 : Nat, xw_Mo_apartOf_5 a1 a2 post (fun (y3 : Int32) (y4 : Int32) (M5 : xM) => post y3 M5) n5 (-1 : Int32) (0 : Int32) M
set_option maxHeartbeats 4000000 in
set_option maxRecDepth 100000 in
theorem xt_Mo_apartOf_5 {p : Program} {l : Launch} {e : Env} {s : State} {m : MethodId} {args : Array Value} {below : List Frame} {meth : Method} {c : Code} {G : xG} (hC : xC p s m args c b_Mo_apartOf R_Mo 6 G) (hr : meth.sig.returnType = (some .int)) (hlk : meth.locks = false) {x1 : Int32} {x2 : Int32} {post : Int32 → xM → Prop} {k57 : Int32 → Int32 → xM → Prop} (hk57 : ∀ (x3 : Int32) (x4 : Int32) (M : xM) (H : Heap) (locs : List Loc) (ls : Array Slot), k57 x3 x4 M → xRp G M H → va_S (xA G) s.heap H locs → lv_has ls 6 [(0, .ref (G.1 9 0)), (1, .int x1), (2, .int x2), (3, .int x3), (4, .int x4)] → W p l e rm_Mo_apartOf s m args below meth c H locs 0 0 (MQ below (xPi G post) args s 0 0 (xA G)) (F0 m 57 ls [])) : ∀ (n : Nat) (x3 : Int32) (x4 : Int32) (M : xM) (H : Heap) (locs : List Loc) (ls : Array Slot), xw_Mo_apartOf_5 x1 x2 post k57 n x3 x4 M → xRp G M H → va_S (xA G) s.heap H locs → lv_has ls 6 [(0, .ref (G.1 9 0)), (1, .int x1), (2, .int x2), (3, .int x3), (4, .int x4)] → W p l e rm_Mo_apartOf s m args below meth c H locs 0 0 (MQ below (xPi G post) args s 0 0 (xA G)) (F0 m 5 ls []) := by
  have hx := hC.1
  have hb := hC.2.1
  intro n
  induction n with
  | zero => intro x3 x4 M H locs ls; exact fun h => h.elim
  | succ n ih =>
    intro x3 x4 M H locs ls h hR hS hl
    refine lv_iload (pc := 5) hx hb xd_Mo_apartOf_5 (lv_at hl 4 rfl) ?_
    refine lv_bipush (pc := 7) (v := (6 : Int32)) hx hb xd_Mo_apartOf_7 (by decide) ?_
    refine lv_icmp_ge (pc := 9) (tgt := 57) hx hb xd_Mo_apartOf_9 (by decide) (fun hq => ?_) (fun hq => ?_)
    · have h := h.1 hq
      exact hk57 x3 x4 M H locs ls h hR hS (lv_sub hl [0, 1, 2, 3, 4] rfl)
    · have h := h.2 hq
      refine lv_aload_n (pc := 12) hx hb xd_Mo_apartOf_12 rfl (lv_at hl 0 rfl) ?_
      refine xr_get (pc := 13) (v := .int (M 9 0 6)) hC hR xo_M0 xf_Mo_26 rfl xd_Mo_apartOf_13 ?_
      refine lv_iload (pc := 16) hx hb xd_Mo_apartOf_16 (lv_at hl 4 rfl) ?_
      refine lv_ishr (pc := 18) hx hb xd_Mo_apartOf_18 ?_
      refine lv_iconst (pc := 19) (v := (1 : Int32)) hx hb xd_Mo_apartOf_19 (by decide) ?_
      refine lv_iand (pc := 20) hx hb xd_Mo_apartOf_20 ?_
      refine lv_if_ne (pc := 21) (tgt := 27) hx hb xd_Mo_apartOf_21 (by decide) (fun hq => ?_) (fun hq => ?_)
      · have h := h.1 hq
        refine lv_aload_n (pc := 27) hx hb xd_Mo_apartOf_27 rfl (lv_at hl 0 rfl) ?_
        refine lv_iload (pc := 28) hx hb xd_Mo_apartOf_28 (lv_at hl 4 rfl) ?_
        refine lv_iload_n (pc := 30) hx hb xd_Mo_apartOf_30 rfl (lv_at hl 1 rfl) ?_
        refine lv_iload_n (pc := 31) hx hb xd_Mo_apartOf_31 rfl (lv_at hl 2 rfl) ?_
        refine xr_callV (pc := 32) (As := [.int x4, .int x1, .int x2]) (rest := []) hC hR hS (xc_Mo_distanceOf l G  h) xo_M0 xv_Mo_139 ⟨rfl, rfl, Nat.le_of_ble_eq_true rfl, Nat.le_of_ble_eq_true rfl⟩ rfl hl.1 rfl (Nat.le_of_ble_eq_true rfl) xd_Mo_apartOf_32 (fun r2 M1 H locs h hR hS => ?_)
        refine lv_istore (pc := 35) (lv' := [(5, .int r2), (0, .ref (G.1 9 0)), (1, .int x1), (2, .int x2), (3, .int x3), (4, .int x4)]) hx hb xd_Mo_apartOf_35 hl (by decide) rfl (fun ls hl => ?_)
        refine lv_iload_n (pc := 37) hx hb xd_Mo_apartOf_37 rfl (lv_at hl 4 rfl) ?_
        refine lv_iconst (pc := 38) (v := (-1 : Int32)) hx hb xd_Mo_apartOf_38 (by decide) ?_
        refine lv_icmp_eq (pc := 39) (tgt := 48) hx hb xd_Mo_apartOf_39 (by decide) (fun hq => ?_) (fun hq => ?_)
        · have h := h.1 hq
          refine lv_iload (pc := 48) hx hb xd_Mo_apartOf_48 (lv_at hl 0 rfl) ?_
          refine lv_istore_n (pc := 50) (lv' := [(3, .int r2), (5, .int r2), (0, .ref (G.1 9 0)), (1, .int x1), (2, .int x2), (4, .int x4)]) hx hb xd_Mo_apartOf_50 rfl hl (by decide) rfl (fun ls hl => ?_)
          refine lv_iinc (pc := 51) (v := (x4 + (1 : Int32))) (lv' := [(4, .int (x4 + (1 : Int32))), (3, .int r2), (5, .int r2), (0, .ref (G.1 9 0)), (1, .int x1), (2, .int x2)]) hx hb xd_Mo_apartOf_51 hl (k := 5) rfl rfl (by decide) rfl (fun ls hl => ?_)
          refine lv_goto (pc := 54) (tgt := 5) hx hb xd_Mo_apartOf_54 (by decide) ?_
          exact ih r2 (x4 + (1 : Int32)) M1 H locs ls h hR hS (lv_sub hl [3, 4, 5, 1, 0] rfl)
        · have h := h.2 hq
          refine lv_iload (pc := 42) hx hb xd_Mo_apartOf_42 (lv_at hl 0 rfl) ?_
          refine lv_iload_n (pc := 44) hx hb xd_Mo_apartOf_44 rfl (lv_at hl 4 rfl) ?_
          refine lv_icmp_ge (pc := 45) (tgt := 51) hx hb xd_Mo_apartOf_45 (by decide) (fun hq => ?_) (fun hq => ?_)
          · have h := h.1 hq
            refine lv_iinc (pc := 51) (v := (x4 + (1 : Int32))) (lv' := [(4, .int (x4 + (1 : Int32))), (5, .int r2), (0, .ref (G.1 9 0)), (1, .int x1), (2, .int x2), (3, .int x3)]) hx hb xd_Mo_apartOf_51 hl (k := 5) rfl rfl (by decide) rfl (fun ls hl => ?_)
            refine lv_goto (pc := 54) (tgt := 5) hx hb xd_Mo_apartOf_54 (by decide) ?_
            exact ih x3 (x4 + (1 : Int32)) M1 H locs ls h hR hS (lv_sub hl [2, 3, 4, 5, 0] rfl)
          · have h := h.2 hq
            refine lv_iload (pc := 48) hx hb xd_Mo_apartOf_48 (lv_at hl 0 rfl) ?_
            refine lv_istore_n (pc := 50) (lv' := [(3, .int r2), (5, .int r2), (0, .ref (G.1 9 0)), (1, .int x1), (2, .int x2), (4, .int x4)]) hx hb xd_Mo_apartOf_50 rfl hl (by decide) rfl (fun ls hl => ?_)
            refine lv_iinc (pc := 51) (v := (x4 + (1 : Int32))) (lv' := [(4, .int (x4 + (1 : Int32))), (3, .int r2), (5, .int r2), (0, .ref (G.1 9 0)), (1, .int x1), (2, .int x2)]) hx hb xd_Mo_apartOf_51 hl (k := 5) rfl rfl (by decide) rfl (fun ls hl => ?_)
            refine lv_goto (pc := 54) (tgt := 5) hx hb xd_Mo_apartOf_54 (by decide) ?_
            exact ih r2 (x4 + (1 : Int32)) M1 H locs ls h hR hS (lv_sub hl [3, 4, 5, 1, 0] rfl)
      · have h := h.2 hq
        refine lv_goto (pc := 24) (tgt := 51) hx hb xd_Mo_apartOf_24 (by decide) ?_
        refine lv_iinc (pc := 51) (v := (x4 + (1 : Int32))) (lv' := [(4, .int (x4 + (1 : Int32))), (0, .ref (G.1 9 0)), (1, .int x1), (2, .int x2), (3, .int x3)]) hx hb xd_Mo_apartOf_51 hl (k := 4) rfl rfl (by decide) rfl (fun ls hl => ?_)
        refine lv_goto (pc := 54) (tgt := 5) hx hb xd_Mo_apartOf_54 (by decide) ?_
        exact ih x3 (x4 + (1 : Int32)) M H locs ls h hR hS (lv_sub hl [1, 2, 3, 4, 0] rfl)
set_option maxHeartbeats 4000000 in
set_option maxRecDepth 100000 in
theorem xc_Mo_apartOf (l : Launch) (G : xG) {a1 : Int32} {a2 : Int32}  {M : xM} {post : Int32 → xM → Prop} (h : xw_Mo_apartOf a1 a2 M post) : Met l y_Mo_apartOf (Cond.code y_Mo_apartOf b_Mo_apartOf 6 (some .int) :: xTG) rm_Mo_apartOf (xPre G M [.ref (G.1 9 0), .int a1, .int a2]) (xPi G post) 0 0 (xA G) := by
  refine xMet (own := R_Mo) [.ref (G.1 9 0), .int a1, .int a2] (Or.inl (by decide)) rfl (Nat.le_of_ble_eq_true rfl) (fun p e s m args below meth c ls hC hr hlk hR hS hl => ?_)
  have hx := hC.1
  have hb := hC.2.1
  have hl : lv_has ls 6 [(0, .ref (G.1 9 0)), (1, .int a1), (2, .int a2)] := hl
  obtain ⟨H, eH⟩ : ∃ H : Heap, H = s.heap := ⟨_, rfl⟩
  obtain ⟨locs, eL⟩ : ∃ locs : List Loc, locs = [] := ⟨_, rfl⟩
  rw [← eH] at hR
  replace hS : va_S (xA G) s.heap H locs := by rw [eH, eL]; exact hS
  suffices hh : W p l e rm_Mo_apartOf s m args below meth c H locs 0 0 (MQ below (xPi G post) args s 0 0 (xA G)) (F0 m 0 ls []) from by rw [eH, eL] at hh; exact hh
  unfold xw_Mo_apartOf at h
  refine lv_iconst (pc := 0) (v := (-1 : Int32)) hx hb xd_Mo_apartOf_0 (by decide) ?_
  refine lv_istore_n (pc := 1) (lv' := [(3, .int (-1 : Int32)), (0, .ref (G.1 9 0)), (1, .int a1), (2, .int a2)]) hx hb xd_Mo_apartOf_1 rfl hl (by decide) rfl (fun ls hl => ?_)
  refine lv_iconst (pc := 2) (v := (0 : Int32)) hx hb xd_Mo_apartOf_2 (by decide) ?_
  refine lv_istore (pc := 3) (lv' := [(4, .int (0 : Int32)), (3, .int (-1 : Int32)), (0, .ref (G.1 9 0)), (1, .int a1), (2, .int a2)]) hx hb xd_Mo_apartOf_3 hl (by decide) rfl (fun ls hl => ?_)
  obtain ⟨n, h⟩ := h
  refine xt_Mo_apartOf_5 hC hr hlk  (fun y3 y4 M5 H locs ls h hR hS hl => ?_) n (-1 : Int32) (0 : Int32) M H locs ls h hR hS (lv_sub hl [2, 3, 4, 1, 0] rfl)
  refine lv_iload_n (pc := 57) hx hb xd_Mo_apartOf_57 rfl (lv_at hl 3 rfl) ?_
  exact xr_iret hC hr hlk hR hS h xd_Mo_apartOf_58

/-! ColoursApartModel.apart(II)I -/
theorem xd_Mo_apart_0 : decode b_Mo_apart 0 = .ok (.iload_n 1, 1) := by decide +kernel
theorem xd_Mo_apart_1 : decode b_Mo_apart 1 = .ok (.invokestatic 133, 3) := by decide +kernel
theorem xd_Mo_apart_4 : decode b_Mo_apart 4 = .ok (.ifCond .eq 19, 3) := by decide +kernel
theorem xd_Mo_apart_7 : decode b_Mo_apart 7 = .ok (.iload_n 2, 1) := by decide +kernel
theorem xd_Mo_apart_8 : decode b_Mo_apart 8 = .ok (.invokestatic 133, 3) := by decide +kernel
theorem xd_Mo_apart_11 : decode b_Mo_apart 11 = .ok (.ifCond .eq 12, 3) := by decide +kernel
theorem xd_Mo_apart_14 : decode b_Mo_apart 14 = .ok (.aload_n 0, 1) := by decide +kernel
theorem xd_Mo_apart_15 : decode b_Mo_apart 15 = .ok (.iload_n 1, 1) := by decide +kernel
theorem xd_Mo_apart_16 : decode b_Mo_apart 16 = .ok (.iload_n 2, 1) := by decide +kernel
theorem xd_Mo_apart_17 : decode b_Mo_apart 17 = .ok (.invokevirtual 142, 3) := by decide +kernel
theorem xd_Mo_apart_20 : decode b_Mo_apart 20 = .ok (.goto 4, 3) := by decide +kernel
theorem xd_Mo_apart_23 : decode b_Mo_apart 23 = .ok (.iconst (-1), 1) := by decide +kernel
theorem xd_Mo_apart_24 : decode b_Mo_apart 24 = .ok (.ireturn, 1) := by decide +kernel
abbrev rm_Mo_apart : Room := { frames := 5, cells := 0, slots := 0, locals := 120 }
def xw_Mo_apart (a1 : Int32) (a2 : Int32) (M : xM) (post : Int32 → xM → Prop) : Prop :=
  xw_Mo_isColour a1 M (fun (r2 : Int32) (M1 : xM) => ((r2 = 0) → (post (-1 : Int32) M1)) ∧ ((¬ r2 = 0) → (xw_Mo_isColour a2 M1 (fun (r4 : Int32) (M3 : xM) => ((r4 = 0) → (post (-1 : Int32) M3)) ∧ ((¬ r4 = 0) → (xw_Mo_apartOf a1 a2 M3 (fun (r6 : Int32) (M5 : xM) => post r6 M5)))))))
set_option maxHeartbeats 4000000 in
set_option maxRecDepth 100000 in
theorem xc_Mo_apart (l : Launch) (G : xG) {a1 : Int32} {a2 : Int32}  {M : xM} {post : Int32 → xM → Prop} (h : xw_Mo_apart a1 a2 M post) : Met l y_Mo_apart (Cond.code y_Mo_apart b_Mo_apart 3 (some .int) :: xTG) rm_Mo_apart (xPre G M [.ref (G.1 9 0), .int a1, .int a2]) (xPi G post) 0 0 (xA G) := by
  refine xMet (own := R_Mo) [.ref (G.1 9 0), .int a1, .int a2] (Or.inl (by decide)) rfl (Nat.le_of_ble_eq_true rfl) (fun p e s m args below meth c ls hC hr hlk hR hS hl => ?_)
  have hx := hC.1
  have hb := hC.2.1
  have hl : lv_has ls 3 [(0, .ref (G.1 9 0)), (1, .int a1), (2, .int a2)] := hl
  obtain ⟨H, eH⟩ : ∃ H : Heap, H = s.heap := ⟨_, rfl⟩
  obtain ⟨locs, eL⟩ : ∃ locs : List Loc, locs = [] := ⟨_, rfl⟩
  rw [← eH] at hR
  replace hS : va_S (xA G) s.heap H locs := by rw [eH, eL]; exact hS
  suffices hh : W p l e rm_Mo_apart s m args below meth c H locs 0 0 (MQ below (xPi G post) args s 0 0 (xA G)) (F0 m 0 ls []) from by rw [eH, eL] at hh; exact hh
  unfold xw_Mo_apart at h
  refine lv_iload_n (pc := 0) hx hb xd_Mo_apart_0 rfl (lv_at hl 1 rfl) ?_
  refine xr_callS (pc := 1) (As := [.int a1]) (rest := []) hC hR hS (xc_Mo_isColour l G  h) xv_Mo_133 ⟨rfl, rfl, Nat.le_of_ble_eq_true rfl, Nat.le_of_ble_eq_true rfl⟩ rfl hl.1 rfl (Nat.le_of_ble_eq_true rfl) xd_Mo_apart_1 (fun r2 M1 H locs h hR hS => ?_)
  refine lv_if_eq (pc := 4) (tgt := 23) hx hb xd_Mo_apart_4 (by decide) (fun hq => ?_) (fun hq => ?_)
  · have h := h.1 hq
    refine lv_iconst (pc := 23) (v := (-1 : Int32)) hx hb xd_Mo_apart_23 (by decide) ?_
    exact xr_iret hC hr hlk hR hS h xd_Mo_apart_24
  · have h := h.2 hq
    refine lv_iload_n (pc := 7) hx hb xd_Mo_apart_7 rfl (lv_at hl 2 rfl) ?_
    refine xr_callS (pc := 8) (As := [.int a2]) (rest := []) hC hR hS (xc_Mo_isColour l G  h) xv_Mo_133 ⟨rfl, rfl, Nat.le_of_ble_eq_true rfl, Nat.le_of_ble_eq_true rfl⟩ rfl hl.1 rfl (Nat.le_of_ble_eq_true rfl) xd_Mo_apart_8 (fun r4 M3 H locs h hR hS => ?_)
    refine lv_if_eq (pc := 11) (tgt := 23) hx hb xd_Mo_apart_11 (by decide) (fun hq => ?_) (fun hq => ?_)
    · have h := h.1 hq
      refine lv_iconst (pc := 23) (v := (-1 : Int32)) hx hb xd_Mo_apart_23 (by decide) ?_
      exact xr_iret hC hr hlk hR hS h xd_Mo_apart_24
    · have h := h.2 hq
      refine lv_aload_n (pc := 14) hx hb xd_Mo_apart_14 rfl (lv_at hl 0 rfl) ?_
      refine lv_iload_n (pc := 15) hx hb xd_Mo_apart_15 rfl (lv_at hl 1 rfl) ?_
      refine lv_iload_n (pc := 16) hx hb xd_Mo_apart_16 rfl (lv_at hl 2 rfl) ?_
      refine xr_callV (pc := 17) (As := [.int a1, .int a2]) (rest := []) hC hR hS (xc_Mo_apartOf l G  h) xo_M0 xv_Mo_142 ⟨rfl, rfl, Nat.le_of_ble_eq_true rfl, Nat.le_of_ble_eq_true rfl⟩ rfl hl.1 rfl (Nat.le_of_ble_eq_true rfl) xd_Mo_apart_17 (fun r6 M5 H locs h hR hS => ?_)
      refine lv_goto (pc := 20) (tgt := 24) hx hb xd_Mo_apart_20 (by decide) ?_
      exact xr_iret hC hr hlk hR hS h xd_Mo_apart_24

/-! ColoursApartModel.isIn(I)Z -/
theorem xd_Mo_isIn_0 : decode b_Mo_isIn 0 = .ok (.iload_n 1, 1) := by decide +kernel
theorem xd_Mo_isIn_1 : decode b_Mo_isIn 1 = .ok (.iconst 0, 1) := by decide +kernel
theorem xd_Mo_isIn_2 : decode b_Mo_isIn 2 = .ok (.aload_n 0, 1) := by decide +kernel
theorem xd_Mo_isIn_3 : decode b_Mo_isIn 3 = .ok (.getfield 145, 3) := by decide +kernel
theorem xd_Mo_isIn_6 : decode b_Mo_isIn 6 = .ok (.iconst 1, 1) := by decide +kernel
theorem xd_Mo_isIn_7 : decode b_Mo_isIn 7 = .ok (.isub, 1) := by decide +kernel
theorem xd_Mo_isIn_8 : decode b_Mo_isIn 8 = .ok (.invokestatic 85, 3) := by decide +kernel
theorem xd_Mo_isIn_11 : decode b_Mo_isIn 11 = .ok (.ireturn, 1) := by decide +kernel
abbrev rm_Mo_isIn : Room := { frames := 1, cells := 0, slots := 0, locals := 22 }
def xw_Mo_isIn (a1 : Int32) (M : xM) (post : Int32 → xM → Prop) : Prop :=
  xw_Mo_in a1 (0 : Int32) ((M 9 0 9) - (1 : Int32)) M (fun (r2 : Int32) (M1 : xM) => (r2 &&& 1 = r2) ∧ (post r2 M1))
set_option maxHeartbeats 4000000 in
set_option maxRecDepth 100000 in
theorem xc_Mo_isIn (l : Launch) (G : xG) {a1 : Int32}  {M : xM} {post : Int32 → xM → Prop} (h : xw_Mo_isIn a1 M post) : Met l y_Mo_isIn (Cond.code y_Mo_isIn b_Mo_isIn 2 (some .boolean) :: xTG) rm_Mo_isIn (xPre G M [.ref (G.1 9 0), .int a1]) (xPi G post) 0 0 (xA G) := by
  refine xMet (own := R_Mo) [.ref (G.1 9 0), .int a1] (Or.inl (by decide)) rfl (Nat.le_of_ble_eq_true rfl) (fun p e s m args below meth c ls hC hr hlk hR hS hl => ?_)
  have hx := hC.1
  have hb := hC.2.1
  have hl : lv_has ls 2 [(0, .ref (G.1 9 0)), (1, .int a1)] := hl
  obtain ⟨H, eH⟩ : ∃ H : Heap, H = s.heap := ⟨_, rfl⟩
  obtain ⟨locs, eL⟩ : ∃ locs : List Loc, locs = [] := ⟨_, rfl⟩
  rw [← eH] at hR
  replace hS : va_S (xA G) s.heap H locs := by rw [eH, eL]; exact hS
  suffices hh : W p l e rm_Mo_isIn s m args below meth c H locs 0 0 (MQ below (xPi G post) args s 0 0 (xA G)) (F0 m 0 ls []) from by rw [eH, eL] at hh; exact hh
  unfold xw_Mo_isIn at h
  refine lv_iload_n (pc := 0) hx hb xd_Mo_isIn_0 rfl (lv_at hl 1 rfl) ?_
  refine lv_iconst (pc := 1) (v := (0 : Int32)) hx hb xd_Mo_isIn_1 (by decide) ?_
  refine lv_aload_n (pc := 2) hx hb xd_Mo_isIn_2 rfl (lv_at hl 0 rfl) ?_
  refine xr_get (pc := 3) (v := .int (M 9 0 9)) hC hR xo_M0 xf_Mo_145 rfl xd_Mo_isIn_3 ?_
  refine lv_iconst (pc := 6) (v := (1 : Int32)) hx hb xd_Mo_isIn_6 (by decide) ?_
  refine lv_isub (pc := 7) hx hb xd_Mo_isIn_7 ?_
  refine xr_callS (pc := 8) (As := [.int a1, .int (0 : Int32), .int ((M 9 0 9) - (1 : Int32))]) (rest := []) hC hR hS (xc_Mo_in l G  h) xv_Mo_85 ⟨rfl, rfl, Nat.le_of_ble_eq_true rfl, Nat.le_of_ble_eq_true rfl⟩ rfl hl.1 rfl (Nat.le_of_ble_eq_true rfl) xd_Mo_isIn_8 (fun r2 M1 H locs h hR hS => ?_)
  exact xr_zret hC hr hlk hR hS h.1 h.2 xd_Mo_isIn_11

/-! ColoursApartModel.isWithin(III)Z -/
theorem xd_Mo_isWithin_0 : decode b_Mo_isWithin 0 = .ok (.iconst 1, 1) := by decide +kernel
theorem xd_Mo_isWithin_1 : decode b_Mo_isWithin 1 = .ok (.istore_n 3, 1) := by decide +kernel
theorem xd_Mo_isWithin_2 : decode b_Mo_isWithin 2 = .ok (.iconst 0, 1) := by decide +kernel
theorem xd_Mo_isWithin_3 : decode b_Mo_isWithin 3 = .ok (.istore 4, 2) := by decide +kernel
theorem xd_Mo_isWithin_5 : decode b_Mo_isWithin 5 = .ok (.iload 4, 2) := by decide +kernel
theorem xd_Mo_isWithin_7 : decode b_Mo_isWithin 7 = .ok (.iconst 3, 1) := by decide +kernel
theorem xd_Mo_isWithin_8 : decode b_Mo_isWithin 8 = .ok (.if_icmp .ge 43, 3) := by decide +kernel
theorem xd_Mo_isWithin_11 : decode b_Mo_isWithin 11 = .ok (.iload_n 3, 1) := by decide +kernel
theorem xd_Mo_isWithin_12 : decode b_Mo_isWithin 12 = .ok (.ifCond .eq 31, 3) := by decide +kernel
theorem xd_Mo_isWithin_15 : decode b_Mo_isWithin 15 = .ok (.iload_n 0, 1) := by decide +kernel
theorem xd_Mo_isWithin_16 : decode b_Mo_isWithin 16 = .ok (.iload 4, 2) := by decide +kernel
theorem xd_Mo_isWithin_18 : decode b_Mo_isWithin 18 = .ok (.invokestatic 97, 3) := by decide +kernel
theorem xd_Mo_isWithin_21 : decode b_Mo_isWithin 21 = .ok (.iload_n 1, 1) := by decide +kernel
theorem xd_Mo_isWithin_22 : decode b_Mo_isWithin 22 = .ok (.iload 4, 2) := by decide +kernel
theorem xd_Mo_isWithin_24 : decode b_Mo_isWithin 24 = .ok (.invokestatic 97, 3) := by decide +kernel
theorem xd_Mo_isWithin_27 : decode b_Mo_isWithin 27 = .ok (.iload_n 2, 1) := by decide +kernel
theorem xd_Mo_isWithin_28 : decode b_Mo_isWithin 28 = .ok (.iload 4, 2) := by decide +kernel
theorem xd_Mo_isWithin_30 : decode b_Mo_isWithin 30 = .ok (.invokestatic 97, 3) := by decide +kernel
theorem xd_Mo_isWithin_33 : decode b_Mo_isWithin 33 = .ok (.invokestatic 85, 3) := by decide +kernel
theorem xd_Mo_isWithin_36 : decode b_Mo_isWithin 36 = .ok (.ifCond .eq 7, 3) := by decide +kernel
theorem xd_Mo_isWithin_39 : decode b_Mo_isWithin 39 = .ok (.iconst 1, 1) := by decide +kernel
theorem xd_Mo_isWithin_40 : decode b_Mo_isWithin 40 = .ok (.goto 4, 3) := by decide +kernel
theorem xd_Mo_isWithin_43 : decode b_Mo_isWithin 43 = .ok (.iconst 0, 1) := by decide +kernel
theorem xd_Mo_isWithin_44 : decode b_Mo_isWithin 44 = .ok (.istore_n 3, 1) := by decide +kernel
theorem xd_Mo_isWithin_45 : decode b_Mo_isWithin 45 = .ok (.iinc 4 1, 3) := by decide +kernel
theorem xd_Mo_isWithin_48 : decode b_Mo_isWithin 48 = .ok (.goto (-43), 3) := by decide +kernel
theorem xd_Mo_isWithin_51 : decode b_Mo_isWithin 51 = .ok (.iload_n 3, 1) := by decide +kernel
theorem xd_Mo_isWithin_52 : decode b_Mo_isWithin 52 = .ok (.ireturn, 1) := by decide +kernel
abbrev rm_Mo_isWithin : Room := { frames := 1, cells := 0, slots := 0, locals := 22 }
def xw_Mo_isWithin_5 (x0 : Int32) (x1 : Int32) (x2 : Int32) (post : Int32 → xM → Prop) (k51 : Int32 → Int32 → xM → Prop) : Nat → Int32 → Int32 → xM → Prop
  | 0, _, _, _ => False
  | n5 + 1, x3, x4, M => (((3 : Int32) ≤ x4) → (k51 x3 x4 M)) ∧ ((¬ (3 : Int32) ≤ x4) → (((x3 = 0) → (xw_Mo_isWithin_5 x0 x1 x2 post k51 n5 (0 : Int32) (x4 + (1 : Int32)) M)) ∧ ((¬ x3 = 0) → (xw_Mo_third x0 x4 M (fun (r2 : Int32) (M1 : xM) => xw_Mo_third x1 x4 M1 (fun (r4 : Int32) (M3 : xM) => xw_Mo_third x2 x4 M3 (fun (r6 : Int32) (M5 : xM) => xw_Mo_in r2 r4 r6 M5 (fun (r8 : Int32) (M7 : xM) => ((r8 = 0) → (xw_Mo_isWithin_5 x0 x1 x2 post k51 n5 (0 : Int32) (x4 + (1 : Int32)) M7)) ∧ ((¬ r8 = 0) → (xw_Mo_isWithin_5 x0 x1 x2 post k51 n5 (1 : Int32) (x4 + (1 : Int32)) M7))))))))))
def xw_Mo_isWithin (a0 : Int32) (a1 : Int32) (a2 : Int32) (M : xM) (post : Int32 → xM → Prop) : Prop :=
  ∃ n5 : Nat, xw_Mo_isWithin_5 a0 a1 a2 post (fun (y9 : Int32) (y10 : Int32) (M11 : xM) => (y9 &&& 1 = y9) ∧ (post y9 M11)) n5 (1 : Int32) (0 : Int32) M
set_option maxHeartbeats 4000000 in
set_option maxRecDepth 100000 in
theorem xt_Mo_isWithin_5 {p : Program} {l : Launch} {e : Env} {s : State} {m : MethodId} {args : Array Value} {below : List Frame} {meth : Method} {c : Code} {G : xG} (hC : xC p s m args c b_Mo_isWithin R_Mo 5 G) (hr : meth.sig.returnType = (some .boolean)) (hlk : meth.locks = false) {x0 : Int32} {x1 : Int32} {x2 : Int32} {post : Int32 → xM → Prop} {k51 : Int32 → Int32 → xM → Prop} (hk51 : ∀ (x3 : Int32) (x4 : Int32) (M : xM) (H : Heap) (locs : List Loc) (ls : Array Slot), k51 x3 x4 M → xRp G M H → va_S (xA G) s.heap H locs → lv_has ls 5 [(0, .int x0), (1, .int x1), (2, .int x2), (3, .int x3), (4, .int x4)] → W p l e rm_Mo_isWithin s m args below meth c H locs 0 0 (MQ below (xPi G post) args s 0 0 (xA G)) (F0 m 51 ls [])) : ∀ (n : Nat) (x3 : Int32) (x4 : Int32) (M : xM) (H : Heap) (locs : List Loc) (ls : Array Slot), xw_Mo_isWithin_5 x0 x1 x2 post k51 n x3 x4 M → xRp G M H → va_S (xA G) s.heap H locs → lv_has ls 5 [(0, .int x0), (1, .int x1), (2, .int x2), (3, .int x3), (4, .int x4)] → W p l e rm_Mo_isWithin s m args below meth c H locs 0 0 (MQ below (xPi G post) args s 0 0 (xA G)) (F0 m 5 ls []) := by
  have hx := hC.1
  have hb := hC.2.1
  intro n
  induction n with
  | zero => intro x3 x4 M H locs ls; exact fun h => h.elim
  | succ n ih =>
    intro x3 x4 M H locs ls h hR hS hl
    refine lv_iload (pc := 5) hx hb xd_Mo_isWithin_5 (lv_at hl 4 rfl) ?_
    refine lv_iconst (pc := 7) (v := (3 : Int32)) hx hb xd_Mo_isWithin_7 (by decide) ?_
    refine lv_icmp_ge (pc := 8) (tgt := 51) hx hb xd_Mo_isWithin_8 (by decide) (fun hq => ?_) (fun hq => ?_)
    · have h := h.1 hq
      exact hk51 x3 x4 M H locs ls h hR hS (lv_sub hl [0, 1, 2, 3, 4] rfl)
    · have h := h.2 hq
      refine lv_iload_n (pc := 11) hx hb xd_Mo_isWithin_11 rfl (lv_at hl 3 rfl) ?_
      refine lv_if_eq (pc := 12) (tgt := 43) hx hb xd_Mo_isWithin_12 (by decide) (fun hq => ?_) (fun hq => ?_)
      · have h := h.1 hq
        refine lv_iconst (pc := 43) (v := (0 : Int32)) hx hb xd_Mo_isWithin_43 (by decide) ?_
        refine lv_istore_n (pc := 44) (lv' := [(3, .int (0 : Int32)), (0, .int x0), (1, .int x1), (2, .int x2), (4, .int x4)]) hx hb xd_Mo_isWithin_44 rfl hl (by decide) rfl (fun ls hl => ?_)
        refine lv_iinc (pc := 45) (v := (x4 + (1 : Int32))) (lv' := [(4, .int (x4 + (1 : Int32))), (3, .int (0 : Int32)), (0, .int x0), (1, .int x1), (2, .int x2)]) hx hb xd_Mo_isWithin_45 hl (k := 4) rfl rfl (by decide) rfl (fun ls hl => ?_)
        refine lv_goto (pc := 48) (tgt := 5) hx hb xd_Mo_isWithin_48 (by decide) ?_
        exact ih (0 : Int32) (x4 + (1 : Int32)) M H locs ls h hR hS (lv_sub hl [2, 3, 4, 1, 0] rfl)
      · have h := h.2 hq
        refine lv_iload_n (pc := 15) hx hb xd_Mo_isWithin_15 rfl (lv_at hl 0 rfl) ?_
        refine lv_iload (pc := 16) hx hb xd_Mo_isWithin_16 (lv_at hl 4 rfl) ?_
        refine xr_callS (pc := 18) (As := [.int x0, .int x4]) (rest := []) hC hR hS (xc_Mo_third l G  h) xv_Mo_97 ⟨rfl, rfl, Nat.le_of_ble_eq_true rfl, Nat.le_of_ble_eq_true rfl⟩ rfl hl.1 rfl (Nat.le_of_ble_eq_true rfl) xd_Mo_isWithin_18 (fun r2 M1 H locs h hR hS => ?_)
        refine lv_iload_n (pc := 21) hx hb xd_Mo_isWithin_21 rfl (lv_at hl 1 rfl) ?_
        refine lv_iload (pc := 22) hx hb xd_Mo_isWithin_22 (lv_at hl 4 rfl) ?_
        refine xr_callS (pc := 24) (As := [.int x1, .int x4]) (rest := [.int r2]) hC hR hS (xc_Mo_third l G  h) xv_Mo_97 ⟨rfl, rfl, Nat.le_of_ble_eq_true rfl, Nat.le_of_ble_eq_true rfl⟩ rfl hl.1 rfl (Nat.le_of_ble_eq_true rfl) xd_Mo_isWithin_24 (fun r4 M3 H locs h hR hS => ?_)
        refine lv_iload_n (pc := 27) hx hb xd_Mo_isWithin_27 rfl (lv_at hl 2 rfl) ?_
        refine lv_iload (pc := 28) hx hb xd_Mo_isWithin_28 (lv_at hl 4 rfl) ?_
        refine xr_callS (pc := 30) (As := [.int x2, .int x4]) (rest := [.int r4, .int r2]) hC hR hS (xc_Mo_third l G  h) xv_Mo_97 ⟨rfl, rfl, Nat.le_of_ble_eq_true rfl, Nat.le_of_ble_eq_true rfl⟩ rfl hl.1 rfl (Nat.le_of_ble_eq_true rfl) xd_Mo_isWithin_30 (fun r6 M5 H locs h hR hS => ?_)
        refine xr_callS (pc := 33) (As := [.int r2, .int r4, .int r6]) (rest := []) hC hR hS (xc_Mo_in l G  h) xv_Mo_85 ⟨rfl, rfl, Nat.le_of_ble_eq_true rfl, Nat.le_of_ble_eq_true rfl⟩ rfl hl.1 rfl (Nat.le_of_ble_eq_true rfl) xd_Mo_isWithin_33 (fun r8 M7 H locs h hR hS => ?_)
        refine lv_if_eq (pc := 36) (tgt := 43) hx hb xd_Mo_isWithin_36 (by decide) (fun hq => ?_) (fun hq => ?_)
        · have h := h.1 hq
          refine lv_iconst (pc := 43) (v := (0 : Int32)) hx hb xd_Mo_isWithin_43 (by decide) ?_
          refine lv_istore_n (pc := 44) (lv' := [(3, .int (0 : Int32)), (0, .int x0), (1, .int x1), (2, .int x2), (4, .int x4)]) hx hb xd_Mo_isWithin_44 rfl hl (by decide) rfl (fun ls hl => ?_)
          refine lv_iinc (pc := 45) (v := (x4 + (1 : Int32))) (lv' := [(4, .int (x4 + (1 : Int32))), (3, .int (0 : Int32)), (0, .int x0), (1, .int x1), (2, .int x2)]) hx hb xd_Mo_isWithin_45 hl (k := 4) rfl rfl (by decide) rfl (fun ls hl => ?_)
          refine lv_goto (pc := 48) (tgt := 5) hx hb xd_Mo_isWithin_48 (by decide) ?_
          exact ih (0 : Int32) (x4 + (1 : Int32)) M7 H locs ls h hR hS (lv_sub hl [2, 3, 4, 1, 0] rfl)
        · have h := h.2 hq
          refine lv_iconst (pc := 39) (v := (1 : Int32)) hx hb xd_Mo_isWithin_39 (by decide) ?_
          refine lv_goto (pc := 40) (tgt := 44) hx hb xd_Mo_isWithin_40 (by decide) ?_
          refine lv_istore_n (pc := 44) (lv' := [(3, .int (1 : Int32)), (0, .int x0), (1, .int x1), (2, .int x2), (4, .int x4)]) hx hb xd_Mo_isWithin_44 rfl hl (by decide) rfl (fun ls hl => ?_)
          refine lv_iinc (pc := 45) (v := (x4 + (1 : Int32))) (lv' := [(4, .int (x4 + (1 : Int32))), (3, .int (1 : Int32)), (0, .int x0), (1, .int x1), (2, .int x2)]) hx hb xd_Mo_isWithin_45 hl (k := 4) rfl rfl (by decide) rfl (fun ls hl => ?_)
          refine lv_goto (pc := 48) (tgt := 5) hx hb xd_Mo_isWithin_48 (by decide) ?_
          exact ih (1 : Int32) (x4 + (1 : Int32)) M7 H locs ls h hR hS (lv_sub hl [2, 3, 4, 1, 0] rfl)
set_option maxHeartbeats 4000000 in
set_option maxRecDepth 100000 in
theorem xc_Mo_isWithin (l : Launch) (G : xG) {a0 : Int32} {a1 : Int32} {a2 : Int32}  {M : xM} {post : Int32 → xM → Prop} (h : xw_Mo_isWithin a0 a1 a2 M post) : Met l y_Mo_isWithin (Cond.code y_Mo_isWithin b_Mo_isWithin 5 (some .boolean) :: xTG) rm_Mo_isWithin (xPre G M [.int a0, .int a1, .int a2]) (xPi G post) 0 0 (xA G) := by
  refine xMet (own := R_Mo) [.int a0, .int a1, .int a2] (Or.inl (by decide)) rfl (Nat.le_of_ble_eq_true rfl) (fun p e s m args below meth c ls hC hr hlk hR hS hl => ?_)
  have hx := hC.1
  have hb := hC.2.1
  have hl : lv_has ls 5 [(0, .int a0), (1, .int a1), (2, .int a2)] := hl
  obtain ⟨H, eH⟩ : ∃ H : Heap, H = s.heap := ⟨_, rfl⟩
  obtain ⟨locs, eL⟩ : ∃ locs : List Loc, locs = [] := ⟨_, rfl⟩
  rw [← eH] at hR
  replace hS : va_S (xA G) s.heap H locs := by rw [eH, eL]; exact hS
  suffices hh : W p l e rm_Mo_isWithin s m args below meth c H locs 0 0 (MQ below (xPi G post) args s 0 0 (xA G)) (F0 m 0 ls []) from by rw [eH, eL] at hh; exact hh
  unfold xw_Mo_isWithin at h
  refine lv_iconst (pc := 0) (v := (1 : Int32)) hx hb xd_Mo_isWithin_0 (by decide) ?_
  refine lv_istore_n (pc := 1) (lv' := [(3, .int (1 : Int32)), (0, .int a0), (1, .int a1), (2, .int a2)]) hx hb xd_Mo_isWithin_1 rfl hl (by decide) rfl (fun ls hl => ?_)
  refine lv_iconst (pc := 2) (v := (0 : Int32)) hx hb xd_Mo_isWithin_2 (by decide) ?_
  refine lv_istore (pc := 3) (lv' := [(4, .int (0 : Int32)), (3, .int (1 : Int32)), (0, .int a0), (1, .int a1), (2, .int a2)]) hx hb xd_Mo_isWithin_3 hl (by decide) rfl (fun ls hl => ?_)
  obtain ⟨n, h⟩ := h
  refine xt_Mo_isWithin_5 hC hr hlk  (fun y9 y10 M11 H locs ls h hR hS hl => ?_) n (1 : Int32) (0 : Int32) M H locs ls h hR hS (lv_sub hl [2, 3, 4, 1, 0] rfl)
  refine lv_iload_n (pc := 51) hx hb xd_Mo_isWithin_51 rfl (lv_at hl 3 rfl) ?_
  exact xr_zret hC hr hlk hR hS h.1 h.2 xd_Mo_isWithin_52

/-! ColoursApartModel.isNamed(II)Z -/
theorem xd_Mo_isNamed_0 : decode b_Mo_isNamed 0 = .ok (.aload_n 0, 1) := by decide +kernel
theorem xd_Mo_isNamed_1 : decode b_Mo_isNamed 1 = .ok (.getfield 42, 3) := by decide +kernel
theorem xd_Mo_isNamed_4 : decode b_Mo_isNamed 4 = .ok (.iload_n 1, 1) := by decide +kernel
theorem xd_Mo_isNamed_5 : decode b_Mo_isNamed 5 = .ok (.iaload, 1) := by decide +kernel
theorem xd_Mo_isNamed_6 : decode b_Mo_isNamed 6 = .ok (.iconst (-1), 1) := by decide +kernel
theorem xd_Mo_isNamed_7 : decode b_Mo_isNamed 7 = .ok (.if_icmp .eq 32, 3) := by decide +kernel
theorem xd_Mo_isNamed_10 : decode b_Mo_isNamed 10 = .ok (.iload_n 2, 1) := by decide +kernel
theorem xd_Mo_isNamed_11 : decode b_Mo_isNamed 11 = .ok (.aload_n 0, 1) := by decide +kernel
theorem xd_Mo_isNamed_12 : decode b_Mo_isNamed 12 = .ok (.getfield 45, 3) := by decide +kernel
theorem xd_Mo_isNamed_15 : decode b_Mo_isNamed 15 = .ok (.aload_n 0, 1) := by decide +kernel
theorem xd_Mo_isNamed_16 : decode b_Mo_isNamed 16 = .ok (.getfield 42, 3) := by decide +kernel
theorem xd_Mo_isNamed_19 : decode b_Mo_isNamed 19 = .ok (.iload_n 1, 1) := by decide +kernel
theorem xd_Mo_isNamed_20 : decode b_Mo_isNamed 20 = .ok (.iaload, 1) := by decide +kernel
theorem xd_Mo_isNamed_21 : decode b_Mo_isNamed 21 = .ok (.iaload, 1) := by decide +kernel
theorem xd_Mo_isNamed_22 : decode b_Mo_isNamed 22 = .ok (.aload_n 0, 1) := by decide +kernel
theorem xd_Mo_isNamed_23 : decode b_Mo_isNamed 23 = .ok (.getfield 49, 3) := by decide +kernel
theorem xd_Mo_isNamed_26 : decode b_Mo_isNamed 26 = .ok (.aload_n 0, 1) := by decide +kernel
theorem xd_Mo_isNamed_27 : decode b_Mo_isNamed 27 = .ok (.getfield 42, 3) := by decide +kernel
theorem xd_Mo_isNamed_30 : decode b_Mo_isNamed 30 = .ok (.iload_n 1, 1) := by decide +kernel
theorem xd_Mo_isNamed_31 : decode b_Mo_isNamed 31 = .ok (.iaload, 1) := by decide +kernel
theorem xd_Mo_isNamed_32 : decode b_Mo_isNamed 32 = .ok (.iaload, 1) := by decide +kernel
theorem xd_Mo_isNamed_33 : decode b_Mo_isNamed 33 = .ok (.invokestatic 148, 3) := by decide +kernel
theorem xd_Mo_isNamed_36 : decode b_Mo_isNamed 36 = .ok (.ifCond .eq 7, 3) := by decide +kernel
theorem xd_Mo_isNamed_39 : decode b_Mo_isNamed 39 = .ok (.iconst 1, 1) := by decide +kernel
theorem xd_Mo_isNamed_40 : decode b_Mo_isNamed 40 = .ok (.goto 4, 3) := by decide +kernel
theorem xd_Mo_isNamed_43 : decode b_Mo_isNamed 43 = .ok (.iconst 0, 1) := by decide +kernel
theorem xd_Mo_isNamed_44 : decode b_Mo_isNamed 44 = .ok (.ireturn, 1) := by decide +kernel
abbrev rm_Mo_isNamed : Room := { frames := 2, cells := 0, slots := 0, locals := 46 }
def xw_Mo_isNamed (a1 : Int32) (a2 : Int32) (M : xM) (post : Int32 → xM → Prop) : Prop :=
  (vp_in a1 12) ∧ ((((M 9 8 a1.toNatClampNeg) = (-1 : Int32)) → (post (1 : Int32) M)) ∧ ((¬ (M 9 8 a1.toNatClampNeg) = (-1 : Int32)) → ((vp_in a1 12) ∧ ((vp_in (M 9 8 a1.toNatClampNeg) 8) ∧ ((vp_in a1 12) ∧ ((vp_in (M 9 8 a1.toNatClampNeg) 8) ∧ (xw_Mo_isWithin a2 (M 9 9 (M 9 8 a1.toNatClampNeg).toNatClampNeg) (M 9 10 (M 9 8 a1.toNatClampNeg).toNatClampNeg) M (fun (r2 : Int32) (M1 : xM) => ((r2 = 0) → (post (0 : Int32) M1)) ∧ ((¬ r2 = 0) → (post (1 : Int32) M1))))))))))
set_option maxHeartbeats 4000000 in
set_option maxRecDepth 100000 in
theorem xc_Mo_isNamed (l : Launch) (G : xG) {a1 : Int32} {a2 : Int32}  {M : xM} {post : Int32 → xM → Prop} (h : xw_Mo_isNamed a1 a2 M post) : Met l y_Mo_isNamed (Cond.code y_Mo_isNamed b_Mo_isNamed 3 (some .boolean) :: xTG) rm_Mo_isNamed (xPre G M [.ref (G.1 9 0), .int a1, .int a2]) (xPi G post) 0 0 (xA G) := by
  refine xMet (own := R_Mo) [.ref (G.1 9 0), .int a1, .int a2] (Or.inl (by decide)) rfl (Nat.le_of_ble_eq_true rfl) (fun p e s m args below meth c ls hC hr hlk hR hS hl => ?_)
  have hx := hC.1
  have hb := hC.2.1
  have hl : lv_has ls 3 [(0, .ref (G.1 9 0)), (1, .int a1), (2, .int a2)] := hl
  obtain ⟨H, eH⟩ : ∃ H : Heap, H = s.heap := ⟨_, rfl⟩
  obtain ⟨locs, eL⟩ : ∃ locs : List Loc, locs = [] := ⟨_, rfl⟩
  rw [← eH] at hR
  replace hS : va_S (xA G) s.heap H locs := by rw [eH, eL]; exact hS
  suffices hh : W p l e rm_Mo_isNamed s m args below meth c H locs 0 0 (MQ below (xPi G post) args s 0 0 (xA G)) (F0 m 0 ls []) from by rw [eH, eL] at hh; exact hh
  unfold xw_Mo_isNamed at h
  refine lv_aload_n (pc := 0) hx hb xd_Mo_isNamed_0 rfl (lv_at hl 0 rfl) ?_
  refine xr_get (pc := 1) (v := .ref (G.1 9 8)) hC hR xo_M0 xf_Mo_42 rfl xd_Mo_isNamed_1 ?_
  refine lv_iload_n (pc := 4) hx hb xd_Mo_isNamed_4 rfl (lv_at hl 1 rfl) ?_
  obtain ⟨hq, h⟩ := h
  refine xr_iald (pc := 5) hC hR xo_M8 hq xd_Mo_isNamed_5 ?_
  refine lv_iconst (pc := 6) (v := (-1 : Int32)) hx hb xd_Mo_isNamed_6 (by decide) ?_
  refine lv_icmp_eq (pc := 7) (tgt := 39) hx hb xd_Mo_isNamed_7 (by decide) (fun hq => ?_) (fun hq => ?_)
  · have h := h.1 hq
    refine lv_iconst (pc := 39) (v := (1 : Int32)) hx hb xd_Mo_isNamed_39 (by decide) ?_
    refine lv_goto (pc := 40) (tgt := 44) hx hb xd_Mo_isNamed_40 (by decide) ?_
    exact xr_zret hC hr hlk hR hS (by decide) h xd_Mo_isNamed_44
  · have h := h.2 hq
    refine lv_iload_n (pc := 10) hx hb xd_Mo_isNamed_10 rfl (lv_at hl 2 rfl) ?_
    refine lv_aload_n (pc := 11) hx hb xd_Mo_isNamed_11 rfl (lv_at hl 0 rfl) ?_
    refine xr_get (pc := 12) (v := .ref (G.1 9 9)) hC hR xo_M0 xf_Mo_45 rfl xd_Mo_isNamed_12 ?_
    refine lv_aload_n (pc := 15) hx hb xd_Mo_isNamed_15 rfl (lv_at hl 0 rfl) ?_
    refine xr_get (pc := 16) (v := .ref (G.1 9 8)) hC hR xo_M0 xf_Mo_42 rfl xd_Mo_isNamed_16 ?_
    refine lv_iload_n (pc := 19) hx hb xd_Mo_isNamed_19 rfl (lv_at hl 1 rfl) ?_
    obtain ⟨hq, h⟩ := h
    refine xr_iald (pc := 20) hC hR xo_M8 hq xd_Mo_isNamed_20 ?_
    obtain ⟨hq, h⟩ := h
    refine xr_iald (pc := 21) hC hR xo_M9 hq xd_Mo_isNamed_21 ?_
    refine lv_aload_n (pc := 22) hx hb xd_Mo_isNamed_22 rfl (lv_at hl 0 rfl) ?_
    refine xr_get (pc := 23) (v := .ref (G.1 9 10)) hC hR xo_M0 xf_Mo_49 rfl xd_Mo_isNamed_23 ?_
    refine lv_aload_n (pc := 26) hx hb xd_Mo_isNamed_26 rfl (lv_at hl 0 rfl) ?_
    refine xr_get (pc := 27) (v := .ref (G.1 9 8)) hC hR xo_M0 xf_Mo_42 rfl xd_Mo_isNamed_27 ?_
    refine lv_iload_n (pc := 30) hx hb xd_Mo_isNamed_30 rfl (lv_at hl 1 rfl) ?_
    obtain ⟨hq, h⟩ := h
    refine xr_iald (pc := 31) hC hR xo_M8 hq xd_Mo_isNamed_31 ?_
    obtain ⟨hq, h⟩ := h
    refine xr_iald (pc := 32) hC hR xo_M10 hq xd_Mo_isNamed_32 ?_
    refine xr_callS (pc := 33) (As := [.int a2, .int (M 9 9 (M 9 8 a1.toNatClampNeg).toNatClampNeg), .int (M 9 10 (M 9 8 a1.toNatClampNeg).toNatClampNeg)]) (rest := []) hC hR hS (xc_Mo_isWithin l G  h) xv_Mo_148 ⟨rfl, rfl, Nat.le_of_ble_eq_true rfl, Nat.le_of_ble_eq_true rfl⟩ rfl hl.1 rfl (Nat.le_of_ble_eq_true rfl) xd_Mo_isNamed_33 (fun r2 M1 H locs h hR hS => ?_)
    refine lv_if_eq (pc := 36) (tgt := 43) hx hb xd_Mo_isNamed_36 (by decide) (fun hq => ?_) (fun hq => ?_)
    · have h := h.1 hq
      refine lv_iconst (pc := 43) (v := (0 : Int32)) hx hb xd_Mo_isNamed_43 (by decide) ?_
      exact xr_zret hC hr hlk hR hS (by decide) h xd_Mo_isNamed_44
    · have h := h.2 hq
      refine lv_iconst (pc := 39) (v := (1 : Int32)) hx hb xd_Mo_isNamed_39 (by decide) ?_
      refine lv_goto (pc := 40) (tgt := 44) hx hb xd_Mo_isNamed_40 (by decide) ?_
      exact xr_zret hC hr hlk hR hS (by decide) h xd_Mo_isNamed_44

/-! ColoursApartModel.add(IZ)I -/
theorem xd_Mo_add_0 : decode b_Mo_add 0 = .ok (.iload_n 1, 1) := by decide +kernel
theorem xd_Mo_add_1 : decode b_Mo_add 1 = .ok (.invokestatic 133, 3) := by decide +kernel
theorem xd_Mo_add_4 : decode b_Mo_add 4 = .ok (.ifCond .ne 9, 3) := by decide +kernel
theorem xd_Mo_add_7 : decode b_Mo_add 7 = .ok (.aload_n 0, 1) := by decide +kernel
theorem xd_Mo_add_8 : decode b_Mo_add 8 = .ok (.iconst (-1), 1) := by decide +kernel
theorem xd_Mo_add_9 : decode b_Mo_add 9 = .ok (.invokevirtual 89, 3) := by decide +kernel
theorem xd_Mo_add_12 : decode b_Mo_add 12 = .ok (.ireturn, 1) := by decide +kernel
theorem xd_Mo_add_13 : decode b_Mo_add 13 = .ok (.aload_n 0, 1) := by decide +kernel
theorem xd_Mo_add_14 : decode b_Mo_add 14 = .ok (.getfield 145, 3) := by decide +kernel
theorem xd_Mo_add_17 : decode b_Mo_add 17 = .ok (.bipush 12, 2) := by decide +kernel
theorem xd_Mo_add_19 : decode b_Mo_add 19 = .ok (.if_icmp .ne 10, 3) := by decide +kernel
theorem xd_Mo_add_22 : decode b_Mo_add 22 = .ok (.aload_n 0, 1) := by decide +kernel
theorem xd_Mo_add_23 : decode b_Mo_add 23 = .ok (.bipush (-5), 2) := by decide +kernel
theorem xd_Mo_add_25 : decode b_Mo_add 25 = .ok (.invokevirtual 89, 3) := by decide +kernel
theorem xd_Mo_add_28 : decode b_Mo_add 28 = .ok (.ireturn, 1) := by decide +kernel
theorem xd_Mo_add_29 : decode b_Mo_add 29 = .ok (.aload_n 0, 1) := by decide +kernel
theorem xd_Mo_add_30 : decode b_Mo_add 30 = .ok (.getfield 35, 3) := by decide +kernel
theorem xd_Mo_add_33 : decode b_Mo_add 33 = .ok (.aload_n 0, 1) := by decide +kernel
theorem xd_Mo_add_34 : decode b_Mo_add 34 = .ok (.getfield 145, 3) := by decide +kernel
theorem xd_Mo_add_37 : decode b_Mo_add 37 = .ok (.iload_n 1, 1) := by decide +kernel
theorem xd_Mo_add_38 : decode b_Mo_add 38 = .ok (.iastore, 1) := by decide +kernel
theorem xd_Mo_add_39 : decode b_Mo_add 39 = .ok (.aload_n 0, 1) := by decide +kernel
theorem xd_Mo_add_40 : decode b_Mo_add 40 = .ok (.getfield 38, 3) := by decide +kernel
theorem xd_Mo_add_43 : decode b_Mo_add 43 = .ok (.aload_n 0, 1) := by decide +kernel
theorem xd_Mo_add_44 : decode b_Mo_add 44 = .ok (.getfield 145, 3) := by decide +kernel
theorem xd_Mo_add_47 : decode b_Mo_add 47 = .ok (.iload_n 2, 1) := by decide +kernel
theorem xd_Mo_add_48 : decode b_Mo_add 48 = .ok (.bastore, 1) := by decide +kernel
theorem xd_Mo_add_49 : decode b_Mo_add 49 = .ok (.aload_n 0, 1) := by decide +kernel
theorem xd_Mo_add_50 : decode b_Mo_add 50 = .ok (.getfield 42, 3) := by decide +kernel
theorem xd_Mo_add_53 : decode b_Mo_add 53 = .ok (.aload_n 0, 1) := by decide +kernel
theorem xd_Mo_add_54 : decode b_Mo_add 54 = .ok (.getfield 145, 3) := by decide +kernel
theorem xd_Mo_add_57 : decode b_Mo_add 57 = .ok (.iconst (-1), 1) := by decide +kernel
theorem xd_Mo_add_58 : decode b_Mo_add 58 = .ok (.iastore, 1) := by decide +kernel
theorem xd_Mo_add_59 : decode b_Mo_add 59 = .ok (.aload_n 0, 1) := by decide +kernel
theorem xd_Mo_add_60 : decode b_Mo_add 60 = .ok (.dup, 1) := by decide +kernel
theorem xd_Mo_add_61 : decode b_Mo_add 61 = .ok (.getfield 145, 3) := by decide +kernel
theorem xd_Mo_add_64 : decode b_Mo_add 64 = .ok (.iconst 1, 1) := by decide +kernel
theorem xd_Mo_add_65 : decode b_Mo_add 65 = .ok (.iadd, 1) := by decide +kernel
theorem xd_Mo_add_66 : decode b_Mo_add 66 = .ok (.putfield 145, 3) := by decide +kernel
theorem xd_Mo_add_69 : decode b_Mo_add 69 = .ok (.aload_n 0, 1) := by decide +kernel
theorem xd_Mo_add_70 : decode b_Mo_add 70 = .ok (.aload_n 0, 1) := by decide +kernel
theorem xd_Mo_add_71 : decode b_Mo_add 71 = .ok (.getfield 145, 3) := by decide +kernel
theorem xd_Mo_add_74 : decode b_Mo_add 74 = .ok (.iconst 1, 1) := by decide +kernel
theorem xd_Mo_add_75 : decode b_Mo_add 75 = .ok (.isub, 1) := by decide +kernel
theorem xd_Mo_add_76 : decode b_Mo_add 76 = .ok (.invokevirtual 89, 3) := by decide +kernel
theorem xd_Mo_add_79 : decode b_Mo_add 79 = .ok (.ireturn, 1) := by decide +kernel
abbrev rm_Mo_add : Room := { frames := 2, cells := 0, slots := 0, locals := 42 }
def xw_Mo_add (a1 : Int32) (a2 : Int32) (M : xM) (post : Int32 → xM → Prop) : Prop :=
  xw_Mo_isColour a1 M (fun (r2 : Int32) (M1 : xM) => ((¬ r2 = 0) → (((¬ (M1 9 0 9) = (12 : Int32)) → ((vp_in (M1 9 0 9) 12) ∧ ((a2 &&& 1 = a2) ∧ ((vp_in ((us M1 9 6 (M1 9 0 9).toNatClampNeg a1) 9 0 9) 12) ∧ ((vp_in ((us (us M1 9 6 (M1 9 0 9).toNatClampNeg a1) 9 7 ((us M1 9 6 (M1 9 0 9).toNatClampNeg a1) 9 0 9).toNatClampNeg a2) 9 0 9) 12) ∧ (xw_Mo_ends (((us (us (us (us M1 9 6 (M1 9 0 9).toNatClampNeg a1) 9 7 ((us M1 9 6 (M1 9 0 9).toNatClampNeg a1) 9 0 9).toNatClampNeg a2) 9 8 ((us (us M1 9 6 (M1 9 0 9).toNatClampNeg a1) 9 7 ((us M1 9 6 (M1 9 0 9).toNatClampNeg a1) 9 0 9).toNatClampNeg a2) 9 0 9).toNatClampNeg (-1 : Int32)) 9 0 9 (((us (us (us M1 9 6 (M1 9 0 9).toNatClampNeg a1) 9 7 ((us M1 9 6 (M1 9 0 9).toNatClampNeg a1) 9 0 9).toNatClampNeg a2) 9 8 ((us (us M1 9 6 (M1 9 0 9).toNatClampNeg a1) 9 7 ((us M1 9 6 (M1 9 0 9).toNatClampNeg a1) 9 0 9).toNatClampNeg a2) 9 0 9).toNatClampNeg (-1 : Int32)) 9 0 9) + (1 : Int32))) 9 0 9) - (1 : Int32)) (us (us (us (us M1 9 6 (M1 9 0 9).toNatClampNeg a1) 9 7 ((us M1 9 6 (M1 9 0 9).toNatClampNeg a1) 9 0 9).toNatClampNeg a2) 9 8 ((us (us M1 9 6 (M1 9 0 9).toNatClampNeg a1) 9 7 ((us M1 9 6 (M1 9 0 9).toNatClampNeg a1) 9 0 9).toNatClampNeg a2) 9 0 9).toNatClampNeg (-1 : Int32)) 9 0 9 (((us (us (us M1 9 6 (M1 9 0 9).toNatClampNeg a1) 9 7 ((us M1 9 6 (M1 9 0 9).toNatClampNeg a1) 9 0 9).toNatClampNeg a2) 9 8 ((us (us M1 9 6 (M1 9 0 9).toNatClampNeg a1) 9 7 ((us M1 9 6 (M1 9 0 9).toNatClampNeg a1) 9 0 9).toNatClampNeg a2) 9 0 9).toNatClampNeg (-1 : Int32)) 9 0 9) + (1 : Int32))) (fun (r4 : Int32) (M3 : xM) => post r4 M3))))))) ∧ (((M1 9 0 9) = (12 : Int32)) → (xw_Mo_ends (-5 : Int32) M1 (fun (r6 : Int32) (M5 : xM) => post r6 M5))))) ∧ ((r2 = 0) → (xw_Mo_ends (-1 : Int32) M1 (fun (r8 : Int32) (M7 : xM) => post r8 M7))))
set_option maxHeartbeats 4000000 in
set_option maxRecDepth 100000 in
theorem xc_Mo_add (l : Launch) (G : xG) {a1 : Int32} {a2 : Int32}  {M : xM} {post : Int32 → xM → Prop} (h : xw_Mo_add a1 a2 M post) : Met l y_Mo_add (Cond.code y_Mo_add b_Mo_add 3 (some .int) :: xTG) rm_Mo_add (xPre G M [.ref (G.1 9 0), .int a1, .int a2]) (xPi G post) 0 0 (xA G) := by
  refine xMet (own := R_Mo) [.ref (G.1 9 0), .int a1, .int a2] (Or.inl (by decide)) rfl (Nat.le_of_ble_eq_true rfl) (fun p e s m args below meth c ls hC hr hlk hR hS hl => ?_)
  have hx := hC.1
  have hb := hC.2.1
  have hl : lv_has ls 3 [(0, .ref (G.1 9 0)), (1, .int a1), (2, .int a2)] := hl
  obtain ⟨H, eH⟩ : ∃ H : Heap, H = s.heap := ⟨_, rfl⟩
  obtain ⟨locs, eL⟩ : ∃ locs : List Loc, locs = [] := ⟨_, rfl⟩
  rw [← eH] at hR
  replace hS : va_S (xA G) s.heap H locs := by rw [eH, eL]; exact hS
  suffices hh : W p l e rm_Mo_add s m args below meth c H locs 0 0 (MQ below (xPi G post) args s 0 0 (xA G)) (F0 m 0 ls []) from by rw [eH, eL] at hh; exact hh
  unfold xw_Mo_add at h
  refine lv_iload_n (pc := 0) hx hb xd_Mo_add_0 rfl (lv_at hl 1 rfl) ?_
  refine xr_callS (pc := 1) (As := [.int a1]) (rest := []) hC hR hS (xc_Mo_isColour l G  h) xv_Mo_133 ⟨rfl, rfl, Nat.le_of_ble_eq_true rfl, Nat.le_of_ble_eq_true rfl⟩ rfl hl.1 rfl (Nat.le_of_ble_eq_true rfl) xd_Mo_add_1 (fun r2 M1 H locs h hR hS => ?_)
  refine lv_if_ne (pc := 4) (tgt := 13) hx hb xd_Mo_add_4 (by decide) (fun hq => ?_) (fun hq => ?_)
  · have h := h.1 hq
    refine lv_aload_n (pc := 13) hx hb xd_Mo_add_13 rfl (lv_at hl 0 rfl) ?_
    refine xr_get (pc := 14) (v := .int (M1 9 0 9)) hC hR xo_M0 xf_Mo_145 rfl xd_Mo_add_14 ?_
    refine lv_bipush (pc := 17) (v := (12 : Int32)) hx hb xd_Mo_add_17 (by decide) ?_
    refine lv_icmp_ne (pc := 19) (tgt := 29) hx hb xd_Mo_add_19 (by decide) (fun hq => ?_) (fun hq => ?_)
    · have h := h.1 hq
      refine lv_aload_n (pc := 29) hx hb xd_Mo_add_29 rfl (lv_at hl 0 rfl) ?_
      refine xr_get (pc := 30) (v := .ref (G.1 9 6)) hC hR xo_M0 xf_Mo_35 rfl xd_Mo_add_30 ?_
      refine lv_aload_n (pc := 33) hx hb xd_Mo_add_33 rfl (lv_at hl 0 rfl) ?_
      refine xr_get (pc := 34) (v := .int (M1 9 0 9)) hC hR xo_M0 xf_Mo_145 rfl xd_Mo_add_34 ?_
      refine lv_iload_n (pc := 37) hx hb xd_Mo_add_37 rfl (lv_at hl 1 rfl) ?_
      obtain ⟨hq, h⟩ := h
      refine xr_iast (pc := 38) hC hR hS xo_M6 hq xd_Mo_add_38 (fun H locs hR hS => ?_)
      refine lv_aload_n (pc := 39) hx hb xd_Mo_add_39 rfl (lv_at hl 0 rfl) ?_
      refine xr_get (pc := 40) (v := .ref (G.1 9 7)) hC hR xo_M0 xf_Mo_38 rfl xd_Mo_add_40 ?_
      refine lv_aload_n (pc := 43) hx hb xd_Mo_add_43 rfl (lv_at hl 0 rfl) ?_
      refine xr_get (pc := 44) (v := .int ((us M1 9 6 (M1 9 0 9).toNatClampNeg a1) 9 0 9)) hC hR xo_M0 xf_Mo_145 rfl xd_Mo_add_44 ?_
      refine lv_iload_n (pc := 47) hx hb xd_Mo_add_47 rfl (lv_at hl 2 rfl) ?_
      obtain ⟨hz, h⟩ := h
      obtain ⟨hq, h⟩ := h
      refine xr_zast (pc := 48) hC hR hS xo_M7 hq hz xd_Mo_add_48 (fun H locs hR hS => ?_)
      refine lv_aload_n (pc := 49) hx hb xd_Mo_add_49 rfl (lv_at hl 0 rfl) ?_
      refine xr_get (pc := 50) (v := .ref (G.1 9 8)) hC hR xo_M0 xf_Mo_42 rfl xd_Mo_add_50 ?_
      refine lv_aload_n (pc := 53) hx hb xd_Mo_add_53 rfl (lv_at hl 0 rfl) ?_
      refine xr_get (pc := 54) (v := .int ((us (us M1 9 6 (M1 9 0 9).toNatClampNeg a1) 9 7 ((us M1 9 6 (M1 9 0 9).toNatClampNeg a1) 9 0 9).toNatClampNeg a2) 9 0 9)) hC hR xo_M0 xf_Mo_145 rfl xd_Mo_add_54 ?_
      refine lv_iconst (pc := 57) (v := (-1 : Int32)) hx hb xd_Mo_add_57 (by decide) ?_
      obtain ⟨hq, h⟩ := h
      refine xr_iast (pc := 58) hC hR hS xo_M8 hq xd_Mo_add_58 (fun H locs hR hS => ?_)
      refine lv_aload_n (pc := 59) hx hb xd_Mo_add_59 rfl (lv_at hl 0 rfl) ?_
      refine lv_dup (pc := 60) hx hb xd_Mo_add_60 rfl ?_
      refine xr_get (pc := 61) (v := .int ((us (us (us M1 9 6 (M1 9 0 9).toNatClampNeg a1) 9 7 ((us M1 9 6 (M1 9 0 9).toNatClampNeg a1) 9 0 9).toNatClampNeg a2) 9 8 ((us (us M1 9 6 (M1 9 0 9).toNatClampNeg a1) 9 7 ((us M1 9 6 (M1 9 0 9).toNatClampNeg a1) 9 0 9).toNatClampNeg a2) 9 0 9).toNatClampNeg (-1 : Int32)) 9 0 9)) hC hR xo_M0 xf_Mo_145 rfl xd_Mo_add_61 ?_
      refine lv_iconst (pc := 64) (v := (1 : Int32)) hx hb xd_Mo_add_64 (by decide) ?_
      refine lv_iadd (pc := 65) hx hb xd_Mo_add_65 ?_
      refine xr_put (pc := 66) hC hR hS xo_M0 xf_Mo_145 xp_10_9 rfl rfl rfl xd_Mo_add_66 (fun H locs hR hS => ?_)
      refine lv_aload_n (pc := 69) hx hb xd_Mo_add_69 rfl (lv_at hl 0 rfl) ?_
      refine lv_aload_n (pc := 70) hx hb xd_Mo_add_70 rfl (lv_at hl 0 rfl) ?_
      refine xr_get (pc := 71) (v := .int ((us (us (us (us M1 9 6 (M1 9 0 9).toNatClampNeg a1) 9 7 ((us M1 9 6 (M1 9 0 9).toNatClampNeg a1) 9 0 9).toNatClampNeg a2) 9 8 ((us (us M1 9 6 (M1 9 0 9).toNatClampNeg a1) 9 7 ((us M1 9 6 (M1 9 0 9).toNatClampNeg a1) 9 0 9).toNatClampNeg a2) 9 0 9).toNatClampNeg (-1 : Int32)) 9 0 9 (((us (us (us M1 9 6 (M1 9 0 9).toNatClampNeg a1) 9 7 ((us M1 9 6 (M1 9 0 9).toNatClampNeg a1) 9 0 9).toNatClampNeg a2) 9 8 ((us (us M1 9 6 (M1 9 0 9).toNatClampNeg a1) 9 7 ((us M1 9 6 (M1 9 0 9).toNatClampNeg a1) 9 0 9).toNatClampNeg a2) 9 0 9).toNatClampNeg (-1 : Int32)) 9 0 9) + (1 : Int32))) 9 0 9)) hC hR xo_M0 xf_Mo_145 rfl xd_Mo_add_71 ?_
      refine lv_iconst (pc := 74) (v := (1 : Int32)) hx hb xd_Mo_add_74 (by decide) ?_
      refine lv_isub (pc := 75) hx hb xd_Mo_add_75 ?_
      refine xr_callV (pc := 76) (As := [.int (((us (us (us (us M1 9 6 (M1 9 0 9).toNatClampNeg a1) 9 7 ((us M1 9 6 (M1 9 0 9).toNatClampNeg a1) 9 0 9).toNatClampNeg a2) 9 8 ((us (us M1 9 6 (M1 9 0 9).toNatClampNeg a1) 9 7 ((us M1 9 6 (M1 9 0 9).toNatClampNeg a1) 9 0 9).toNatClampNeg a2) 9 0 9).toNatClampNeg (-1 : Int32)) 9 0 9 (((us (us (us M1 9 6 (M1 9 0 9).toNatClampNeg a1) 9 7 ((us M1 9 6 (M1 9 0 9).toNatClampNeg a1) 9 0 9).toNatClampNeg a2) 9 8 ((us (us M1 9 6 (M1 9 0 9).toNatClampNeg a1) 9 7 ((us M1 9 6 (M1 9 0 9).toNatClampNeg a1) 9 0 9).toNatClampNeg a2) 9 0 9).toNatClampNeg (-1 : Int32)) 9 0 9) + (1 : Int32))) 9 0 9) - (1 : Int32))]) (rest := []) hC hR hS (xc_Mo_ends l G  h) xo_M0 xv_Mo_89 ⟨rfl, rfl, Nat.le_of_ble_eq_true rfl, Nat.le_of_ble_eq_true rfl⟩ rfl hl.1 rfl (Nat.le_of_ble_eq_true rfl) xd_Mo_add_76 (fun r4 M3 H locs h hR hS => ?_)
      exact xr_iret hC hr hlk hR hS h xd_Mo_add_79
    · have h := h.2 hq
      refine lv_aload_n (pc := 22) hx hb xd_Mo_add_22 rfl (lv_at hl 0 rfl) ?_
      refine lv_bipush (pc := 23) (v := (-5 : Int32)) hx hb xd_Mo_add_23 (by decide) ?_
      refine xr_callV (pc := 25) (As := [.int (-5 : Int32)]) (rest := []) hC hR hS (xc_Mo_ends l G  h) xo_M0 xv_Mo_89 ⟨rfl, rfl, Nat.le_of_ble_eq_true rfl, Nat.le_of_ble_eq_true rfl⟩ rfl hl.1 rfl (Nat.le_of_ble_eq_true rfl) xd_Mo_add_25 (fun r6 M5 H locs h hR hS => ?_)
      exact xr_iret hC hr hlk hR hS h xd_Mo_add_28
  · have h := h.2 hq
    refine lv_aload_n (pc := 7) hx hb xd_Mo_add_7 rfl (lv_at hl 0 rfl) ?_
    refine lv_iconst (pc := 8) (v := (-1 : Int32)) hx hb xd_Mo_add_8 (by decide) ?_
    refine xr_callV (pc := 9) (As := [.int (-1 : Int32)]) (rest := []) hC hR hS (xc_Mo_ends l G  h) xo_M0 xv_Mo_89 ⟨rfl, rfl, Nat.le_of_ble_eq_true rfl, Nat.le_of_ble_eq_true rfl⟩ rfl hl.1 rfl (Nat.le_of_ble_eq_true rfl) xd_Mo_add_9 (fun r8 M7 H locs h hR hS => ?_)
    exact xr_iret hC hr hlk hR hS h xd_Mo_add_12
