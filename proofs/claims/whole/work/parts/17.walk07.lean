/-! ColoursApart.sights(I)I -/
theorem xd_CA_sights_0 : decode b_CA_sights 0 = .ok (.iload_n 1, 1) := by decide +kernel
theorem xd_CA_sights_1 : decode b_CA_sights 1 = .ok (.iconst 1, 1) := by decide +kernel
theorem xd_CA_sights_2 : decode b_CA_sights 2 = .ok (.if_icmp .lt 9, 3) := by decide +kernel
theorem xd_CA_sights_5 : decode b_CA_sights 5 = .ok (.iload_n 1, 1) := by decide +kernel
theorem xd_CA_sights_6 : decode b_CA_sights 6 = .ok (.bipush 64, 2) := by decide +kernel
theorem xd_CA_sights_8 : decode b_CA_sights 8 = .ok (.if_icmp .lt 9, 3) := by decide +kernel
theorem xd_CA_sights_11 : decode b_CA_sights 11 = .ok (.aload_n 0, 1) := by decide +kernel
theorem xd_CA_sights_12 : decode b_CA_sights 12 = .ok (.iconst (-1), 1) := by decide +kernel
theorem xd_CA_sights_13 : decode b_CA_sights 13 = .ok (.invokevirtual 67, 3) := by decide +kernel
theorem xd_CA_sights_16 : decode b_CA_sights 16 = .ok (.ireturn, 1) := by decide +kernel
theorem xd_CA_sights_17 : decode b_CA_sights 17 = .ok (.aload_n 0, 1) := by decide +kernel
theorem xd_CA_sights_18 : decode b_CA_sights 18 = .ok (.getfield 10, 3) := by decide +kernel
theorem xd_CA_sights_21 : decode b_CA_sights 21 = .ok (.getfield 97, 3) := by decide +kernel
theorem xd_CA_sights_24 : decode b_CA_sights 24 = .ok (.getfield 120, 3) := by decide +kernel
theorem xd_CA_sights_27 : decode b_CA_sights 27 = .ok (.istore_n 2, 1) := by decide +kernel
theorem xd_CA_sights_28 : decode b_CA_sights 28 = .ok (.aload_n 0, 1) := by decide +kernel
theorem xd_CA_sights_29 : decode b_CA_sights 29 = .ok (.getfield 10, 3) := by decide +kernel
theorem xd_CA_sights_32 : decode b_CA_sights 32 = .ok (.getfield 97, 3) := by decide +kernel
theorem xd_CA_sights_35 : decode b_CA_sights 35 = .ok (.iload_n 1, 1) := by decide +kernel
theorem xd_CA_sights_36 : decode b_CA_sights 36 = .ok (.putfield 120, 3) := by decide +kernel
theorem xd_CA_sights_39 : decode b_CA_sights 39 = .ok (.aload_n 0, 1) := by decide +kernel
theorem xd_CA_sights_40 : decode b_CA_sights 40 = .ok (.iload_n 2, 1) := by decide +kernel
theorem xd_CA_sights_41 : decode b_CA_sights 41 = .ok (.invokevirtual 78, 3) := by decide +kernel
theorem xd_CA_sights_44 : decode b_CA_sights 44 = .ok (.ireturn, 1) := by decide +kernel
abbrev rm_CA_sights : Room := { frames := 1, cells := 0, slots := 0, locals := 21 }
def xw_CA_sights (a1 : Int32) (M : xM) (post : Int32 → xM → Prop) : Prop :=
  xj (fun (J11_0 : xM → Prop) => ((a1 < (1 : Int32)) → (J11_0  M)) ∧ ((¬ a1 < (1 : Int32)) → (((a1 < (64 : Int32)) → (xw_CA_taken (M 0 1 5) (us M 0 1 5 a1) (fun (r6 : Int32) (M5 : xM) => post r6 M5))) ∧ ((¬ a1 < (64 : Int32)) → (J11_0  M))))) (fun (M2 : xM) => xw_CA_refused (-1 : Int32) M2 (fun (r4 : Int32) (M3 : xM) => post r4 M3))
set_option maxHeartbeats 4000000 in
set_option maxRecDepth 100000 in
theorem xc_CA_sights (l : Launch) (G : xG) {a1 : Int32}  {M : xM} {post : Int32 → xM → Prop} (h : xw_CA_sights a1 M post) : Met l y_CA_sights (Cond.code y_CA_sights b_CA_sights 3 (some .int) :: xTG) rm_CA_sights (xPre G M [.ref (G.1 8 0), .int a1]) (xPi G post) 0 0 (xA G) := by
  refine xMet (own := R_CA) [.ref (G.1 8 0), .int a1] (Or.inl (by decide)) rfl (Nat.le_of_ble_eq_true rfl) (fun p e s m args below meth c ls hC hr hlk hR hS hl => ?_)
  have hx := hC.1
  have hb := hC.2.1
  have hl : lv_has ls 3 [(0, .ref (G.1 8 0)), (1, .int a1)] := hl
  obtain ⟨H, eH⟩ : ∃ H : Heap, H = s.heap := ⟨_, rfl⟩
  obtain ⟨locs, eL⟩ : ∃ locs : List Loc, locs = [] := ⟨_, rfl⟩
  rw [← eH] at hR
  replace hS : va_S (xA G) s.heap H locs := by rw [eH, eL]; exact hS
  suffices hh : W p l e rm_CA_sights s m args below meth c H locs 0 0 (MQ below (xPi G post) args s 0 0 (xA G)) (F0 m 0 ls []) from by rw [eH, eL] at hh; exact hh
  unfold xw_CA_sights at h
  refine lv_iload_n (pc := 0) hx hb xd_CA_sights_0 rfl (lv_at hl 1 rfl) ?_
  refine lv_iconst (pc := 1) (v := (1 : Int32)) hx hb xd_CA_sights_1 (by decide) ?_
  obtain ⟨J11_0, eJ11_0, h⟩ := xj_open h
  have kJ11_0 : ∀ (M2 : xM) (H : Heap) (locs : List Loc) (ls : Array Slot), J11_0 M2 → xRp G M2 H → va_S (xA G) s.heap H locs → lv_has ls 3 [(0, .ref (G.1 8 0))] → W p l e rm_CA_sights s m args below meth c H locs 0 0 (MQ below (xPi G post) args s 0 0 (xA G)) (F0 m 11 ls []) := by
    intro M2 H locs ls h hR hS hl
    rw [eJ11_0] at h
    refine lv_aload_n (pc := 11) hx hb xd_CA_sights_11 rfl (lv_at hl 0 rfl) ?_
    refine lv_iconst (pc := 12) (v := (-1 : Int32)) hx hb xd_CA_sights_12 (by decide) ?_
    refine xr_callV (pc := 13) (As := [.int (-1 : Int32)]) (rest := []) hC hR hS (xc_CA_refused l G  h) xo_C0 xv_CA_67 ⟨rfl, rfl, Nat.le_of_ble_eq_true rfl, Nat.le_of_ble_eq_true rfl⟩ rfl hl.1 rfl (Nat.le_of_ble_eq_true rfl) xd_CA_sights_13 (fun r4 M3 H locs h hR hS => ?_)
    exact xr_iret hC hr hlk hR hS h xd_CA_sights_16
  refine lv_icmp_lt (pc := 2) (tgt := 11) hx hb xd_CA_sights_2 (by decide) (fun hq => ?_) (fun hq => ?_)
  · have h := h.1 hq
    exact kJ11_0  M H locs ls h hR hS (lv_sub hl [0] rfl)
  · have h := h.2 hq
    refine lv_iload_n (pc := 5) hx hb xd_CA_sights_5 rfl (lv_at hl 1 rfl) ?_
    refine lv_bipush (pc := 6) (v := (64 : Int32)) hx hb xd_CA_sights_6 (by decide) ?_
    refine lv_icmp_lt (pc := 8) (tgt := 17) hx hb xd_CA_sights_8 (by decide) (fun hq => ?_) (fun hq => ?_)
    · have h := h.1 hq
      refine lv_aload_n (pc := 17) hx hb xd_CA_sights_17 rfl (lv_at hl 0 rfl) ?_
      refine xr_get (pc := 18) (v := .ref (G.1 0 0)) hC hR xo_C0 xf_CA_10 rfl xd_CA_sights_18 ?_
      refine xr_get (pc := 21) (v := .ref (G.1 0 1)) hC hR (xo_K0 xg0) xf_CA_97 rfl xd_CA_sights_21 ?_
      refine xr_get (pc := 24) (v := .int (M 0 1 5)) hC hR (xo_K1 xg0) xf_CA_120 rfl xd_CA_sights_24 ?_
      refine lv_istore_n (pc := 27) (lv' := [(2, .int (M 0 1 5)), (0, .ref (G.1 8 0)), (1, .int a1)]) hx hb xd_CA_sights_27 rfl hl (by decide) rfl (fun ls hl => ?_)
      refine lv_aload_n (pc := 28) hx hb xd_CA_sights_28 rfl (lv_at hl 1 rfl) ?_
      refine xr_get (pc := 29) (v := .ref (G.1 0 0)) hC hR xo_C0 xf_CA_10 rfl xd_CA_sights_29 ?_
      refine xr_get (pc := 32) (v := .ref (G.1 0 1)) hC hR (xo_K0 xg0) xf_CA_97 rfl xd_CA_sights_32 ?_
      refine lv_iload_n (pc := 35) hx hb xd_CA_sights_35 rfl (lv_at hl 2 rfl) ?_
      refine xr_put (pc := 36) hC hR hS (xo_K1 xg0) xf_CA_120 xp_1_5 rfl rfl rfl xd_CA_sights_36 (fun H locs hR hS => ?_)
      refine lv_aload_n (pc := 39) hx hb xd_CA_sights_39 rfl (lv_at hl 1 rfl) ?_
      refine lv_iload_n (pc := 40) hx hb xd_CA_sights_40 rfl (lv_at hl 0 rfl) ?_
      refine xr_callV (pc := 41) (As := [.int (M 0 1 5)]) (rest := []) hC hR hS (xc_CA_taken l G  h) xo_C0 xv_CA_78 ⟨rfl, rfl, Nat.le_of_ble_eq_true rfl, Nat.le_of_ble_eq_true rfl⟩ rfl hl.1 rfl (Nat.le_of_ble_eq_true rfl) xd_CA_sights_41 (fun r6 M5 H locs h hR hS => ?_)
      exact xr_iret hC hr hlk hR hS h xd_CA_sights_44
    · have h := h.2 hq
      exact kJ11_0  M H locs ls h hR hS (lv_sub hl [0] rfl)

/-! ColoursApart.grid(I)I -/
theorem xd_CA_grid_0 : decode b_CA_grid 0 = .ok (.iload_n 1, 1) := by decide +kernel
theorem xd_CA_grid_1 : decode b_CA_grid 1 = .ok (.iconst 2, 1) := by decide +kernel
theorem xd_CA_grid_2 : decode b_CA_grid 2 = .ok (.if_icmp .lt 8, 3) := by decide +kernel
theorem xd_CA_grid_5 : decode b_CA_grid 5 = .ok (.iload_n 1, 1) := by decide +kernel
theorem xd_CA_grid_6 : decode b_CA_grid 6 = .ok (.iconst 4, 1) := by decide +kernel
theorem xd_CA_grid_7 : decode b_CA_grid 7 = .ok (.if_icmp .le 9, 3) := by decide +kernel
theorem xd_CA_grid_10 : decode b_CA_grid 10 = .ok (.aload_n 0, 1) := by decide +kernel
theorem xd_CA_grid_11 : decode b_CA_grid 11 = .ok (.iconst (-1), 1) := by decide +kernel
theorem xd_CA_grid_12 : decode b_CA_grid 12 = .ok (.invokevirtual 67, 3) := by decide +kernel
theorem xd_CA_grid_15 : decode b_CA_grid 15 = .ok (.ireturn, 1) := by decide +kernel
theorem xd_CA_grid_16 : decode b_CA_grid 16 = .ok (.aload_n 0, 1) := by decide +kernel
theorem xd_CA_grid_17 : decode b_CA_grid 17 = .ok (.getfield 10, 3) := by decide +kernel
theorem xd_CA_grid_20 : decode b_CA_grid 20 = .ok (.getfield 125, 3) := by decide +kernel
theorem xd_CA_grid_23 : decode b_CA_grid 23 = .ok (.getfield 129, 3) := by decide +kernel
theorem xd_CA_grid_26 : decode b_CA_grid 26 = .ok (.istore_n 2, 1) := by decide +kernel
theorem xd_CA_grid_27 : decode b_CA_grid 27 = .ok (.aload_n 0, 1) := by decide +kernel
theorem xd_CA_grid_28 : decode b_CA_grid 28 = .ok (.getfield 10, 3) := by decide +kernel
theorem xd_CA_grid_31 : decode b_CA_grid 31 = .ok (.getfield 125, 3) := by decide +kernel
theorem xd_CA_grid_34 : decode b_CA_grid 34 = .ok (.iload_n 1, 1) := by decide +kernel
theorem xd_CA_grid_35 : decode b_CA_grid 35 = .ok (.putfield 129, 3) := by decide +kernel
theorem xd_CA_grid_38 : decode b_CA_grid 38 = .ok (.aload_n 0, 1) := by decide +kernel
theorem xd_CA_grid_39 : decode b_CA_grid 39 = .ok (.iload_n 2, 1) := by decide +kernel
theorem xd_CA_grid_40 : decode b_CA_grid 40 = .ok (.invokevirtual 78, 3) := by decide +kernel
theorem xd_CA_grid_43 : decode b_CA_grid 43 = .ok (.ireturn, 1) := by decide +kernel
abbrev rm_CA_grid : Room := { frames := 1, cells := 0, slots := 0, locals := 21 }
def xw_CA_grid (a1 : Int32) (M : xM) (post : Int32 → xM → Prop) : Prop :=
  xj (fun (J10_0 : xM → Prop) => ((a1 < (2 : Int32)) → (J10_0  M)) ∧ ((¬ a1 < (2 : Int32)) → (((a1 ≤ (4 : Int32)) → (xw_CA_taken (M 0 12 0) (us M 0 12 0 a1) (fun (r6 : Int32) (M5 : xM) => post r6 M5))) ∧ ((¬ a1 ≤ (4 : Int32)) → (J10_0  M))))) (fun (M2 : xM) => xw_CA_refused (-1 : Int32) M2 (fun (r4 : Int32) (M3 : xM) => post r4 M3))
set_option maxHeartbeats 4000000 in
set_option maxRecDepth 100000 in
theorem xc_CA_grid (l : Launch) (G : xG) {a1 : Int32}  {M : xM} {post : Int32 → xM → Prop} (h : xw_CA_grid a1 M post) : Met l y_CA_grid (Cond.code y_CA_grid b_CA_grid 3 (some .int) :: xTG) rm_CA_grid (xPre G M [.ref (G.1 8 0), .int a1]) (xPi G post) 0 0 (xA G) := by
  refine xMet (own := R_CA) [.ref (G.1 8 0), .int a1] (Or.inl (by decide)) rfl (Nat.le_of_ble_eq_true rfl) (fun p e s m args below meth c ls hC hr hlk hR hS hl => ?_)
  have hx := hC.1
  have hb := hC.2.1
  have hl : lv_has ls 3 [(0, .ref (G.1 8 0)), (1, .int a1)] := hl
  obtain ⟨H, eH⟩ : ∃ H : Heap, H = s.heap := ⟨_, rfl⟩
  obtain ⟨locs, eL⟩ : ∃ locs : List Loc, locs = [] := ⟨_, rfl⟩
  rw [← eH] at hR
  replace hS : va_S (xA G) s.heap H locs := by rw [eH, eL]; exact hS
  suffices hh : W p l e rm_CA_grid s m args below meth c H locs 0 0 (MQ below (xPi G post) args s 0 0 (xA G)) (F0 m 0 ls []) from by rw [eH, eL] at hh; exact hh
  unfold xw_CA_grid at h
  refine lv_iload_n (pc := 0) hx hb xd_CA_grid_0 rfl (lv_at hl 1 rfl) ?_
  refine lv_iconst (pc := 1) (v := (2 : Int32)) hx hb xd_CA_grid_1 (by decide) ?_
  obtain ⟨J10_0, eJ10_0, h⟩ := xj_open h
  have kJ10_0 : ∀ (M2 : xM) (H : Heap) (locs : List Loc) (ls : Array Slot), J10_0 M2 → xRp G M2 H → va_S (xA G) s.heap H locs → lv_has ls 3 [(0, .ref (G.1 8 0))] → W p l e rm_CA_grid s m args below meth c H locs 0 0 (MQ below (xPi G post) args s 0 0 (xA G)) (F0 m 10 ls []) := by
    intro M2 H locs ls h hR hS hl
    rw [eJ10_0] at h
    refine lv_aload_n (pc := 10) hx hb xd_CA_grid_10 rfl (lv_at hl 0 rfl) ?_
    refine lv_iconst (pc := 11) (v := (-1 : Int32)) hx hb xd_CA_grid_11 (by decide) ?_
    refine xr_callV (pc := 12) (As := [.int (-1 : Int32)]) (rest := []) hC hR hS (xc_CA_refused l G  h) xo_C0 xv_CA_67 ⟨rfl, rfl, Nat.le_of_ble_eq_true rfl, Nat.le_of_ble_eq_true rfl⟩ rfl hl.1 rfl (Nat.le_of_ble_eq_true rfl) xd_CA_grid_12 (fun r4 M3 H locs h hR hS => ?_)
    exact xr_iret hC hr hlk hR hS h xd_CA_grid_15
  refine lv_icmp_lt (pc := 2) (tgt := 10) hx hb xd_CA_grid_2 (by decide) (fun hq => ?_) (fun hq => ?_)
  · have h := h.1 hq
    exact kJ10_0  M H locs ls h hR hS (lv_sub hl [0] rfl)
  · have h := h.2 hq
    refine lv_iload_n (pc := 5) hx hb xd_CA_grid_5 rfl (lv_at hl 1 rfl) ?_
    refine lv_iconst (pc := 6) (v := (4 : Int32)) hx hb xd_CA_grid_6 (by decide) ?_
    refine lv_icmp_le (pc := 7) (tgt := 16) hx hb xd_CA_grid_7 (by decide) (fun hq => ?_) (fun hq => ?_)
    · have h := h.1 hq
      refine lv_aload_n (pc := 16) hx hb xd_CA_grid_16 rfl (lv_at hl 0 rfl) ?_
      refine xr_get (pc := 17) (v := .ref (G.1 0 0)) hC hR xo_C0 xf_CA_10 rfl xd_CA_grid_17 ?_
      refine xr_get (pc := 20) (v := .ref (G.1 0 12)) hC hR (xo_K0 xg0) xf_CA_125 rfl xd_CA_grid_20 ?_
      refine xr_get (pc := 23) (v := .int (M 0 12 0)) hC hR (xo_K12 xg0) xf_CA_129 rfl xd_CA_grid_23 ?_
      refine lv_istore_n (pc := 26) (lv' := [(2, .int (M 0 12 0)), (0, .ref (G.1 8 0)), (1, .int a1)]) hx hb xd_CA_grid_26 rfl hl (by decide) rfl (fun ls hl => ?_)
      refine lv_aload_n (pc := 27) hx hb xd_CA_grid_27 rfl (lv_at hl 1 rfl) ?_
      refine xr_get (pc := 28) (v := .ref (G.1 0 0)) hC hR xo_C0 xf_CA_10 rfl xd_CA_grid_28 ?_
      refine xr_get (pc := 31) (v := .ref (G.1 0 12)) hC hR (xo_K0 xg0) xf_CA_125 rfl xd_CA_grid_31 ?_
      refine lv_iload_n (pc := 34) hx hb xd_CA_grid_34 rfl (lv_at hl 2 rfl) ?_
      refine xr_put (pc := 35) hC hR hS (xo_K12 xg0) xf_CA_129 xp_2_0 rfl rfl rfl xd_CA_grid_35 (fun H locs hR hS => ?_)
      refine lv_aload_n (pc := 38) hx hb xd_CA_grid_38 rfl (lv_at hl 1 rfl) ?_
      refine lv_iload_n (pc := 39) hx hb xd_CA_grid_39 rfl (lv_at hl 0 rfl) ?_
      refine xr_callV (pc := 40) (As := [.int (M 0 12 0)]) (rest := []) hC hR hS (xc_CA_taken l G  h) xo_C0 xv_CA_78 ⟨rfl, rfl, Nat.le_of_ble_eq_true rfl, Nat.le_of_ble_eq_true rfl⟩ rfl hl.1 rfl (Nat.le_of_ble_eq_true rfl) xd_CA_grid_40 (fun r6 M5 H locs h hR hS => ?_)
      exact xr_iret hC hr hlk hR hS h xd_CA_grid_43
    · have h := h.2 hq
      exact kJ10_0  M H locs ls h hR hS (lv_sub hl [0] rfl)

/-! ColoursApart.place(I)I -/
theorem xd_CA_place_0 : decode b_CA_place 0 = .ok (.iload_n 1, 1) := by decide +kernel
theorem xd_CA_place_1 : decode b_CA_place 1 = .ok (.ifCond .lt 31, 3) := by decide +kernel
theorem xd_CA_place_4 : decode b_CA_place 4 = .ok (.iload_n 1, 1) := by decide +kernel
theorem xd_CA_place_5 : decode b_CA_place 5 = .ok (.aload_n 0, 1) := by decide +kernel
theorem xd_CA_place_6 : decode b_CA_place 6 = .ok (.getfield 10, 3) := by decide +kernel
theorem xd_CA_place_9 : decode b_CA_place 9 = .ok (.getfield 125, 3) := by decide +kernel
theorem xd_CA_place_12 : decode b_CA_place 12 = .ok (.invokevirtual 132, 3) := by decide +kernel
theorem xd_CA_place_15 : decode b_CA_place 15 = .ok (.if_icmp .ge 17, 3) := by decide +kernel
theorem xd_CA_place_18 : decode b_CA_place 18 = .ok (.aload_n 0, 1) := by decide +kernel
theorem xd_CA_place_19 : decode b_CA_place 19 = .ok (.getfield 10, 3) := by decide +kernel
theorem xd_CA_place_22 : decode b_CA_place 22 = .ok (.getfield 125, 3) := by decide +kernel
theorem xd_CA_place_25 : decode b_CA_place 25 = .ok (.iload_n 1, 1) := by decide +kernel
theorem xd_CA_place_26 : decode b_CA_place 26 = .ok (.invokevirtual 136, 3) := by decide +kernel
theorem xd_CA_place_29 : decode b_CA_place 29 = .ok (.goto 4, 3) := by decide +kernel
theorem xd_CA_place_32 : decode b_CA_place 32 = .ok (.iconst (-1), 1) := by decide +kernel
theorem xd_CA_place_33 : decode b_CA_place 33 = .ok (.ireturn, 1) := by decide +kernel
abbrev rm_CA_place : Room := { frames := 3, cells := 0, slots := 0, locals := 67 }
def xw_CA_place (a1 : Int32) (M : xM) (post : Int32 → xM → Prop) : Prop :=
  ((a1 < 0) → (post (-1 : Int32) M)) ∧ ((¬ a1 < 0) → (xw_Gr_places 0 M (fun (r2 : Int32) (M1 : xM) => ((r2 ≤ a1) → (post (-1 : Int32) M1)) ∧ ((¬ r2 ≤ a1) → (xw_Gr_colourAt 0 a1 M1 (fun (r4 : Int32) (M3 : xM) => post r4 M3))))))
set_option maxHeartbeats 4000000 in
set_option maxRecDepth 100000 in
theorem xc_CA_place (l : Launch) (G : xG) {a1 : Int32}  {M : xM} {post : Int32 → xM → Prop} (h : xw_CA_place a1 M post) : Met l y_CA_place (Cond.code y_CA_place b_CA_place 2 (some .int) :: xTG) rm_CA_place (xPre G M [.ref (G.1 8 0), .int a1]) (xPi G post) 0 0 (xA G) := by
  refine xMet (own := R_CA) [.ref (G.1 8 0), .int a1] (Or.inl (by decide)) rfl (Nat.le_of_ble_eq_true rfl) (fun p e s m args below meth c ls hC hr hlk hR hS hl => ?_)
  have hx := hC.1
  have hb := hC.2.1
  have hl : lv_has ls 2 [(0, .ref (G.1 8 0)), (1, .int a1)] := hl
  obtain ⟨H, eH⟩ : ∃ H : Heap, H = s.heap := ⟨_, rfl⟩
  obtain ⟨locs, eL⟩ : ∃ locs : List Loc, locs = [] := ⟨_, rfl⟩
  rw [← eH] at hR
  replace hS : va_S (xA G) s.heap H locs := by rw [eH, eL]; exact hS
  suffices hh : W p l e rm_CA_place s m args below meth c H locs 0 0 (MQ below (xPi G post) args s 0 0 (xA G)) (F0 m 0 ls []) from by rw [eH, eL] at hh; exact hh
  unfold xw_CA_place at h
  refine lv_iload_n (pc := 0) hx hb xd_CA_place_0 rfl (lv_at hl 1 rfl) ?_
  refine lv_if_lt (pc := 1) (tgt := 32) hx hb xd_CA_place_1 (by decide) (fun hq => ?_) (fun hq => ?_)
  · have h := h.1 hq
    refine lv_iconst (pc := 32) (v := (-1 : Int32)) hx hb xd_CA_place_32 (by decide) ?_
    exact xr_iret hC hr hlk hR hS h xd_CA_place_33
  · have h := h.2 hq
    refine lv_iload_n (pc := 4) hx hb xd_CA_place_4 rfl (lv_at hl 1 rfl) ?_
    refine lv_aload_n (pc := 5) hx hb xd_CA_place_5 rfl (lv_at hl 0 rfl) ?_
    refine xr_get (pc := 6) (v := .ref (G.1 0 0)) hC hR xo_C0 xf_CA_10 rfl xd_CA_place_6 ?_
    refine xr_get (pc := 9) (v := .ref (G.1 0 12)) hC hR (xo_K0 xg0) xf_CA_125 rfl xd_CA_place_9 ?_
    refine xr_callV (pc := 12) (As := []) (rest := [.int a1]) hC hR hS (xc_Gr_places l G xg0 h) (xo_K12 xg0) xv_CA_132 ⟨rfl, rfl, Nat.le_of_ble_eq_true rfl, Nat.le_of_ble_eq_true rfl⟩ rfl hl.1 rfl (Nat.le_of_ble_eq_true rfl) xd_CA_place_12 (fun r2 M1 H locs h hR hS => ?_)
    refine lv_icmp_ge (pc := 15) (tgt := 32) hx hb xd_CA_place_15 (by decide) (fun hq => ?_) (fun hq => ?_)
    · have h := h.1 hq
      refine lv_iconst (pc := 32) (v := (-1 : Int32)) hx hb xd_CA_place_32 (by decide) ?_
      exact xr_iret hC hr hlk hR hS h xd_CA_place_33
    · have h := h.2 hq
      refine lv_aload_n (pc := 18) hx hb xd_CA_place_18 rfl (lv_at hl 0 rfl) ?_
      refine xr_get (pc := 19) (v := .ref (G.1 0 0)) hC hR xo_C0 xf_CA_10 rfl xd_CA_place_19 ?_
      refine xr_get (pc := 22) (v := .ref (G.1 0 12)) hC hR (xo_K0 xg0) xf_CA_125 rfl xd_CA_place_22 ?_
      refine lv_iload_n (pc := 25) hx hb xd_CA_place_25 rfl (lv_at hl 1 rfl) ?_
      refine xr_callV (pc := 26) (As := [.int a1]) (rest := []) hC hR hS (xc_Gr_colourAt l G xg0 h) (xo_K12 xg0) xv_CA_136 ⟨rfl, rfl, Nat.le_of_ble_eq_true rfl, Nat.le_of_ble_eq_true rfl⟩ rfl hl.1 rfl (Nat.le_of_ble_eq_true rfl) xd_CA_place_26 (fun r4 M3 H locs h hR hS => ?_)
      refine lv_goto (pc := 29) (tgt := 33) hx hb xd_CA_place_29 (by decide) ?_
      exact xr_iret hC hr hlk hR hS h xd_CA_place_33

/-! ColoursApart.isSight(I)Z -/
theorem xd_CA_isSight_0 : decode b_CA_isSight 0 = .ok (.iload_n 0, 1) := by decide +kernel
theorem xd_CA_isSight_1 : decode b_CA_isSight 1 = .ok (.ifCond .lt 13, 3) := by decide +kernel
theorem xd_CA_isSight_4 : decode b_CA_isSight 4 = .ok (.iload_n 0, 1) := by decide +kernel
theorem xd_CA_isSight_5 : decode b_CA_isSight 5 = .ok (.bipush 6, 2) := by decide +kernel
theorem xd_CA_isSight_7 : decode b_CA_isSight 7 = .ok (.if_icmp .ge 7, 3) := by decide +kernel
theorem xd_CA_isSight_10 : decode b_CA_isSight 10 = .ok (.iconst 1, 1) := by decide +kernel
theorem xd_CA_isSight_11 : decode b_CA_isSight 11 = .ok (.goto 4, 3) := by decide +kernel
theorem xd_CA_isSight_14 : decode b_CA_isSight 14 = .ok (.iconst 0, 1) := by decide +kernel
theorem xd_CA_isSight_15 : decode b_CA_isSight 15 = .ok (.ireturn, 1) := by decide +kernel
abbrev rm_CA_isSight : Room := { frames := 0, cells := 0, slots := 0, locals := 0 }
def xw_CA_isSight (a0 : Int32) (M : xM) (post : Int32 → xM → Prop) : Prop :=
  ((a0 < 0) → (post (0 : Int32) M)) ∧ ((¬ a0 < 0) → ((((6 : Int32) ≤ a0) → (post (0 : Int32) M)) ∧ ((¬ (6 : Int32) ≤ a0) → (post (1 : Int32) M))))
set_option maxHeartbeats 4000000 in
set_option maxRecDepth 100000 in
theorem xc_CA_isSight (l : Launch) (G : xG) {a0 : Int32}  {M : xM} {post : Int32 → xM → Prop} (h : xw_CA_isSight a0 M post) : Met l y_CA_isSight (Cond.code y_CA_isSight b_CA_isSight 1 (some .boolean) :: xTG) rm_CA_isSight (xPre G M [.int a0]) (xPi G post) 0 0 (xA G) := by
  refine xMet (own := R_CA) [.int a0] (Or.inl (by decide)) rfl (Nat.le_of_ble_eq_true rfl) (fun p e s m args below meth c ls hC hr hlk hR hS hl => ?_)
  have hx := hC.1
  have hb := hC.2.1
  have hl : lv_has ls 1 [(0, .int a0)] := hl
  obtain ⟨H, eH⟩ : ∃ H : Heap, H = s.heap := ⟨_, rfl⟩
  obtain ⟨locs, eL⟩ : ∃ locs : List Loc, locs = [] := ⟨_, rfl⟩
  rw [← eH] at hR
  replace hS : va_S (xA G) s.heap H locs := by rw [eH, eL]; exact hS
  suffices hh : W p l e rm_CA_isSight s m args below meth c H locs 0 0 (MQ below (xPi G post) args s 0 0 (xA G)) (F0 m 0 ls []) from by rw [eH, eL] at hh; exact hh
  unfold xw_CA_isSight at h
  refine lv_iload_n (pc := 0) hx hb xd_CA_isSight_0 rfl (lv_at hl 0 rfl) ?_
  refine lv_if_lt (pc := 1) (tgt := 14) hx hb xd_CA_isSight_1 (by decide) (fun hq => ?_) (fun hq => ?_)
  · have h := h.1 hq
    refine lv_iconst (pc := 14) (v := (0 : Int32)) hx hb xd_CA_isSight_14 (by decide) ?_
    exact xr_zret hC hr hlk hR hS (by decide) h xd_CA_isSight_15
  · have h := h.2 hq
    refine lv_iload_n (pc := 4) hx hb xd_CA_isSight_4 rfl (lv_at hl 0 rfl) ?_
    refine lv_bipush (pc := 5) (v := (6 : Int32)) hx hb xd_CA_isSight_5 (by decide) ?_
    refine lv_icmp_ge (pc := 7) (tgt := 14) hx hb xd_CA_isSight_7 (by decide) (fun hq => ?_) (fun hq => ?_)
    · have h := h.1 hq
      refine lv_iconst (pc := 14) (v := (0 : Int32)) hx hb xd_CA_isSight_14 (by decide) ?_
      exact xr_zret hC hr hlk hR hS (by decide) h xd_CA_isSight_15
    · have h := h.2 hq
      refine lv_iconst (pc := 10) (v := (1 : Int32)) hx hb xd_CA_isSight_10 (by decide) ?_
      refine lv_goto (pc := 11) (tgt := 15) hx hb xd_CA_isSight_11 (by decide) ?_
      exact xr_zret hC hr hlk hR hS (by decide) h xd_CA_isSight_15

/-! ColoursApart.seen(II)I -/
theorem xd_CA_seen_0 : decode b_CA_seen 0 = .ok (.iload_n 1, 1) := by decide +kernel
theorem xd_CA_seen_1 : decode b_CA_seen 1 = .ok (.invokestatic 139, 3) := by decide +kernel
theorem xd_CA_seen_4 : decode b_CA_seen 4 = .ok (.ifCond .eq 25, 3) := by decide +kernel
theorem xd_CA_seen_7 : decode b_CA_seen 7 = .ok (.iload_n 2, 1) := by decide +kernel
theorem xd_CA_seen_8 : decode b_CA_seen 8 = .ok (.invokestatic 142, 3) := by decide +kernel
theorem xd_CA_seen_11 : decode b_CA_seen 11 = .ok (.ifCond .eq 18, 3) := by decide +kernel
theorem xd_CA_seen_14 : decode b_CA_seen 14 = .ok (.aload_n 0, 1) := by decide +kernel
theorem xd_CA_seen_15 : decode b_CA_seen 15 = .ok (.getfield 10, 3) := by decide +kernel
theorem xd_CA_seen_18 : decode b_CA_seen 18 = .ok (.getfield 97, 3) := by decide +kernel
theorem xd_CA_seen_21 : decode b_CA_seen 21 = .ok (.iload_n 1, 1) := by decide +kernel
theorem xd_CA_seen_22 : decode b_CA_seen 22 = .ok (.iload_n 2, 1) := by decide +kernel
theorem xd_CA_seen_23 : decode b_CA_seen 23 = .ok (.invokevirtual 147, 3) := by decide +kernel
theorem xd_CA_seen_26 : decode b_CA_seen 26 = .ok (.goto 4, 3) := by decide +kernel
theorem xd_CA_seen_29 : decode b_CA_seen 29 = .ok (.iconst (-1), 1) := by decide +kernel
theorem xd_CA_seen_30 : decode b_CA_seen 30 = .ok (.ireturn, 1) := by decide +kernel
abbrev rm_CA_seen : Room := { frames := 3, cells := 0, slots := 0, locals := 70 }
def xw_CA_seen (a1 : Int32) (a2 : Int32) (M : xM) (post : Int32 → xM → Prop) : Prop :=
  xw_CA_isSight a1 M (fun (r2 : Int32) (M1 : xM) => ((r2 = 0) → (post (-1 : Int32) M1)) ∧ ((¬ r2 = 0) → (xw_Rg_isColour a2 M1 (fun (r4 : Int32) (M3 : xM) => ((r4 = 0) → (post (-1 : Int32) M3)) ∧ ((¬ r4 = 0) → (xw_Ey_look 0 a1 a2 M3 (fun (r6 : Int32) (M5 : xM) => post r6 M5)))))))
set_option maxHeartbeats 4000000 in
set_option maxRecDepth 100000 in
theorem xc_CA_seen (l : Launch) (G : xG) {a1 : Int32} {a2 : Int32}  {M : xM} {post : Int32 → xM → Prop} (h : xw_CA_seen a1 a2 M post) : Met l y_CA_seen (Cond.code y_CA_seen b_CA_seen 3 (some .int) :: xTG) rm_CA_seen (xPre G M [.ref (G.1 8 0), .int a1, .int a2]) (xPi G post) 0 0 (xA G) := by
  refine xMet (own := R_CA) [.ref (G.1 8 0), .int a1, .int a2] (Or.inl (by decide)) rfl (Nat.le_of_ble_eq_true rfl) (fun p e s m args below meth c ls hC hr hlk hR hS hl => ?_)
  have hx := hC.1
  have hb := hC.2.1
  have hl : lv_has ls 3 [(0, .ref (G.1 8 0)), (1, .int a1), (2, .int a2)] := hl
  obtain ⟨H, eH⟩ : ∃ H : Heap, H = s.heap := ⟨_, rfl⟩
  obtain ⟨locs, eL⟩ : ∃ locs : List Loc, locs = [] := ⟨_, rfl⟩
  rw [← eH] at hR
  replace hS : va_S (xA G) s.heap H locs := by rw [eH, eL]; exact hS
  suffices hh : W p l e rm_CA_seen s m args below meth c H locs 0 0 (MQ below (xPi G post) args s 0 0 (xA G)) (F0 m 0 ls []) from by rw [eH, eL] at hh; exact hh
  unfold xw_CA_seen at h
  refine lv_iload_n (pc := 0) hx hb xd_CA_seen_0 rfl (lv_at hl 1 rfl) ?_
  refine xr_callS (pc := 1) (As := [.int a1]) (rest := []) hC hR hS (xc_CA_isSight l G  h) xv_CA_139 ⟨rfl, rfl, Nat.le_of_ble_eq_true rfl, Nat.le_of_ble_eq_true rfl⟩ rfl hl.1 rfl (Nat.le_of_ble_eq_true rfl) xd_CA_seen_1 (fun r2 M1 H locs h hR hS => ?_)
  refine lv_if_eq (pc := 4) (tgt := 29) hx hb xd_CA_seen_4 (by decide) (fun hq => ?_) (fun hq => ?_)
  · have h := h.1 hq
    refine lv_iconst (pc := 29) (v := (-1 : Int32)) hx hb xd_CA_seen_29 (by decide) ?_
    exact xr_iret hC hr hlk hR hS h xd_CA_seen_30
  · have h := h.2 hq
    refine lv_iload_n (pc := 7) hx hb xd_CA_seen_7 rfl (lv_at hl 2 rfl) ?_
    refine xr_callS (pc := 8) (As := [.int a2]) (rest := []) hC hR hS (xc_Rg_isColour l G  h) xv_CA_142 ⟨rfl, rfl, Nat.le_of_ble_eq_true rfl, Nat.le_of_ble_eq_true rfl⟩ rfl hl.1 rfl (Nat.le_of_ble_eq_true rfl) xd_CA_seen_8 (fun r4 M3 H locs h hR hS => ?_)
    refine lv_if_eq (pc := 11) (tgt := 29) hx hb xd_CA_seen_11 (by decide) (fun hq => ?_) (fun hq => ?_)
    · have h := h.1 hq
      refine lv_iconst (pc := 29) (v := (-1 : Int32)) hx hb xd_CA_seen_29 (by decide) ?_
      exact xr_iret hC hr hlk hR hS h xd_CA_seen_30
    · have h := h.2 hq
      refine lv_aload_n (pc := 14) hx hb xd_CA_seen_14 rfl (lv_at hl 0 rfl) ?_
      refine xr_get (pc := 15) (v := .ref (G.1 0 0)) hC hR xo_C0 xf_CA_10 rfl xd_CA_seen_15 ?_
      refine xr_get (pc := 18) (v := .ref (G.1 0 1)) hC hR (xo_K0 xg0) xf_CA_97 rfl xd_CA_seen_18 ?_
      refine lv_iload_n (pc := 21) hx hb xd_CA_seen_21 rfl (lv_at hl 1 rfl) ?_
      refine lv_iload_n (pc := 22) hx hb xd_CA_seen_22 rfl (lv_at hl 2 rfl) ?_
      refine xr_callV (pc := 23) (As := [.int a1, .int a2]) (rest := []) hC hR hS (xc_Ey_look l G xg0 h) (xo_K1 xg0) xv_CA_147 ⟨rfl, rfl, Nat.le_of_ble_eq_true rfl, Nat.le_of_ble_eq_true rfl⟩ rfl hl.1 rfl (Nat.le_of_ble_eq_true rfl) xd_CA_seen_23 (fun r6 M5 H locs h hR hS => ?_)
      refine lv_goto (pc := 26) (tgt := 30) hx hb xd_CA_seen_26 (by decide) ?_
      exact xr_iret hC hr hlk hR hS h xd_CA_seen_30

/-! ColoursApart.light(I)I -/
theorem xd_CA_light_0 : decode b_CA_light 0 = .ok (.iload_n 1, 1) := by decide +kernel
theorem xd_CA_light_1 : decode b_CA_light 1 = .ok (.invokestatic 142, 3) := by decide +kernel
theorem xd_CA_light_4 : decode b_CA_light 4 = .ok (.ifCond .eq 10, 3) := by decide +kernel
theorem xd_CA_light_7 : decode b_CA_light 7 = .ok (.iload_n 1, 1) := by decide +kernel
theorem xd_CA_light_8 : decode b_CA_light 8 = .ok (.invokestatic 151, 3) := by decide +kernel
theorem xd_CA_light_11 : decode b_CA_light 11 = .ok (.goto 4, 3) := by decide +kernel
theorem xd_CA_light_14 : decode b_CA_light 14 = .ok (.iconst (-1), 1) := by decide +kernel
theorem xd_CA_light_15 : decode b_CA_light 15 = .ok (.ireturn, 1) := by decide +kernel
abbrev rm_CA_light : Room := { frames := 2, cells := 0, slots := 0, locals := 40 }
def xw_CA_light (a1 : Int32) (M : xM) (post : Int32 → xM → Prop) : Prop :=
  xw_Rg_isColour a1 M (fun (r2 : Int32) (M1 : xM) => ((r2 = 0) → (post (-1 : Int32) M1)) ∧ ((¬ r2 = 0) → (xw_Rg_lightOf a1 M1 (fun (r4 : Int32) (M3 : xM) => post r4 M3))))
set_option maxHeartbeats 4000000 in
set_option maxRecDepth 100000 in
theorem xc_CA_light (l : Launch) (G : xG) {a1 : Int32}  {M : xM} {post : Int32 → xM → Prop} (h : xw_CA_light a1 M post) : Met l y_CA_light (Cond.code y_CA_light b_CA_light 2 (some .int) :: xTG) rm_CA_light (xPre G M [.ref (G.1 8 0), .int a1]) (xPi G post) 0 0 (xA G) := by
  refine xMet (own := R_CA) [.ref (G.1 8 0), .int a1] (Or.inl (by decide)) rfl (Nat.le_of_ble_eq_true rfl) (fun p e s m args below meth c ls hC hr hlk hR hS hl => ?_)
  have hx := hC.1
  have hb := hC.2.1
  have hl : lv_has ls 2 [(0, .ref (G.1 8 0)), (1, .int a1)] := hl
  obtain ⟨H, eH⟩ : ∃ H : Heap, H = s.heap := ⟨_, rfl⟩
  obtain ⟨locs, eL⟩ : ∃ locs : List Loc, locs = [] := ⟨_, rfl⟩
  rw [← eH] at hR
  replace hS : va_S (xA G) s.heap H locs := by rw [eH, eL]; exact hS
  suffices hh : W p l e rm_CA_light s m args below meth c H locs 0 0 (MQ below (xPi G post) args s 0 0 (xA G)) (F0 m 0 ls []) from by rw [eH, eL] at hh; exact hh
  unfold xw_CA_light at h
  refine lv_iload_n (pc := 0) hx hb xd_CA_light_0 rfl (lv_at hl 1 rfl) ?_
  refine xr_callS (pc := 1) (As := [.int a1]) (rest := []) hC hR hS (xc_Rg_isColour l G  h) xv_CA_142 ⟨rfl, rfl, Nat.le_of_ble_eq_true rfl, Nat.le_of_ble_eq_true rfl⟩ rfl hl.1 rfl (Nat.le_of_ble_eq_true rfl) xd_CA_light_1 (fun r2 M1 H locs h hR hS => ?_)
  refine lv_if_eq (pc := 4) (tgt := 14) hx hb xd_CA_light_4 (by decide) (fun hq => ?_) (fun hq => ?_)
  · have h := h.1 hq
    refine lv_iconst (pc := 14) (v := (-1 : Int32)) hx hb xd_CA_light_14 (by decide) ?_
    exact xr_iret hC hr hlk hR hS h xd_CA_light_15
  · have h := h.2 hq
    refine lv_iload_n (pc := 7) hx hb xd_CA_light_7 rfl (lv_at hl 1 rfl) ?_
    refine xr_callS (pc := 8) (As := [.int a1]) (rest := []) hC hR hS (xc_Rg_lightOf l G  h) xv_CA_151 ⟨rfl, rfl, Nat.le_of_ble_eq_true rfl, Nat.le_of_ble_eq_true rfl⟩ rfl hl.1 rfl (Nat.le_of_ble_eq_true rfl) xd_CA_light_8 (fun r4 M3 H locs h hR hS => ?_)
    refine lv_goto (pc := 11) (tgt := 15) hx hb xd_CA_light_11 (by decide) ?_
    exact xr_iret hC hr hlk hR hS h xd_CA_light_15

/-! ColoursApart.distance(III)I -/
theorem xd_CA_distance_0 : decode b_CA_distance 0 = .ok (.iload_n 1, 1) := by decide +kernel
theorem xd_CA_distance_1 : decode b_CA_distance 1 = .ok (.invokestatic 139, 3) := by decide +kernel
theorem xd_CA_distance_4 : decode b_CA_distance 4 = .ok (.ifCond .eq 17, 3) := by decide +kernel
theorem xd_CA_distance_7 : decode b_CA_distance 7 = .ok (.iload_n 2, 1) := by decide +kernel
theorem xd_CA_distance_8 : decode b_CA_distance 8 = .ok (.invokestatic 142, 3) := by decide +kernel
theorem xd_CA_distance_11 : decode b_CA_distance 11 = .ok (.ifCond .eq 10, 3) := by decide +kernel
theorem xd_CA_distance_14 : decode b_CA_distance 14 = .ok (.iload_n 3, 1) := by decide +kernel
theorem xd_CA_distance_15 : decode b_CA_distance 15 = .ok (.invokestatic 142, 3) := by decide +kernel
theorem xd_CA_distance_18 : decode b_CA_distance 18 = .ok (.ifCond .ne 5, 3) := by decide +kernel
theorem xd_CA_distance_21 : decode b_CA_distance 21 = .ok (.iconst (-1), 1) := by decide +kernel
theorem xd_CA_distance_22 : decode b_CA_distance 22 = .ok (.ireturn, 1) := by decide +kernel
theorem xd_CA_distance_23 : decode b_CA_distance 23 = .ok (.aload_n 0, 1) := by decide +kernel
theorem xd_CA_distance_24 : decode b_CA_distance 24 = .ok (.getfield 10, 3) := by decide +kernel
theorem xd_CA_distance_27 : decode b_CA_distance 27 = .ok (.getfield 97, 3) := by decide +kernel
theorem xd_CA_distance_30 : decode b_CA_distance 30 = .ok (.aload_n 0, 1) := by decide +kernel
theorem xd_CA_distance_31 : decode b_CA_distance 31 = .ok (.getfield 10, 3) := by decide +kernel
theorem xd_CA_distance_34 : decode b_CA_distance 34 = .ok (.getfield 97, 3) := by decide +kernel
theorem xd_CA_distance_37 : decode b_CA_distance 37 = .ok (.iload_n 1, 1) := by decide +kernel
theorem xd_CA_distance_38 : decode b_CA_distance 38 = .ok (.iload_n 2, 1) := by decide +kernel
theorem xd_CA_distance_39 : decode b_CA_distance 39 = .ok (.invokevirtual 147, 3) := by decide +kernel
theorem xd_CA_distance_42 : decode b_CA_distance 42 = .ok (.aload_n 0, 1) := by decide +kernel
theorem xd_CA_distance_43 : decode b_CA_distance 43 = .ok (.getfield 10, 3) := by decide +kernel
theorem xd_CA_distance_46 : decode b_CA_distance 46 = .ok (.getfield 97, 3) := by decide +kernel
theorem xd_CA_distance_49 : decode b_CA_distance 49 = .ok (.iload_n 1, 1) := by decide +kernel
theorem xd_CA_distance_50 : decode b_CA_distance 50 = .ok (.iload_n 3, 1) := by decide +kernel
theorem xd_CA_distance_51 : decode b_CA_distance 51 = .ok (.invokevirtual 147, 3) := by decide +kernel
theorem xd_CA_distance_54 : decode b_CA_distance 54 = .ok (.invokevirtual 154, 3) := by decide +kernel
theorem xd_CA_distance_57 : decode b_CA_distance 57 = .ok (.ireturn, 1) := by decide +kernel
abbrev rm_CA_distance : Room := { frames := 3, cells := 0, slots := 0, locals := 70 }
def xw_CA_distance (a1 : Int32) (a2 : Int32) (a3 : Int32) (M : xM) (post : Int32 → xM → Prop) : Prop :=
  xw_CA_isSight a1 M (fun (r2 : Int32) (M1 : xM) => ((r2 = 0) → (post (-1 : Int32) M1)) ∧ ((¬ r2 = 0) → (xw_Rg_isColour a2 M1 (fun (r4 : Int32) (M3 : xM) => ((r4 = 0) → (post (-1 : Int32) M3)) ∧ ((¬ r4 = 0) → (xw_Rg_isColour a3 M3 (fun (r6 : Int32) (M5 : xM) => ((¬ r6 = 0) → (xw_Ey_look 0 a1 a2 M5 (fun (r8 : Int32) (M7 : xM) => xw_Ey_look 0 a1 a3 M7 (fun (r10 : Int32) (M9 : xM) => xw_Ey_weighed 0 r8 r10 M9 (fun (r12 : Int32) (M11 : xM) => post r12 M11))))) ∧ ((r6 = 0) → (post (-1 : Int32) M5)))))))))
set_option maxHeartbeats 4000000 in
set_option maxRecDepth 100000 in
theorem xc_CA_distance (l : Launch) (G : xG) {a1 : Int32} {a2 : Int32} {a3 : Int32}  {M : xM} {post : Int32 → xM → Prop} (h : xw_CA_distance a1 a2 a3 M post) : Met l y_CA_distance (Cond.code y_CA_distance b_CA_distance 4 (some .int) :: xTG) rm_CA_distance (xPre G M [.ref (G.1 8 0), .int a1, .int a2, .int a3]) (xPi G post) 0 0 (xA G) := by
  refine xMet (own := R_CA) [.ref (G.1 8 0), .int a1, .int a2, .int a3] (Or.inl (by decide)) rfl (Nat.le_of_ble_eq_true rfl) (fun p e s m args below meth c ls hC hr hlk hR hS hl => ?_)
  have hx := hC.1
  have hb := hC.2.1
  have hl : lv_has ls 4 [(0, .ref (G.1 8 0)), (1, .int a1), (2, .int a2), (3, .int a3)] := hl
  obtain ⟨H, eH⟩ : ∃ H : Heap, H = s.heap := ⟨_, rfl⟩
  obtain ⟨locs, eL⟩ : ∃ locs : List Loc, locs = [] := ⟨_, rfl⟩
  rw [← eH] at hR
  replace hS : va_S (xA G) s.heap H locs := by rw [eH, eL]; exact hS
  suffices hh : W p l e rm_CA_distance s m args below meth c H locs 0 0 (MQ below (xPi G post) args s 0 0 (xA G)) (F0 m 0 ls []) from by rw [eH, eL] at hh; exact hh
  unfold xw_CA_distance at h
  refine lv_iload_n (pc := 0) hx hb xd_CA_distance_0 rfl (lv_at hl 1 rfl) ?_
  refine xr_callS (pc := 1) (As := [.int a1]) (rest := []) hC hR hS (xc_CA_isSight l G  h) xv_CA_139 ⟨rfl, rfl, Nat.le_of_ble_eq_true rfl, Nat.le_of_ble_eq_true rfl⟩ rfl hl.1 rfl (Nat.le_of_ble_eq_true rfl) xd_CA_distance_1 (fun r2 M1 H locs h hR hS => ?_)
  refine lv_if_eq (pc := 4) (tgt := 21) hx hb xd_CA_distance_4 (by decide) (fun hq => ?_) (fun hq => ?_)
  · have h := h.1 hq
    refine lv_iconst (pc := 21) (v := (-1 : Int32)) hx hb xd_CA_distance_21 (by decide) ?_
    exact xr_iret hC hr hlk hR hS h xd_CA_distance_22
  · have h := h.2 hq
    refine lv_iload_n (pc := 7) hx hb xd_CA_distance_7 rfl (lv_at hl 2 rfl) ?_
    refine xr_callS (pc := 8) (As := [.int a2]) (rest := []) hC hR hS (xc_Rg_isColour l G  h) xv_CA_142 ⟨rfl, rfl, Nat.le_of_ble_eq_true rfl, Nat.le_of_ble_eq_true rfl⟩ rfl hl.1 rfl (Nat.le_of_ble_eq_true rfl) xd_CA_distance_8 (fun r4 M3 H locs h hR hS => ?_)
    refine lv_if_eq (pc := 11) (tgt := 21) hx hb xd_CA_distance_11 (by decide) (fun hq => ?_) (fun hq => ?_)
    · have h := h.1 hq
      refine lv_iconst (pc := 21) (v := (-1 : Int32)) hx hb xd_CA_distance_21 (by decide) ?_
      exact xr_iret hC hr hlk hR hS h xd_CA_distance_22
    · have h := h.2 hq
      refine lv_iload_n (pc := 14) hx hb xd_CA_distance_14 rfl (lv_at hl 3 rfl) ?_
      refine xr_callS (pc := 15) (As := [.int a3]) (rest := []) hC hR hS (xc_Rg_isColour l G  h) xv_CA_142 ⟨rfl, rfl, Nat.le_of_ble_eq_true rfl, Nat.le_of_ble_eq_true rfl⟩ rfl hl.1 rfl (Nat.le_of_ble_eq_true rfl) xd_CA_distance_15 (fun r6 M5 H locs h hR hS => ?_)
      refine lv_if_ne (pc := 18) (tgt := 23) hx hb xd_CA_distance_18 (by decide) (fun hq => ?_) (fun hq => ?_)
      · have h := h.1 hq
        refine lv_aload_n (pc := 23) hx hb xd_CA_distance_23 rfl (lv_at hl 0 rfl) ?_
        refine xr_get (pc := 24) (v := .ref (G.1 0 0)) hC hR xo_C0 xf_CA_10 rfl xd_CA_distance_24 ?_
        refine xr_get (pc := 27) (v := .ref (G.1 0 1)) hC hR (xo_K0 xg0) xf_CA_97 rfl xd_CA_distance_27 ?_
        refine lv_aload_n (pc := 30) hx hb xd_CA_distance_30 rfl (lv_at hl 0 rfl) ?_
        refine xr_get (pc := 31) (v := .ref (G.1 0 0)) hC hR xo_C0 xf_CA_10 rfl xd_CA_distance_31 ?_
        refine xr_get (pc := 34) (v := .ref (G.1 0 1)) hC hR (xo_K0 xg0) xf_CA_97 rfl xd_CA_distance_34 ?_
        refine lv_iload_n (pc := 37) hx hb xd_CA_distance_37 rfl (lv_at hl 1 rfl) ?_
        refine lv_iload_n (pc := 38) hx hb xd_CA_distance_38 rfl (lv_at hl 2 rfl) ?_
        refine xr_callV (pc := 39) (As := [.int a1, .int a2]) (rest := [.ref (G.1 0 1)]) hC hR hS (xc_Ey_look l G xg0 h) (xo_K1 xg0) xv_CA_147 ⟨rfl, rfl, Nat.le_of_ble_eq_true rfl, Nat.le_of_ble_eq_true rfl⟩ rfl hl.1 rfl (Nat.le_of_ble_eq_true rfl) xd_CA_distance_39 (fun r8 M7 H locs h hR hS => ?_)
        refine lv_aload_n (pc := 42) hx hb xd_CA_distance_42 rfl (lv_at hl 0 rfl) ?_
        refine xr_get (pc := 43) (v := .ref (G.1 0 0)) hC hR xo_C0 xf_CA_10 rfl xd_CA_distance_43 ?_
        refine xr_get (pc := 46) (v := .ref (G.1 0 1)) hC hR (xo_K0 xg0) xf_CA_97 rfl xd_CA_distance_46 ?_
        refine lv_iload_n (pc := 49) hx hb xd_CA_distance_49 rfl (lv_at hl 1 rfl) ?_
        refine lv_iload_n (pc := 50) hx hb xd_CA_distance_50 rfl (lv_at hl 3 rfl) ?_
        refine xr_callV (pc := 51) (As := [.int a1, .int a3]) (rest := [.int r8, .ref (G.1 0 1)]) hC hR hS (xc_Ey_look l G xg0 h) (xo_K1 xg0) xv_CA_147 ⟨rfl, rfl, Nat.le_of_ble_eq_true rfl, Nat.le_of_ble_eq_true rfl⟩ rfl hl.1 rfl (Nat.le_of_ble_eq_true rfl) xd_CA_distance_51 (fun r10 M9 H locs h hR hS => ?_)
        refine xr_callV (pc := 54) (As := [.int r8, .int r10]) (rest := []) hC hR hS (xc_Ey_weighed l G xg0 h) (xo_K1 xg0) xv_CA_154 ⟨rfl, rfl, Nat.le_of_ble_eq_true rfl, Nat.le_of_ble_eq_true rfl⟩ rfl hl.1 rfl (Nat.le_of_ble_eq_true rfl) xd_CA_distance_54 (fun r12 M11 H locs h hR hS => ?_)
        exact xr_iret hC hr hlk hR hS h xd_CA_distance_57
      · have h := h.2 hq
        refine lv_iconst (pc := 21) (v := (-1 : Int32)) hx hb xd_CA_distance_21 (by decide) ?_
        exact xr_iret hC hr hlk hR hS h xd_CA_distance_22

/-! ColoursApart.apart(II)I -/
theorem xd_CA_apart_0 : decode b_CA_apart 0 = .ok (.iload_n 1, 1) := by decide +kernel
theorem xd_CA_apart_1 : decode b_CA_apart 1 = .ok (.invokestatic 142, 3) := by decide +kernel
theorem xd_CA_apart_4 : decode b_CA_apart 4 = .ok (.ifCond .eq 25, 3) := by decide +kernel
theorem xd_CA_apart_7 : decode b_CA_apart 7 = .ok (.iload_n 2, 1) := by decide +kernel
theorem xd_CA_apart_8 : decode b_CA_apart 8 = .ok (.invokestatic 142, 3) := by decide +kernel
theorem xd_CA_apart_11 : decode b_CA_apart 11 = .ok (.ifCond .eq 18, 3) := by decide +kernel
theorem xd_CA_apart_14 : decode b_CA_apart 14 = .ok (.aload_n 0, 1) := by decide +kernel
theorem xd_CA_apart_15 : decode b_CA_apart 15 = .ok (.getfield 10, 3) := by decide +kernel
theorem xd_CA_apart_18 : decode b_CA_apart 18 = .ok (.getfield 97, 3) := by decide +kernel
theorem xd_CA_apart_21 : decode b_CA_apart 21 = .ok (.iload_n 1, 1) := by decide +kernel
theorem xd_CA_apart_22 : decode b_CA_apart 22 = .ok (.iload_n 2, 1) := by decide +kernel
theorem xd_CA_apart_23 : decode b_CA_apart 23 = .ok (.invokevirtual 157, 3) := by decide +kernel
theorem xd_CA_apart_26 : decode b_CA_apart 26 = .ok (.goto 4, 3) := by decide +kernel
theorem xd_CA_apart_29 : decode b_CA_apart 29 = .ok (.iconst (-1), 1) := by decide +kernel
theorem xd_CA_apart_30 : decode b_CA_apart 30 = .ok (.ireturn, 1) := by decide +kernel
abbrev rm_CA_apart : Room := { frames := 4, cells := 0, slots := 0, locals := 94 }
def xw_CA_apart (a1 : Int32) (a2 : Int32) (M : xM) (post : Int32 → xM → Prop) : Prop :=
  xw_Rg_isColour a1 M (fun (r2 : Int32) (M1 : xM) => ((r2 = 0) → (post (-1 : Int32) M1)) ∧ ((¬ r2 = 0) → (xw_Rg_isColour a2 M1 (fun (r4 : Int32) (M3 : xM) => ((r4 = 0) → (post (-1 : Int32) M3)) ∧ ((¬ r4 = 0) → (xw_Ey_leastDistance 0 a1 a2 M3 (fun (r6 : Int32) (M5 : xM) => post r6 M5)))))))
set_option maxHeartbeats 4000000 in
set_option maxRecDepth 100000 in
theorem xc_CA_apart (l : Launch) (G : xG) {a1 : Int32} {a2 : Int32}  {M : xM} {post : Int32 → xM → Prop} (h : xw_CA_apart a1 a2 M post) : Met l y_CA_apart (Cond.code y_CA_apart b_CA_apart 3 (some .int) :: xTG) rm_CA_apart (xPre G M [.ref (G.1 8 0), .int a1, .int a2]) (xPi G post) 0 0 (xA G) := by
  refine xMet (own := R_CA) [.ref (G.1 8 0), .int a1, .int a2] (Or.inl (by decide)) rfl (Nat.le_of_ble_eq_true rfl) (fun p e s m args below meth c ls hC hr hlk hR hS hl => ?_)
  have hx := hC.1
  have hb := hC.2.1
  have hl : lv_has ls 3 [(0, .ref (G.1 8 0)), (1, .int a1), (2, .int a2)] := hl
  obtain ⟨H, eH⟩ : ∃ H : Heap, H = s.heap := ⟨_, rfl⟩
  obtain ⟨locs, eL⟩ : ∃ locs : List Loc, locs = [] := ⟨_, rfl⟩
  rw [← eH] at hR
  replace hS : va_S (xA G) s.heap H locs := by rw [eH, eL]; exact hS
  suffices hh : W p l e rm_CA_apart s m args below meth c H locs 0 0 (MQ below (xPi G post) args s 0 0 (xA G)) (F0 m 0 ls []) from by rw [eH, eL] at hh; exact hh
  unfold xw_CA_apart at h
  refine lv_iload_n (pc := 0) hx hb xd_CA_apart_0 rfl (lv_at hl 1 rfl) ?_
  refine xr_callS (pc := 1) (As := [.int a1]) (rest := []) hC hR hS (xc_Rg_isColour l G  h) xv_CA_142 ⟨rfl, rfl, Nat.le_of_ble_eq_true rfl, Nat.le_of_ble_eq_true rfl⟩ rfl hl.1 rfl (Nat.le_of_ble_eq_true rfl) xd_CA_apart_1 (fun r2 M1 H locs h hR hS => ?_)
  refine lv_if_eq (pc := 4) (tgt := 29) hx hb xd_CA_apart_4 (by decide) (fun hq => ?_) (fun hq => ?_)
  · have h := h.1 hq
    refine lv_iconst (pc := 29) (v := (-1 : Int32)) hx hb xd_CA_apart_29 (by decide) ?_
    exact xr_iret hC hr hlk hR hS h xd_CA_apart_30
  · have h := h.2 hq
    refine lv_iload_n (pc := 7) hx hb xd_CA_apart_7 rfl (lv_at hl 2 rfl) ?_
    refine xr_callS (pc := 8) (As := [.int a2]) (rest := []) hC hR hS (xc_Rg_isColour l G  h) xv_CA_142 ⟨rfl, rfl, Nat.le_of_ble_eq_true rfl, Nat.le_of_ble_eq_true rfl⟩ rfl hl.1 rfl (Nat.le_of_ble_eq_true rfl) xd_CA_apart_8 (fun r4 M3 H locs h hR hS => ?_)
    refine lv_if_eq (pc := 11) (tgt := 29) hx hb xd_CA_apart_11 (by decide) (fun hq => ?_) (fun hq => ?_)
    · have h := h.1 hq
      refine lv_iconst (pc := 29) (v := (-1 : Int32)) hx hb xd_CA_apart_29 (by decide) ?_
      exact xr_iret hC hr hlk hR hS h xd_CA_apart_30
    · have h := h.2 hq
      refine lv_aload_n (pc := 14) hx hb xd_CA_apart_14 rfl (lv_at hl 0 rfl) ?_
      refine xr_get (pc := 15) (v := .ref (G.1 0 0)) hC hR xo_C0 xf_CA_10 rfl xd_CA_apart_15 ?_
      refine xr_get (pc := 18) (v := .ref (G.1 0 1)) hC hR (xo_K0 xg0) xf_CA_97 rfl xd_CA_apart_18 ?_
      refine lv_iload_n (pc := 21) hx hb xd_CA_apart_21 rfl (lv_at hl 1 rfl) ?_
      refine lv_iload_n (pc := 22) hx hb xd_CA_apart_22 rfl (lv_at hl 2 rfl) ?_
      refine xr_callV (pc := 23) (As := [.int a1, .int a2]) (rest := []) hC hR hS (xc_Ey_leastDistance l G xg0 h) (xo_K1 xg0) xv_CA_157 ⟨rfl, rfl, Nat.le_of_ble_eq_true rfl, Nat.le_of_ble_eq_true rfl⟩ rfl hl.1 rfl (Nat.le_of_ble_eq_true rfl) xd_CA_apart_23 (fun r6 M5 H locs h hR hS => ?_)
      refine lv_goto (pc := 26) (tgt := 30) hx hb xd_CA_apart_26 (by decide) ?_
      exact xr_iret hC hr hlk hR hS h xd_CA_apart_30

/-! ColoursApart.add(IZ)I -/
theorem xd_CA_add_0 : decode b_CA_add 0 = .ok (.iload_n 1, 1) := by decide +kernel
theorem xd_CA_add_1 : decode b_CA_add 1 = .ok (.invokestatic 142, 3) := by decide +kernel
theorem xd_CA_add_4 : decode b_CA_add 4 = .ok (.ifCond .ne 9, 3) := by decide +kernel
theorem xd_CA_add_7 : decode b_CA_add 7 = .ok (.aload_n 0, 1) := by decide +kernel
theorem xd_CA_add_8 : decode b_CA_add 8 = .ok (.iconst (-1), 1) := by decide +kernel
theorem xd_CA_add_9 : decode b_CA_add 9 = .ok (.invokevirtual 67, 3) := by decide +kernel
theorem xd_CA_add_12 : decode b_CA_add 12 = .ok (.ireturn, 1) := by decide +kernel
theorem xd_CA_add_13 : decode b_CA_add 13 = .ok (.aload_n 0, 1) := by decide +kernel
theorem xd_CA_add_14 : decode b_CA_add 14 = .ok (.getfield 10, 3) := by decide +kernel
theorem xd_CA_add_17 : decode b_CA_add 17 = .ok (.getfield 160, 3) := by decide +kernel
theorem xd_CA_add_20 : decode b_CA_add 20 = .ok (.getfield 164, 3) := by decide +kernel
theorem xd_CA_add_23 : decode b_CA_add 23 = .ok (.bipush 12, 2) := by decide +kernel
theorem xd_CA_add_25 : decode b_CA_add 25 = .ok (.if_icmp .lt 10, 3) := by decide +kernel
theorem xd_CA_add_28 : decode b_CA_add 28 = .ok (.aload_n 0, 1) := by decide +kernel
theorem xd_CA_add_29 : decode b_CA_add 29 = .ok (.bipush (-5), 2) := by decide +kernel
theorem xd_CA_add_31 : decode b_CA_add 31 = .ok (.invokevirtual 67, 3) := by decide +kernel
theorem xd_CA_add_34 : decode b_CA_add 34 = .ok (.ireturn, 1) := by decide +kernel
theorem xd_CA_add_35 : decode b_CA_add 35 = .ok (.aload_n 0, 1) := by decide +kernel
theorem xd_CA_add_36 : decode b_CA_add 36 = .ok (.aload_n 0, 1) := by decide +kernel
theorem xd_CA_add_37 : decode b_CA_add 37 = .ok (.getfield 10, 3) := by decide +kernel
theorem xd_CA_add_40 : decode b_CA_add 40 = .ok (.getfield 160, 3) := by decide +kernel
theorem xd_CA_add_43 : decode b_CA_add 43 = .ok (.iload_n 1, 1) := by decide +kernel
theorem xd_CA_add_44 : decode b_CA_add 44 = .ok (.iload_n 2, 1) := by decide +kernel
theorem xd_CA_add_45 : decode b_CA_add 45 = .ok (.invokevirtual 169, 3) := by decide +kernel
theorem xd_CA_add_48 : decode b_CA_add 48 = .ok (.invokevirtual 78, 3) := by decide +kernel
theorem xd_CA_add_51 : decode b_CA_add 51 = .ok (.ireturn, 1) := by decide +kernel
abbrev rm_CA_add : Room := { frames := 1, cells := 0, slots := 0, locals := 22 }
def xw_CA_add (a1 : Int32) (a2 : Int32) (M : xM) (post : Int32 → xM → Prop) : Prop :=
  xw_Rg_isColour a1 M (fun (r2 : Int32) (M1 : xM) => ((¬ r2 = 0) → ((((M1 0 3 0) < (12 : Int32)) → (xw_Ho_takeIn 0 a1 a2 M1 (fun (r4 : Int32) (M3 : xM) => xw_CA_taken r4 M3 (fun (r6 : Int32) (M5 : xM) => post r6 M5)))) ∧ ((¬ (M1 0 3 0) < (12 : Int32)) → (xw_CA_refused (-5 : Int32) M1 (fun (r8 : Int32) (M7 : xM) => post r8 M7))))) ∧ ((r2 = 0) → (xw_CA_refused (-1 : Int32) M1 (fun (r10 : Int32) (M9 : xM) => post r10 M9))))
set_option maxHeartbeats 4000000 in
set_option maxRecDepth 100000 in
theorem xc_CA_add (l : Launch) (G : xG) {a1 : Int32} {a2 : Int32}  {M : xM} {post : Int32 → xM → Prop} (h : xw_CA_add a1 a2 M post) : Met l y_CA_add (Cond.code y_CA_add b_CA_add 3 (some .int) :: xTG) rm_CA_add (xPre G M [.ref (G.1 8 0), .int a1, .int a2]) (xPi G post) 0 0 (xA G) := by
  refine xMet (own := R_CA) [.ref (G.1 8 0), .int a1, .int a2] (Or.inl (by decide)) rfl (Nat.le_of_ble_eq_true rfl) (fun p e s m args below meth c ls hC hr hlk hR hS hl => ?_)
  have hx := hC.1
  have hb := hC.2.1
  have hl : lv_has ls 3 [(0, .ref (G.1 8 0)), (1, .int a1), (2, .int a2)] := hl
  obtain ⟨H, eH⟩ : ∃ H : Heap, H = s.heap := ⟨_, rfl⟩
  obtain ⟨locs, eL⟩ : ∃ locs : List Loc, locs = [] := ⟨_, rfl⟩
  rw [← eH] at hR
  replace hS : va_S (xA G) s.heap H locs := by rw [eH, eL]; exact hS
  suffices hh : W p l e rm_CA_add s m args below meth c H locs 0 0 (MQ below (xPi G post) args s 0 0 (xA G)) (F0 m 0 ls []) from by rw [eH, eL] at hh; exact hh
  unfold xw_CA_add at h
  refine lv_iload_n (pc := 0) hx hb xd_CA_add_0 rfl (lv_at hl 1 rfl) ?_
  refine xr_callS (pc := 1) (As := [.int a1]) (rest := []) hC hR hS (xc_Rg_isColour l G  h) xv_CA_142 ⟨rfl, rfl, Nat.le_of_ble_eq_true rfl, Nat.le_of_ble_eq_true rfl⟩ rfl hl.1 rfl (Nat.le_of_ble_eq_true rfl) xd_CA_add_1 (fun r2 M1 H locs h hR hS => ?_)
  refine lv_if_ne (pc := 4) (tgt := 13) hx hb xd_CA_add_4 (by decide) (fun hq => ?_) (fun hq => ?_)
  · have h := h.1 hq
    refine lv_aload_n (pc := 13) hx hb xd_CA_add_13 rfl (lv_at hl 0 rfl) ?_
    refine xr_get (pc := 14) (v := .ref (G.1 0 0)) hC hR xo_C0 xf_CA_10 rfl xd_CA_add_14 ?_
    refine xr_get (pc := 17) (v := .ref (G.1 0 3)) hC hR (xo_K0 xg0) xf_CA_160 rfl xd_CA_add_17 ?_
    refine xr_get (pc := 20) (v := .int (M1 0 3 0)) hC hR (xo_K3 xg0) xf_CA_164 rfl xd_CA_add_20 ?_
    refine lv_bipush (pc := 23) (v := (12 : Int32)) hx hb xd_CA_add_23 (by decide) ?_
    refine lv_icmp_lt (pc := 25) (tgt := 35) hx hb xd_CA_add_25 (by decide) (fun hq => ?_) (fun hq => ?_)
    · have h := h.1 hq
      refine lv_aload_n (pc := 35) hx hb xd_CA_add_35 rfl (lv_at hl 0 rfl) ?_
      refine lv_aload_n (pc := 36) hx hb xd_CA_add_36 rfl (lv_at hl 0 rfl) ?_
      refine xr_get (pc := 37) (v := .ref (G.1 0 0)) hC hR xo_C0 xf_CA_10 rfl xd_CA_add_37 ?_
      refine xr_get (pc := 40) (v := .ref (G.1 0 3)) hC hR (xo_K0 xg0) xf_CA_160 rfl xd_CA_add_40 ?_
      refine lv_iload_n (pc := 43) hx hb xd_CA_add_43 rfl (lv_at hl 1 rfl) ?_
      refine lv_iload_n (pc := 44) hx hb xd_CA_add_44 rfl (lv_at hl 2 rfl) ?_
      refine xr_callV (pc := 45) (As := [.int a1, .int a2]) (rest := [.ref (G.1 8 0)]) hC hR hS (xc_Ho_takeIn l G xg0 h) (xo_K3 xg0) xv_CA_169 ⟨rfl, rfl, Nat.le_of_ble_eq_true rfl, Nat.le_of_ble_eq_true rfl⟩ rfl hl.1 rfl (Nat.le_of_ble_eq_true rfl) xd_CA_add_45 (fun r4 M3 H locs h hR hS => ?_)
      refine xr_callV (pc := 48) (As := [.int r4]) (rest := []) hC hR hS (xc_CA_taken l G  h) xo_C0 xv_CA_78 ⟨rfl, rfl, Nat.le_of_ble_eq_true rfl, Nat.le_of_ble_eq_true rfl⟩ rfl hl.1 rfl (Nat.le_of_ble_eq_true rfl) xd_CA_add_48 (fun r6 M5 H locs h hR hS => ?_)
      exact xr_iret hC hr hlk hR hS h xd_CA_add_51
    · have h := h.2 hq
      refine lv_aload_n (pc := 28) hx hb xd_CA_add_28 rfl (lv_at hl 0 rfl) ?_
      refine lv_bipush (pc := 29) (v := (-5 : Int32)) hx hb xd_CA_add_29 (by decide) ?_
      refine xr_callV (pc := 31) (As := [.int (-5 : Int32)]) (rest := []) hC hR hS (xc_CA_refused l G  h) xo_C0 xv_CA_67 ⟨rfl, rfl, Nat.le_of_ble_eq_true rfl, Nat.le_of_ble_eq_true rfl⟩ rfl hl.1 rfl (Nat.le_of_ble_eq_true rfl) xd_CA_add_31 (fun r8 M7 H locs h hR hS => ?_)
      exact xr_iret hC hr hlk hR hS h xd_CA_add_34
  · have h := h.2 hq
    refine lv_aload_n (pc := 7) hx hb xd_CA_add_7 rfl (lv_at hl 0 rfl) ?_
    refine lv_iconst (pc := 8) (v := (-1 : Int32)) hx hb xd_CA_add_8 (by decide) ?_
    refine xr_callV (pc := 9) (As := [.int (-1 : Int32)]) (rest := []) hC hR hS (xc_CA_refused l G  h) xo_C0 xv_CA_67 ⟨rfl, rfl, Nat.le_of_ble_eq_true rfl, Nat.le_of_ble_eq_true rfl⟩ rfl hl.1 rfl (Nat.le_of_ble_eq_true rfl) xd_CA_add_9 (fun r10 M9 H locs h hR hS => ?_)
    exact xr_iret hC hr hlk hR hS h xd_CA_add_12

/-! ColoursApart.set(II)I -/
theorem xd_CA_set_0 : decode b_CA_set 0 = .ok (.aload_n 0, 1) := by decide +kernel
theorem xd_CA_set_1 : decode b_CA_set 1 = .ok (.getfield 10, 3) := by decide +kernel
theorem xd_CA_set_4 : decode b_CA_set 4 = .ok (.getfield 160, 3) := by decide +kernel
theorem xd_CA_set_7 : decode b_CA_set 7 = .ok (.iload_n 1, 1) := by decide +kernel
theorem xd_CA_set_8 : decode b_CA_set 8 = .ok (.invokevirtual 173, 3) := by decide +kernel
theorem xd_CA_set_11 : decode b_CA_set 11 = .ok (.istore_n 3, 1) := by decide +kernel
theorem xd_CA_set_12 : decode b_CA_set 12 = .ok (.iload_n 2, 1) := by decide +kernel
theorem xd_CA_set_13 : decode b_CA_set 13 = .ok (.invokestatic 142, 3) := by decide +kernel
theorem xd_CA_set_16 : decode b_CA_set 16 = .ok (.ifCond .eq 22, 3) := by decide +kernel
theorem xd_CA_set_19 : decode b_CA_set 19 = .ok (.iload_n 3, 1) := by decide +kernel
theorem xd_CA_set_20 : decode b_CA_set 20 = .ok (.ifCond .eq 24, 3) := by decide +kernel
theorem xd_CA_set_23 : decode b_CA_set 23 = .ok (.aload_n 0, 1) := by decide +kernel
theorem xd_CA_set_24 : decode b_CA_set 24 = .ok (.getfield 10, 3) := by decide +kernel
theorem xd_CA_set_27 : decode b_CA_set 27 = .ok (.getfield 160, 3) := by decide +kernel
theorem xd_CA_set_30 : decode b_CA_set 30 = .ok (.iload_n 1, 1) := by decide +kernel
theorem xd_CA_set_31 : decode b_CA_set 31 = .ok (.iload_n 2, 1) := by decide +kernel
theorem xd_CA_set_32 : decode b_CA_set 32 = .ok (.invokevirtual 174, 3) := by decide +kernel
theorem xd_CA_set_35 : decode b_CA_set 35 = .ok (.ifCond .ne 9, 3) := by decide +kernel
theorem xd_CA_set_38 : decode b_CA_set 38 = .ok (.aload_n 0, 1) := by decide +kernel
theorem xd_CA_set_39 : decode b_CA_set 39 = .ok (.iconst (-1), 1) := by decide +kernel
theorem xd_CA_set_40 : decode b_CA_set 40 = .ok (.invokevirtual 67, 3) := by decide +kernel
theorem xd_CA_set_43 : decode b_CA_set 43 = .ok (.ireturn, 1) := by decide +kernel
theorem xd_CA_set_44 : decode b_CA_set 44 = .ok (.iload_n 3, 1) := by decide +kernel
theorem xd_CA_set_45 : decode b_CA_set 45 = .ok (.ifCond .ne 10, 3) := by decide +kernel
theorem xd_CA_set_48 : decode b_CA_set 48 = .ok (.aload_n 0, 1) := by decide +kernel
theorem xd_CA_set_49 : decode b_CA_set 49 = .ok (.bipush (-2), 2) := by decide +kernel
theorem xd_CA_set_51 : decode b_CA_set 51 = .ok (.invokevirtual 67, 3) := by decide +kernel
theorem xd_CA_set_54 : decode b_CA_set 54 = .ok (.ireturn, 1) := by decide +kernel
theorem xd_CA_set_55 : decode b_CA_set 55 = .ok (.aload_n 0, 1) := by decide +kernel
theorem xd_CA_set_56 : decode b_CA_set 56 = .ok (.getfield 10, 3) := by decide +kernel
theorem xd_CA_set_59 : decode b_CA_set 59 = .ok (.getfield 160, 3) := by decide +kernel
theorem xd_CA_set_62 : decode b_CA_set 62 = .ok (.getfield 178, 3) := by decide +kernel
theorem xd_CA_set_65 : decode b_CA_set 65 = .ok (.iload_n 1, 1) := by decide +kernel
theorem xd_CA_set_66 : decode b_CA_set 66 = .ok (.baload, 1) := by decide +kernel
theorem xd_CA_set_67 : decode b_CA_set 67 = .ok (.ifCond .eq 10, 3) := by decide +kernel
theorem xd_CA_set_70 : decode b_CA_set 70 = .ok (.aload_n 0, 1) := by decide +kernel
theorem xd_CA_set_71 : decode b_CA_set 71 = .ok (.bipush (-6), 2) := by decide +kernel
theorem xd_CA_set_73 : decode b_CA_set 73 = .ok (.invokevirtual 67, 3) := by decide +kernel
theorem xd_CA_set_76 : decode b_CA_set 76 = .ok (.ireturn, 1) := by decide +kernel
theorem xd_CA_set_77 : decode b_CA_set 77 = .ok (.aload_n 0, 1) := by decide +kernel
theorem xd_CA_set_78 : decode b_CA_set 78 = .ok (.getfield 10, 3) := by decide +kernel
theorem xd_CA_set_81 : decode b_CA_set 81 = .ok (.getfield 160, 3) := by decide +kernel
theorem xd_CA_set_84 : decode b_CA_set 84 = .ok (.getfield 181, 3) := by decide +kernel
theorem xd_CA_set_87 : decode b_CA_set 87 = .ok (.iload_n 1, 1) := by decide +kernel
theorem xd_CA_set_88 : decode b_CA_set 88 = .ok (.iaload, 1) := by decide +kernel
theorem xd_CA_set_89 : decode b_CA_set 89 = .ok (.istore 4, 2) := by decide +kernel
theorem xd_CA_set_91 : decode b_CA_set 91 = .ok (.aload_n 0, 1) := by decide +kernel
theorem xd_CA_set_92 : decode b_CA_set 92 = .ok (.getfield 10, 3) := by decide +kernel
theorem xd_CA_set_95 : decode b_CA_set 95 = .ok (.getfield 160, 3) := by decide +kernel
theorem xd_CA_set_98 : decode b_CA_set 98 = .ok (.getfield 181, 3) := by decide +kernel
theorem xd_CA_set_101 : decode b_CA_set 101 = .ok (.iload_n 1, 1) := by decide +kernel
theorem xd_CA_set_102 : decode b_CA_set 102 = .ok (.iload_n 2, 1) := by decide +kernel
theorem xd_CA_set_103 : decode b_CA_set 103 = .ok (.iastore, 1) := by decide +kernel
theorem xd_CA_set_104 : decode b_CA_set 104 = .ok (.aload_n 0, 1) := by decide +kernel
theorem xd_CA_set_105 : decode b_CA_set 105 = .ok (.iload 4, 2) := by decide +kernel
theorem xd_CA_set_107 : decode b_CA_set 107 = .ok (.invokevirtual 78, 3) := by decide +kernel
theorem xd_CA_set_110 : decode b_CA_set 110 = .ok (.ireturn, 1) := by decide +kernel
abbrev rm_CA_set : Room := { frames := 4, cells := 0, slots := 0, locals := 86 }
def xw_CA_set (a1 : Int32) (a2 : Int32) (M : xM) (post : Int32 → xM → Prop) : Prop :=
  xw_Ho_has 0 a1 M (fun (r2 : Int32) (M1 : xM) => xw_Rg_isColour a2 M1 (fun (r4 : Int32) (M3 : xM) => xj (fun (J38_4 : xM → Prop) => ((r4 = 0) → (J38_4  M3)) ∧ ((¬ r4 = 0) → (xj (fun (J44_8 : xM → Prop) => ((r2 = 0) → (J44_8  M3)) ∧ ((¬ r2 = 0) → (xw_Ho_nameAllows 0 a1 a2 M3 (fun (r18 : Int32) (M17 : xM) => ((¬ r18 = 0) → (J44_8  M17)) ∧ ((r18 = 0) → (J38_4  M17)))))) (fun (M10 : xM) => ((¬ r2 = 0) → ((vp_in a1 12) ∧ ((((M10 0 5 a1.toNatClampNeg) = 0) → ((vp_in a1 12) ∧ ((vp_in a1 12) ∧ (xw_CA_taken (M10 0 4 a1.toNatClampNeg) (us M10 0 4 a1.toNatClampNeg a2) (fun (r12 : Int32) (M11 : xM) => post r12 M11))))) ∧ ((¬ (M10 0 5 a1.toNatClampNeg) = 0) → (xw_CA_refused (-6 : Int32) M10 (fun (r14 : Int32) (M13 : xM) => post r14 M13)))))) ∧ ((r2 = 0) → (xw_CA_refused (-2 : Int32) M10 (fun (r16 : Int32) (M15 : xM) => post r16 M15))))))) (fun (M6 : xM) => xw_CA_refused (-1 : Int32) M6 (fun (r8 : Int32) (M7 : xM) => post r8 M7))))
set_option maxHeartbeats 4000000 in
set_option maxRecDepth 100000 in
theorem xc_CA_set (l : Launch) (G : xG) {a1 : Int32} {a2 : Int32}  {M : xM} {post : Int32 → xM → Prop} (h : xw_CA_set a1 a2 M post) : Met l y_CA_set (Cond.code y_CA_set b_CA_set 5 (some .int) :: xTG) rm_CA_set (xPre G M [.ref (G.1 8 0), .int a1, .int a2]) (xPi G post) 0 0 (xA G) := by
  refine xMet (own := R_CA) [.ref (G.1 8 0), .int a1, .int a2] (Or.inl (by decide)) rfl (Nat.le_of_ble_eq_true rfl) (fun p e s m args below meth c ls hC hr hlk hR hS hl => ?_)
  have hx := hC.1
  have hb := hC.2.1
  have hl : lv_has ls 5 [(0, .ref (G.1 8 0)), (1, .int a1), (2, .int a2)] := hl
  obtain ⟨H, eH⟩ : ∃ H : Heap, H = s.heap := ⟨_, rfl⟩
  obtain ⟨locs, eL⟩ : ∃ locs : List Loc, locs = [] := ⟨_, rfl⟩
  rw [← eH] at hR
  replace hS : va_S (xA G) s.heap H locs := by rw [eH, eL]; exact hS
  suffices hh : W p l e rm_CA_set s m args below meth c H locs 0 0 (MQ below (xPi G post) args s 0 0 (xA G)) (F0 m 0 ls []) from by rw [eH, eL] at hh; exact hh
  unfold xw_CA_set at h
  refine lv_aload_n (pc := 0) hx hb xd_CA_set_0 rfl (lv_at hl 0 rfl) ?_
  refine xr_get (pc := 1) (v := .ref (G.1 0 0)) hC hR xo_C0 xf_CA_10 rfl xd_CA_set_1 ?_
  refine xr_get (pc := 4) (v := .ref (G.1 0 3)) hC hR (xo_K0 xg0) xf_CA_160 rfl xd_CA_set_4 ?_
  refine lv_iload_n (pc := 7) hx hb xd_CA_set_7 rfl (lv_at hl 1 rfl) ?_
  refine xr_callV (pc := 8) (As := [.int a1]) (rest := []) hC hR hS (xc_Ho_has l G xg0 h) (xo_K3 xg0) xv_CA_173 ⟨rfl, rfl, Nat.le_of_ble_eq_true rfl, Nat.le_of_ble_eq_true rfl⟩ rfl hl.1 rfl (Nat.le_of_ble_eq_true rfl) xd_CA_set_8 (fun r2 M1 H locs h hR hS => ?_)
  refine lv_istore_n (pc := 11) (lv' := [(3, .int r2), (0, .ref (G.1 8 0)), (1, .int a1), (2, .int a2)]) hx hb xd_CA_set_11 rfl hl (by decide) rfl (fun ls hl => ?_)
  refine lv_iload_n (pc := 12) hx hb xd_CA_set_12 rfl (lv_at hl 3 rfl) ?_
  refine xr_callS (pc := 13) (As := [.int a2]) (rest := []) hC hR hS (xc_Rg_isColour l G  h) xv_CA_142 ⟨rfl, rfl, Nat.le_of_ble_eq_true rfl, Nat.le_of_ble_eq_true rfl⟩ rfl hl.1 rfl (Nat.le_of_ble_eq_true rfl) xd_CA_set_13 (fun r4 M3 H locs h hR hS => ?_)
  obtain ⟨J38_4, eJ38_4, h⟩ := xj_open h
  have kJ38_4 : ∀ (M6 : xM) (H : Heap) (locs : List Loc) (ls : Array Slot), J38_4 M6 → xRp G M6 H → va_S (xA G) s.heap H locs → lv_has ls 5 [(0, .ref (G.1 8 0))] → W p l e rm_CA_set s m args below meth c H locs 0 0 (MQ below (xPi G post) args s 0 0 (xA G)) (F0 m 38 ls []) := by
    intro M6 H locs ls h hR hS hl
    rw [eJ38_4] at h
    refine lv_aload_n (pc := 38) hx hb xd_CA_set_38 rfl (lv_at hl 0 rfl) ?_
    refine lv_iconst (pc := 39) (v := (-1 : Int32)) hx hb xd_CA_set_39 (by decide) ?_
    refine xr_callV (pc := 40) (As := [.int (-1 : Int32)]) (rest := []) hC hR hS (xc_CA_refused l G  h) xo_C0 xv_CA_67 ⟨rfl, rfl, Nat.le_of_ble_eq_true rfl, Nat.le_of_ble_eq_true rfl⟩ rfl hl.1 rfl (Nat.le_of_ble_eq_true rfl) xd_CA_set_40 (fun r8 M7 H locs h hR hS => ?_)
    exact xr_iret hC hr hlk hR hS h xd_CA_set_43
  refine lv_if_eq (pc := 16) (tgt := 38) hx hb xd_CA_set_16 (by decide) (fun hq => ?_) (fun hq => ?_)
  · have h := h.1 hq
    exact kJ38_4  M3 H locs ls h hR hS (lv_sub hl [1] rfl)
  · have h := h.2 hq
    refine lv_iload_n (pc := 19) hx hb xd_CA_set_19 rfl (lv_at hl 0 rfl) ?_
    obtain ⟨J44_8, eJ44_8, h⟩ := xj_open h
    have kJ44_8 : ∀ (M10 : xM) (H : Heap) (locs : List Loc) (ls : Array Slot), J44_8 M10 → xRp G M10 H → va_S (xA G) s.heap H locs → lv_has ls 5 [(0, .ref (G.1 8 0)), (1, .int a1), (2, .int a2), (3, .int r2)] → W p l e rm_CA_set s m args below meth c H locs 0 0 (MQ below (xPi G post) args s 0 0 (xA G)) (F0 m 44 ls []) := by
      intro M10 H locs ls h hR hS hl
      rw [eJ44_8] at h
      refine lv_iload_n (pc := 44) hx hb xd_CA_set_44 rfl (lv_at hl 3 rfl) ?_
      refine lv_if_ne (pc := 45) (tgt := 55) hx hb xd_CA_set_45 (by decide) (fun hq => ?_) (fun hq => ?_)
      · have h := h.1 hq
        refine lv_aload_n (pc := 55) hx hb xd_CA_set_55 rfl (lv_at hl 0 rfl) ?_
        refine xr_get (pc := 56) (v := .ref (G.1 0 0)) hC hR xo_C0 xf_CA_10 rfl xd_CA_set_56 ?_
        refine xr_get (pc := 59) (v := .ref (G.1 0 3)) hC hR (xo_K0 xg0) xf_CA_160 rfl xd_CA_set_59 ?_
        refine xr_get (pc := 62) (v := .ref (G.1 0 5)) hC hR (xo_K3 xg0) xf_CA_178 rfl xd_CA_set_62 ?_
        refine lv_iload_n (pc := 65) hx hb xd_CA_set_65 rfl (lv_at hl 1 rfl) ?_
        obtain ⟨hq, h⟩ := h
        refine xr_zald (pc := 66) hC hR (xo_K5 xg0) hq xd_CA_set_66 ?_
        refine lv_if_eq (pc := 67) (tgt := 77) hx hb xd_CA_set_67 (by decide) (fun hq => ?_) (fun hq => ?_)
        · have h := h.1 hq
          refine lv_aload_n (pc := 77) hx hb xd_CA_set_77 rfl (lv_at hl 0 rfl) ?_
          refine xr_get (pc := 78) (v := .ref (G.1 0 0)) hC hR xo_C0 xf_CA_10 rfl xd_CA_set_78 ?_
          refine xr_get (pc := 81) (v := .ref (G.1 0 3)) hC hR (xo_K0 xg0) xf_CA_160 rfl xd_CA_set_81 ?_
          refine xr_get (pc := 84) (v := .ref (G.1 0 4)) hC hR (xo_K3 xg0) xf_CA_181 rfl xd_CA_set_84 ?_
          refine lv_iload_n (pc := 87) hx hb xd_CA_set_87 rfl (lv_at hl 1 rfl) ?_
          obtain ⟨hq, h⟩ := h
          refine xr_iald (pc := 88) hC hR (xo_K4 xg0) hq xd_CA_set_88 ?_
          refine lv_istore (pc := 89) (lv' := [(4, .int (M10 0 4 a1.toNatClampNeg)), (0, .ref (G.1 8 0)), (1, .int a1), (2, .int a2), (3, .int r2)]) hx hb xd_CA_set_89 hl (by decide) rfl (fun ls hl => ?_)
          refine lv_aload_n (pc := 91) hx hb xd_CA_set_91 rfl (lv_at hl 1 rfl) ?_
          refine xr_get (pc := 92) (v := .ref (G.1 0 0)) hC hR xo_C0 xf_CA_10 rfl xd_CA_set_92 ?_
          refine xr_get (pc := 95) (v := .ref (G.1 0 3)) hC hR (xo_K0 xg0) xf_CA_160 rfl xd_CA_set_95 ?_
          refine xr_get (pc := 98) (v := .ref (G.1 0 4)) hC hR (xo_K3 xg0) xf_CA_181 rfl xd_CA_set_98 ?_
          refine lv_iload_n (pc := 101) hx hb xd_CA_set_101 rfl (lv_at hl 2 rfl) ?_
          refine lv_iload_n (pc := 102) hx hb xd_CA_set_102 rfl (lv_at hl 3 rfl) ?_
          obtain ⟨hq, h⟩ := h
          refine xr_iast (pc := 103) hC hR hS (xo_K4 xg0) hq xd_CA_set_103 (fun H locs hR hS => ?_)
          refine lv_aload_n (pc := 104) hx hb xd_CA_set_104 rfl (lv_at hl 1 rfl) ?_
          refine lv_iload (pc := 105) hx hb xd_CA_set_105 (lv_at hl 0 rfl) ?_
          refine xr_callV (pc := 107) (As := [.int (M10 0 4 a1.toNatClampNeg)]) (rest := []) hC hR hS (xc_CA_taken l G  h) xo_C0 xv_CA_78 ⟨rfl, rfl, Nat.le_of_ble_eq_true rfl, Nat.le_of_ble_eq_true rfl⟩ rfl hl.1 rfl (Nat.le_of_ble_eq_true rfl) xd_CA_set_107 (fun r12 M11 H locs h hR hS => ?_)
          exact xr_iret hC hr hlk hR hS h xd_CA_set_110
        · have h := h.2 hq
          refine lv_aload_n (pc := 70) hx hb xd_CA_set_70 rfl (lv_at hl 0 rfl) ?_
          refine lv_bipush (pc := 71) (v := (-6 : Int32)) hx hb xd_CA_set_71 (by decide) ?_
          refine xr_callV (pc := 73) (As := [.int (-6 : Int32)]) (rest := []) hC hR hS (xc_CA_refused l G  h) xo_C0 xv_CA_67 ⟨rfl, rfl, Nat.le_of_ble_eq_true rfl, Nat.le_of_ble_eq_true rfl⟩ rfl hl.1 rfl (Nat.le_of_ble_eq_true rfl) xd_CA_set_73 (fun r14 M13 H locs h hR hS => ?_)
          exact xr_iret hC hr hlk hR hS h xd_CA_set_76
      · have h := h.2 hq
        refine lv_aload_n (pc := 48) hx hb xd_CA_set_48 rfl (lv_at hl 0 rfl) ?_
        refine lv_bipush (pc := 49) (v := (-2 : Int32)) hx hb xd_CA_set_49 (by decide) ?_
        refine xr_callV (pc := 51) (As := [.int (-2 : Int32)]) (rest := []) hC hR hS (xc_CA_refused l G  h) xo_C0 xv_CA_67 ⟨rfl, rfl, Nat.le_of_ble_eq_true rfl, Nat.le_of_ble_eq_true rfl⟩ rfl hl.1 rfl (Nat.le_of_ble_eq_true rfl) xd_CA_set_51 (fun r16 M15 H locs h hR hS => ?_)
        exact xr_iret hC hr hlk hR hS h xd_CA_set_54
    refine lv_if_eq (pc := 20) (tgt := 44) hx hb xd_CA_set_20 (by decide) (fun hq => ?_) (fun hq => ?_)
    · have h := h.1 hq
      exact kJ44_8  M3 H locs ls h hR hS (lv_sub hl [1, 2, 3, 0] rfl)
    · have h := h.2 hq
      refine lv_aload_n (pc := 23) hx hb xd_CA_set_23 rfl (lv_at hl 1 rfl) ?_
      refine xr_get (pc := 24) (v := .ref (G.1 0 0)) hC hR xo_C0 xf_CA_10 rfl xd_CA_set_24 ?_
      refine xr_get (pc := 27) (v := .ref (G.1 0 3)) hC hR (xo_K0 xg0) xf_CA_160 rfl xd_CA_set_27 ?_
      refine lv_iload_n (pc := 30) hx hb xd_CA_set_30 rfl (lv_at hl 2 rfl) ?_
      refine lv_iload_n (pc := 31) hx hb xd_CA_set_31 rfl (lv_at hl 3 rfl) ?_
      refine xr_callV (pc := 32) (As := [.int a1, .int a2]) (rest := []) hC hR hS (xc_Ho_nameAllows l G xg0 h) (xo_K3 xg0) xv_CA_174 ⟨rfl, rfl, Nat.le_of_ble_eq_true rfl, Nat.le_of_ble_eq_true rfl⟩ rfl hl.1 rfl (Nat.le_of_ble_eq_true rfl) xd_CA_set_32 (fun r18 M17 H locs h hR hS => ?_)
      refine lv_if_ne (pc := 35) (tgt := 44) hx hb xd_CA_set_35 (by decide) (fun hq => ?_) (fun hq => ?_)
      · have h := h.1 hq
        exact kJ44_8  M17 H locs ls h hR hS (lv_sub hl [1, 2, 3, 0] rfl)
      · have h := h.2 hq
        exact kJ38_4  M17 H locs ls h hR hS (lv_sub hl [1] rfl)

/-! ColoursApart.fix(IZ)I -/
theorem xd_CA_fix_0 : decode b_CA_fix 0 = .ok (.aload_n 0, 1) := by decide +kernel
theorem xd_CA_fix_1 : decode b_CA_fix 1 = .ok (.getfield 10, 3) := by decide +kernel
theorem xd_CA_fix_4 : decode b_CA_fix 4 = .ok (.getfield 160, 3) := by decide +kernel
theorem xd_CA_fix_7 : decode b_CA_fix 7 = .ok (.iload_n 1, 1) := by decide +kernel
theorem xd_CA_fix_8 : decode b_CA_fix 8 = .ok (.invokevirtual 173, 3) := by decide +kernel
theorem xd_CA_fix_11 : decode b_CA_fix 11 = .ok (.ifCond .ne 10, 3) := by decide +kernel
theorem xd_CA_fix_14 : decode b_CA_fix 14 = .ok (.aload_n 0, 1) := by decide +kernel
theorem xd_CA_fix_15 : decode b_CA_fix 15 = .ok (.bipush (-2), 2) := by decide +kernel
theorem xd_CA_fix_17 : decode b_CA_fix 17 = .ok (.invokevirtual 67, 3) := by decide +kernel
theorem xd_CA_fix_20 : decode b_CA_fix 20 = .ok (.ireturn, 1) := by decide +kernel
theorem xd_CA_fix_21 : decode b_CA_fix 21 = .ok (.aload_n 0, 1) := by decide +kernel
theorem xd_CA_fix_22 : decode b_CA_fix 22 = .ok (.getfield 10, 3) := by decide +kernel
theorem xd_CA_fix_25 : decode b_CA_fix 25 = .ok (.getfield 160, 3) := by decide +kernel
theorem xd_CA_fix_28 : decode b_CA_fix 28 = .ok (.getfield 178, 3) := by decide +kernel
theorem xd_CA_fix_31 : decode b_CA_fix 31 = .ok (.iload_n 1, 1) := by decide +kernel
theorem xd_CA_fix_32 : decode b_CA_fix 32 = .ok (.iload_n 2, 1) := by decide +kernel
theorem xd_CA_fix_33 : decode b_CA_fix 33 = .ok (.bastore, 1) := by decide +kernel
theorem xd_CA_fix_34 : decode b_CA_fix 34 = .ok (.aload_n 0, 1) := by decide +kernel
theorem xd_CA_fix_35 : decode b_CA_fix 35 = .ok (.iconst 0, 1) := by decide +kernel
theorem xd_CA_fix_36 : decode b_CA_fix 36 = .ok (.invokevirtual 78, 3) := by decide +kernel
theorem xd_CA_fix_39 : decode b_CA_fix 39 = .ok (.ireturn, 1) := by decide +kernel
abbrev rm_CA_fix : Room := { frames := 1, cells := 0, slots := 0, locals := 21 }
def xw_CA_fix (a1 : Int32) (a2 : Int32) (M : xM) (post : Int32 → xM → Prop) : Prop :=
  xw_Ho_has 0 a1 M (fun (r2 : Int32) (M1 : xM) => ((¬ r2 = 0) → ((a2 &&& 1 = a2) ∧ ((vp_in a1 12) ∧ (xw_CA_taken (0 : Int32) (us M1 0 5 a1.toNatClampNeg a2) (fun (r4 : Int32) (M3 : xM) => post r4 M3))))) ∧ ((r2 = 0) → (xw_CA_refused (-2 : Int32) M1 (fun (r6 : Int32) (M5 : xM) => post r6 M5))))
set_option maxHeartbeats 4000000 in
set_option maxRecDepth 100000 in
theorem xc_CA_fix (l : Launch) (G : xG) {a1 : Int32} {a2 : Int32}  {M : xM} {post : Int32 → xM → Prop} (h : xw_CA_fix a1 a2 M post) : Met l y_CA_fix (Cond.code y_CA_fix b_CA_fix 3 (some .int) :: xTG) rm_CA_fix (xPre G M [.ref (G.1 8 0), .int a1, .int a2]) (xPi G post) 0 0 (xA G) := by
  refine xMet (own := R_CA) [.ref (G.1 8 0), .int a1, .int a2] (Or.inl (by decide)) rfl (Nat.le_of_ble_eq_true rfl) (fun p e s m args below meth c ls hC hr hlk hR hS hl => ?_)
  have hx := hC.1
  have hb := hC.2.1
  have hl : lv_has ls 3 [(0, .ref (G.1 8 0)), (1, .int a1), (2, .int a2)] := hl
  obtain ⟨H, eH⟩ : ∃ H : Heap, H = s.heap := ⟨_, rfl⟩
  obtain ⟨locs, eL⟩ : ∃ locs : List Loc, locs = [] := ⟨_, rfl⟩
  rw [← eH] at hR
  replace hS : va_S (xA G) s.heap H locs := by rw [eH, eL]; exact hS
  suffices hh : W p l e rm_CA_fix s m args below meth c H locs 0 0 (MQ below (xPi G post) args s 0 0 (xA G)) (F0 m 0 ls []) from by rw [eH, eL] at hh; exact hh
  unfold xw_CA_fix at h
  refine lv_aload_n (pc := 0) hx hb xd_CA_fix_0 rfl (lv_at hl 0 rfl) ?_
  refine xr_get (pc := 1) (v := .ref (G.1 0 0)) hC hR xo_C0 xf_CA_10 rfl xd_CA_fix_1 ?_
  refine xr_get (pc := 4) (v := .ref (G.1 0 3)) hC hR (xo_K0 xg0) xf_CA_160 rfl xd_CA_fix_4 ?_
  refine lv_iload_n (pc := 7) hx hb xd_CA_fix_7 rfl (lv_at hl 1 rfl) ?_
  refine xr_callV (pc := 8) (As := [.int a1]) (rest := []) hC hR hS (xc_Ho_has l G xg0 h) (xo_K3 xg0) xv_CA_173 ⟨rfl, rfl, Nat.le_of_ble_eq_true rfl, Nat.le_of_ble_eq_true rfl⟩ rfl hl.1 rfl (Nat.le_of_ble_eq_true rfl) xd_CA_fix_8 (fun r2 M1 H locs h hR hS => ?_)
  refine lv_if_ne (pc := 11) (tgt := 21) hx hb xd_CA_fix_11 (by decide) (fun hq => ?_) (fun hq => ?_)
  · have h := h.1 hq
    refine lv_aload_n (pc := 21) hx hb xd_CA_fix_21 rfl (lv_at hl 0 rfl) ?_
    refine xr_get (pc := 22) (v := .ref (G.1 0 0)) hC hR xo_C0 xf_CA_10 rfl xd_CA_fix_22 ?_
    refine xr_get (pc := 25) (v := .ref (G.1 0 3)) hC hR (xo_K0 xg0) xf_CA_160 rfl xd_CA_fix_25 ?_
    refine xr_get (pc := 28) (v := .ref (G.1 0 5)) hC hR (xo_K3 xg0) xf_CA_178 rfl xd_CA_fix_28 ?_
    refine lv_iload_n (pc := 31) hx hb xd_CA_fix_31 rfl (lv_at hl 1 rfl) ?_
    refine lv_iload_n (pc := 32) hx hb xd_CA_fix_32 rfl (lv_at hl 2 rfl) ?_
    obtain ⟨hz, h⟩ := h
    obtain ⟨hq, h⟩ := h
    refine xr_zast (pc := 33) hC hR hS (xo_K5 xg0) hq hz xd_CA_fix_33 (fun H locs hR hS => ?_)
    refine lv_aload_n (pc := 34) hx hb xd_CA_fix_34 rfl (lv_at hl 0 rfl) ?_
    refine lv_iconst (pc := 35) (v := (0 : Int32)) hx hb xd_CA_fix_35 (by decide) ?_
    refine xr_callV (pc := 36) (As := [.int (0 : Int32)]) (rest := []) hC hR hS (xc_CA_taken l G  h) xo_C0 xv_CA_78 ⟨rfl, rfl, Nat.le_of_ble_eq_true rfl, Nat.le_of_ble_eq_true rfl⟩ rfl hl.1 rfl (Nat.le_of_ble_eq_true rfl) xd_CA_fix_36 (fun r4 M3 H locs h hR hS => ?_)
    exact xr_iret hC hr hlk hR hS h xd_CA_fix_39
  · have h := h.2 hq
    refine lv_aload_n (pc := 14) hx hb xd_CA_fix_14 rfl (lv_at hl 0 rfl) ?_
    refine lv_bipush (pc := 15) (v := (-2 : Int32)) hx hb xd_CA_fix_15 (by decide) ?_
    refine xr_callV (pc := 17) (As := [.int (-2 : Int32)]) (rest := []) hC hR hS (xc_CA_refused l G  h) xo_C0 xv_CA_67 ⟨rfl, rfl, Nat.le_of_ble_eq_true rfl, Nat.le_of_ble_eq_true rfl⟩ rfl hl.1 rfl (Nat.le_of_ble_eq_true rfl) xd_CA_fix_17 (fun r6 M5 H locs h hR hS => ?_)
    exact xr_iret hC hr hlk hR hS h xd_CA_fix_20

/-! ColoursApart.isName(I)Z -/
theorem xd_CA_isName_0 : decode b_CA_isName 0 = .ok (.iload_n 0, 1) := by decide +kernel
theorem xd_CA_isName_1 : decode b_CA_isName 1 = .ok (.ifCond .lt 13, 3) := by decide +kernel
theorem xd_CA_isName_4 : decode b_CA_isName 4 = .ok (.iload_n 0, 1) := by decide +kernel
theorem xd_CA_isName_5 : decode b_CA_isName 5 = .ok (.bipush 8, 2) := by decide +kernel
theorem xd_CA_isName_7 : decode b_CA_isName 7 = .ok (.if_icmp .ge 7, 3) := by decide +kernel
theorem xd_CA_isName_10 : decode b_CA_isName 10 = .ok (.iconst 1, 1) := by decide +kernel
theorem xd_CA_isName_11 : decode b_CA_isName 11 = .ok (.goto 4, 3) := by decide +kernel
theorem xd_CA_isName_14 : decode b_CA_isName 14 = .ok (.iconst 0, 1) := by decide +kernel
theorem xd_CA_isName_15 : decode b_CA_isName 15 = .ok (.ireturn, 1) := by decide +kernel
abbrev rm_CA_isName : Room := { frames := 0, cells := 0, slots := 0, locals := 0 }
def xw_CA_isName (a0 : Int32) (M : xM) (post : Int32 → xM → Prop) : Prop :=
  ((a0 < 0) → (post (0 : Int32) M)) ∧ ((¬ a0 < 0) → ((((8 : Int32) ≤ a0) → (post (0 : Int32) M)) ∧ ((¬ (8 : Int32) ≤ a0) → (post (1 : Int32) M))))
set_option maxHeartbeats 4000000 in
set_option maxRecDepth 100000 in
theorem xc_CA_isName (l : Launch) (G : xG) {a0 : Int32}  {M : xM} {post : Int32 → xM → Prop} (h : xw_CA_isName a0 M post) : Met l y_CA_isName (Cond.code y_CA_isName b_CA_isName 1 (some .boolean) :: xTG) rm_CA_isName (xPre G M [.int a0]) (xPi G post) 0 0 (xA G) := by
  refine xMet (own := R_CA) [.int a0] (Or.inl (by decide)) rfl (Nat.le_of_ble_eq_true rfl) (fun p e s m args below meth c ls hC hr hlk hR hS hl => ?_)
  have hx := hC.1
  have hb := hC.2.1
  have hl : lv_has ls 1 [(0, .int a0)] := hl
  obtain ⟨H, eH⟩ : ∃ H : Heap, H = s.heap := ⟨_, rfl⟩
  obtain ⟨locs, eL⟩ : ∃ locs : List Loc, locs = [] := ⟨_, rfl⟩
  rw [← eH] at hR
  replace hS : va_S (xA G) s.heap H locs := by rw [eH, eL]; exact hS
  suffices hh : W p l e rm_CA_isName s m args below meth c H locs 0 0 (MQ below (xPi G post) args s 0 0 (xA G)) (F0 m 0 ls []) from by rw [eH, eL] at hh; exact hh
  unfold xw_CA_isName at h
  refine lv_iload_n (pc := 0) hx hb xd_CA_isName_0 rfl (lv_at hl 0 rfl) ?_
  refine lv_if_lt (pc := 1) (tgt := 14) hx hb xd_CA_isName_1 (by decide) (fun hq => ?_) (fun hq => ?_)
  · have h := h.1 hq
    refine lv_iconst (pc := 14) (v := (0 : Int32)) hx hb xd_CA_isName_14 (by decide) ?_
    exact xr_zret hC hr hlk hR hS (by decide) h xd_CA_isName_15
  · have h := h.2 hq
    refine lv_iload_n (pc := 4) hx hb xd_CA_isName_4 rfl (lv_at hl 0 rfl) ?_
    refine lv_bipush (pc := 5) (v := (8 : Int32)) hx hb xd_CA_isName_5 (by decide) ?_
    refine lv_icmp_ge (pc := 7) (tgt := 14) hx hb xd_CA_isName_7 (by decide) (fun hq => ?_) (fun hq => ?_)
    · have h := h.1 hq
      refine lv_iconst (pc := 14) (v := (0 : Int32)) hx hb xd_CA_isName_14 (by decide) ?_
      exact xr_zret hC hr hlk hR hS (by decide) h xd_CA_isName_15
    · have h := h.2 hq
      refine lv_iconst (pc := 10) (v := (1 : Int32)) hx hb xd_CA_isName_10 (by decide) ?_
      refine lv_goto (pc := 11) (tgt := 15) hx hb xd_CA_isName_11 (by decide) ?_
      exact xr_zret hC hr hlk hR hS (by decide) h xd_CA_isName_15

/-! ColoursApart.name(II)I -/
theorem xd_CA_name_0 : decode b_CA_name 0 = .ok (.iload_n 2, 1) := by decide +kernel
theorem xd_CA_name_1 : decode b_CA_name 1 = .ok (.iconst (-1), 1) := by decide +kernel
theorem xd_CA_name_2 : decode b_CA_name 2 = .ok (.if_icmp .eq 16, 3) := by decide +kernel
theorem xd_CA_name_5 : decode b_CA_name 5 = .ok (.iload_n 2, 1) := by decide +kernel
theorem xd_CA_name_6 : decode b_CA_name 6 = .ok (.invokestatic 185, 3) := by decide +kernel
theorem xd_CA_name_9 : decode b_CA_name 9 = .ok (.ifCond .ne 9, 3) := by decide +kernel
theorem xd_CA_name_12 : decode b_CA_name 12 = .ok (.aload_n 0, 1) := by decide +kernel
theorem xd_CA_name_13 : decode b_CA_name 13 = .ok (.iconst (-1), 1) := by decide +kernel
theorem xd_CA_name_14 : decode b_CA_name 14 = .ok (.invokevirtual 67, 3) := by decide +kernel
theorem xd_CA_name_17 : decode b_CA_name 17 = .ok (.ireturn, 1) := by decide +kernel
theorem xd_CA_name_18 : decode b_CA_name 18 = .ok (.aload_n 0, 1) := by decide +kernel
theorem xd_CA_name_19 : decode b_CA_name 19 = .ok (.getfield 10, 3) := by decide +kernel
theorem xd_CA_name_22 : decode b_CA_name 22 = .ok (.getfield 160, 3) := by decide +kernel
theorem xd_CA_name_25 : decode b_CA_name 25 = .ok (.iload_n 1, 1) := by decide +kernel
theorem xd_CA_name_26 : decode b_CA_name 26 = .ok (.invokevirtual 173, 3) := by decide +kernel
theorem xd_CA_name_29 : decode b_CA_name 29 = .ok (.ifCond .ne 10, 3) := by decide +kernel
theorem xd_CA_name_32 : decode b_CA_name 32 = .ok (.aload_n 0, 1) := by decide +kernel
theorem xd_CA_name_33 : decode b_CA_name 33 = .ok (.bipush (-2), 2) := by decide +kernel
theorem xd_CA_name_35 : decode b_CA_name 35 = .ok (.invokevirtual 67, 3) := by decide +kernel
theorem xd_CA_name_38 : decode b_CA_name 38 = .ok (.ireturn, 1) := by decide +kernel
theorem xd_CA_name_39 : decode b_CA_name 39 = .ok (.iload_n 2, 1) := by decide +kernel
theorem xd_CA_name_40 : decode b_CA_name 40 = .ok (.iconst (-1), 1) := by decide +kernel
theorem xd_CA_name_41 : decode b_CA_name 41 = .ok (.if_icmp .eq 35, 3) := by decide +kernel
theorem xd_CA_name_44 : decode b_CA_name 44 = .ok (.aload_n 0, 1) := by decide +kernel
theorem xd_CA_name_45 : decode b_CA_name 45 = .ok (.getfield 10, 3) := by decide +kernel
theorem xd_CA_name_48 : decode b_CA_name 48 = .ok (.getfield 160, 3) := by decide +kernel
theorem xd_CA_name_51 : decode b_CA_name 51 = .ok (.iload_n 2, 1) := by decide +kernel
theorem xd_CA_name_52 : decode b_CA_name 52 = .ok (.aload_n 0, 1) := by decide +kernel
theorem xd_CA_name_53 : decode b_CA_name 53 = .ok (.getfield 10, 3) := by decide +kernel
theorem xd_CA_name_56 : decode b_CA_name 56 = .ok (.getfield 160, 3) := by decide +kernel
theorem xd_CA_name_59 : decode b_CA_name 59 = .ok (.getfield 181, 3) := by decide +kernel
theorem xd_CA_name_62 : decode b_CA_name 62 = .ok (.iload_n 1, 1) := by decide +kernel
theorem xd_CA_name_63 : decode b_CA_name 63 = .ok (.iaload, 1) := by decide +kernel
theorem xd_CA_name_64 : decode b_CA_name 64 = .ok (.invokevirtual 188, 3) := by decide +kernel
theorem xd_CA_name_67 : decode b_CA_name 67 = .ok (.ifCond .ne 9, 3) := by decide +kernel
theorem xd_CA_name_70 : decode b_CA_name 70 = .ok (.aload_n 0, 1) := by decide +kernel
theorem xd_CA_name_71 : decode b_CA_name 71 = .ok (.iconst (-1), 1) := by decide +kernel
theorem xd_CA_name_72 : decode b_CA_name 72 = .ok (.invokevirtual 67, 3) := by decide +kernel
theorem xd_CA_name_75 : decode b_CA_name 75 = .ok (.ireturn, 1) := by decide +kernel
theorem xd_CA_name_76 : decode b_CA_name 76 = .ok (.aload_n 0, 1) := by decide +kernel
theorem xd_CA_name_77 : decode b_CA_name 77 = .ok (.getfield 10, 3) := by decide +kernel
theorem xd_CA_name_80 : decode b_CA_name 80 = .ok (.getfield 160, 3) := by decide +kernel
theorem xd_CA_name_83 : decode b_CA_name 83 = .ok (.getfield 191, 3) := by decide +kernel
theorem xd_CA_name_86 : decode b_CA_name 86 = .ok (.iload_n 1, 1) := by decide +kernel
theorem xd_CA_name_87 : decode b_CA_name 87 = .ok (.iload_n 2, 1) := by decide +kernel
theorem xd_CA_name_88 : decode b_CA_name 88 = .ok (.iastore, 1) := by decide +kernel
theorem xd_CA_name_89 : decode b_CA_name 89 = .ok (.aload_n 0, 1) := by decide +kernel
theorem xd_CA_name_90 : decode b_CA_name 90 = .ok (.iconst 0, 1) := by decide +kernel
theorem xd_CA_name_91 : decode b_CA_name 91 = .ok (.invokevirtual 78, 3) := by decide +kernel
theorem xd_CA_name_94 : decode b_CA_name 94 = .ok (.ireturn, 1) := by decide +kernel
abbrev rm_CA_name : Room := { frames := 3, cells := 0, slots := 0, locals := 64 }
def xw_CA_name (a1 : Int32) (a2 : Int32) (M : xM) (post : Int32 → xM → Prop) : Prop :=
  xj (fun (J18_0 : xM → Prop) => ((a2 = (-1 : Int32)) → (J18_0  M)) ∧ ((¬ a2 = (-1 : Int32)) → (xw_CA_isName a2 M (fun (r16 : Int32) (M15 : xM) => ((¬ r16 = 0) → (J18_0  M15)) ∧ ((r16 = 0) → (xw_CA_refused (-1 : Int32) M15 (fun (r18 : Int32) (M17 : xM) => post r18 M17))))))) (fun (M2 : xM) => xw_Ho_has 0 a1 M2 (fun (r4 : Int32) (M3 : xM) => ((¬ r4 = 0) → (xj (fun (J76_4 : xM → Prop) => ((a2 = (-1 : Int32)) → (J76_4  M3)) ∧ ((¬ a2 = (-1 : Int32)) → ((vp_in a1 12) ∧ (xw_Ho_boxHolds 0 a2 (M3 0 4 a1.toNatClampNeg) M3 (fun (r10 : Int32) (M9 : xM) => ((¬ r10 = 0) → (J76_4  M9)) ∧ ((r10 = 0) → (xw_CA_refused (-1 : Int32) M9 (fun (r12 : Int32) (M11 : xM) => post r12 M11)))))))) (fun (M6 : xM) => (vp_in a1 12) ∧ (xw_CA_taken (0 : Int32) (us M6 0 6 a1.toNatClampNeg a2) (fun (r8 : Int32) (M7 : xM) => post r8 M7))))) ∧ ((r4 = 0) → (xw_CA_refused (-2 : Int32) M3 (fun (r14 : Int32) (M13 : xM) => post r14 M13)))))
set_option maxHeartbeats 4000000 in
set_option maxRecDepth 100000 in
theorem xc_CA_name (l : Launch) (G : xG) {a1 : Int32} {a2 : Int32}  {M : xM} {post : Int32 → xM → Prop} (h : xw_CA_name a1 a2 M post) : Met l y_CA_name (Cond.code y_CA_name b_CA_name 3 (some .int) :: xTG) rm_CA_name (xPre G M [.ref (G.1 8 0), .int a1, .int a2]) (xPi G post) 0 0 (xA G) := by
  refine xMet (own := R_CA) [.ref (G.1 8 0), .int a1, .int a2] (Or.inl (by decide)) rfl (Nat.le_of_ble_eq_true rfl) (fun p e s m args below meth c ls hC hr hlk hR hS hl => ?_)
  have hx := hC.1
  have hb := hC.2.1
  have hl : lv_has ls 3 [(0, .ref (G.1 8 0)), (1, .int a1), (2, .int a2)] := hl
  obtain ⟨H, eH⟩ : ∃ H : Heap, H = s.heap := ⟨_, rfl⟩
  obtain ⟨locs, eL⟩ : ∃ locs : List Loc, locs = [] := ⟨_, rfl⟩
  rw [← eH] at hR
  replace hS : va_S (xA G) s.heap H locs := by rw [eH, eL]; exact hS
  suffices hh : W p l e rm_CA_name s m args below meth c H locs 0 0 (MQ below (xPi G post) args s 0 0 (xA G)) (F0 m 0 ls []) from by rw [eH, eL] at hh; exact hh
  unfold xw_CA_name at h
  refine lv_iload_n (pc := 0) hx hb xd_CA_name_0 rfl (lv_at hl 2 rfl) ?_
  refine lv_iconst (pc := 1) (v := (-1 : Int32)) hx hb xd_CA_name_1 (by decide) ?_
  obtain ⟨J18_0, eJ18_0, h⟩ := xj_open h
  have kJ18_0 : ∀ (M2 : xM) (H : Heap) (locs : List Loc) (ls : Array Slot), J18_0 M2 → xRp G M2 H → va_S (xA G) s.heap H locs → lv_has ls 3 [(0, .ref (G.1 8 0)), (1, .int a1), (2, .int a2)] → W p l e rm_CA_name s m args below meth c H locs 0 0 (MQ below (xPi G post) args s 0 0 (xA G)) (F0 m 18 ls []) := by
    intro M2 H locs ls h hR hS hl
    rw [eJ18_0] at h
    refine lv_aload_n (pc := 18) hx hb xd_CA_name_18 rfl (lv_at hl 0 rfl) ?_
    refine xr_get (pc := 19) (v := .ref (G.1 0 0)) hC hR xo_C0 xf_CA_10 rfl xd_CA_name_19 ?_
    refine xr_get (pc := 22) (v := .ref (G.1 0 3)) hC hR (xo_K0 xg0) xf_CA_160 rfl xd_CA_name_22 ?_
    refine lv_iload_n (pc := 25) hx hb xd_CA_name_25 rfl (lv_at hl 1 rfl) ?_
    refine xr_callV (pc := 26) (As := [.int a1]) (rest := []) hC hR hS (xc_Ho_has l G xg0 h) (xo_K3 xg0) xv_CA_173 ⟨rfl, rfl, Nat.le_of_ble_eq_true rfl, Nat.le_of_ble_eq_true rfl⟩ rfl hl.1 rfl (Nat.le_of_ble_eq_true rfl) xd_CA_name_26 (fun r4 M3 H locs h hR hS => ?_)
    refine lv_if_ne (pc := 29) (tgt := 39) hx hb xd_CA_name_29 (by decide) (fun hq => ?_) (fun hq => ?_)
    · have h := h.1 hq
      refine lv_iload_n (pc := 39) hx hb xd_CA_name_39 rfl (lv_at hl 2 rfl) ?_
      refine lv_iconst (pc := 40) (v := (-1 : Int32)) hx hb xd_CA_name_40 (by decide) ?_
      obtain ⟨J76_4, eJ76_4, h⟩ := xj_open h
      have kJ76_4 : ∀ (M6 : xM) (H : Heap) (locs : List Loc) (ls : Array Slot), J76_4 M6 → xRp G M6 H → va_S (xA G) s.heap H locs → lv_has ls 3 [(0, .ref (G.1 8 0)), (1, .int a1), (2, .int a2)] → W p l e rm_CA_name s m args below meth c H locs 0 0 (MQ below (xPi G post) args s 0 0 (xA G)) (F0 m 76 ls []) := by
        intro M6 H locs ls h hR hS hl
        rw [eJ76_4] at h
        refine lv_aload_n (pc := 76) hx hb xd_CA_name_76 rfl (lv_at hl 0 rfl) ?_
        refine xr_get (pc := 77) (v := .ref (G.1 0 0)) hC hR xo_C0 xf_CA_10 rfl xd_CA_name_77 ?_
        refine xr_get (pc := 80) (v := .ref (G.1 0 3)) hC hR (xo_K0 xg0) xf_CA_160 rfl xd_CA_name_80 ?_
        refine xr_get (pc := 83) (v := .ref (G.1 0 6)) hC hR (xo_K3 xg0) xf_CA_191 rfl xd_CA_name_83 ?_
        refine lv_iload_n (pc := 86) hx hb xd_CA_name_86 rfl (lv_at hl 1 rfl) ?_
        refine lv_iload_n (pc := 87) hx hb xd_CA_name_87 rfl (lv_at hl 2 rfl) ?_
        obtain ⟨hq, h⟩ := h
        refine xr_iast (pc := 88) hC hR hS (xo_K6 xg0) hq xd_CA_name_88 (fun H locs hR hS => ?_)
        refine lv_aload_n (pc := 89) hx hb xd_CA_name_89 rfl (lv_at hl 0 rfl) ?_
        refine lv_iconst (pc := 90) (v := (0 : Int32)) hx hb xd_CA_name_90 (by decide) ?_
        refine xr_callV (pc := 91) (As := [.int (0 : Int32)]) (rest := []) hC hR hS (xc_CA_taken l G  h) xo_C0 xv_CA_78 ⟨rfl, rfl, Nat.le_of_ble_eq_true rfl, Nat.le_of_ble_eq_true rfl⟩ rfl hl.1 rfl (Nat.le_of_ble_eq_true rfl) xd_CA_name_91 (fun r8 M7 H locs h hR hS => ?_)
        exact xr_iret hC hr hlk hR hS h xd_CA_name_94
      refine lv_icmp_eq (pc := 41) (tgt := 76) hx hb xd_CA_name_41 (by decide) (fun hq => ?_) (fun hq => ?_)
      · have h := h.1 hq
        exact kJ76_4  M3 H locs ls h hR hS (lv_sub hl [0, 1, 2] rfl)
      · have h := h.2 hq
        refine lv_aload_n (pc := 44) hx hb xd_CA_name_44 rfl (lv_at hl 0 rfl) ?_
        refine xr_get (pc := 45) (v := .ref (G.1 0 0)) hC hR xo_C0 xf_CA_10 rfl xd_CA_name_45 ?_
        refine xr_get (pc := 48) (v := .ref (G.1 0 3)) hC hR (xo_K0 xg0) xf_CA_160 rfl xd_CA_name_48 ?_
        refine lv_iload_n (pc := 51) hx hb xd_CA_name_51 rfl (lv_at hl 2 rfl) ?_
        refine lv_aload_n (pc := 52) hx hb xd_CA_name_52 rfl (lv_at hl 0 rfl) ?_
        refine xr_get (pc := 53) (v := .ref (G.1 0 0)) hC hR xo_C0 xf_CA_10 rfl xd_CA_name_53 ?_
        refine xr_get (pc := 56) (v := .ref (G.1 0 3)) hC hR (xo_K0 xg0) xf_CA_160 rfl xd_CA_name_56 ?_
        refine xr_get (pc := 59) (v := .ref (G.1 0 4)) hC hR (xo_K3 xg0) xf_CA_181 rfl xd_CA_name_59 ?_
        refine lv_iload_n (pc := 62) hx hb xd_CA_name_62 rfl (lv_at hl 1 rfl) ?_
        obtain ⟨hq, h⟩ := h
        refine xr_iald (pc := 63) hC hR (xo_K4 xg0) hq xd_CA_name_63 ?_
        refine xr_callV (pc := 64) (As := [.int a2, .int (M3 0 4 a1.toNatClampNeg)]) (rest := []) hC hR hS (xc_Ho_boxHolds l G xg0 h) (xo_K3 xg0) xv_CA_188 ⟨rfl, rfl, Nat.le_of_ble_eq_true rfl, Nat.le_of_ble_eq_true rfl⟩ rfl hl.1 rfl (Nat.le_of_ble_eq_true rfl) xd_CA_name_64 (fun r10 M9 H locs h hR hS => ?_)
        refine lv_if_ne (pc := 67) (tgt := 76) hx hb xd_CA_name_67 (by decide) (fun hq => ?_) (fun hq => ?_)
        · have h := h.1 hq
          exact kJ76_4  M9 H locs ls h hR hS (lv_sub hl [0, 1, 2] rfl)
        · have h := h.2 hq
          refine lv_aload_n (pc := 70) hx hb xd_CA_name_70 rfl (lv_at hl 0 rfl) ?_
          refine lv_iconst (pc := 71) (v := (-1 : Int32)) hx hb xd_CA_name_71 (by decide) ?_
          refine xr_callV (pc := 72) (As := [.int (-1 : Int32)]) (rest := []) hC hR hS (xc_CA_refused l G  h) xo_C0 xv_CA_67 ⟨rfl, rfl, Nat.le_of_ble_eq_true rfl, Nat.le_of_ble_eq_true rfl⟩ rfl hl.1 rfl (Nat.le_of_ble_eq_true rfl) xd_CA_name_72 (fun r12 M11 H locs h hR hS => ?_)
          exact xr_iret hC hr hlk hR hS h xd_CA_name_75
    · have h := h.2 hq
      refine lv_aload_n (pc := 32) hx hb xd_CA_name_32 rfl (lv_at hl 0 rfl) ?_
      refine lv_bipush (pc := 33) (v := (-2 : Int32)) hx hb xd_CA_name_33 (by decide) ?_
      refine xr_callV (pc := 35) (As := [.int (-2 : Int32)]) (rest := []) hC hR hS (xc_CA_refused l G  h) xo_C0 xv_CA_67 ⟨rfl, rfl, Nat.le_of_ble_eq_true rfl, Nat.le_of_ble_eq_true rfl⟩ rfl hl.1 rfl (Nat.le_of_ble_eq_true rfl) xd_CA_name_35 (fun r14 M13 H locs h hR hS => ?_)
      exact xr_iret hC hr hlk hR hS h xd_CA_name_38
  refine lv_icmp_eq (pc := 2) (tgt := 18) hx hb xd_CA_name_2 (by decide) (fun hq => ?_) (fun hq => ?_)
  · have h := h.1 hq
    exact kJ18_0  M H locs ls h hR hS (lv_sub hl [0, 1, 2] rfl)
  · have h := h.2 hq
    refine lv_iload_n (pc := 5) hx hb xd_CA_name_5 rfl (lv_at hl 2 rfl) ?_
    refine xr_callS (pc := 6) (As := [.int a2]) (rest := []) hC hR hS (xc_CA_isName l G  h) xv_CA_185 ⟨rfl, rfl, Nat.le_of_ble_eq_true rfl, Nat.le_of_ble_eq_true rfl⟩ rfl hl.1 rfl (Nat.le_of_ble_eq_true rfl) xd_CA_name_6 (fun r16 M15 H locs h hR hS => ?_)
    refine lv_if_ne (pc := 9) (tgt := 18) hx hb xd_CA_name_9 (by decide) (fun hq => ?_) (fun hq => ?_)
    · have h := h.1 hq
      exact kJ18_0  M15 H locs ls h hR hS (lv_sub hl [0, 1, 2] rfl)
    · have h := h.2 hq
      refine lv_aload_n (pc := 12) hx hb xd_CA_name_12 rfl (lv_at hl 0 rfl) ?_
      refine lv_iconst (pc := 13) (v := (-1 : Int32)) hx hb xd_CA_name_13 (by decide) ?_
      refine xr_callV (pc := 14) (As := [.int (-1 : Int32)]) (rest := []) hC hR hS (xc_CA_refused l G  h) xo_C0 xv_CA_67 ⟨rfl, rfl, Nat.le_of_ble_eq_true rfl, Nat.le_of_ble_eq_true rfl⟩ rfl hl.1 rfl (Nat.le_of_ble_eq_true rfl) xd_CA_name_14 (fun r18 M17 H locs h hR hS => ?_)
      exact xr_iret hC hr hlk hR hS h xd_CA_name_17
