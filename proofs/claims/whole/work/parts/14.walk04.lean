/-! ColoursApart$Rgb.contrastReaches(III)Z -/
theorem xd_Rg_contrastReaches_0 : decode b_Rg_contrastReaches 0 = .ok (.iload_n 0, 1) := by decide +kernel
theorem xd_Rg_contrastReaches_1 : decode b_Rg_contrastReaches 1 = .ok (.invokestatic 20, 3) := by decide +kernel
theorem xd_Rg_contrastReaches_4 : decode b_Rg_contrastReaches 4 = .ok (.bipush 13, 2) := by decide +kernel
theorem xd_Rg_contrastReaches_6 : decode b_Rg_contrastReaches 6 = .ok (.iadd, 1) := by decide +kernel
theorem xd_Rg_contrastReaches_7 : decode b_Rg_contrastReaches 7 = .ok (.istore_n 3, 1) := by decide +kernel
theorem xd_Rg_contrastReaches_8 : decode b_Rg_contrastReaches 8 = .ok (.iload_n 1, 1) := by decide +kernel
theorem xd_Rg_contrastReaches_9 : decode b_Rg_contrastReaches 9 = .ok (.invokestatic 20, 3) := by decide +kernel
theorem xd_Rg_contrastReaches_12 : decode b_Rg_contrastReaches 12 = .ok (.bipush 13, 2) := by decide +kernel
theorem xd_Rg_contrastReaches_14 : decode b_Rg_contrastReaches 14 = .ok (.iadd, 1) := by decide +kernel
theorem xd_Rg_contrastReaches_15 : decode b_Rg_contrastReaches 15 = .ok (.istore 4, 2) := by decide +kernel
theorem xd_Rg_contrastReaches_17 : decode b_Rg_contrastReaches 17 = .ok (.bipush 10, 2) := by decide +kernel
theorem xd_Rg_contrastReaches_19 : decode b_Rg_contrastReaches 19 = .ok (.iload_n 3, 1) := by decide +kernel
theorem xd_Rg_contrastReaches_20 : decode b_Rg_contrastReaches 20 = .ok (.iload 4, 2) := by decide +kernel
theorem xd_Rg_contrastReaches_22 : decode b_Rg_contrastReaches 22 = .ok (.invokestatic 23, 3) := by decide +kernel
theorem xd_Rg_contrastReaches_25 : decode b_Rg_contrastReaches 25 = .ok (.imul, 1) := by decide +kernel
theorem xd_Rg_contrastReaches_26 : decode b_Rg_contrastReaches 26 = .ok (.iload_n 2, 1) := by decide +kernel
theorem xd_Rg_contrastReaches_27 : decode b_Rg_contrastReaches 27 = .ok (.iload_n 3, 1) := by decide +kernel
theorem xd_Rg_contrastReaches_28 : decode b_Rg_contrastReaches 28 = .ok (.iload 4, 2) := by decide +kernel
theorem xd_Rg_contrastReaches_30 : decode b_Rg_contrastReaches 30 = .ok (.invokestatic 29, 3) := by decide +kernel
theorem xd_Rg_contrastReaches_33 : decode b_Rg_contrastReaches 33 = .ok (.imul, 1) := by decide +kernel
theorem xd_Rg_contrastReaches_34 : decode b_Rg_contrastReaches 34 = .ok (.if_icmp .lt 7, 3) := by decide +kernel
theorem xd_Rg_contrastReaches_37 : decode b_Rg_contrastReaches 37 = .ok (.iconst 1, 1) := by decide +kernel
theorem xd_Rg_contrastReaches_38 : decode b_Rg_contrastReaches 38 = .ok (.goto 4, 3) := by decide +kernel
theorem xd_Rg_contrastReaches_41 : decode b_Rg_contrastReaches 41 = .ok (.iconst 0, 1) := by decide +kernel
theorem xd_Rg_contrastReaches_42 : decode b_Rg_contrastReaches 42 = .ok (.ireturn, 1) := by decide +kernel
abbrev rm_Rg_contrastReaches : Room := { frames := 2, cells := 0, slots := 0, locals := 40 }
def xw_Rg_contrastReaches (a0 : Int32) (a1 : Int32) (a2 : Int32) (M : xM) (post : Int32 → xM → Prop) : Prop :=
  xw_Rg_lightOf a0 M (fun (r2 : Int32) (M1 : xM) => xw_Rg_lightOf a1 M1 (fun (r4 : Int32) (M3 : xM) => ((((10 : Int32) * (if (r2 + (13 : Int32)) < (r4 + (13 : Int32)) then (r4 + (13 : Int32)) else (r2 + (13 : Int32)))) < (a2 * (if (r4 + (13 : Int32)) < (r2 + (13 : Int32)) then (r4 + (13 : Int32)) else (r2 + (13 : Int32))))) → (post (0 : Int32) M3)) ∧ ((¬ ((10 : Int32) * (if (r2 + (13 : Int32)) < (r4 + (13 : Int32)) then (r4 + (13 : Int32)) else (r2 + (13 : Int32)))) < (a2 * (if (r4 + (13 : Int32)) < (r2 + (13 : Int32)) then (r4 + (13 : Int32)) else (r2 + (13 : Int32))))) → (post (1 : Int32) M3))))
set_option maxHeartbeats 4000000 in
set_option maxRecDepth 100000 in
theorem xc_Rg_contrastReaches (l : Launch) (G : xG) {a0 : Int32} {a1 : Int32} {a2 : Int32}  {M : xM} {post : Int32 → xM → Prop} (h : xw_Rg_contrastReaches a0 a1 a2 M post) : Met l y_Rg_contrastReaches (Cond.code y_Rg_contrastReaches b_Rg_contrastReaches 5 (some .boolean) :: xTG) rm_Rg_contrastReaches (xPre G M [.int a0, .int a1, .int a2]) (xPi G post) 0 0 (xA G) := by
  refine xMet (own := R_Rg) [.int a0, .int a1, .int a2] (Or.inl (by decide)) rfl (Nat.le_of_ble_eq_true rfl) (fun p e s m args below meth c ls hC hr hlk hR hS hl => ?_)
  have hx := hC.1
  have hb := hC.2.1
  have hl : lv_has ls 5 [(0, .int a0), (1, .int a1), (2, .int a2)] := hl
  obtain ⟨H, eH⟩ : ∃ H : Heap, H = s.heap := ⟨_, rfl⟩
  obtain ⟨locs, eL⟩ : ∃ locs : List Loc, locs = [] := ⟨_, rfl⟩
  rw [← eH] at hR
  replace hS : va_S (xA G) s.heap H locs := by rw [eH, eL]; exact hS
  suffices hh : W p l e rm_Rg_contrastReaches s m args below meth c H locs 0 0 (MQ below (xPi G post) args s 0 0 (xA G)) (F0 m 0 ls []) from by rw [eH, eL] at hh; exact hh
  unfold xw_Rg_contrastReaches at h
  refine lv_iload_n (pc := 0) hx hb xd_Rg_contrastReaches_0 rfl (lv_at hl 0 rfl) ?_
  refine xr_callS (pc := 1) (As := [.int a0]) (rest := []) hC hR hS (xc_Rg_lightOf l G  h) xv_Rg_20 ⟨rfl, rfl, Nat.le_of_ble_eq_true rfl, Nat.le_of_ble_eq_true rfl⟩ rfl hl.1 rfl (Nat.le_of_ble_eq_true rfl) xd_Rg_contrastReaches_1 (fun r2 M1 H locs h hR hS => ?_)
  refine lv_bipush (pc := 4) (v := (13 : Int32)) hx hb xd_Rg_contrastReaches_4 (by decide) ?_
  refine lv_iadd (pc := 6) hx hb xd_Rg_contrastReaches_6 ?_
  refine lv_istore_n (pc := 7) (lv' := [(3, .int (r2 + (13 : Int32))), (0, .int a0), (1, .int a1), (2, .int a2)]) hx hb xd_Rg_contrastReaches_7 rfl hl (by decide) rfl (fun ls hl => ?_)
  refine lv_iload_n (pc := 8) hx hb xd_Rg_contrastReaches_8 rfl (lv_at hl 2 rfl) ?_
  refine xr_callS (pc := 9) (As := [.int a1]) (rest := []) hC hR hS (xc_Rg_lightOf l G  h) xv_Rg_20 ⟨rfl, rfl, Nat.le_of_ble_eq_true rfl, Nat.le_of_ble_eq_true rfl⟩ rfl hl.1 rfl (Nat.le_of_ble_eq_true rfl) xd_Rg_contrastReaches_9 (fun r4 M3 H locs h hR hS => ?_)
  refine lv_bipush (pc := 12) (v := (13 : Int32)) hx hb xd_Rg_contrastReaches_12 (by decide) ?_
  refine lv_iadd (pc := 14) hx hb xd_Rg_contrastReaches_14 ?_
  refine lv_istore (pc := 15) (lv' := [(4, .int (r4 + (13 : Int32))), (3, .int (r2 + (13 : Int32))), (0, .int a0), (1, .int a1), (2, .int a2)]) hx hb xd_Rg_contrastReaches_15 hl (by decide) rfl (fun ls hl => ?_)
  refine lv_bipush (pc := 17) (v := (10 : Int32)) hx hb xd_Rg_contrastReaches_17 (by decide) ?_
  refine lv_iload_n (pc := 19) hx hb xd_Rg_contrastReaches_19 rfl (lv_at hl 1 rfl) ?_
  refine lv_iload (pc := 20) hx hb xd_Rg_contrastReaches_20 (lv_at hl 0 rfl) ?_
  refine xr_max (pc := 22) hC xk_Rg_23 hl.1 (Nat.le_of_ble_eq_true rfl) (Nat.le_of_ble_eq_true rfl) xd_Rg_contrastReaches_22 ?_
  refine lv_imul (pc := 25) hx hb xd_Rg_contrastReaches_25 ?_
  refine lv_iload_n (pc := 26) hx hb xd_Rg_contrastReaches_26 rfl (lv_at hl 4 rfl) ?_
  refine lv_iload_n (pc := 27) hx hb xd_Rg_contrastReaches_27 rfl (lv_at hl 1 rfl) ?_
  refine lv_iload (pc := 28) hx hb xd_Rg_contrastReaches_28 (lv_at hl 0 rfl) ?_
  refine xr_min (pc := 30) hC xk_Rg_29 hl.1 (Nat.le_of_ble_eq_true rfl) (Nat.le_of_ble_eq_true rfl) xd_Rg_contrastReaches_30 ?_
  refine lv_imul (pc := 33) hx hb xd_Rg_contrastReaches_33 ?_
  refine lv_icmp_lt (pc := 34) (tgt := 41) hx hb xd_Rg_contrastReaches_34 (by decide) (fun hq => ?_) (fun hq => ?_)
  · have h := h.1 hq
    refine lv_iconst (pc := 41) (v := (0 : Int32)) hx hb xd_Rg_contrastReaches_41 (by decide) ?_
    exact xr_zret hC hr hlk hR hS (by decide) h xd_Rg_contrastReaches_42
  · have h := h.2 hq
    refine lv_iconst (pc := 37) (v := (1 : Int32)) hx hb xd_Rg_contrastReaches_37 (by decide) ?_
    refine lv_goto (pc := 38) (tgt := 42) hx hb xd_Rg_contrastReaches_38 (by decide) ?_
    exact xr_zret hC hr hlk hR hS (by decide) h xd_Rg_contrastReaches_42

/-! ColoursApart$House.isMet(I)Z -/
theorem xd_Ho_isMet_0 : decode b_Ho_isMet 0 = .ok (.aload_n 0, 1) := by decide +kernel
theorem xd_Ho_isMet_1 : decode b_Ho_isMet 1 = .ok (.getfield 15, 3) := by decide +kernel
theorem xd_Ho_isMet_4 : decode b_Ho_isMet 4 = .ok (.aload_n 0, 1) := by decide +kernel
theorem xd_Ho_isMet_5 : decode b_Ho_isMet 5 = .ok (.getfield 35, 3) := by decide +kernel
theorem xd_Ho_isMet_8 : decode b_Ho_isMet 8 = .ok (.iload_n 1, 1) := by decide +kernel
theorem xd_Ho_isMet_9 : decode b_Ho_isMet 9 = .ok (.iaload, 1) := by decide +kernel
theorem xd_Ho_isMet_10 : decode b_Ho_isMet 10 = .ok (.iaload, 1) := by decide +kernel
theorem xd_Ho_isMet_11 : decode b_Ho_isMet 11 = .ok (.aload_n 0, 1) := by decide +kernel
theorem xd_Ho_isMet_12 : decode b_Ho_isMet 12 = .ok (.getfield 15, 3) := by decide +kernel
theorem xd_Ho_isMet_15 : decode b_Ho_isMet 15 = .ok (.aload_n 0, 1) := by decide +kernel
theorem xd_Ho_isMet_16 : decode b_Ho_isMet 16 = .ok (.getfield 38, 3) := by decide +kernel
theorem xd_Ho_isMet_19 : decode b_Ho_isMet 19 = .ok (.iload_n 1, 1) := by decide +kernel
theorem xd_Ho_isMet_20 : decode b_Ho_isMet 20 = .ok (.iaload, 1) := by decide +kernel
theorem xd_Ho_isMet_21 : decode b_Ho_isMet 21 = .ok (.iaload, 1) := by decide +kernel
theorem xd_Ho_isMet_22 : decode b_Ho_isMet 22 = .ok (.aload_n 0, 1) := by decide +kernel
theorem xd_Ho_isMet_23 : decode b_Ho_isMet 23 = .ok (.getfield 41, 3) := by decide +kernel
theorem xd_Ho_isMet_26 : decode b_Ho_isMet 26 = .ok (.iload_n 1, 1) := by decide +kernel
theorem xd_Ho_isMet_27 : decode b_Ho_isMet 27 = .ok (.iaload, 1) := by decide +kernel
theorem xd_Ho_isMet_28 : decode b_Ho_isMet 28 = .ok (.invokestatic 67, 3) := by decide +kernel
theorem xd_Ho_isMet_31 : decode b_Ho_isMet 31 = .ok (.ireturn, 1) := by decide +kernel
abbrev rm_Ho_isMet : Room := { frames := 3, cells := 0, slots := 0, locals := 64 }
def xw_Ho_isMet (g : Nat) (a1 : Int32) (M : xM) (post : Int32 → xM → Prop) : Prop :=
  (vp_in a1 20) ∧ ((vp_in (M g 9 a1.toNatClampNeg) 12) ∧ ((vp_in a1 20) ∧ ((vp_in (M g 10 a1.toNatClampNeg) 12) ∧ ((vp_in a1 20) ∧ (xw_Rg_contrastReaches (M g 4 (M g 9 a1.toNatClampNeg).toNatClampNeg) (M g 4 (M g 10 a1.toNatClampNeg).toNatClampNeg) (M g 11 a1.toNatClampNeg) M (fun (r2 : Int32) (M1 : xM) => (r2 &&& 1 = r2) ∧ (post r2 M1)))))))
set_option maxHeartbeats 4000000 in
set_option maxRecDepth 100000 in
theorem xc_Ho_isMet (l : Launch) (G : xG) {g : Nat} {a1 : Int32} (hg : g < 4) {M : xM} {post : Int32 → xM → Prop} (h : xw_Ho_isMet g a1 M post) : Met l y_Ho_isMet (Cond.code y_Ho_isMet b_Ho_isMet 2 (some .boolean) :: xTG) rm_Ho_isMet (xPre G M [.ref (G.1 g 3), .int a1]) (xPi G post) 0 0 (xA G) := by
  refine xMet (own := R_Ho) [.ref (G.1 g 3), .int a1] (Or.inl (by decide)) rfl (Nat.le_of_ble_eq_true rfl) (fun p e s m args below meth c ls hC hr hlk hR hS hl => ?_)
  have hx := hC.1
  have hb := hC.2.1
  have hl : lv_has ls 2 [(0, .ref (G.1 g 3)), (1, .int a1)] := hl
  obtain ⟨H, eH⟩ : ∃ H : Heap, H = s.heap := ⟨_, rfl⟩
  obtain ⟨locs, eL⟩ : ∃ locs : List Loc, locs = [] := ⟨_, rfl⟩
  rw [← eH] at hR
  replace hS : va_S (xA G) s.heap H locs := by rw [eH, eL]; exact hS
  suffices hh : W p l e rm_Ho_isMet s m args below meth c H locs 0 0 (MQ below (xPi G post) args s 0 0 (xA G)) (F0 m 0 ls []) from by rw [eH, eL] at hh; exact hh
  unfold xw_Ho_isMet at h
  refine lv_aload_n (pc := 0) hx hb xd_Ho_isMet_0 rfl (lv_at hl 0 rfl) ?_
  refine xr_get (pc := 1) (v := .ref (G.1 g 4)) hC hR (xo_K3 hg) xf_Ho_15 rfl xd_Ho_isMet_1 ?_
  refine lv_aload_n (pc := 4) hx hb xd_Ho_isMet_4 rfl (lv_at hl 0 rfl) ?_
  refine xr_get (pc := 5) (v := .ref (G.1 g 9)) hC hR (xo_K3 hg) xf_Ho_35 rfl xd_Ho_isMet_5 ?_
  refine lv_iload_n (pc := 8) hx hb xd_Ho_isMet_8 rfl (lv_at hl 1 rfl) ?_
  obtain ⟨hq, h⟩ := h
  refine xr_iald (pc := 9) hC hR (xo_K9 hg) hq xd_Ho_isMet_9 ?_
  obtain ⟨hq, h⟩ := h
  refine xr_iald (pc := 10) hC hR (xo_K4 hg) hq xd_Ho_isMet_10 ?_
  refine lv_aload_n (pc := 11) hx hb xd_Ho_isMet_11 rfl (lv_at hl 0 rfl) ?_
  refine xr_get (pc := 12) (v := .ref (G.1 g 4)) hC hR (xo_K3 hg) xf_Ho_15 rfl xd_Ho_isMet_12 ?_
  refine lv_aload_n (pc := 15) hx hb xd_Ho_isMet_15 rfl (lv_at hl 0 rfl) ?_
  refine xr_get (pc := 16) (v := .ref (G.1 g 10)) hC hR (xo_K3 hg) xf_Ho_38 rfl xd_Ho_isMet_16 ?_
  refine lv_iload_n (pc := 19) hx hb xd_Ho_isMet_19 rfl (lv_at hl 1 rfl) ?_
  obtain ⟨hq, h⟩ := h
  refine xr_iald (pc := 20) hC hR (xo_K10 hg) hq xd_Ho_isMet_20 ?_
  obtain ⟨hq, h⟩ := h
  refine xr_iald (pc := 21) hC hR (xo_K4 hg) hq xd_Ho_isMet_21 ?_
  refine lv_aload_n (pc := 22) hx hb xd_Ho_isMet_22 rfl (lv_at hl 0 rfl) ?_
  refine xr_get (pc := 23) (v := .ref (G.1 g 11)) hC hR (xo_K3 hg) xf_Ho_41 rfl xd_Ho_isMet_23 ?_
  refine lv_iload_n (pc := 26) hx hb xd_Ho_isMet_26 rfl (lv_at hl 1 rfl) ?_
  obtain ⟨hq, h⟩ := h
  refine xr_iald (pc := 27) hC hR (xo_K11 hg) hq xd_Ho_isMet_27 ?_
  refine xr_callS (pc := 28) (As := [.int (M g 4 (M g 9 a1.toNatClampNeg).toNatClampNeg), .int (M g 4 (M g 10 a1.toNatClampNeg).toNatClampNeg), .int (M g 11 a1.toNatClampNeg)]) (rest := []) hC hR hS (xc_Rg_contrastReaches l G  h) xv_Ho_67 ⟨rfl, rfl, Nat.le_of_ble_eq_true rfl, Nat.le_of_ble_eq_true rfl⟩ rfl hl.1 rfl (Nat.le_of_ble_eq_true rfl) xd_Ho_isMet_28 (fun r2 M1 H locs h hR hS => ?_)
  exact xr_zret hC hr hlk hR hS h.1 h.2 xd_Ho_isMet_31

/-! ColoursApart$House.partnerOf(II)I -/
theorem xd_Ho_partnerOf_0 : decode b_Ho_partnerOf 0 = .ok (.aload_n 0, 1) := by decide +kernel
theorem xd_Ho_partnerOf_1 : decode b_Ho_partnerOf 1 = .ok (.getfield 35, 3) := by decide +kernel
theorem xd_Ho_partnerOf_4 : decode b_Ho_partnerOf 4 = .ok (.iload_n 2, 1) := by decide +kernel
theorem xd_Ho_partnerOf_5 : decode b_Ho_partnerOf 5 = .ok (.iaload, 1) := by decide +kernel
theorem xd_Ho_partnerOf_6 : decode b_Ho_partnerOf 6 = .ok (.iload_n 1, 1) := by decide +kernel
theorem xd_Ho_partnerOf_7 : decode b_Ho_partnerOf 7 = .ok (.if_icmp .ne 10, 3) := by decide +kernel
theorem xd_Ho_partnerOf_10 : decode b_Ho_partnerOf 10 = .ok (.aload_n 0, 1) := by decide +kernel
theorem xd_Ho_partnerOf_11 : decode b_Ho_partnerOf 11 = .ok (.getfield 38, 3) := by decide +kernel
theorem xd_Ho_partnerOf_14 : decode b_Ho_partnerOf 14 = .ok (.iload_n 2, 1) := by decide +kernel
theorem xd_Ho_partnerOf_15 : decode b_Ho_partnerOf 15 = .ok (.iaload, 1) := by decide +kernel
theorem xd_Ho_partnerOf_16 : decode b_Ho_partnerOf 16 = .ok (.ireturn, 1) := by decide +kernel
theorem xd_Ho_partnerOf_17 : decode b_Ho_partnerOf 17 = .ok (.aload_n 0, 1) := by decide +kernel
theorem xd_Ho_partnerOf_18 : decode b_Ho_partnerOf 18 = .ok (.getfield 38, 3) := by decide +kernel
theorem xd_Ho_partnerOf_21 : decode b_Ho_partnerOf 21 = .ok (.iload_n 2, 1) := by decide +kernel
theorem xd_Ho_partnerOf_22 : decode b_Ho_partnerOf 22 = .ok (.iaload, 1) := by decide +kernel
theorem xd_Ho_partnerOf_23 : decode b_Ho_partnerOf 23 = .ok (.iload_n 1, 1) := by decide +kernel
theorem xd_Ho_partnerOf_24 : decode b_Ho_partnerOf 24 = .ok (.if_icmp .ne 12, 3) := by decide +kernel
theorem xd_Ho_partnerOf_27 : decode b_Ho_partnerOf 27 = .ok (.aload_n 0, 1) := by decide +kernel
theorem xd_Ho_partnerOf_28 : decode b_Ho_partnerOf 28 = .ok (.getfield 35, 3) := by decide +kernel
theorem xd_Ho_partnerOf_31 : decode b_Ho_partnerOf 31 = .ok (.iload_n 2, 1) := by decide +kernel
theorem xd_Ho_partnerOf_32 : decode b_Ho_partnerOf 32 = .ok (.iaload, 1) := by decide +kernel
theorem xd_Ho_partnerOf_33 : decode b_Ho_partnerOf 33 = .ok (.goto 4, 3) := by decide +kernel
theorem xd_Ho_partnerOf_36 : decode b_Ho_partnerOf 36 = .ok (.iconst (-1), 1) := by decide +kernel
theorem xd_Ho_partnerOf_37 : decode b_Ho_partnerOf 37 = .ok (.ireturn, 1) := by decide +kernel
abbrev rm_Ho_partnerOf : Room := { frames := 0, cells := 0, slots := 0, locals := 0 }
def xw_Ho_partnerOf (g : Nat) (a1 : Int32) (a2 : Int32) (M : xM) (post : Int32 → xM → Prop) : Prop :=
  (vp_in a2 20) ∧ (((¬ (M g 9 a2.toNatClampNeg) = a1) → ((vp_in a2 20) ∧ (((¬ (M g 10 a2.toNatClampNeg) = a1) → (post (-1 : Int32) M)) ∧ (((M g 10 a2.toNatClampNeg) = a1) → ((vp_in a2 20) ∧ (post (M g 9 a2.toNatClampNeg) M)))))) ∧ (((M g 9 a2.toNatClampNeg) = a1) → ((vp_in a2 20) ∧ (post (M g 10 a2.toNatClampNeg) M))))
set_option maxHeartbeats 4000000 in
set_option maxRecDepth 100000 in
theorem xc_Ho_partnerOf (l : Launch) (G : xG) {g : Nat} {a1 : Int32} {a2 : Int32} (hg : g < 4) {M : xM} {post : Int32 → xM → Prop} (h : xw_Ho_partnerOf g a1 a2 M post) : Met l y_Ho_partnerOf (Cond.code y_Ho_partnerOf b_Ho_partnerOf 3 (some .int) :: xTG) rm_Ho_partnerOf (xPre G M [.ref (G.1 g 3), .int a1, .int a2]) (xPi G post) 0 0 (xA G) := by
  refine xMet (own := R_Ho) [.ref (G.1 g 3), .int a1, .int a2] (Or.inl (by decide)) rfl (Nat.le_of_ble_eq_true rfl) (fun p e s m args below meth c ls hC hr hlk hR hS hl => ?_)
  have hx := hC.1
  have hb := hC.2.1
  have hl : lv_has ls 3 [(0, .ref (G.1 g 3)), (1, .int a1), (2, .int a2)] := hl
  obtain ⟨H, eH⟩ : ∃ H : Heap, H = s.heap := ⟨_, rfl⟩
  obtain ⟨locs, eL⟩ : ∃ locs : List Loc, locs = [] := ⟨_, rfl⟩
  rw [← eH] at hR
  replace hS : va_S (xA G) s.heap H locs := by rw [eH, eL]; exact hS
  suffices hh : W p l e rm_Ho_partnerOf s m args below meth c H locs 0 0 (MQ below (xPi G post) args s 0 0 (xA G)) (F0 m 0 ls []) from by rw [eH, eL] at hh; exact hh
  unfold xw_Ho_partnerOf at h
  refine lv_aload_n (pc := 0) hx hb xd_Ho_partnerOf_0 rfl (lv_at hl 0 rfl) ?_
  refine xr_get (pc := 1) (v := .ref (G.1 g 9)) hC hR (xo_K3 hg) xf_Ho_35 rfl xd_Ho_partnerOf_1 ?_
  refine lv_iload_n (pc := 4) hx hb xd_Ho_partnerOf_4 rfl (lv_at hl 2 rfl) ?_
  obtain ⟨hq, h⟩ := h
  refine xr_iald (pc := 5) hC hR (xo_K9 hg) hq xd_Ho_partnerOf_5 ?_
  refine lv_iload_n (pc := 6) hx hb xd_Ho_partnerOf_6 rfl (lv_at hl 1 rfl) ?_
  refine lv_icmp_ne (pc := 7) (tgt := 17) hx hb xd_Ho_partnerOf_7 (by decide) (fun hq => ?_) (fun hq => ?_)
  · have h := h.1 hq
    refine lv_aload_n (pc := 17) hx hb xd_Ho_partnerOf_17 rfl (lv_at hl 0 rfl) ?_
    refine xr_get (pc := 18) (v := .ref (G.1 g 10)) hC hR (xo_K3 hg) xf_Ho_38 rfl xd_Ho_partnerOf_18 ?_
    refine lv_iload_n (pc := 21) hx hb xd_Ho_partnerOf_21 rfl (lv_at hl 2 rfl) ?_
    obtain ⟨hq, h⟩ := h
    refine xr_iald (pc := 22) hC hR (xo_K10 hg) hq xd_Ho_partnerOf_22 ?_
    refine lv_iload_n (pc := 23) hx hb xd_Ho_partnerOf_23 rfl (lv_at hl 1 rfl) ?_
    refine lv_icmp_ne (pc := 24) (tgt := 36) hx hb xd_Ho_partnerOf_24 (by decide) (fun hq => ?_) (fun hq => ?_)
    · have h := h.1 hq
      refine lv_iconst (pc := 36) (v := (-1 : Int32)) hx hb xd_Ho_partnerOf_36 (by decide) ?_
      exact xr_iret hC hr hlk hR hS h xd_Ho_partnerOf_37
    · have h := h.2 hq
      refine lv_aload_n (pc := 27) hx hb xd_Ho_partnerOf_27 rfl (lv_at hl 0 rfl) ?_
      refine xr_get (pc := 28) (v := .ref (G.1 g 9)) hC hR (xo_K3 hg) xf_Ho_35 rfl xd_Ho_partnerOf_28 ?_
      refine lv_iload_n (pc := 31) hx hb xd_Ho_partnerOf_31 rfl (lv_at hl 2 rfl) ?_
      obtain ⟨hq, h⟩ := h
      refine xr_iald (pc := 32) hC hR (xo_K9 hg) hq xd_Ho_partnerOf_32 ?_
      refine lv_goto (pc := 33) (tgt := 37) hx hb xd_Ho_partnerOf_33 (by decide) ?_
      exact xr_iret hC hr hlk hR hS h xd_Ho_partnerOf_37
  · have h := h.2 hq
    refine lv_aload_n (pc := 10) hx hb xd_Ho_partnerOf_10 rfl (lv_at hl 0 rfl) ?_
    refine xr_get (pc := 11) (v := .ref (G.1 g 10)) hC hR (xo_K3 hg) xf_Ho_38 rfl xd_Ho_partnerOf_11 ?_
    refine lv_iload_n (pc := 14) hx hb xd_Ho_partnerOf_14 rfl (lv_at hl 2 rfl) ?_
    obtain ⟨hq, h⟩ := h
    refine xr_iald (pc := 15) hC hR (xo_K10 hg) hq xd_Ho_partnerOf_15 ?_
    exact xr_iret hC hr hlk hR hS h xd_Ho_partnerOf_16

/-! ColoursApart$House.pairsAllow(II)Z -/
theorem xd_Ho_pairsAllow_0 : decode b_Ho_pairsAllow 0 = .ok (.iconst 0, 1) := by decide +kernel
theorem xd_Ho_pairsAllow_1 : decode b_Ho_pairsAllow 1 = .ok (.istore_n 3, 1) := by decide +kernel
theorem xd_Ho_pairsAllow_2 : decode b_Ho_pairsAllow 2 = .ok (.iload_n 3, 1) := by decide +kernel
theorem xd_Ho_pairsAllow_3 : decode b_Ho_pairsAllow 3 = .ok (.aload_n 0, 1) := by decide +kernel
theorem xd_Ho_pairsAllow_4 : decode b_Ho_pairsAllow 4 = .ok (.getfield 32, 3) := by decide +kernel
theorem xd_Ho_pairsAllow_7 : decode b_Ho_pairsAllow 7 = .ok (.if_icmp .ge 45, 3) := by decide +kernel
theorem xd_Ho_pairsAllow_10 : decode b_Ho_pairsAllow 10 = .ok (.aload_n 0, 1) := by decide +kernel
theorem xd_Ho_pairsAllow_11 : decode b_Ho_pairsAllow 11 = .ok (.iload_n 1, 1) := by decide +kernel
theorem xd_Ho_pairsAllow_12 : decode b_Ho_pairsAllow 12 = .ok (.iload_n 3, 1) := by decide +kernel
theorem xd_Ho_pairsAllow_13 : decode b_Ho_pairsAllow 13 = .ok (.invokevirtual 70, 3) := by decide +kernel
theorem xd_Ho_pairsAllow_16 : decode b_Ho_pairsAllow 16 = .ok (.istore 4, 2) := by decide +kernel
theorem xd_Ho_pairsAllow_18 : decode b_Ho_pairsAllow 18 = .ok (.iload 4, 2) := by decide +kernel
theorem xd_Ho_pairsAllow_20 : decode b_Ho_pairsAllow 20 = .ok (.iconst (-1), 1) := by decide +kernel
theorem xd_Ho_pairsAllow_21 : decode b_Ho_pairsAllow 21 = .ok (.if_icmp .eq 25, 3) := by decide +kernel
theorem xd_Ho_pairsAllow_24 : decode b_Ho_pairsAllow 24 = .ok (.iload_n 2, 1) := by decide +kernel
theorem xd_Ho_pairsAllow_25 : decode b_Ho_pairsAllow 25 = .ok (.aload_n 0, 1) := by decide +kernel
theorem xd_Ho_pairsAllow_26 : decode b_Ho_pairsAllow 26 = .ok (.getfield 15, 3) := by decide +kernel
theorem xd_Ho_pairsAllow_29 : decode b_Ho_pairsAllow 29 = .ok (.iload 4, 2) := by decide +kernel
theorem xd_Ho_pairsAllow_31 : decode b_Ho_pairsAllow 31 = .ok (.iaload, 1) := by decide +kernel
theorem xd_Ho_pairsAllow_32 : decode b_Ho_pairsAllow 32 = .ok (.aload_n 0, 1) := by decide +kernel
theorem xd_Ho_pairsAllow_33 : decode b_Ho_pairsAllow 33 = .ok (.getfield 41, 3) := by decide +kernel
theorem xd_Ho_pairsAllow_36 : decode b_Ho_pairsAllow 36 = .ok (.iload_n 3, 1) := by decide +kernel
theorem xd_Ho_pairsAllow_37 : decode b_Ho_pairsAllow 37 = .ok (.iaload, 1) := by decide +kernel
theorem xd_Ho_pairsAllow_38 : decode b_Ho_pairsAllow 38 = .ok (.invokestatic 67, 3) := by decide +kernel
theorem xd_Ho_pairsAllow_41 : decode b_Ho_pairsAllow 41 = .ok (.ifCond .ne 5, 3) := by decide +kernel
theorem xd_Ho_pairsAllow_44 : decode b_Ho_pairsAllow 44 = .ok (.iconst 0, 1) := by decide +kernel
theorem xd_Ho_pairsAllow_45 : decode b_Ho_pairsAllow 45 = .ok (.ireturn, 1) := by decide +kernel
theorem xd_Ho_pairsAllow_46 : decode b_Ho_pairsAllow 46 = .ok (.iinc 3 1, 3) := by decide +kernel
theorem xd_Ho_pairsAllow_49 : decode b_Ho_pairsAllow 49 = .ok (.goto (-47), 3) := by decide +kernel
theorem xd_Ho_pairsAllow_52 : decode b_Ho_pairsAllow 52 = .ok (.iconst 1, 1) := by decide +kernel
theorem xd_Ho_pairsAllow_53 : decode b_Ho_pairsAllow 53 = .ok (.ireturn, 1) := by decide +kernel
abbrev rm_Ho_pairsAllow : Room := { frames := 3, cells := 0, slots := 0, locals := 64 }
def xw_Ho_pairsAllow_2 (g : Nat) (x1 : Int32) (x2 : Int32) (post : Int32 → xM → Prop) (k52 : Int32 → xM → Prop) : Nat → Int32 → xM → Prop
  | 0, _, _ => False
  | n2 + 1, x3, M => (((M g 3 6) ≤ x3) → (k52 x3 M)) ∧ ((¬ (M g 3 6) ≤ x3) → (xw_Ho_partnerOf g x1 x3 M (fun (r2 : Int32) (M1 : xM) => ((r2 = (-1 : Int32)) → (xw_Ho_pairsAllow_2 g x1 x2 post k52 n2 (x3 + (1 : Int32)) M1)) ∧ ((¬ r2 = (-1 : Int32)) → ((vp_in r2 12) ∧ ((vp_in x3 20) ∧ (xw_Rg_contrastReaches x2 (M1 g 4 r2.toNatClampNeg) (M1 g 11 x3.toNatClampNeg) M1 (fun (r4 : Int32) (M3 : xM) => ((¬ r4 = 0) → (xw_Ho_pairsAllow_2 g x1 x2 post k52 n2 (x3 + (1 : Int32)) M3)) ∧ ((r4 = 0) → (post (0 : Int32) M3))))))))))
def xw_Ho_pairsAllow (g : Nat) (a1 : Int32) (a2 : Int32) (M : xM) (post : Int32 → xM → Prop) : Prop :=
  ∃ n2 : Nat, xw_Ho_pairsAllow_2 g a1 a2 post (fun (y5 : Int32) (M6 : xM) => post (1 : Int32) M6) n2 (0 : Int32) M
set_option maxHeartbeats 4000000 in
set_option maxRecDepth 100000 in
theorem xt_Ho_pairsAllow_2 {p : Program} {l : Launch} {e : Env} {s : State} {m : MethodId} {args : Array Value} {below : List Frame} {meth : Method} {c : Code} {G : xG} (hC : xC p s m args c b_Ho_pairsAllow R_Ho 5 G) (hr : meth.sig.returnType = (some .boolean)) (hlk : meth.locks = false) {g : Nat} (hg : g < 4) {x1 : Int32} {x2 : Int32} {post : Int32 → xM → Prop} {k52 : Int32 → xM → Prop} (hk52 : ∀ (x3 : Int32) (M : xM) (H : Heap) (locs : List Loc) (ls : Array Slot), k52 x3 M → xRp G M H → va_S (xA G) s.heap H locs → lv_has ls 5 [(0, .ref (G.1 g 3)), (1, .int x1), (2, .int x2), (3, .int x3)] → W p l e rm_Ho_pairsAllow s m args below meth c H locs 0 0 (MQ below (xPi G post) args s 0 0 (xA G)) (F0 m 52 ls [])) : ∀ (n : Nat) (x3 : Int32) (M : xM) (H : Heap) (locs : List Loc) (ls : Array Slot), xw_Ho_pairsAllow_2 g x1 x2 post k52 n x3 M → xRp G M H → va_S (xA G) s.heap H locs → lv_has ls 5 [(0, .ref (G.1 g 3)), (1, .int x1), (2, .int x2), (3, .int x3)] → W p l e rm_Ho_pairsAllow s m args below meth c H locs 0 0 (MQ below (xPi G post) args s 0 0 (xA G)) (F0 m 2 ls []) := by
  have hx := hC.1
  have hb := hC.2.1
  intro n
  induction n with
  | zero => intro x3 M H locs ls; exact fun h => h.elim
  | succ n ih =>
    intro x3 M H locs ls h hR hS hl
    refine lv_iload_n (pc := 2) hx hb xd_Ho_pairsAllow_2 rfl (lv_at hl 3 rfl) ?_
    refine lv_aload_n (pc := 3) hx hb xd_Ho_pairsAllow_3 rfl (lv_at hl 0 rfl) ?_
    refine xr_get (pc := 4) (v := .int (M g 3 6)) hC hR (xo_K3 hg) xf_Ho_32 rfl xd_Ho_pairsAllow_4 ?_
    refine lv_icmp_ge (pc := 7) (tgt := 52) hx hb xd_Ho_pairsAllow_7 (by decide) (fun hq => ?_) (fun hq => ?_)
    · have h := h.1 hq
      exact hk52 x3 M H locs ls h hR hS (lv_sub hl [0, 1, 2, 3] rfl)
    · have h := h.2 hq
      refine lv_aload_n (pc := 10) hx hb xd_Ho_pairsAllow_10 rfl (lv_at hl 0 rfl) ?_
      refine lv_iload_n (pc := 11) hx hb xd_Ho_pairsAllow_11 rfl (lv_at hl 1 rfl) ?_
      refine lv_iload_n (pc := 12) hx hb xd_Ho_pairsAllow_12 rfl (lv_at hl 3 rfl) ?_
      refine xr_callV (pc := 13) (As := [.int x1, .int x3]) (rest := []) hC hR hS (xc_Ho_partnerOf l G hg h) (xo_K3 hg) xv_Ho_70 ⟨rfl, rfl, Nat.le_of_ble_eq_true rfl, Nat.le_of_ble_eq_true rfl⟩ rfl hl.1 rfl (Nat.le_of_ble_eq_true rfl) xd_Ho_pairsAllow_13 (fun r2 M1 H locs h hR hS => ?_)
      refine lv_istore (pc := 16) (lv' := [(4, .int r2), (0, .ref (G.1 g 3)), (1, .int x1), (2, .int x2), (3, .int x3)]) hx hb xd_Ho_pairsAllow_16 hl (by decide) rfl (fun ls hl => ?_)
      refine lv_iload (pc := 18) hx hb xd_Ho_pairsAllow_18 (lv_at hl 0 rfl) ?_
      refine lv_iconst (pc := 20) (v := (-1 : Int32)) hx hb xd_Ho_pairsAllow_20 (by decide) ?_
      refine lv_icmp_eq (pc := 21) (tgt := 46) hx hb xd_Ho_pairsAllow_21 (by decide) (fun hq => ?_) (fun hq => ?_)
      · have h := h.1 hq
        refine lv_iinc (pc := 46) (v := (x3 + (1 : Int32))) (lv' := [(3, .int (x3 + (1 : Int32))), (4, .int r2), (0, .ref (G.1 g 3)), (1, .int x1), (2, .int x2)]) hx hb xd_Ho_pairsAllow_46 hl (k := 4) rfl rfl (by decide) rfl (fun ls hl => ?_)
        refine lv_goto (pc := 49) (tgt := 2) hx hb xd_Ho_pairsAllow_49 (by decide) ?_
        exact ih (x3 + (1 : Int32)) M1 H locs ls h hR hS (lv_sub hl [2, 3, 4, 0] rfl)
      · have h := h.2 hq
        refine lv_iload_n (pc := 24) hx hb xd_Ho_pairsAllow_24 rfl (lv_at hl 3 rfl) ?_
        refine lv_aload_n (pc := 25) hx hb xd_Ho_pairsAllow_25 rfl (lv_at hl 1 rfl) ?_
        refine xr_get (pc := 26) (v := .ref (G.1 g 4)) hC hR (xo_K3 hg) xf_Ho_15 rfl xd_Ho_pairsAllow_26 ?_
        refine lv_iload (pc := 29) hx hb xd_Ho_pairsAllow_29 (lv_at hl 0 rfl) ?_
        obtain ⟨hq, h⟩ := h
        refine xr_iald (pc := 31) hC hR (xo_K4 hg) hq xd_Ho_pairsAllow_31 ?_
        refine lv_aload_n (pc := 32) hx hb xd_Ho_pairsAllow_32 rfl (lv_at hl 1 rfl) ?_
        refine xr_get (pc := 33) (v := .ref (G.1 g 11)) hC hR (xo_K3 hg) xf_Ho_41 rfl xd_Ho_pairsAllow_33 ?_
        refine lv_iload_n (pc := 36) hx hb xd_Ho_pairsAllow_36 rfl (lv_at hl 4 rfl) ?_
        obtain ⟨hq, h⟩ := h
        refine xr_iald (pc := 37) hC hR (xo_K11 hg) hq xd_Ho_pairsAllow_37 ?_
        refine xr_callS (pc := 38) (As := [.int x2, .int (M1 g 4 r2.toNatClampNeg), .int (M1 g 11 x3.toNatClampNeg)]) (rest := []) hC hR hS (xc_Rg_contrastReaches l G  h) xv_Ho_67 ⟨rfl, rfl, Nat.le_of_ble_eq_true rfl, Nat.le_of_ble_eq_true rfl⟩ rfl hl.1 rfl (Nat.le_of_ble_eq_true rfl) xd_Ho_pairsAllow_38 (fun r4 M3 H locs h hR hS => ?_)
        refine lv_if_ne (pc := 41) (tgt := 46) hx hb xd_Ho_pairsAllow_41 (by decide) (fun hq => ?_) (fun hq => ?_)
        · have h := h.1 hq
          refine lv_iinc (pc := 46) (v := (x3 + (1 : Int32))) (lv' := [(3, .int (x3 + (1 : Int32))), (4, .int r2), (0, .ref (G.1 g 3)), (1, .int x1), (2, .int x2)]) hx hb xd_Ho_pairsAllow_46 hl (k := 4) rfl rfl (by decide) rfl (fun ls hl => ?_)
          refine lv_goto (pc := 49) (tgt := 2) hx hb xd_Ho_pairsAllow_49 (by decide) ?_
          exact ih (x3 + (1 : Int32)) M3 H locs ls h hR hS (lv_sub hl [2, 3, 4, 0] rfl)
        · have h := h.2 hq
          refine lv_iconst (pc := 44) (v := (0 : Int32)) hx hb xd_Ho_pairsAllow_44 (by decide) ?_
          exact xr_zret hC hr hlk hR hS (by decide) h xd_Ho_pairsAllow_45
set_option maxHeartbeats 4000000 in
set_option maxRecDepth 100000 in
theorem xc_Ho_pairsAllow (l : Launch) (G : xG) {g : Nat} {a1 : Int32} {a2 : Int32} (hg : g < 4) {M : xM} {post : Int32 → xM → Prop} (h : xw_Ho_pairsAllow g a1 a2 M post) : Met l y_Ho_pairsAllow (Cond.code y_Ho_pairsAllow b_Ho_pairsAllow 5 (some .boolean) :: xTG) rm_Ho_pairsAllow (xPre G M [.ref (G.1 g 3), .int a1, .int a2]) (xPi G post) 0 0 (xA G) := by
  refine xMet (own := R_Ho) [.ref (G.1 g 3), .int a1, .int a2] (Or.inl (by decide)) rfl (Nat.le_of_ble_eq_true rfl) (fun p e s m args below meth c ls hC hr hlk hR hS hl => ?_)
  have hx := hC.1
  have hb := hC.2.1
  have hl : lv_has ls 5 [(0, .ref (G.1 g 3)), (1, .int a1), (2, .int a2)] := hl
  obtain ⟨H, eH⟩ : ∃ H : Heap, H = s.heap := ⟨_, rfl⟩
  obtain ⟨locs, eL⟩ : ∃ locs : List Loc, locs = [] := ⟨_, rfl⟩
  rw [← eH] at hR
  replace hS : va_S (xA G) s.heap H locs := by rw [eH, eL]; exact hS
  suffices hh : W p l e rm_Ho_pairsAllow s m args below meth c H locs 0 0 (MQ below (xPi G post) args s 0 0 (xA G)) (F0 m 0 ls []) from by rw [eH, eL] at hh; exact hh
  unfold xw_Ho_pairsAllow at h
  refine lv_iconst (pc := 0) (v := (0 : Int32)) hx hb xd_Ho_pairsAllow_0 (by decide) ?_
  refine lv_istore_n (pc := 1) (lv' := [(3, .int (0 : Int32)), (0, .ref (G.1 g 3)), (1, .int a1), (2, .int a2)]) hx hb xd_Ho_pairsAllow_1 rfl hl (by decide) rfl (fun ls hl => ?_)
  obtain ⟨n, h⟩ := h
  refine xt_Ho_pairsAllow_2 hC hr hlk hg (fun y5 M6 H locs ls h hR hS hl => ?_) n (0 : Int32) M H locs ls h hR hS (lv_sub hl [1, 2, 3, 0] rfl)
  refine lv_iconst (pc := 52) (v := (1 : Int32)) hx hb xd_Ho_pairsAllow_52 (by decide) ?_
  exact xr_zret hC hr hlk hR hS (by decide) h xd_Ho_pairsAllow_53

/-! ColoursApart$Kept.copyFrom(LColoursApart$Kept;)V -/
theorem xd_Ke_copyFrom_0 : decode b_Ke_copyFrom 0 = .ok (.aload_n 0, 1) := by decide +kernel
theorem xd_Ke_copyFrom_1 : decode b_Ke_copyFrom 1 = .ok (.getfield 12, 3) := by decide +kernel
theorem xd_Ke_copyFrom_4 : decode b_Ke_copyFrom 4 = .ok (.aload_n 1, 1) := by decide +kernel
theorem xd_Ke_copyFrom_5 : decode b_Ke_copyFrom 5 = .ok (.getfield 12, 3) := by decide +kernel
theorem xd_Ke_copyFrom_8 : decode b_Ke_copyFrom 8 = .ok (.invokevirtual 32, 3) := by decide +kernel
theorem xd_Ke_copyFrom_11 : decode b_Ke_copyFrom 11 = .ok (.aload_n 0, 1) := by decide +kernel
theorem xd_Ke_copyFrom_12 : decode b_Ke_copyFrom 12 = .ok (.getfield 21, 3) := by decide +kernel
theorem xd_Ke_copyFrom_15 : decode b_Ke_copyFrom 15 = .ok (.aload_n 1, 1) := by decide +kernel
theorem xd_Ke_copyFrom_16 : decode b_Ke_copyFrom 16 = .ok (.getfield 21, 3) := by decide +kernel
theorem xd_Ke_copyFrom_19 : decode b_Ke_copyFrom 19 = .ok (.invokevirtual 36, 3) := by decide +kernel
theorem xd_Ke_copyFrom_22 : decode b_Ke_copyFrom 22 = .ok (.aload_n 0, 1) := by decide +kernel
theorem xd_Ke_copyFrom_23 : decode b_Ke_copyFrom 23 = .ok (.getfield 28, 3) := by decide +kernel
theorem xd_Ke_copyFrom_26 : decode b_Ke_copyFrom 26 = .ok (.aload_n 1, 1) := by decide +kernel
theorem xd_Ke_copyFrom_27 : decode b_Ke_copyFrom 27 = .ok (.getfield 28, 3) := by decide +kernel
theorem xd_Ke_copyFrom_30 : decode b_Ke_copyFrom 30 = .ok (.getfield 39, 3) := by decide +kernel
theorem xd_Ke_copyFrom_33 : decode b_Ke_copyFrom 33 = .ok (.putfield 39, 3) := by decide +kernel
theorem xd_Ke_copyFrom_36 : decode b_Ke_copyFrom 36 = .ok (.return_, 1) := by decide +kernel
abbrev rm_Ke_copyFrom : Room := { frames := 2, cells := 0, slots := 0, locals := 52 }
def xw_Ke_copyFrom (g : Nat) (g1 : Nat) (M : xM) (post : xM → Prop) : Prop :=
  xw_Ey_copyFrom g g1 M (fun (M1 : xM) => xw_Ho_copyFrom g g1 M1 (fun (M2 : xM) => post (us M2 g 12 0 (M2 g1 12 0))))
set_option maxHeartbeats 4000000 in
set_option maxRecDepth 100000 in
theorem xc_Ke_copyFrom (l : Launch) (G : xG) {g : Nat} {g1 : Nat} (hg : g < 4) (hg1 : g1 < 4) {M : xM} {post : xM → Prop} (h : xw_Ke_copyFrom g g1 M post) : Met l y_Ke_copyFrom (Cond.code y_Ke_copyFrom b_Ke_copyFrom 2 none :: xTG) rm_Ke_copyFrom (xPre G M [.ref (G.1 g 0), .ref (G.1 g1 0)]) (xPv G post) 0 0 (xA G) := by
  refine xMet (own := R_Ke) [.ref (G.1 g 0), .ref (G.1 g1 0)] (Or.inl (by decide)) rfl (Nat.le_of_ble_eq_true rfl) (fun p e s m args below meth c ls hC hr hlk hR hS hl => ?_)
  have hx := hC.1
  have hb := hC.2.1
  have hl : lv_has ls 2 [(0, .ref (G.1 g 0)), (1, .ref (G.1 g1 0))] := hl
  obtain ⟨H, eH⟩ : ∃ H : Heap, H = s.heap := ⟨_, rfl⟩
  obtain ⟨locs, eL⟩ : ∃ locs : List Loc, locs = [] := ⟨_, rfl⟩
  rw [← eH] at hR
  replace hS : va_S (xA G) s.heap H locs := by rw [eH, eL]; exact hS
  suffices hh : W p l e rm_Ke_copyFrom s m args below meth c H locs 0 0 (MQ below (xPv G post) args s 0 0 (xA G)) (F0 m 0 ls []) from by rw [eH, eL] at hh; exact hh
  unfold xw_Ke_copyFrom at h
  refine lv_aload_n (pc := 0) hx hb xd_Ke_copyFrom_0 rfl (lv_at hl 0 rfl) ?_
  refine xr_get (pc := 1) (v := .ref (G.1 g 1)) hC hR (xo_K0 hg) xf_Ke_12 rfl xd_Ke_copyFrom_1 ?_
  refine lv_aload_n (pc := 4) hx hb xd_Ke_copyFrom_4 rfl (lv_at hl 1 rfl) ?_
  refine xr_get (pc := 5) (v := .ref (G.1 g1 1)) hC hR (xo_K0 hg1) xf_Ke_12 rfl xd_Ke_copyFrom_5 ?_
  refine xr_callVv (pc := 8) (As := [.ref (G.1 g1 1)]) (rest := []) hC hR hS (xc_Ey_copyFrom l G hg hg1 h) (xo_K1 hg) xv_Ke_32 ⟨rfl, rfl, Nat.le_of_ble_eq_true rfl, Nat.le_of_ble_eq_true rfl⟩ rfl hl.1 rfl (Nat.le_of_ble_eq_true rfl) xd_Ke_copyFrom_8 (fun M1 H locs h hR hS => ?_)
  refine lv_aload_n (pc := 11) hx hb xd_Ke_copyFrom_11 rfl (lv_at hl 0 rfl) ?_
  refine xr_get (pc := 12) (v := .ref (G.1 g 3)) hC hR (xo_K0 hg) xf_Ke_21 rfl xd_Ke_copyFrom_12 ?_
  refine lv_aload_n (pc := 15) hx hb xd_Ke_copyFrom_15 rfl (lv_at hl 1 rfl) ?_
  refine xr_get (pc := 16) (v := .ref (G.1 g1 3)) hC hR (xo_K0 hg1) xf_Ke_21 rfl xd_Ke_copyFrom_16 ?_
  refine xr_callVv (pc := 19) (As := [.ref (G.1 g1 3)]) (rest := []) hC hR hS (xc_Ho_copyFrom l G hg hg1 h) (xo_K3 hg) xv_Ke_36 ⟨rfl, rfl, Nat.le_of_ble_eq_true rfl, Nat.le_of_ble_eq_true rfl⟩ rfl hl.1 rfl (Nat.le_of_ble_eq_true rfl) xd_Ke_copyFrom_19 (fun M2 H locs h hR hS => ?_)
  refine lv_aload_n (pc := 22) hx hb xd_Ke_copyFrom_22 rfl (lv_at hl 0 rfl) ?_
  refine xr_get (pc := 23) (v := .ref (G.1 g 12)) hC hR (xo_K0 hg) xf_Ke_28 rfl xd_Ke_copyFrom_23 ?_
  refine lv_aload_n (pc := 26) hx hb xd_Ke_copyFrom_26 rfl (lv_at hl 1 rfl) ?_
  refine xr_get (pc := 27) (v := .ref (G.1 g1 12)) hC hR (xo_K0 hg1) xf_Ke_28 rfl xd_Ke_copyFrom_27 ?_
  refine xr_get (pc := 30) (v := .int (M2 g1 12 0)) hC hR (xo_K12 hg1) xf_Ke_39 rfl xd_Ke_copyFrom_30 ?_
  refine xr_put (pc := 33) hC hR hS (xo_K12 hg) xf_Ke_39 xp_2_0 rfl rfl rfl xd_Ke_copyFrom_33 (fun H locs hR hS => ?_)
  exact xr_vret hC hr hlk hR hS h xd_Ke_copyFrom_36

/-! ColoursApart$Kept.leastFromOthers(I)I -/
theorem xd_Ke_leastFromOthers_0 : decode b_Ke_leastFromOthers 0 = .ok (.iconst (-1), 1) := by decide +kernel
theorem xd_Ke_leastFromOthers_1 : decode b_Ke_leastFromOthers 1 = .ok (.istore_n 2, 1) := by decide +kernel
theorem xd_Ke_leastFromOthers_2 : decode b_Ke_leastFromOthers 2 = .ok (.iconst 0, 1) := by decide +kernel
theorem xd_Ke_leastFromOthers_3 : decode b_Ke_leastFromOthers 3 = .ok (.istore_n 3, 1) := by decide +kernel
theorem xd_Ke_leastFromOthers_4 : decode b_Ke_leastFromOthers 4 = .ok (.iload_n 3, 1) := by decide +kernel
theorem xd_Ke_leastFromOthers_5 : decode b_Ke_leastFromOthers 5 = .ok (.aload_n 0, 1) := by decide +kernel
theorem xd_Ke_leastFromOthers_6 : decode b_Ke_leastFromOthers 6 = .ok (.getfield 21, 3) := by decide +kernel
theorem xd_Ke_leastFromOthers_9 : decode b_Ke_leastFromOthers 9 = .ok (.getfield 43, 3) := by decide +kernel
theorem xd_Ke_leastFromOthers_12 : decode b_Ke_leastFromOthers 12 = .ok (.if_icmp .ge 58, 3) := by decide +kernel
theorem xd_Ke_leastFromOthers_15 : decode b_Ke_leastFromOthers 15 = .ok (.iload_n 3, 1) := by decide +kernel
theorem xd_Ke_leastFromOthers_16 : decode b_Ke_leastFromOthers 16 = .ok (.iload_n 1, 1) := by decide +kernel
theorem xd_Ke_leastFromOthers_17 : decode b_Ke_leastFromOthers 17 = .ok (.if_icmp .eq 47, 3) := by decide +kernel
theorem xd_Ke_leastFromOthers_20 : decode b_Ke_leastFromOthers 20 = .ok (.aload_n 0, 1) := by decide +kernel
theorem xd_Ke_leastFromOthers_21 : decode b_Ke_leastFromOthers 21 = .ok (.getfield 12, 3) := by decide +kernel
theorem xd_Ke_leastFromOthers_24 : decode b_Ke_leastFromOthers 24 = .ok (.aload_n 0, 1) := by decide +kernel
theorem xd_Ke_leastFromOthers_25 : decode b_Ke_leastFromOthers 25 = .ok (.getfield 21, 3) := by decide +kernel
theorem xd_Ke_leastFromOthers_28 : decode b_Ke_leastFromOthers 28 = .ok (.getfield 46, 3) := by decide +kernel
theorem xd_Ke_leastFromOthers_31 : decode b_Ke_leastFromOthers 31 = .ok (.iload_n 1, 1) := by decide +kernel
theorem xd_Ke_leastFromOthers_32 : decode b_Ke_leastFromOthers 32 = .ok (.iaload, 1) := by decide +kernel
theorem xd_Ke_leastFromOthers_33 : decode b_Ke_leastFromOthers 33 = .ok (.aload_n 0, 1) := by decide +kernel
theorem xd_Ke_leastFromOthers_34 : decode b_Ke_leastFromOthers 34 = .ok (.getfield 21, 3) := by decide +kernel
theorem xd_Ke_leastFromOthers_37 : decode b_Ke_leastFromOthers 37 = .ok (.getfield 46, 3) := by decide +kernel
theorem xd_Ke_leastFromOthers_40 : decode b_Ke_leastFromOthers 40 = .ok (.iload_n 3, 1) := by decide +kernel
theorem xd_Ke_leastFromOthers_41 : decode b_Ke_leastFromOthers 41 = .ok (.iaload, 1) := by decide +kernel
theorem xd_Ke_leastFromOthers_42 : decode b_Ke_leastFromOthers 42 = .ok (.invokevirtual 50, 3) := by decide +kernel
theorem xd_Ke_leastFromOthers_45 : decode b_Ke_leastFromOthers 45 = .ok (.istore 4, 2) := by decide +kernel
theorem xd_Ke_leastFromOthers_47 : decode b_Ke_leastFromOthers 47 = .ok (.iload_n 2, 1) := by decide +kernel
theorem xd_Ke_leastFromOthers_48 : decode b_Ke_leastFromOthers 48 = .ok (.iconst (-1), 1) := by decide +kernel
theorem xd_Ke_leastFromOthers_49 : decode b_Ke_leastFromOthers 49 = .ok (.if_icmp .ne 8, 3) := by decide +kernel
theorem xd_Ke_leastFromOthers_52 : decode b_Ke_leastFromOthers 52 = .ok (.iload 4, 2) := by decide +kernel
theorem xd_Ke_leastFromOthers_54 : decode b_Ke_leastFromOthers 54 = .ok (.goto 9, 3) := by decide +kernel
theorem xd_Ke_leastFromOthers_57 : decode b_Ke_leastFromOthers 57 = .ok (.iload_n 2, 1) := by decide +kernel
theorem xd_Ke_leastFromOthers_58 : decode b_Ke_leastFromOthers 58 = .ok (.iload 4, 2) := by decide +kernel
theorem xd_Ke_leastFromOthers_60 : decode b_Ke_leastFromOthers 60 = .ok (.invokestatic 54, 3) := by decide +kernel
theorem xd_Ke_leastFromOthers_63 : decode b_Ke_leastFromOthers 63 = .ok (.istore_n 2, 1) := by decide +kernel
theorem xd_Ke_leastFromOthers_64 : decode b_Ke_leastFromOthers 64 = .ok (.iinc 3 1, 3) := by decide +kernel
theorem xd_Ke_leastFromOthers_67 : decode b_Ke_leastFromOthers 67 = .ok (.goto (-63), 3) := by decide +kernel
theorem xd_Ke_leastFromOthers_70 : decode b_Ke_leastFromOthers 70 = .ok (.iload_n 2, 1) := by decide +kernel
theorem xd_Ke_leastFromOthers_71 : decode b_Ke_leastFromOthers 71 = .ok (.ireturn, 1) := by decide +kernel
abbrev rm_Ke_leastFromOthers : Room := { frames := 4, cells := 0, slots := 0, locals := 94 }
def xw_Ke_leastFromOthers_4 (g : Nat) (x1 : Int32) (post : Int32 → xM → Prop) (k70 : Int32 → Int32 → xM → Prop) : Nat → Int32 → Int32 → xM → Prop
  | 0, _, _, _ => False
  | n4 + 1, x2, x3, M => (((M g 3 0) ≤ x3) → (k70 x2 x3 M)) ∧ ((¬ (M g 3 0) ≤ x3) → (((x3 = x1) → (xw_Ke_leastFromOthers_4 g x1 post k70 n4 x2 (x3 + (1 : Int32)) M)) ∧ ((¬ x3 = x1) → ((vp_in x1 12) ∧ ((vp_in x3 12) ∧ (xw_Ey_leastDistance g (M g 4 x1.toNatClampNeg) (M g 4 x3.toNatClampNeg) M (fun (r2 : Int32) (M1 : xM) => ((¬ x2 = (-1 : Int32)) → (xw_Ke_leastFromOthers_4 g x1 post k70 n4 (if r2 < x2 then r2 else x2) (x3 + (1 : Int32)) M1)) ∧ ((x2 = (-1 : Int32)) → (xw_Ke_leastFromOthers_4 g x1 post k70 n4 r2 (x3 + (1 : Int32)) M1)))))))))
def xw_Ke_leastFromOthers (g : Nat) (a1 : Int32) (M : xM) (post : Int32 → xM → Prop) : Prop :=
  ∃ n4 : Nat, xw_Ke_leastFromOthers_4 g a1 post (fun (y3 : Int32) (y4 : Int32) (M5 : xM) => post y3 M5) n4 (-1 : Int32) (0 : Int32) M
set_option maxHeartbeats 4000000 in
set_option maxRecDepth 100000 in
theorem xt_Ke_leastFromOthers_4 {p : Program} {l : Launch} {e : Env} {s : State} {m : MethodId} {args : Array Value} {below : List Frame} {meth : Method} {c : Code} {G : xG} (hC : xC p s m args c b_Ke_leastFromOthers R_Ke 5 G) (hr : meth.sig.returnType = (some .int)) (hlk : meth.locks = false) {g : Nat} (hg : g < 4) {x1 : Int32} {post : Int32 → xM → Prop} {k70 : Int32 → Int32 → xM → Prop} (hk70 : ∀ (x2 : Int32) (x3 : Int32) (M : xM) (H : Heap) (locs : List Loc) (ls : Array Slot), k70 x2 x3 M → xRp G M H → va_S (xA G) s.heap H locs → lv_has ls 5 [(0, .ref (G.1 g 0)), (1, .int x1), (2, .int x2), (3, .int x3)] → W p l e rm_Ke_leastFromOthers s m args below meth c H locs 0 0 (MQ below (xPi G post) args s 0 0 (xA G)) (F0 m 70 ls [])) : ∀ (n : Nat) (x2 : Int32) (x3 : Int32) (M : xM) (H : Heap) (locs : List Loc) (ls : Array Slot), xw_Ke_leastFromOthers_4 g x1 post k70 n x2 x3 M → xRp G M H → va_S (xA G) s.heap H locs → lv_has ls 5 [(0, .ref (G.1 g 0)), (1, .int x1), (2, .int x2), (3, .int x3)] → W p l e rm_Ke_leastFromOthers s m args below meth c H locs 0 0 (MQ below (xPi G post) args s 0 0 (xA G)) (F0 m 4 ls []) := by
  have hx := hC.1
  have hb := hC.2.1
  intro n
  induction n with
  | zero => intro x2 x3 M H locs ls; exact fun h => h.elim
  | succ n ih =>
    intro x2 x3 M H locs ls h hR hS hl
    refine lv_iload_n (pc := 4) hx hb xd_Ke_leastFromOthers_4 rfl (lv_at hl 3 rfl) ?_
    refine lv_aload_n (pc := 5) hx hb xd_Ke_leastFromOthers_5 rfl (lv_at hl 0 rfl) ?_
    refine xr_get (pc := 6) (v := .ref (G.1 g 3)) hC hR (xo_K0 hg) xf_Ke_21 rfl xd_Ke_leastFromOthers_6 ?_
    refine xr_get (pc := 9) (v := .int (M g 3 0)) hC hR (xo_K3 hg) xf_Ke_43 rfl xd_Ke_leastFromOthers_9 ?_
    refine lv_icmp_ge (pc := 12) (tgt := 70) hx hb xd_Ke_leastFromOthers_12 (by decide) (fun hq => ?_) (fun hq => ?_)
    · have h := h.1 hq
      exact hk70 x2 x3 M H locs ls h hR hS (lv_sub hl [0, 1, 2, 3] rfl)
    · have h := h.2 hq
      refine lv_iload_n (pc := 15) hx hb xd_Ke_leastFromOthers_15 rfl (lv_at hl 3 rfl) ?_
      refine lv_iload_n (pc := 16) hx hb xd_Ke_leastFromOthers_16 rfl (lv_at hl 1 rfl) ?_
      refine lv_icmp_eq (pc := 17) (tgt := 64) hx hb xd_Ke_leastFromOthers_17 (by decide) (fun hq => ?_) (fun hq => ?_)
      · have h := h.1 hq
        refine lv_iinc (pc := 64) (v := (x3 + (1 : Int32))) (lv' := [(3, .int (x3 + (1 : Int32))), (0, .ref (G.1 g 0)), (1, .int x1), (2, .int x2)]) hx hb xd_Ke_leastFromOthers_64 hl (k := 3) rfl rfl (by decide) rfl (fun ls hl => ?_)
        refine lv_goto (pc := 67) (tgt := 4) hx hb xd_Ke_leastFromOthers_67 (by decide) ?_
        exact ih x2 (x3 + (1 : Int32)) M H locs ls h hR hS (lv_sub hl [1, 2, 3, 0] rfl)
      · have h := h.2 hq
        refine lv_aload_n (pc := 20) hx hb xd_Ke_leastFromOthers_20 rfl (lv_at hl 0 rfl) ?_
        refine xr_get (pc := 21) (v := .ref (G.1 g 1)) hC hR (xo_K0 hg) xf_Ke_12 rfl xd_Ke_leastFromOthers_21 ?_
        refine lv_aload_n (pc := 24) hx hb xd_Ke_leastFromOthers_24 rfl (lv_at hl 0 rfl) ?_
        refine xr_get (pc := 25) (v := .ref (G.1 g 3)) hC hR (xo_K0 hg) xf_Ke_21 rfl xd_Ke_leastFromOthers_25 ?_
        refine xr_get (pc := 28) (v := .ref (G.1 g 4)) hC hR (xo_K3 hg) xf_Ke_46 rfl xd_Ke_leastFromOthers_28 ?_
        refine lv_iload_n (pc := 31) hx hb xd_Ke_leastFromOthers_31 rfl (lv_at hl 1 rfl) ?_
        obtain ⟨hq, h⟩ := h
        refine xr_iald (pc := 32) hC hR (xo_K4 hg) hq xd_Ke_leastFromOthers_32 ?_
        refine lv_aload_n (pc := 33) hx hb xd_Ke_leastFromOthers_33 rfl (lv_at hl 0 rfl) ?_
        refine xr_get (pc := 34) (v := .ref (G.1 g 3)) hC hR (xo_K0 hg) xf_Ke_21 rfl xd_Ke_leastFromOthers_34 ?_
        refine xr_get (pc := 37) (v := .ref (G.1 g 4)) hC hR (xo_K3 hg) xf_Ke_46 rfl xd_Ke_leastFromOthers_37 ?_
        refine lv_iload_n (pc := 40) hx hb xd_Ke_leastFromOthers_40 rfl (lv_at hl 3 rfl) ?_
        obtain ⟨hq, h⟩ := h
        refine xr_iald (pc := 41) hC hR (xo_K4 hg) hq xd_Ke_leastFromOthers_41 ?_
        refine xr_callV (pc := 42) (As := [.int (M g 4 x1.toNatClampNeg), .int (M g 4 x3.toNatClampNeg)]) (rest := []) hC hR hS (xc_Ey_leastDistance l G hg h) (xo_K1 hg) xv_Ke_50 ⟨rfl, rfl, Nat.le_of_ble_eq_true rfl, Nat.le_of_ble_eq_true rfl⟩ rfl hl.1 rfl (Nat.le_of_ble_eq_true rfl) xd_Ke_leastFromOthers_42 (fun r2 M1 H locs h hR hS => ?_)
        refine lv_istore (pc := 45) (lv' := [(4, .int r2), (0, .ref (G.1 g 0)), (1, .int x1), (2, .int x2), (3, .int x3)]) hx hb xd_Ke_leastFromOthers_45 hl (by decide) rfl (fun ls hl => ?_)
        refine lv_iload_n (pc := 47) hx hb xd_Ke_leastFromOthers_47 rfl (lv_at hl 3 rfl) ?_
        refine lv_iconst (pc := 48) (v := (-1 : Int32)) hx hb xd_Ke_leastFromOthers_48 (by decide) ?_
        refine lv_icmp_ne (pc := 49) (tgt := 57) hx hb xd_Ke_leastFromOthers_49 (by decide) (fun hq => ?_) (fun hq => ?_)
        · have h := h.1 hq
          refine lv_iload_n (pc := 57) hx hb xd_Ke_leastFromOthers_57 rfl (lv_at hl 3 rfl) ?_
          refine lv_iload (pc := 58) hx hb xd_Ke_leastFromOthers_58 (lv_at hl 0 rfl) ?_
          refine xr_min (pc := 60) hC xk_Ke_54 hl.1 (Nat.le_of_ble_eq_true rfl) (Nat.le_of_ble_eq_true rfl) xd_Ke_leastFromOthers_60 ?_
          refine lv_istore_n (pc := 63) (lv' := [(2, .int (if r2 < x2 then r2 else x2)), (4, .int r2), (0, .ref (G.1 g 0)), (1, .int x1), (3, .int x3)]) hx hb xd_Ke_leastFromOthers_63 rfl hl (by decide) rfl (fun ls hl => ?_)
          refine lv_iinc (pc := 64) (v := (x3 + (1 : Int32))) (lv' := [(3, .int (x3 + (1 : Int32))), (2, .int (if r2 < x2 then r2 else x2)), (4, .int r2), (0, .ref (G.1 g 0)), (1, .int x1)]) hx hb xd_Ke_leastFromOthers_64 hl (k := 4) rfl rfl (by decide) rfl (fun ls hl => ?_)
          refine lv_goto (pc := 67) (tgt := 4) hx hb xd_Ke_leastFromOthers_67 (by decide) ?_
          exact ih (if r2 < x2 then r2 else x2) (x3 + (1 : Int32)) M1 H locs ls h hR hS (lv_sub hl [3, 4, 1, 0] rfl)
        · have h := h.2 hq
          refine lv_iload (pc := 52) hx hb xd_Ke_leastFromOthers_52 (lv_at hl 0 rfl) ?_
          refine lv_goto (pc := 54) (tgt := 63) hx hb xd_Ke_leastFromOthers_54 (by decide) ?_
          refine lv_istore_n (pc := 63) (lv' := [(2, .int r2), (4, .int r2), (0, .ref (G.1 g 0)), (1, .int x1), (3, .int x3)]) hx hb xd_Ke_leastFromOthers_63 rfl hl (by decide) rfl (fun ls hl => ?_)
          refine lv_iinc (pc := 64) (v := (x3 + (1 : Int32))) (lv' := [(3, .int (x3 + (1 : Int32))), (2, .int r2), (4, .int r2), (0, .ref (G.1 g 0)), (1, .int x1)]) hx hb xd_Ke_leastFromOthers_64 hl (k := 4) rfl rfl (by decide) rfl (fun ls hl => ?_)
          refine lv_goto (pc := 67) (tgt := 4) hx hb xd_Ke_leastFromOthers_67 (by decide) ?_
          exact ih r2 (x3 + (1 : Int32)) M1 H locs ls h hR hS (lv_sub hl [3, 4, 1, 0] rfl)
set_option maxHeartbeats 4000000 in
set_option maxRecDepth 100000 in
theorem xc_Ke_leastFromOthers (l : Launch) (G : xG) {g : Nat} {a1 : Int32} (hg : g < 4) {M : xM} {post : Int32 → xM → Prop} (h : xw_Ke_leastFromOthers g a1 M post) : Met l y_Ke_leastFromOthers (Cond.code y_Ke_leastFromOthers b_Ke_leastFromOthers 5 (some .int) :: xTG) rm_Ke_leastFromOthers (xPre G M [.ref (G.1 g 0), .int a1]) (xPi G post) 0 0 (xA G) := by
  refine xMet (own := R_Ke) [.ref (G.1 g 0), .int a1] (Or.inl (by decide)) rfl (Nat.le_of_ble_eq_true rfl) (fun p e s m args below meth c ls hC hr hlk hR hS hl => ?_)
  have hx := hC.1
  have hb := hC.2.1
  have hl : lv_has ls 5 [(0, .ref (G.1 g 0)), (1, .int a1)] := hl
  obtain ⟨H, eH⟩ : ∃ H : Heap, H = s.heap := ⟨_, rfl⟩
  obtain ⟨locs, eL⟩ : ∃ locs : List Loc, locs = [] := ⟨_, rfl⟩
  rw [← eH] at hR
  replace hS : va_S (xA G) s.heap H locs := by rw [eH, eL]; exact hS
  suffices hh : W p l e rm_Ke_leastFromOthers s m args below meth c H locs 0 0 (MQ below (xPi G post) args s 0 0 (xA G)) (F0 m 0 ls []) from by rw [eH, eL] at hh; exact hh
  unfold xw_Ke_leastFromOthers at h
  refine lv_iconst (pc := 0) (v := (-1 : Int32)) hx hb xd_Ke_leastFromOthers_0 (by decide) ?_
  refine lv_istore_n (pc := 1) (lv' := [(2, .int (-1 : Int32)), (0, .ref (G.1 g 0)), (1, .int a1)]) hx hb xd_Ke_leastFromOthers_1 rfl hl (by decide) rfl (fun ls hl => ?_)
  refine lv_iconst (pc := 2) (v := (0 : Int32)) hx hb xd_Ke_leastFromOthers_2 (by decide) ?_
  refine lv_istore_n (pc := 3) (lv' := [(3, .int (0 : Int32)), (2, .int (-1 : Int32)), (0, .ref (G.1 g 0)), (1, .int a1)]) hx hb xd_Ke_leastFromOthers_3 rfl hl (by decide) rfl (fun ls hl => ?_)
  obtain ⟨n, h⟩ := h
  refine xt_Ke_leastFromOthers_4 hC hr hlk hg (fun y3 y4 M5 H locs ls h hR hS hl => ?_) n (-1 : Int32) (0 : Int32) M H locs ls h hR hS (lv_sub hl [2, 3, 1, 0] rfl)
  refine lv_iload_n (pc := 70) hx hb xd_Ke_leastFromOthers_70 rfl (lv_at hl 2 rfl) ?_
  exact xr_iret hC hr hlk hR hS h xd_Ke_leastFromOthers_71

/-! ColoursApart$Mover.lookAtHouse(LColoursApart$Kept;)V -/
theorem xd_Mv_lookAtHouse_0 : decode b_Mv_lookAtHouse 0 = .ok (.iconst 0, 1) := by decide +kernel
theorem xd_Mv_lookAtHouse_1 : decode b_Mv_lookAtHouse 1 = .ok (.istore_n 2, 1) := by decide +kernel
theorem xd_Mv_lookAtHouse_2 : decode b_Mv_lookAtHouse 2 = .ok (.iload_n 2, 1) := by decide +kernel
theorem xd_Mv_lookAtHouse_3 : decode b_Mv_lookAtHouse 3 = .ok (.aload_n 1, 1) := by decide +kernel
theorem xd_Mv_lookAtHouse_4 : decode b_Mv_lookAtHouse 4 = .ok (.getfield 34, 3) := by decide +kernel
theorem xd_Mv_lookAtHouse_7 : decode b_Mv_lookAtHouse 7 = .ok (.getfield 44, 3) := by decide +kernel
theorem xd_Mv_lookAtHouse_10 : decode b_Mv_lookAtHouse 10 = .ok (.if_icmp .ge 30, 3) := by decide +kernel
theorem xd_Mv_lookAtHouse_13 : decode b_Mv_lookAtHouse 13 = .ok (.aload_n 1, 1) := by decide +kernel
theorem xd_Mv_lookAtHouse_14 : decode b_Mv_lookAtHouse 14 = .ok (.getfield 50, 3) := by decide +kernel
theorem xd_Mv_lookAtHouse_17 : decode b_Mv_lookAtHouse 17 = .ok (.aload_n 1, 1) := by decide +kernel
theorem xd_Mv_lookAtHouse_18 : decode b_Mv_lookAtHouse 18 = .ok (.getfield 34, 3) := by decide +kernel
theorem xd_Mv_lookAtHouse_21 : decode b_Mv_lookAtHouse 21 = .ok (.getfield 54, 3) := by decide +kernel
theorem xd_Mv_lookAtHouse_24 : decode b_Mv_lookAtHouse 24 = .ok (.iload_n 2, 1) := by decide +kernel
theorem xd_Mv_lookAtHouse_25 : decode b_Mv_lookAtHouse 25 = .ok (.iaload, 1) := by decide +kernel
theorem xd_Mv_lookAtHouse_26 : decode b_Mv_lookAtHouse 26 = .ok (.aload_n 0, 1) := by decide +kernel
theorem xd_Mv_lookAtHouse_27 : decode b_Mv_lookAtHouse 27 = .ok (.getfield 9, 3) := by decide +kernel
theorem xd_Mv_lookAtHouse_30 : decode b_Mv_lookAtHouse 30 = .ok (.iload_n 2, 1) := by decide +kernel
theorem xd_Mv_lookAtHouse_31 : decode b_Mv_lookAtHouse 31 = .ok (.invokevirtual 57, 3) := by decide +kernel
theorem xd_Mv_lookAtHouse_34 : decode b_Mv_lookAtHouse 34 = .ok (.iinc 2 1, 3) := by decide +kernel
theorem xd_Mv_lookAtHouse_37 : decode b_Mv_lookAtHouse 37 = .ok (.goto (-35), 3) := by decide +kernel
theorem xd_Mv_lookAtHouse_40 : decode b_Mv_lookAtHouse 40 = .ok (.return_, 1) := by decide +kernel
abbrev rm_Mv_lookAtHouse : Room := { frames := 4, cells := 0, slots := 0, locals := 94 }
def xw_Mv_lookAtHouse_2 (g1 : Nat) (post : xM → Prop) (k40 : Int32 → xM → Prop) : Nat → Int32 → xM → Prop
  | 0, _, _ => False
  | n2 + 1, x2, M => (((M g1 3 0) ≤ x2) → (k40 x2 M)) ∧ ((¬ (M g1 3 0) ≤ x2) → ((vp_in x2 12) ∧ (xw_Ey_lookWithAll g1 (M g1 4 x2.toNatClampNeg) 8 12 72 x2 M (fun (M1 : xM) => xw_Mv_lookAtHouse_2 g1 post k40 n2 (x2 + (1 : Int32)) M1))))
def xw_Mv_lookAtHouse (g1 : Nat) (M : xM) (post : xM → Prop) : Prop :=
  ∃ n2 : Nat, xw_Mv_lookAtHouse_2 g1 post (fun (y2 : Int32) (M3 : xM) => post M3) n2 (0 : Int32) M
set_option maxHeartbeats 4000000 in
set_option maxRecDepth 100000 in
theorem xt_Mv_lookAtHouse_2 {p : Program} {l : Launch} {e : Env} {s : State} {m : MethodId} {args : Array Value} {below : List Frame} {meth : Method} {c : Code} {G : xG} (hC : xC p s m args c b_Mv_lookAtHouse R_Mv 3 G) (hr : meth.sig.returnType = none) (hlk : meth.locks = false) {g1 : Nat} (hg1 : g1 < 4) {post : xM → Prop} {k40 : Int32 → xM → Prop} (hk40 : ∀ (x2 : Int32) (M : xM) (H : Heap) (locs : List Loc) (ls : Array Slot), k40 x2 M → xRp G M H → va_S (xA G) s.heap H locs → lv_has ls 3 [(0, .ref (G.1 8 11)), (1, .ref (G.1 g1 0)), (2, .int x2)] → W p l e rm_Mv_lookAtHouse s m args below meth c H locs 0 0 (MQ below (xPv G post) args s 0 0 (xA G)) (F0 m 40 ls [])) : ∀ (n : Nat) (x2 : Int32) (M : xM) (H : Heap) (locs : List Loc) (ls : Array Slot), xw_Mv_lookAtHouse_2 g1 post k40 n x2 M → xRp G M H → va_S (xA G) s.heap H locs → lv_has ls 3 [(0, .ref (G.1 8 11)), (1, .ref (G.1 g1 0)), (2, .int x2)] → W p l e rm_Mv_lookAtHouse s m args below meth c H locs 0 0 (MQ below (xPv G post) args s 0 0 (xA G)) (F0 m 2 ls []) := by
  have hx := hC.1
  have hb := hC.2.1
  intro n
  induction n with
  | zero => intro x2 M H locs ls; exact fun h => h.elim
  | succ n ih =>
    intro x2 M H locs ls h hR hS hl
    refine lv_iload_n (pc := 2) hx hb xd_Mv_lookAtHouse_2 rfl (lv_at hl 2 rfl) ?_
    refine lv_aload_n (pc := 3) hx hb xd_Mv_lookAtHouse_3 rfl (lv_at hl 1 rfl) ?_
    refine xr_get (pc := 4) (v := .ref (G.1 g1 3)) hC hR (xo_K0 hg1) xf_Mv_34 rfl xd_Mv_lookAtHouse_4 ?_
    refine xr_get (pc := 7) (v := .int (M g1 3 0)) hC hR (xo_K3 hg1) xf_Mv_44 rfl xd_Mv_lookAtHouse_7 ?_
    refine lv_icmp_ge (pc := 10) (tgt := 40) hx hb xd_Mv_lookAtHouse_10 (by decide) (fun hq => ?_) (fun hq => ?_)
    · have h := h.1 hq
      exact hk40 x2 M H locs ls h hR hS (lv_sub hl [0, 1, 2] rfl)
    · have h := h.2 hq
      refine lv_aload_n (pc := 13) hx hb xd_Mv_lookAtHouse_13 rfl (lv_at hl 1 rfl) ?_
      refine xr_get (pc := 14) (v := .ref (G.1 g1 1)) hC hR (xo_K0 hg1) xf_Mv_50 rfl xd_Mv_lookAtHouse_14 ?_
      refine lv_aload_n (pc := 17) hx hb xd_Mv_lookAtHouse_17 rfl (lv_at hl 1 rfl) ?_
      refine xr_get (pc := 18) (v := .ref (G.1 g1 3)) hC hR (xo_K0 hg1) xf_Mv_34 rfl xd_Mv_lookAtHouse_18 ?_
      refine xr_get (pc := 21) (v := .ref (G.1 g1 4)) hC hR (xo_K3 hg1) xf_Mv_54 rfl xd_Mv_lookAtHouse_21 ?_
      refine lv_iload_n (pc := 24) hx hb xd_Mv_lookAtHouse_24 rfl (lv_at hl 2 rfl) ?_
      obtain ⟨hq, h⟩ := h
      refine xr_iald (pc := 25) hC hR (xo_K4 hg1) hq xd_Mv_lookAtHouse_25 ?_
      refine lv_aload_n (pc := 26) hx hb xd_Mv_lookAtHouse_26 rfl (lv_at hl 0 rfl) ?_
      refine xr_get (pc := 27) (v := .ref (G.1 8 12)) hC hR xo_C11 xf_Mv_9 rfl xd_Mv_lookAtHouse_27 ?_
      refine lv_iload_n (pc := 30) hx hb xd_Mv_lookAtHouse_30 rfl (lv_at hl 2 rfl) ?_
      refine xr_callVv (pc := 31) (As := [.int (M g1 4 x2.toNatClampNeg), .ref (G.1 8 12), .int x2]) (rest := []) hC hR hS (xc_Ey_lookWithAll l G hg1 xo_C12 h) (xo_K1 hg1) xv_Mv_57 ⟨rfl, rfl, Nat.le_of_ble_eq_true rfl, Nat.le_of_ble_eq_true rfl⟩ rfl hl.1 rfl (Nat.le_of_ble_eq_true rfl) xd_Mv_lookAtHouse_31 (fun M1 H locs h hR hS => ?_)
      refine lv_iinc (pc := 34) (v := (x2 + (1 : Int32))) (lv' := [(2, .int (x2 + (1 : Int32))), (0, .ref (G.1 8 11)), (1, .ref (G.1 g1 0))]) hx hb xd_Mv_lookAtHouse_34 hl (k := 2) rfl rfl (by decide) rfl (fun ls hl => ?_)
      refine lv_goto (pc := 37) (tgt := 2) hx hb xd_Mv_lookAtHouse_37 (by decide) ?_
      exact ih (x2 + (1 : Int32)) M1 H locs ls h hR hS (lv_sub hl [1, 2, 0] rfl)
set_option maxHeartbeats 4000000 in
set_option maxRecDepth 100000 in
theorem xc_Mv_lookAtHouse (l : Launch) (G : xG) {g1 : Nat} (hg1 : g1 < 4) {M : xM} {post : xM → Prop} (h : xw_Mv_lookAtHouse g1 M post) : Met l y_Mv_lookAtHouse (Cond.code y_Mv_lookAtHouse b_Mv_lookAtHouse 3 none :: xTG) rm_Mv_lookAtHouse (xPre G M [.ref (G.1 8 11), .ref (G.1 g1 0)]) (xPv G post) 0 0 (xA G) := by
  refine xMet (own := R_Mv) [.ref (G.1 8 11), .ref (G.1 g1 0)] (Or.inl (by decide)) rfl (Nat.le_of_ble_eq_true rfl) (fun p e s m args below meth c ls hC hr hlk hR hS hl => ?_)
  have hx := hC.1
  have hb := hC.2.1
  have hl : lv_has ls 3 [(0, .ref (G.1 8 11)), (1, .ref (G.1 g1 0))] := hl
  obtain ⟨H, eH⟩ : ∃ H : Heap, H = s.heap := ⟨_, rfl⟩
  obtain ⟨locs, eL⟩ : ∃ locs : List Loc, locs = [] := ⟨_, rfl⟩
  rw [← eH] at hR
  replace hS : va_S (xA G) s.heap H locs := by rw [eH, eL]; exact hS
  suffices hh : W p l e rm_Mv_lookAtHouse s m args below meth c H locs 0 0 (MQ below (xPv G post) args s 0 0 (xA G)) (F0 m 0 ls []) from by rw [eH, eL] at hh; exact hh
  unfold xw_Mv_lookAtHouse at h
  refine lv_iconst (pc := 0) (v := (0 : Int32)) hx hb xd_Mv_lookAtHouse_0 (by decide) ?_
  refine lv_istore_n (pc := 1) (lv' := [(2, .int (0 : Int32)), (0, .ref (G.1 8 11)), (1, .ref (G.1 g1 0))]) hx hb xd_Mv_lookAtHouse_1 rfl hl (by decide) rfl (fun ls hl => ?_)
  obtain ⟨n, h⟩ := h
  refine xt_Mv_lookAtHouse_2 hC hr hlk hg1 (fun y2 M3 H locs ls h hR hS hl => ?_) n (0 : Int32) M H locs ls h hR hS (lv_sub hl [1, 2, 0] rfl)
  exact xr_vret hC hr hlk hR hS h xd_Mv_lookAtHouse_40

/-! ColoursApart$Mover.isFarFromOthers(LColoursApart$Kept;III)Z -/
theorem xd_Mv_isFarFromOthers_0 : decode b_Mv_isFarFromOthers 0 = .ok (.aload_n 1, 1) := by decide +kernel
theorem xd_Mv_isFarFromOthers_1 : decode b_Mv_isFarFromOthers 1 = .ok (.getfield 50, 3) := by decide +kernel
theorem xd_Mv_isFarFromOthers_4 : decode b_Mv_isFarFromOthers 4 = .ok (.iload_n 3, 1) := by decide +kernel
theorem xd_Mv_isFarFromOthers_5 : decode b_Mv_isFarFromOthers 5 = .ok (.aload_n 0, 1) := by decide +kernel
theorem xd_Mv_isFarFromOthers_6 : decode b_Mv_isFarFromOthers 6 = .ok (.getfield 15, 3) := by decide +kernel
theorem xd_Mv_isFarFromOthers_9 : decode b_Mv_isFarFromOthers 9 = .ok (.iconst 0, 1) := by decide +kernel
theorem xd_Mv_isFarFromOthers_10 : decode b_Mv_isFarFromOthers 10 = .ok (.invokevirtual 57, 3) := by decide +kernel
theorem xd_Mv_isFarFromOthers_13 : decode b_Mv_isFarFromOthers 13 = .ok (.iconst 0, 1) := by decide +kernel
theorem xd_Mv_isFarFromOthers_14 : decode b_Mv_isFarFromOthers 14 = .ok (.istore 5, 2) := by decide +kernel
theorem xd_Mv_isFarFromOthers_16 : decode b_Mv_isFarFromOthers 16 = .ok (.iload 5, 2) := by decide +kernel
theorem xd_Mv_isFarFromOthers_18 : decode b_Mv_isFarFromOthers 18 = .ok (.aload_n 1, 1) := by decide +kernel
theorem xd_Mv_isFarFromOthers_19 : decode b_Mv_isFarFromOthers 19 = .ok (.getfield 34, 3) := by decide +kernel
theorem xd_Mv_isFarFromOthers_22 : decode b_Mv_isFarFromOthers 22 = .ok (.getfield 44, 3) := by decide +kernel
theorem xd_Mv_isFarFromOthers_25 : decode b_Mv_isFarFromOthers 25 = .ok (.if_icmp .ge 40, 3) := by decide +kernel
theorem xd_Mv_isFarFromOthers_28 : decode b_Mv_isFarFromOthers 28 = .ok (.iload 5, 2) := by decide +kernel
theorem xd_Mv_isFarFromOthers_30 : decode b_Mv_isFarFromOthers 30 = .ok (.iload_n 2, 1) := by decide +kernel
theorem xd_Mv_isFarFromOthers_31 : decode b_Mv_isFarFromOthers 31 = .ok (.if_icmp .eq 28, 3) := by decide +kernel
theorem xd_Mv_isFarFromOthers_34 : decode b_Mv_isFarFromOthers 34 = .ok (.aload_n 1, 1) := by decide +kernel
theorem xd_Mv_isFarFromOthers_35 : decode b_Mv_isFarFromOthers 35 = .ok (.getfield 50, 3) := by decide +kernel
theorem xd_Mv_isFarFromOthers_38 : decode b_Mv_isFarFromOthers 38 = .ok (.aload_n 0, 1) := by decide +kernel
theorem xd_Mv_isFarFromOthers_39 : decode b_Mv_isFarFromOthers 39 = .ok (.getfield 15, 3) := by decide +kernel
theorem xd_Mv_isFarFromOthers_42 : decode b_Mv_isFarFromOthers 42 = .ok (.iconst 0, 1) := by decide +kernel
theorem xd_Mv_isFarFromOthers_43 : decode b_Mv_isFarFromOthers 43 = .ok (.aload_n 0, 1) := by decide +kernel
theorem xd_Mv_isFarFromOthers_44 : decode b_Mv_isFarFromOthers 44 = .ok (.getfield 9, 3) := by decide +kernel
theorem xd_Mv_isFarFromOthers_47 : decode b_Mv_isFarFromOthers 47 = .ok (.iload 5, 2) := by decide +kernel
theorem xd_Mv_isFarFromOthers_49 : decode b_Mv_isFarFromOthers 49 = .ok (.invokevirtual 63, 3) := by decide +kernel
theorem xd_Mv_isFarFromOthers_52 : decode b_Mv_isFarFromOthers 52 = .ok (.iload 4, 2) := by decide +kernel
theorem xd_Mv_isFarFromOthers_54 : decode b_Mv_isFarFromOthers 54 = .ok (.if_icmp .ge 5, 3) := by decide +kernel
theorem xd_Mv_isFarFromOthers_57 : decode b_Mv_isFarFromOthers 57 = .ok (.iconst 0, 1) := by decide +kernel
theorem xd_Mv_isFarFromOthers_58 : decode b_Mv_isFarFromOthers 58 = .ok (.ireturn, 1) := by decide +kernel
theorem xd_Mv_isFarFromOthers_59 : decode b_Mv_isFarFromOthers 59 = .ok (.iinc 5 1, 3) := by decide +kernel
theorem xd_Mv_isFarFromOthers_62 : decode b_Mv_isFarFromOthers 62 = .ok (.goto (-46), 3) := by decide +kernel
theorem xd_Mv_isFarFromOthers_65 : decode b_Mv_isFarFromOthers 65 = .ok (.iconst 1, 1) := by decide +kernel
theorem xd_Mv_isFarFromOthers_66 : decode b_Mv_isFarFromOthers 66 = .ok (.ireturn, 1) := by decide +kernel
abbrev rm_Mv_isFarFromOthers : Room := { frames := 4, cells := 0, slots := 0, locals := 94 }
def xw_Mv_isFarFromOthers_16 (g1 : Nat) (x2 : Int32) (x4 : Int32) (post : Int32 → xM → Prop) (k65 : Int32 → xM → Prop) : Nat → Int32 → xM → Prop
  | 0, _, _ => False
  | n16 + 1, x5, M => (((M g1 3 0) ≤ x5) → (k65 x5 M)) ∧ ((¬ (M g1 3 0) ≤ x5) → (((x5 = x2) → (xw_Mv_isFarFromOthers_16 g1 x2 x4 post k65 n16 (x5 + (1 : Int32)) M)) ∧ ((¬ x5 = x2) → (xw_Ey_leastOfViews g1 8 13 6 (0 : Int32) 8 12 72 x5 M (fun (r3 : Int32) (M2 : xM) => ((x4 ≤ r3) → (xw_Mv_isFarFromOthers_16 g1 x2 x4 post k65 n16 (x5 + (1 : Int32)) M2)) ∧ ((¬ x4 ≤ r3) → (post (0 : Int32) M2)))))))
def xw_Mv_isFarFromOthers (g1 : Nat) (a2 : Int32) (a3 : Int32) (a4 : Int32) (M : xM) (post : Int32 → xM → Prop) : Prop :=
  xw_Ey_lookWithAll g1 a3 8 13 6 (0 : Int32) M (fun (M1 : xM) => ∃ n16 : Nat, xw_Mv_isFarFromOthers_16 g1 a2 a4 post (fun (y4 : Int32) (M5 : xM) => post (1 : Int32) M5) n16 (0 : Int32) M1)
set_option maxHeartbeats 4000000 in
set_option maxRecDepth 100000 in
theorem xt_Mv_isFarFromOthers_16 {p : Program} {l : Launch} {e : Env} {s : State} {m : MethodId} {args : Array Value} {below : List Frame} {meth : Method} {c : Code} {G : xG} (hC : xC p s m args c b_Mv_isFarFromOthers R_Mv 6 G) (hr : meth.sig.returnType = (some .boolean)) (hlk : meth.locks = false) {g1 : Nat} (hg1 : g1 < 4) {x2 : Int32} {x4 : Int32} {post : Int32 → xM → Prop} {k65 : Int32 → xM → Prop} (hk65 : ∀ (x5 : Int32) (M : xM) (H : Heap) (locs : List Loc) (ls : Array Slot), k65 x5 M → xRp G M H → va_S (xA G) s.heap H locs → lv_has ls 6 [(0, .ref (G.1 8 11)), (1, .ref (G.1 g1 0)), (2, .int x2), (4, .int x4), (5, .int x5)] → W p l e rm_Mv_isFarFromOthers s m args below meth c H locs 0 0 (MQ below (xPi G post) args s 0 0 (xA G)) (F0 m 65 ls [])) : ∀ (n : Nat) (x5 : Int32) (M : xM) (H : Heap) (locs : List Loc) (ls : Array Slot), xw_Mv_isFarFromOthers_16 g1 x2 x4 post k65 n x5 M → xRp G M H → va_S (xA G) s.heap H locs → lv_has ls 6 [(0, .ref (G.1 8 11)), (1, .ref (G.1 g1 0)), (2, .int x2), (4, .int x4), (5, .int x5)] → W p l e rm_Mv_isFarFromOthers s m args below meth c H locs 0 0 (MQ below (xPi G post) args s 0 0 (xA G)) (F0 m 16 ls []) := by
  have hx := hC.1
  have hb := hC.2.1
  intro n
  induction n with
  | zero => intro x5 M H locs ls; exact fun h => h.elim
  | succ n ih =>
    intro x5 M H locs ls h hR hS hl
    refine lv_iload (pc := 16) hx hb xd_Mv_isFarFromOthers_16 (lv_at hl 4 rfl) ?_
    refine lv_aload_n (pc := 18) hx hb xd_Mv_isFarFromOthers_18 rfl (lv_at hl 1 rfl) ?_
    refine xr_get (pc := 19) (v := .ref (G.1 g1 3)) hC hR (xo_K0 hg1) xf_Mv_34 rfl xd_Mv_isFarFromOthers_19 ?_
    refine xr_get (pc := 22) (v := .int (M g1 3 0)) hC hR (xo_K3 hg1) xf_Mv_44 rfl xd_Mv_isFarFromOthers_22 ?_
    refine lv_icmp_ge (pc := 25) (tgt := 65) hx hb xd_Mv_isFarFromOthers_25 (by decide) (fun hq => ?_) (fun hq => ?_)
    · have h := h.1 hq
      exact hk65 x5 M H locs ls h hR hS (lv_sub hl [0, 1, 2, 3, 4] rfl)
    · have h := h.2 hq
      refine lv_iload (pc := 28) hx hb xd_Mv_isFarFromOthers_28 (lv_at hl 4 rfl) ?_
      refine lv_iload_n (pc := 30) hx hb xd_Mv_isFarFromOthers_30 rfl (lv_at hl 2 rfl) ?_
      refine lv_icmp_eq (pc := 31) (tgt := 59) hx hb xd_Mv_isFarFromOthers_31 (by decide) (fun hq => ?_) (fun hq => ?_)
      · have h := h.1 hq
        refine lv_iinc (pc := 59) (v := (x5 + (1 : Int32))) (lv' := [(5, .int (x5 + (1 : Int32))), (0, .ref (G.1 8 11)), (1, .ref (G.1 g1 0)), (2, .int x2), (4, .int x4)]) hx hb xd_Mv_isFarFromOthers_59 hl (k := 4) rfl rfl (by decide) rfl (fun ls hl => ?_)
        refine lv_goto (pc := 62) (tgt := 16) hx hb xd_Mv_isFarFromOthers_62 (by decide) ?_
        exact ih (x5 + (1 : Int32)) M H locs ls h hR hS (lv_sub hl [1, 2, 3, 4, 0] rfl)
      · have h := h.2 hq
        refine lv_aload_n (pc := 34) hx hb xd_Mv_isFarFromOthers_34 rfl (lv_at hl 1 rfl) ?_
        refine xr_get (pc := 35) (v := .ref (G.1 g1 1)) hC hR (xo_K0 hg1) xf_Mv_50 rfl xd_Mv_isFarFromOthers_35 ?_
        refine lv_aload_n (pc := 38) hx hb xd_Mv_isFarFromOthers_38 rfl (lv_at hl 0 rfl) ?_
        refine xr_get (pc := 39) (v := .ref (G.1 8 13)) hC hR xo_C11 xf_Mv_15 rfl xd_Mv_isFarFromOthers_39 ?_
        refine lv_iconst (pc := 42) (v := (0 : Int32)) hx hb xd_Mv_isFarFromOthers_42 (by decide) ?_
        refine lv_aload_n (pc := 43) hx hb xd_Mv_isFarFromOthers_43 rfl (lv_at hl 0 rfl) ?_
        refine xr_get (pc := 44) (v := .ref (G.1 8 12)) hC hR xo_C11 xf_Mv_9 rfl xd_Mv_isFarFromOthers_44 ?_
        refine lv_iload (pc := 47) hx hb xd_Mv_isFarFromOthers_47 (lv_at hl 4 rfl) ?_
        refine xr_callV (pc := 49) (As := [.ref (G.1 8 13), .int (0 : Int32), .ref (G.1 8 12), .int x5]) (rest := []) hC hR hS (xc_Ey_leastOfViews l G hg1 xo_C13 xo_C12 h) (xo_K1 hg1) xv_Mv_63 ⟨rfl, rfl, Nat.le_of_ble_eq_true rfl, Nat.le_of_ble_eq_true rfl⟩ rfl hl.1 rfl (Nat.le_of_ble_eq_true rfl) xd_Mv_isFarFromOthers_49 (fun r3 M2 H locs h hR hS => ?_)
        refine lv_iload (pc := 52) hx hb xd_Mv_isFarFromOthers_52 (lv_at hl 3 rfl) ?_
        refine lv_icmp_ge (pc := 54) (tgt := 59) hx hb xd_Mv_isFarFromOthers_54 (by decide) (fun hq => ?_) (fun hq => ?_)
        · have h := h.1 hq
          refine lv_iinc (pc := 59) (v := (x5 + (1 : Int32))) (lv' := [(5, .int (x5 + (1 : Int32))), (0, .ref (G.1 8 11)), (1, .ref (G.1 g1 0)), (2, .int x2), (4, .int x4)]) hx hb xd_Mv_isFarFromOthers_59 hl (k := 4) rfl rfl (by decide) rfl (fun ls hl => ?_)
          refine lv_goto (pc := 62) (tgt := 16) hx hb xd_Mv_isFarFromOthers_62 (by decide) ?_
          exact ih (x5 + (1 : Int32)) M2 H locs ls h hR hS (lv_sub hl [1, 2, 3, 4, 0] rfl)
        · have h := h.2 hq
          refine lv_iconst (pc := 57) (v := (0 : Int32)) hx hb xd_Mv_isFarFromOthers_57 (by decide) ?_
          exact xr_zret hC hr hlk hR hS (by decide) h xd_Mv_isFarFromOthers_58
set_option maxHeartbeats 4000000 in
set_option maxRecDepth 100000 in
theorem xc_Mv_isFarFromOthers (l : Launch) (G : xG) {g1 : Nat} {a2 : Int32} {a3 : Int32} {a4 : Int32} (hg1 : g1 < 4) {M : xM} {post : Int32 → xM → Prop} (h : xw_Mv_isFarFromOthers g1 a2 a3 a4 M post) : Met l y_Mv_isFarFromOthers (Cond.code y_Mv_isFarFromOthers b_Mv_isFarFromOthers 6 (some .boolean) :: xTG) rm_Mv_isFarFromOthers (xPre G M [.ref (G.1 8 11), .ref (G.1 g1 0), .int a2, .int a3, .int a4]) (xPi G post) 0 0 (xA G) := by
  refine xMet (own := R_Mv) [.ref (G.1 8 11), .ref (G.1 g1 0), .int a2, .int a3, .int a4] (Or.inl (by decide)) rfl (Nat.le_of_ble_eq_true rfl) (fun p e s m args below meth c ls hC hr hlk hR hS hl => ?_)
  have hx := hC.1
  have hb := hC.2.1
  have hl : lv_has ls 6 [(0, .ref (G.1 8 11)), (1, .ref (G.1 g1 0)), (2, .int a2), (3, .int a3), (4, .int a4)] := hl
  obtain ⟨H, eH⟩ : ∃ H : Heap, H = s.heap := ⟨_, rfl⟩
  obtain ⟨locs, eL⟩ : ∃ locs : List Loc, locs = [] := ⟨_, rfl⟩
  rw [← eH] at hR
  replace hS : va_S (xA G) s.heap H locs := by rw [eH, eL]; exact hS
  suffices hh : W p l e rm_Mv_isFarFromOthers s m args below meth c H locs 0 0 (MQ below (xPi G post) args s 0 0 (xA G)) (F0 m 0 ls []) from by rw [eH, eL] at hh; exact hh
  unfold xw_Mv_isFarFromOthers at h
  refine lv_aload_n (pc := 0) hx hb xd_Mv_isFarFromOthers_0 rfl (lv_at hl 1 rfl) ?_
  refine xr_get (pc := 1) (v := .ref (G.1 g1 1)) hC hR (xo_K0 hg1) xf_Mv_50 rfl xd_Mv_isFarFromOthers_1 ?_
  refine lv_iload_n (pc := 4) hx hb xd_Mv_isFarFromOthers_4 rfl (lv_at hl 3 rfl) ?_
  refine lv_aload_n (pc := 5) hx hb xd_Mv_isFarFromOthers_5 rfl (lv_at hl 0 rfl) ?_
  refine xr_get (pc := 6) (v := .ref (G.1 8 13)) hC hR xo_C11 xf_Mv_15 rfl xd_Mv_isFarFromOthers_6 ?_
  refine lv_iconst (pc := 9) (v := (0 : Int32)) hx hb xd_Mv_isFarFromOthers_9 (by decide) ?_
  refine xr_callVv (pc := 10) (As := [.int a3, .ref (G.1 8 13), .int (0 : Int32)]) (rest := []) hC hR hS (xc_Ey_lookWithAll l G hg1 xo_C13 h) (xo_K1 hg1) xv_Mv_57 ⟨rfl, rfl, Nat.le_of_ble_eq_true rfl, Nat.le_of_ble_eq_true rfl⟩ rfl hl.1 rfl (Nat.le_of_ble_eq_true rfl) xd_Mv_isFarFromOthers_10 (fun M1 H locs h hR hS => ?_)
  refine lv_iconst (pc := 13) (v := (0 : Int32)) hx hb xd_Mv_isFarFromOthers_13 (by decide) ?_
  refine lv_istore (pc := 14) (lv' := [(5, .int (0 : Int32)), (0, .ref (G.1 8 11)), (1, .ref (G.1 g1 0)), (2, .int a2), (3, .int a3), (4, .int a4)]) hx hb xd_Mv_isFarFromOthers_14 hl (by decide) rfl (fun ls hl => ?_)
  obtain ⟨n, h⟩ := h
  refine xt_Mv_isFarFromOthers_16 hC hr hlk hg1 (fun y4 M5 H locs ls h hR hS hl => ?_) n (0 : Int32) M1 H locs ls h hR hS (lv_sub hl [1, 2, 3, 5, 0] rfl)
  refine lv_iconst (pc := 65) (v := (1 : Int32)) hx hb xd_Mv_isFarFromOthers_65 (by decide) ?_
  exact xr_zret hC hr hlk hR hS (by decide) h xd_Mv_isFarFromOthers_66

/-! ColoursApart$Mover.shift(LColoursApart$Kept;II)I -/
theorem xd_Mv_shift_0 : decode b_Mv_shift 0 = .ok (.aload_n 1, 1) := by decide +kernel
theorem xd_Mv_shift_1 : decode b_Mv_shift 1 = .ok (.getfield 34, 3) := by decide +kernel
theorem xd_Mv_shift_4 : decode b_Mv_shift 4 = .ok (.getfield 54, 3) := by decide +kernel
theorem xd_Mv_shift_7 : decode b_Mv_shift 7 = .ok (.iload_n 2, 1) := by decide +kernel
theorem xd_Mv_shift_8 : decode b_Mv_shift 8 = .ok (.iaload, 1) := by decide +kernel
theorem xd_Mv_shift_9 : decode b_Mv_shift 9 = .ok (.istore 4, 2) := by decide +kernel
theorem xd_Mv_shift_11 : decode b_Mv_shift 11 = .ok (.iconst (-1), 1) := by decide +kernel
theorem xd_Mv_shift_12 : decode b_Mv_shift 12 = .ok (.istore 5, 2) := by decide +kernel
theorem xd_Mv_shift_14 : decode b_Mv_shift 14 = .ok (.ldc 71, 2) := by decide +kernel
theorem xd_Mv_shift_16 : decode b_Mv_shift 16 = .ok (.istore 6, 2) := by decide +kernel
theorem xd_Mv_shift_18 : decode b_Mv_shift 18 = .ok (.iconst (-1), 1) := by decide +kernel
theorem xd_Mv_shift_19 : decode b_Mv_shift 19 = .ok (.istore 7, 2) := by decide +kernel
theorem xd_Mv_shift_21 : decode b_Mv_shift 21 = .ok (.iload 7, 2) := by decide +kernel
theorem xd_Mv_shift_23 : decode b_Mv_shift 23 = .ok (.aload_n 1, 1) := by decide +kernel
theorem xd_Mv_shift_24 : decode b_Mv_shift 24 = .ok (.getfield 72, 3) := by decide +kernel
theorem xd_Mv_shift_27 : decode b_Mv_shift 27 = .ok (.invokevirtual 76, 3) := by decide +kernel
theorem xd_Mv_shift_30 : decode b_Mv_shift 30 = .ok (.if_icmp .ge 97, 3) := by decide +kernel
theorem xd_Mv_shift_33 : decode b_Mv_shift 33 = .ok (.iload 7, 2) := by decide +kernel
theorem xd_Mv_shift_35 : decode b_Mv_shift 35 = .ok (.iconst (-1), 1) := by decide +kernel
theorem xd_Mv_shift_36 : decode b_Mv_shift 36 = .ok (.if_icmp .ne 8, 3) := by decide +kernel
theorem xd_Mv_shift_39 : decode b_Mv_shift 39 = .ok (.iload 4, 2) := by decide +kernel
theorem xd_Mv_shift_41 : decode b_Mv_shift 41 = .ok (.goto 12, 3) := by decide +kernel
theorem xd_Mv_shift_44 : decode b_Mv_shift 44 = .ok (.aload_n 1, 1) := by decide +kernel
theorem xd_Mv_shift_45 : decode b_Mv_shift 45 = .ok (.getfield 72, 3) := by decide +kernel
theorem xd_Mv_shift_48 : decode b_Mv_shift 48 = .ok (.iload 7, 2) := by decide +kernel
theorem xd_Mv_shift_50 : decode b_Mv_shift 50 = .ok (.invokevirtual 82, 3) := by decide +kernel
theorem xd_Mv_shift_53 : decode b_Mv_shift 53 = .ok (.istore 8, 2) := by decide +kernel
theorem xd_Mv_shift_55 : decode b_Mv_shift 55 = .ok (.aload_n 1, 1) := by decide +kernel
theorem xd_Mv_shift_56 : decode b_Mv_shift 56 = .ok (.getfield 50, 3) := by decide +kernel
theorem xd_Mv_shift_59 : decode b_Mv_shift 59 = .ok (.iload 4, 2) := by decide +kernel
theorem xd_Mv_shift_61 : decode b_Mv_shift 61 = .ok (.iload 8, 2) := by decide +kernel
theorem xd_Mv_shift_63 : decode b_Mv_shift 63 = .ok (.invokevirtual 86, 3) := by decide +kernel
theorem xd_Mv_shift_66 : decode b_Mv_shift 66 = .ok (.istore 9, 2) := by decide +kernel
theorem xd_Mv_shift_68 : decode b_Mv_shift 68 = .ok (.iload 9, 2) := by decide +kernel
theorem xd_Mv_shift_70 : decode b_Mv_shift 70 = .ok (.iload 6, 2) := by decide +kernel
theorem xd_Mv_shift_72 : decode b_Mv_shift 72 = .ok (.if_icmp .ge 49, 3) := by decide +kernel
theorem xd_Mv_shift_75 : decode b_Mv_shift 75 = .ok (.aload_n 1, 1) := by decide +kernel
theorem xd_Mv_shift_76 : decode b_Mv_shift 76 = .ok (.getfield 34, 3) := by decide +kernel
theorem xd_Mv_shift_79 : decode b_Mv_shift 79 = .ok (.iload_n 2, 1) := by decide +kernel
theorem xd_Mv_shift_80 : decode b_Mv_shift 80 = .ok (.iload 8, 2) := by decide +kernel
theorem xd_Mv_shift_82 : decode b_Mv_shift 82 = .ok (.invokevirtual 90, 3) := by decide +kernel
theorem xd_Mv_shift_85 : decode b_Mv_shift 85 = .ok (.ifCond .eq 36, 3) := by decide +kernel
theorem xd_Mv_shift_88 : decode b_Mv_shift 88 = .ok (.aload_n 1, 1) := by decide +kernel
theorem xd_Mv_shift_89 : decode b_Mv_shift 89 = .ok (.getfield 34, 3) := by decide +kernel
theorem xd_Mv_shift_92 : decode b_Mv_shift 92 = .ok (.iload_n 2, 1) := by decide +kernel
theorem xd_Mv_shift_93 : decode b_Mv_shift 93 = .ok (.iload 8, 2) := by decide +kernel
theorem xd_Mv_shift_95 : decode b_Mv_shift 95 = .ok (.invokevirtual 94, 3) := by decide +kernel
theorem xd_Mv_shift_98 : decode b_Mv_shift 98 = .ok (.ifCond .eq 23, 3) := by decide +kernel
theorem xd_Mv_shift_101 : decode b_Mv_shift 101 = .ok (.aload_n 0, 1) := by decide +kernel
theorem xd_Mv_shift_102 : decode b_Mv_shift 102 = .ok (.aload_n 1, 1) := by decide +kernel
theorem xd_Mv_shift_103 : decode b_Mv_shift 103 = .ok (.iload_n 2, 1) := by decide +kernel
theorem xd_Mv_shift_104 : decode b_Mv_shift 104 = .ok (.iload 8, 2) := by decide +kernel
theorem xd_Mv_shift_106 : decode b_Mv_shift 106 = .ok (.iload_n 3, 1) := by decide +kernel
theorem xd_Mv_shift_107 : decode b_Mv_shift 107 = .ok (.invokevirtual 97, 3) := by decide +kernel
theorem xd_Mv_shift_110 : decode b_Mv_shift 110 = .ok (.ifCond .eq 11, 3) := by decide +kernel
theorem xd_Mv_shift_113 : decode b_Mv_shift 113 = .ok (.iload 9, 2) := by decide +kernel
theorem xd_Mv_shift_115 : decode b_Mv_shift 115 = .ok (.istore 6, 2) := by decide +kernel
theorem xd_Mv_shift_117 : decode b_Mv_shift 117 = .ok (.iload 8, 2) := by decide +kernel
theorem xd_Mv_shift_119 : decode b_Mv_shift 119 = .ok (.istore 5, 2) := by decide +kernel
theorem xd_Mv_shift_121 : decode b_Mv_shift 121 = .ok (.iinc 7 1, 3) := by decide +kernel
theorem xd_Mv_shift_124 : decode b_Mv_shift 124 = .ok (.goto (-103), 3) := by decide +kernel
theorem xd_Mv_shift_127 : decode b_Mv_shift 127 = .ok (.iload 5, 2) := by decide +kernel
theorem xd_Mv_shift_129 : decode b_Mv_shift 129 = .ok (.iconst (-1), 1) := by decide +kernel
theorem xd_Mv_shift_130 : decode b_Mv_shift 130 = .ok (.if_icmp .ne 5, 3) := by decide +kernel
theorem xd_Mv_shift_133 : decode b_Mv_shift 133 = .ok (.iconst (-1), 1) := by decide +kernel
theorem xd_Mv_shift_134 : decode b_Mv_shift 134 = .ok (.ireturn, 1) := by decide +kernel
theorem xd_Mv_shift_135 : decode b_Mv_shift 135 = .ok (.aload_n 1, 1) := by decide +kernel
theorem xd_Mv_shift_136 : decode b_Mv_shift 136 = .ok (.getfield 34, 3) := by decide +kernel
theorem xd_Mv_shift_139 : decode b_Mv_shift 139 = .ok (.getfield 54, 3) := by decide +kernel
theorem xd_Mv_shift_142 : decode b_Mv_shift 142 = .ok (.iload_n 2, 1) := by decide +kernel
theorem xd_Mv_shift_143 : decode b_Mv_shift 143 = .ok (.iload 5, 2) := by decide +kernel
theorem xd_Mv_shift_145 : decode b_Mv_shift 145 = .ok (.iastore, 1) := by decide +kernel
theorem xd_Mv_shift_146 : decode b_Mv_shift 146 = .ok (.aload_n 1, 1) := by decide +kernel
theorem xd_Mv_shift_147 : decode b_Mv_shift 147 = .ok (.getfield 50, 3) := by decide +kernel
theorem xd_Mv_shift_150 : decode b_Mv_shift 150 = .ok (.iload 5, 2) := by decide +kernel
theorem xd_Mv_shift_152 : decode b_Mv_shift 152 = .ok (.aload_n 0, 1) := by decide +kernel
theorem xd_Mv_shift_153 : decode b_Mv_shift 153 = .ok (.getfield 9, 3) := by decide +kernel
theorem xd_Mv_shift_156 : decode b_Mv_shift 156 = .ok (.iload_n 2, 1) := by decide +kernel
theorem xd_Mv_shift_157 : decode b_Mv_shift 157 = .ok (.invokevirtual 57, 3) := by decide +kernel
theorem xd_Mv_shift_160 : decode b_Mv_shift 160 = .ok (.iload 6, 2) := by decide +kernel
theorem xd_Mv_shift_162 : decode b_Mv_shift 162 = .ok (.ireturn, 1) := by decide +kernel
abbrev rm_Mv_shift : Room := { frames := 5, cells := 0, slots := 0, locals := 119 }
def xw_Mv_shift_21 (g1 : Nat) (x2 : Int32) (x3 : Int32) (x4 : Int32) (post : Int32 → xM → Prop) (k127 : Int32 → Int32 → Int32 → xM → Prop) : Nat → Int32 → Int32 → Int32 → xM → Prop
  | 0, _, _, _, _ => False
  | n21 + 1, x5, x6, x7, M => xw_Gr_places g1 M (fun (r2 : Int32) (M1 : xM) => ((r2 ≤ x7) → (k127 x5 x6 x7 M1)) ∧ ((¬ r2 ≤ x7) → (xj (fun (J53_2 : Int32 → xM → Prop) => ((¬ x7 = (-1 : Int32)) → (xw_Gr_colourAt g1 x7 M1 (fun (r15 : Int32) (M14 : xM) => J53_2 r15 M14))) ∧ ((x7 = (-1 : Int32)) → (J53_2 x4 M1))) (fun (v4 : Int32) (M5 : xM) => xw_Ey_weighed g1 x4 v4 M5 (fun (r7 : Int32) (M6 : xM) => ((x6 ≤ r7) → (xw_Mv_shift_21 g1 x2 x3 x4 post k127 n21 x5 x6 (x7 + (1 : Int32)) M6)) ∧ ((¬ x6 ≤ r7) → (xw_Ho_nameAllows g1 x2 v4 M6 (fun (r9 : Int32) (M8 : xM) => ((r9 = 0) → (xw_Mv_shift_21 g1 x2 x3 x4 post k127 n21 x5 x6 (x7 + (1 : Int32)) M8)) ∧ ((¬ r9 = 0) → (xw_Ho_pairsAllow g1 x2 v4 M8 (fun (r11 : Int32) (M10 : xM) => ((r11 = 0) → (xw_Mv_shift_21 g1 x2 x3 x4 post k127 n21 x5 x6 (x7 + (1 : Int32)) M10)) ∧ ((¬ r11 = 0) → (xw_Mv_isFarFromOthers g1 x2 v4 x3 M10 (fun (r13 : Int32) (M12 : xM) => ((r13 = 0) → (xw_Mv_shift_21 g1 x2 x3 x4 post k127 n21 x5 x6 (x7 + (1 : Int32)) M12)) ∧ ((¬ r13 = 0) → (xw_Mv_shift_21 g1 x2 x3 x4 post k127 n21 v4 r7 (x7 + (1 : Int32)) M12))))))))))))))))
def xw_Mv_shift (g1 : Nat) (a2 : Int32) (a3 : Int32) (M : xM) (post : Int32 → xM → Prop) : Prop :=
  (vp_in a2 12) ∧ (∃ n21 : Nat, xw_Mv_shift_21 g1 a2 a3 (M g1 4 a2.toNatClampNeg) post (fun (y16 : Int32) (y17 : Int32) (y18 : Int32) (M19 : xM) => ((¬ y16 = (-1 : Int32)) → ((vp_in a2 12) ∧ (xw_Ey_lookWithAll g1 y16 8 12 72 a2 (us M19 g1 4 a2.toNatClampNeg y16) (fun (M20 : xM) => post y17 M20)))) ∧ ((y16 = (-1 : Int32)) → (post (-1 : Int32) M19))) n21 (-1 : Int32) (2000000 : Int32) (-1 : Int32) M)
set_option maxHeartbeats 4000000 in
set_option maxRecDepth 100000 in
theorem xt_Mv_shift_21 {p : Program} {l : Launch} {e : Env} {s : State} {m : MethodId} {args : Array Value} {below : List Frame} {meth : Method} {c : Code} {G : xG} (hC : xC p s m args c b_Mv_shift R_Mv 10 G) (hr : meth.sig.returnType = (some .int)) (hlk : meth.locks = false) {g1 : Nat} (hg1 : g1 < 4) {x2 : Int32} {x3 : Int32} {x4 : Int32} {post : Int32 → xM → Prop} {k127 : Int32 → Int32 → Int32 → xM → Prop} (hk127 : ∀ (x5 : Int32) (x6 : Int32) (x7 : Int32) (M : xM) (H : Heap) (locs : List Loc) (ls : Array Slot), k127 x5 x6 x7 M → xRp G M H → va_S (xA G) s.heap H locs → lv_has ls 10 [(0, .ref (G.1 8 11)), (1, .ref (G.1 g1 0)), (2, .int x2), (3, .int x3), (4, .int x4), (5, .int x5), (6, .int x6), (7, .int x7)] → W p l e rm_Mv_shift s m args below meth c H locs 0 0 (MQ below (xPi G post) args s 0 0 (xA G)) (F0 m 127 ls [])) : ∀ (n : Nat) (x5 : Int32) (x6 : Int32) (x7 : Int32) (M : xM) (H : Heap) (locs : List Loc) (ls : Array Slot), xw_Mv_shift_21 g1 x2 x3 x4 post k127 n x5 x6 x7 M → xRp G M H → va_S (xA G) s.heap H locs → lv_has ls 10 [(0, .ref (G.1 8 11)), (1, .ref (G.1 g1 0)), (2, .int x2), (3, .int x3), (4, .int x4), (5, .int x5), (6, .int x6), (7, .int x7)] → W p l e rm_Mv_shift s m args below meth c H locs 0 0 (MQ below (xPi G post) args s 0 0 (xA G)) (F0 m 21 ls []) := by
  have hx := hC.1
  have hb := hC.2.1
  intro n
  induction n with
  | zero => intro x5 x6 x7 M H locs ls; exact fun h => h.elim
  | succ n ih =>
    intro x5 x6 x7 M H locs ls h hR hS hl
    refine lv_iload (pc := 21) hx hb xd_Mv_shift_21 (lv_at hl 7 rfl) ?_
    refine lv_aload_n (pc := 23) hx hb xd_Mv_shift_23 rfl (lv_at hl 1 rfl) ?_
    refine xr_get (pc := 24) (v := .ref (G.1 g1 12)) hC hR (xo_K0 hg1) xf_Mv_72 rfl xd_Mv_shift_24 ?_
    refine xr_callV (pc := 27) (As := []) (rest := [.int x7]) hC hR hS (xc_Gr_places l G hg1 h) (xo_K12 hg1) xv_Mv_76 ⟨rfl, rfl, Nat.le_of_ble_eq_true rfl, Nat.le_of_ble_eq_true rfl⟩ rfl hl.1 rfl (Nat.le_of_ble_eq_true rfl) xd_Mv_shift_27 (fun r2 M1 H locs h hR hS => ?_)
    refine lv_icmp_ge (pc := 30) (tgt := 127) hx hb xd_Mv_shift_30 (by decide) (fun hq => ?_) (fun hq => ?_)
    · have h := h.1 hq
      exact hk127 x5 x6 x7 M1 H locs ls h hR hS (lv_sub hl [0, 1, 2, 3, 4, 5, 6, 7] rfl)
    · have h := h.2 hq
      refine lv_iload (pc := 33) hx hb xd_Mv_shift_33 (lv_at hl 7 rfl) ?_
      refine lv_iconst (pc := 35) (v := (-1 : Int32)) hx hb xd_Mv_shift_35 (by decide) ?_
      obtain ⟨J53_2, eJ53_2, h⟩ := xj_open h
      have kJ53_2 : ∀ (v4 : Int32) (M5 : xM) (H : Heap) (locs : List Loc) (ls : Array Slot), J53_2 v4 M5 → xRp G M5 H → va_S (xA G) s.heap H locs → lv_has ls 10 [(0, .ref (G.1 8 11)), (1, .ref (G.1 g1 0)), (2, .int x2), (3, .int x3), (4, .int x4), (5, .int x5), (6, .int x6), (7, .int x7)] → W p l e rm_Mv_shift s m args below meth c H locs 0 0 (MQ below (xPi G post) args s 0 0 (xA G)) (F0 m 53 ls [.int v4]) := by
        intro v4 M5 H locs ls h hR hS hl
        rw [eJ53_2] at h
        refine lv_istore (pc := 53) (lv' := [(8, .int v4), (0, .ref (G.1 8 11)), (1, .ref (G.1 g1 0)), (2, .int x2), (3, .int x3), (4, .int x4), (5, .int x5), (6, .int x6), (7, .int x7)]) hx hb xd_Mv_shift_53 hl (by decide) rfl (fun ls hl => ?_)
        refine lv_aload_n (pc := 55) hx hb xd_Mv_shift_55 rfl (lv_at hl 2 rfl) ?_
        refine xr_get (pc := 56) (v := .ref (G.1 g1 1)) hC hR (xo_K0 hg1) xf_Mv_50 rfl xd_Mv_shift_56 ?_
        refine lv_iload (pc := 59) hx hb xd_Mv_shift_59 (lv_at hl 5 rfl) ?_
        refine lv_iload (pc := 61) hx hb xd_Mv_shift_61 (lv_at hl 0 rfl) ?_
        refine xr_callV (pc := 63) (As := [.int x4, .int v4]) (rest := []) hC hR hS (xc_Ey_weighed l G hg1 h) (xo_K1 hg1) xv_Mv_86 ⟨rfl, rfl, Nat.le_of_ble_eq_true rfl, Nat.le_of_ble_eq_true rfl⟩ rfl hl.1 rfl (Nat.le_of_ble_eq_true rfl) xd_Mv_shift_63 (fun r7 M6 H locs h hR hS => ?_)
        refine lv_istore (pc := 66) (lv' := [(9, .int r7), (8, .int v4), (0, .ref (G.1 8 11)), (1, .ref (G.1 g1 0)), (2, .int x2), (3, .int x3), (4, .int x4), (5, .int x5), (6, .int x6), (7, .int x7)]) hx hb xd_Mv_shift_66 hl (by decide) rfl (fun ls hl => ?_)
        refine lv_iload (pc := 68) hx hb xd_Mv_shift_68 (lv_at hl 0 rfl) ?_
        refine lv_iload (pc := 70) hx hb xd_Mv_shift_70 (lv_at hl 8 rfl) ?_
        refine lv_icmp_ge (pc := 72) (tgt := 121) hx hb xd_Mv_shift_72 (by decide) (fun hq => ?_) (fun hq => ?_)
        · have h := h.1 hq
          refine lv_iinc (pc := 121) (v := (x7 + (1 : Int32))) (lv' := [(7, .int (x7 + (1 : Int32))), (9, .int r7), (8, .int v4), (0, .ref (G.1 8 11)), (1, .ref (G.1 g1 0)), (2, .int x2), (3, .int x3), (4, .int x4), (5, .int x5), (6, .int x6)]) hx hb xd_Mv_shift_121 hl (k := 9) rfl rfl (by decide) rfl (fun ls hl => ?_)
          refine lv_goto (pc := 124) (tgt := 21) hx hb xd_Mv_shift_124 (by decide) ?_
          exact ih x5 x6 (x7 + (1 : Int32)) M6 H locs ls h hR hS (lv_sub hl [3, 4, 5, 6, 7, 8, 9, 0] rfl)
        · have h := h.2 hq
          refine lv_aload_n (pc := 75) hx hb xd_Mv_shift_75 rfl (lv_at hl 3 rfl) ?_
          refine xr_get (pc := 76) (v := .ref (G.1 g1 3)) hC hR (xo_K0 hg1) xf_Mv_34 rfl xd_Mv_shift_76 ?_
          refine lv_iload_n (pc := 79) hx hb xd_Mv_shift_79 rfl (lv_at hl 4 rfl) ?_
          refine lv_iload (pc := 80) hx hb xd_Mv_shift_80 (lv_at hl 1 rfl) ?_
          refine xr_callV (pc := 82) (As := [.int x2, .int v4]) (rest := []) hC hR hS (xc_Ho_nameAllows l G hg1 h) (xo_K3 hg1) xv_Mv_90 ⟨rfl, rfl, Nat.le_of_ble_eq_true rfl, Nat.le_of_ble_eq_true rfl⟩ rfl hl.1 rfl (Nat.le_of_ble_eq_true rfl) xd_Mv_shift_82 (fun r9 M8 H locs h hR hS => ?_)
          refine lv_if_eq (pc := 85) (tgt := 121) hx hb xd_Mv_shift_85 (by decide) (fun hq => ?_) (fun hq => ?_)
          · have h := h.1 hq
            refine lv_iinc (pc := 121) (v := (x7 + (1 : Int32))) (lv' := [(7, .int (x7 + (1 : Int32))), (9, .int r7), (8, .int v4), (0, .ref (G.1 8 11)), (1, .ref (G.1 g1 0)), (2, .int x2), (3, .int x3), (4, .int x4), (5, .int x5), (6, .int x6)]) hx hb xd_Mv_shift_121 hl (k := 9) rfl rfl (by decide) rfl (fun ls hl => ?_)
            refine lv_goto (pc := 124) (tgt := 21) hx hb xd_Mv_shift_124 (by decide) ?_
            exact ih x5 x6 (x7 + (1 : Int32)) M8 H locs ls h hR hS (lv_sub hl [3, 4, 5, 6, 7, 8, 9, 0] rfl)
          · have h := h.2 hq
            refine lv_aload_n (pc := 88) hx hb xd_Mv_shift_88 rfl (lv_at hl 3 rfl) ?_
            refine xr_get (pc := 89) (v := .ref (G.1 g1 3)) hC hR (xo_K0 hg1) xf_Mv_34 rfl xd_Mv_shift_89 ?_
            refine lv_iload_n (pc := 92) hx hb xd_Mv_shift_92 rfl (lv_at hl 4 rfl) ?_
            refine lv_iload (pc := 93) hx hb xd_Mv_shift_93 (lv_at hl 1 rfl) ?_
            refine xr_callV (pc := 95) (As := [.int x2, .int v4]) (rest := []) hC hR hS (xc_Ho_pairsAllow l G hg1 h) (xo_K3 hg1) xv_Mv_94 ⟨rfl, rfl, Nat.le_of_ble_eq_true rfl, Nat.le_of_ble_eq_true rfl⟩ rfl hl.1 rfl (Nat.le_of_ble_eq_true rfl) xd_Mv_shift_95 (fun r11 M10 H locs h hR hS => ?_)
            refine lv_if_eq (pc := 98) (tgt := 121) hx hb xd_Mv_shift_98 (by decide) (fun hq => ?_) (fun hq => ?_)
            · have h := h.1 hq
              refine lv_iinc (pc := 121) (v := (x7 + (1 : Int32))) (lv' := [(7, .int (x7 + (1 : Int32))), (9, .int r7), (8, .int v4), (0, .ref (G.1 8 11)), (1, .ref (G.1 g1 0)), (2, .int x2), (3, .int x3), (4, .int x4), (5, .int x5), (6, .int x6)]) hx hb xd_Mv_shift_121 hl (k := 9) rfl rfl (by decide) rfl (fun ls hl => ?_)
              refine lv_goto (pc := 124) (tgt := 21) hx hb xd_Mv_shift_124 (by decide) ?_
              exact ih x5 x6 (x7 + (1 : Int32)) M10 H locs ls h hR hS (lv_sub hl [3, 4, 5, 6, 7, 8, 9, 0] rfl)
            · have h := h.2 hq
              refine lv_aload_n (pc := 101) hx hb xd_Mv_shift_101 rfl (lv_at hl 2 rfl) ?_
              refine lv_aload_n (pc := 102) hx hb xd_Mv_shift_102 rfl (lv_at hl 3 rfl) ?_
              refine lv_iload_n (pc := 103) hx hb xd_Mv_shift_103 rfl (lv_at hl 4 rfl) ?_
              refine lv_iload (pc := 104) hx hb xd_Mv_shift_104 (lv_at hl 1 rfl) ?_
              refine lv_iload_n (pc := 106) hx hb xd_Mv_shift_106 rfl (lv_at hl 5 rfl) ?_
              refine xr_callV (pc := 107) (As := [.ref (G.1 g1 0), .int x2, .int v4, .int x3]) (rest := []) hC hR hS (xc_Mv_isFarFromOthers l G hg1 h) xo_C11 xv_Mv_97 ⟨rfl, rfl, Nat.le_of_ble_eq_true rfl, Nat.le_of_ble_eq_true rfl⟩ rfl hl.1 rfl (Nat.le_of_ble_eq_true rfl) xd_Mv_shift_107 (fun r13 M12 H locs h hR hS => ?_)
              refine lv_if_eq (pc := 110) (tgt := 121) hx hb xd_Mv_shift_110 (by decide) (fun hq => ?_) (fun hq => ?_)
              · have h := h.1 hq
                refine lv_iinc (pc := 121) (v := (x7 + (1 : Int32))) (lv' := [(7, .int (x7 + (1 : Int32))), (9, .int r7), (8, .int v4), (0, .ref (G.1 8 11)), (1, .ref (G.1 g1 0)), (2, .int x2), (3, .int x3), (4, .int x4), (5, .int x5), (6, .int x6)]) hx hb xd_Mv_shift_121 hl (k := 9) rfl rfl (by decide) rfl (fun ls hl => ?_)
                refine lv_goto (pc := 124) (tgt := 21) hx hb xd_Mv_shift_124 (by decide) ?_
                exact ih x5 x6 (x7 + (1 : Int32)) M12 H locs ls h hR hS (lv_sub hl [3, 4, 5, 6, 7, 8, 9, 0] rfl)
              · have h := h.2 hq
                refine lv_iload (pc := 113) hx hb xd_Mv_shift_113 (lv_at hl 0 rfl) ?_
                refine lv_istore (pc := 115) (lv' := [(6, .int r7), (9, .int r7), (8, .int v4), (0, .ref (G.1 8 11)), (1, .ref (G.1 g1 0)), (2, .int x2), (3, .int x3), (4, .int x4), (5, .int x5), (7, .int x7)]) hx hb xd_Mv_shift_115 hl (by decide) rfl (fun ls hl => ?_)
                refine lv_iload (pc := 117) hx hb xd_Mv_shift_117 (lv_at hl 2 rfl) ?_
                refine lv_istore (pc := 119) (lv' := [(5, .int v4), (6, .int r7), (9, .int r7), (8, .int v4), (0, .ref (G.1 8 11)), (1, .ref (G.1 g1 0)), (2, .int x2), (3, .int x3), (4, .int x4), (7, .int x7)]) hx hb xd_Mv_shift_119 hl (by decide) rfl (fun ls hl => ?_)
                refine lv_iinc (pc := 121) (v := (x7 + (1 : Int32))) (lv' := [(7, .int (x7 + (1 : Int32))), (5, .int v4), (6, .int r7), (9, .int r7), (8, .int v4), (0, .ref (G.1 8 11)), (1, .ref (G.1 g1 0)), (2, .int x2), (3, .int x3), (4, .int x4)]) hx hb xd_Mv_shift_121 hl (k := 9) rfl rfl (by decide) rfl (fun ls hl => ?_)
                refine lv_goto (pc := 124) (tgt := 21) hx hb xd_Mv_shift_124 (by decide) ?_
                exact ih v4 r7 (x7 + (1 : Int32)) M12 H locs ls h hR hS (lv_sub hl [5, 6, 7, 8, 9, 1, 2, 0] rfl)
      refine lv_icmp_ne (pc := 36) (tgt := 44) hx hb xd_Mv_shift_36 (by decide) (fun hq => ?_) (fun hq => ?_)
      · have h := h.1 hq
        refine lv_aload_n (pc := 44) hx hb xd_Mv_shift_44 rfl (lv_at hl 1 rfl) ?_
        refine xr_get (pc := 45) (v := .ref (G.1 g1 12)) hC hR (xo_K0 hg1) xf_Mv_72 rfl xd_Mv_shift_45 ?_
        refine lv_iload (pc := 48) hx hb xd_Mv_shift_48 (lv_at hl 7 rfl) ?_
        refine xr_callV (pc := 50) (As := [.int x7]) (rest := []) hC hR hS (xc_Gr_colourAt l G hg1 h) (xo_K12 hg1) xv_Mv_82 ⟨rfl, rfl, Nat.le_of_ble_eq_true rfl, Nat.le_of_ble_eq_true rfl⟩ rfl hl.1 rfl (Nat.le_of_ble_eq_true rfl) xd_Mv_shift_50 (fun r15 M14 H locs h hR hS => ?_)
        exact kJ53_2 r15 M14 H locs ls h hR hS (lv_sub hl [0, 1, 2, 3, 4, 5, 6, 7] rfl)
      · have h := h.2 hq
        refine lv_iload (pc := 39) hx hb xd_Mv_shift_39 (lv_at hl 4 rfl) ?_
        refine lv_goto (pc := 41) (tgt := 53) hx hb xd_Mv_shift_41 (by decide) ?_
        exact kJ53_2 x4 M1 H locs ls h hR hS (lv_sub hl [0, 1, 2, 3, 4, 5, 6, 7] rfl)
set_option maxHeartbeats 4000000 in
set_option maxRecDepth 100000 in
theorem xc_Mv_shift (l : Launch) (G : xG) {g1 : Nat} {a2 : Int32} {a3 : Int32} (hg1 : g1 < 4) {M : xM} {post : Int32 → xM → Prop} (h : xw_Mv_shift g1 a2 a3 M post) : Met l y_Mv_shift (Cond.code y_Mv_shift b_Mv_shift 10 (some .int) :: xTG) rm_Mv_shift (xPre G M [.ref (G.1 8 11), .ref (G.1 g1 0), .int a2, .int a3]) (xPi G post) 0 0 (xA G) := by
  refine xMet (own := R_Mv) [.ref (G.1 8 11), .ref (G.1 g1 0), .int a2, .int a3] (Or.inl (by decide)) rfl (Nat.le_of_ble_eq_true rfl) (fun p e s m args below meth c ls hC hr hlk hR hS hl => ?_)
  have hx := hC.1
  have hb := hC.2.1
  have hl : lv_has ls 10 [(0, .ref (G.1 8 11)), (1, .ref (G.1 g1 0)), (2, .int a2), (3, .int a3)] := hl
  obtain ⟨H, eH⟩ : ∃ H : Heap, H = s.heap := ⟨_, rfl⟩
  obtain ⟨locs, eL⟩ : ∃ locs : List Loc, locs = [] := ⟨_, rfl⟩
  rw [← eH] at hR
  replace hS : va_S (xA G) s.heap H locs := by rw [eH, eL]; exact hS
  suffices hh : W p l e rm_Mv_shift s m args below meth c H locs 0 0 (MQ below (xPi G post) args s 0 0 (xA G)) (F0 m 0 ls []) from by rw [eH, eL] at hh; exact hh
  unfold xw_Mv_shift at h
  refine lv_aload_n (pc := 0) hx hb xd_Mv_shift_0 rfl (lv_at hl 1 rfl) ?_
  refine xr_get (pc := 1) (v := .ref (G.1 g1 3)) hC hR (xo_K0 hg1) xf_Mv_34 rfl xd_Mv_shift_1 ?_
  refine xr_get (pc := 4) (v := .ref (G.1 g1 4)) hC hR (xo_K3 hg1) xf_Mv_54 rfl xd_Mv_shift_4 ?_
  refine lv_iload_n (pc := 7) hx hb xd_Mv_shift_7 rfl (lv_at hl 2 rfl) ?_
  obtain ⟨hq, h⟩ := h
  refine xr_iald (pc := 8) hC hR (xo_K4 hg1) hq xd_Mv_shift_8 ?_
  refine lv_istore (pc := 9) (lv' := [(4, .int (M g1 4 a2.toNatClampNeg)), (0, .ref (G.1 8 11)), (1, .ref (G.1 g1 0)), (2, .int a2), (3, .int a3)]) hx hb xd_Mv_shift_9 hl (by decide) rfl (fun ls hl => ?_)
  refine lv_iconst (pc := 11) (v := (-1 : Int32)) hx hb xd_Mv_shift_11 (by decide) ?_
  refine lv_istore (pc := 12) (lv' := [(5, .int (-1 : Int32)), (4, .int (M g1 4 a2.toNatClampNeg)), (0, .ref (G.1 8 11)), (1, .ref (G.1 g1 0)), (2, .int a2), (3, .int a3)]) hx hb xd_Mv_shift_12 hl (by decide) rfl (fun ls hl => ?_)
  refine lv_ldc (pc := 14) (v := (2000000 : Int32)) hx hb hC.2.2.2.1 (hC.2.2.2.2.1 _ xk_Mv_71) xd_Mv_shift_14 ?_
  refine lv_istore (pc := 16) (lv' := [(6, .int (2000000 : Int32)), (5, .int (-1 : Int32)), (4, .int (M g1 4 a2.toNatClampNeg)), (0, .ref (G.1 8 11)), (1, .ref (G.1 g1 0)), (2, .int a2), (3, .int a3)]) hx hb xd_Mv_shift_16 hl (by decide) rfl (fun ls hl => ?_)
  refine lv_iconst (pc := 18) (v := (-1 : Int32)) hx hb xd_Mv_shift_18 (by decide) ?_
  refine lv_istore (pc := 19) (lv' := [(7, .int (-1 : Int32)), (6, .int (2000000 : Int32)), (5, .int (-1 : Int32)), (4, .int (M g1 4 a2.toNatClampNeg)), (0, .ref (G.1 8 11)), (1, .ref (G.1 g1 0)), (2, .int a2), (3, .int a3)]) hx hb xd_Mv_shift_19 hl (by decide) rfl (fun ls hl => ?_)
  obtain ⟨n, h⟩ := h
  refine xt_Mv_shift_21 hC hr hlk hg1 (fun y16 y17 y18 M19 H locs ls h hR hS hl => ?_) n (-1 : Int32) (2000000 : Int32) (-1 : Int32) M H locs ls h hR hS (lv_sub hl [4, 5, 6, 7, 3, 2, 1, 0] rfl)
  refine lv_iload (pc := 127) hx hb xd_Mv_shift_127 (lv_at hl 5 rfl) ?_
  refine lv_iconst (pc := 129) (v := (-1 : Int32)) hx hb xd_Mv_shift_129 (by decide) ?_
  refine lv_icmp_ne (pc := 130) (tgt := 135) hx hb xd_Mv_shift_130 (by decide) (fun hq => ?_) (fun hq => ?_)
  · have h := h.1 hq
    refine lv_aload_n (pc := 135) hx hb xd_Mv_shift_135 rfl (lv_at hl 1 rfl) ?_
    refine xr_get (pc := 136) (v := .ref (G.1 g1 3)) hC hR (xo_K0 hg1) xf_Mv_34 rfl xd_Mv_shift_136 ?_
    refine xr_get (pc := 139) (v := .ref (G.1 g1 4)) hC hR (xo_K3 hg1) xf_Mv_54 rfl xd_Mv_shift_139 ?_
    refine lv_iload_n (pc := 142) hx hb xd_Mv_shift_142 rfl (lv_at hl 2 rfl) ?_
    refine lv_iload (pc := 143) hx hb xd_Mv_shift_143 (lv_at hl 5 rfl) ?_
    obtain ⟨hq, h⟩ := h
    refine xr_iast (pc := 145) hC hR hS (xo_K4 hg1) hq xd_Mv_shift_145 (fun H locs hR hS => ?_)
    refine lv_aload_n (pc := 146) hx hb xd_Mv_shift_146 rfl (lv_at hl 1 rfl) ?_
    refine xr_get (pc := 147) (v := .ref (G.1 g1 1)) hC hR (xo_K0 hg1) xf_Mv_50 rfl xd_Mv_shift_147 ?_
    refine lv_iload (pc := 150) hx hb xd_Mv_shift_150 (lv_at hl 5 rfl) ?_
    refine lv_aload_n (pc := 152) hx hb xd_Mv_shift_152 rfl (lv_at hl 0 rfl) ?_
    refine xr_get (pc := 153) (v := .ref (G.1 8 12)) hC hR xo_C11 xf_Mv_9 rfl xd_Mv_shift_153 ?_
    refine lv_iload_n (pc := 156) hx hb xd_Mv_shift_156 rfl (lv_at hl 2 rfl) ?_
    refine xr_callVv (pc := 157) (As := [.int y16, .ref (G.1 8 12), .int a2]) (rest := []) hC hR hS (xc_Ey_lookWithAll l G hg1 xo_C12 h) (xo_K1 hg1) xv_Mv_57 ⟨rfl, rfl, Nat.le_of_ble_eq_true rfl, Nat.le_of_ble_eq_true rfl⟩ rfl hl.1 rfl (Nat.le_of_ble_eq_true rfl) xd_Mv_shift_157 (fun M20 H locs h hR hS => ?_)
    refine lv_iload (pc := 160) hx hb xd_Mv_shift_160 (lv_at hl 6 rfl) ?_
    exact xr_iret hC hr hlk hR hS h xd_Mv_shift_162
  · have h := h.2 hq
    refine lv_iconst (pc := 133) (v := (-1 : Int32)) hx hb xd_Mv_shift_133 (by decide) ?_
    exact xr_iret hC hr hlk hR hS h xd_Mv_shift_134
