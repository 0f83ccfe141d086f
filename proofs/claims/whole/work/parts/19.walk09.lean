/-! ColoursApart.move(II)I -/
theorem xd_CA_move_0 : decode b_CA_move 0 = .ok (.iload_n 2, 1) := by decide +kernel
theorem xd_CA_move_1 : decode b_CA_move 1 = .ok (.invokestatic 237, 3) := by decide +kernel
theorem xd_CA_move_4 : decode b_CA_move 4 = .ok (.ifCond .ne 9, 3) := by decide +kernel
theorem xd_CA_move_7 : decode b_CA_move 7 = .ok (.aload_n 0, 1) := by decide +kernel
theorem xd_CA_move_8 : decode b_CA_move 8 = .ok (.iconst (-1), 1) := by decide +kernel
theorem xd_CA_move_9 : decode b_CA_move 9 = .ok (.invokevirtual 67, 3) := by decide +kernel
theorem xd_CA_move_12 : decode b_CA_move 12 = .ok (.ireturn, 1) := by decide +kernel
theorem xd_CA_move_13 : decode b_CA_move 13 = .ok (.aload_n 0, 1) := by decide +kernel
theorem xd_CA_move_14 : decode b_CA_move 14 = .ok (.getfield 10, 3) := by decide +kernel
theorem xd_CA_move_17 : decode b_CA_move 17 = .ok (.getfield 160, 3) := by decide +kernel
theorem xd_CA_move_20 : decode b_CA_move 20 = .ok (.iload_n 1, 1) := by decide +kernel
theorem xd_CA_move_21 : decode b_CA_move 21 = .ok (.invokevirtual 173, 3) := by decide +kernel
theorem xd_CA_move_24 : decode b_CA_move 24 = .ok (.ifCond .ne 10, 3) := by decide +kernel
theorem xd_CA_move_27 : decode b_CA_move 27 = .ok (.aload_n 0, 1) := by decide +kernel
theorem xd_CA_move_28 : decode b_CA_move 28 = .ok (.bipush (-2), 2) := by decide +kernel
theorem xd_CA_move_30 : decode b_CA_move 30 = .ok (.invokevirtual 67, 3) := by decide +kernel
theorem xd_CA_move_33 : decode b_CA_move 33 = .ok (.ireturn, 1) := by decide +kernel
theorem xd_CA_move_34 : decode b_CA_move 34 = .ok (.aload_n 0, 1) := by decide +kernel
theorem xd_CA_move_35 : decode b_CA_move 35 = .ok (.getfield 10, 3) := by decide +kernel
theorem xd_CA_move_38 : decode b_CA_move 38 = .ok (.getfield 160, 3) := by decide +kernel
theorem xd_CA_move_41 : decode b_CA_move 41 = .ok (.getfield 178, 3) := by decide +kernel
theorem xd_CA_move_44 : decode b_CA_move 44 = .ok (.iload_n 1, 1) := by decide +kernel
theorem xd_CA_move_45 : decode b_CA_move 45 = .ok (.baload, 1) := by decide +kernel
theorem xd_CA_move_46 : decode b_CA_move 46 = .ok (.ifCond .eq 7, 3) := by decide +kernel
theorem xd_CA_move_49 : decode b_CA_move 49 = .ok (.iconst (-1), 1) := by decide +kernel
theorem xd_CA_move_50 : decode b_CA_move 50 = .ok (.goto 16, 3) := by decide +kernel
theorem xd_CA_move_53 : decode b_CA_move 53 = .ok (.aload_n 0, 1) := by decide +kernel
theorem xd_CA_move_54 : decode b_CA_move 54 = .ok (.getfield 40, 3) := by decide +kernel
theorem xd_CA_move_57 : decode b_CA_move 57 = .ok (.aload_n 0, 1) := by decide +kernel
theorem xd_CA_move_58 : decode b_CA_move 58 = .ok (.getfield 10, 3) := by decide +kernel
theorem xd_CA_move_61 : decode b_CA_move 61 = .ok (.iload_n 1, 1) := by decide +kernel
theorem xd_CA_move_62 : decode b_CA_move 62 = .ok (.iload_n 2, 1) := by decide +kernel
theorem xd_CA_move_63 : decode b_CA_move 63 = .ok (.invokevirtual 240, 3) := by decide +kernel
theorem xd_CA_move_66 : decode b_CA_move 66 = .ok (.istore_n 3, 1) := by decide +kernel
theorem xd_CA_move_67 : decode b_CA_move 67 = .ok (.iload_n 3, 1) := by decide +kernel
theorem xd_CA_move_68 : decode b_CA_move 68 = .ok (.iconst (-1), 1) := by decide +kernel
theorem xd_CA_move_69 : decode b_CA_move 69 = .ok (.if_icmp .ne 12, 3) := by decide +kernel
theorem xd_CA_move_72 : decode b_CA_move 72 = .ok (.aload_n 0, 1) := by decide +kernel
theorem xd_CA_move_73 : decode b_CA_move 73 = .ok (.bipush (-6), 2) := by decide +kernel
theorem xd_CA_move_75 : decode b_CA_move 75 = .ok (.invokevirtual 67, 3) := by decide +kernel
theorem xd_CA_move_78 : decode b_CA_move 78 = .ok (.goto 8, 3) := by decide +kernel
theorem xd_CA_move_81 : decode b_CA_move 81 = .ok (.aload_n 0, 1) := by decide +kernel
theorem xd_CA_move_82 : decode b_CA_move 82 = .ok (.iload_n 3, 1) := by decide +kernel
theorem xd_CA_move_83 : decode b_CA_move 83 = .ok (.invokevirtual 78, 3) := by decide +kernel
theorem xd_CA_move_86 : decode b_CA_move 86 = .ok (.ireturn, 1) := by decide +kernel
abbrev rm_CA_move : Room := { frames := 7, cells := 0, slots := 0, locals := 171 }
def xw_CA_move (a1 : Int32) (a2 : Int32) (M : xM) (post : Int32 → xM → Prop) : Prop :=
  xw_CA_isLeastDistance a2 M (fun (r2 : Int32) (M1 : xM) => ((¬ r2 = 0) → (xw_Ho_has 0 a1 M1 (fun (r4 : Int32) (M3 : xM) => ((¬ r4 = 0) → ((vp_in a1 12) ∧ (xj (fun (J66_4 : Int32 → xM → Prop) => (((M3 0 5 a1.toNatClampNeg) = 0) → (xw_Mv_moveOne 0 a1 a2 M3 (fun (r13 : Int32) (M12 : xM) => J66_4 r13 M12))) ∧ ((¬ (M3 0 5 a1.toNatClampNeg) = 0) → (J66_4 (-1 : Int32) M3))) (fun (v6 : Int32) (M7 : xM) => ((¬ v6 = (-1 : Int32)) → (xw_CA_taken v6 M7 (fun (r9 : Int32) (M8 : xM) => post r9 M8))) ∧ ((v6 = (-1 : Int32)) → (xw_CA_refused (-6 : Int32) M7 (fun (r11 : Int32) (M10 : xM) => post r11 M10))))))) ∧ ((r4 = 0) → (xw_CA_refused (-2 : Int32) M3 (fun (r15 : Int32) (M14 : xM) => post r15 M14)))))) ∧ ((r2 = 0) → (xw_CA_refused (-1 : Int32) M1 (fun (r17 : Int32) (M16 : xM) => post r17 M16))))
set_option maxHeartbeats 4000000 in
set_option maxRecDepth 100000 in
theorem xc_CA_move (l : Launch) (G : xG) {a1 : Int32} {a2 : Int32}  {M : xM} {post : Int32 → xM → Prop} (h : xw_CA_move a1 a2 M post) : Met l y_CA_move (Cond.code y_CA_move b_CA_move 4 (some .int) :: xTG) rm_CA_move (xPre G M [.ref (G.1 8 0), .int a1, .int a2]) (xPi G post) 0 0 (xA G) := by
  refine xMet (own := R_CA) [.ref (G.1 8 0), .int a1, .int a2] (Or.inl (by decide)) rfl (Nat.le_of_ble_eq_true rfl) (fun p e s m args below meth c ls hC hr hlk hR hS hl => ?_)
  have hx := hC.1
  have hb := hC.2.1
  have hl : lv_has ls 4 [(0, .ref (G.1 8 0)), (1, .int a1), (2, .int a2)] := hl
  obtain ⟨H, eH⟩ : ∃ H : Heap, H = s.heap := ⟨_, rfl⟩
  obtain ⟨locs, eL⟩ : ∃ locs : List Loc, locs = [] := ⟨_, rfl⟩
  rw [← eH] at hR
  replace hS : va_S (xA G) s.heap H locs := by rw [eH, eL]; exact hS
  suffices hh : W p l e rm_CA_move s m args below meth c H locs 0 0 (MQ below (xPi G post) args s 0 0 (xA G)) (F0 m 0 ls []) from by rw [eH, eL] at hh; exact hh
  unfold xw_CA_move at h
  refine lv_iload_n (pc := 0) hx hb xd_CA_move_0 rfl (lv_at hl 2 rfl) ?_
  refine xr_callS (pc := 1) (As := [.int a2]) (rest := []) hC hR hS (xc_CA_isLeastDistance l G  h) xv_CA_237 ⟨rfl, rfl, Nat.le_of_ble_eq_true rfl, Nat.le_of_ble_eq_true rfl⟩ rfl hl.1 rfl (Nat.le_of_ble_eq_true rfl) xd_CA_move_1 (fun r2 M1 H locs h hR hS => ?_)
  refine lv_if_ne (pc := 4) (tgt := 13) hx hb xd_CA_move_4 (by decide) (fun hq => ?_) (fun hq => ?_)
  · have h := h.1 hq
    refine lv_aload_n (pc := 13) hx hb xd_CA_move_13 rfl (lv_at hl 0 rfl) ?_
    refine xr_get (pc := 14) (v := .ref (G.1 0 0)) hC hR xo_C0 xf_CA_10 rfl xd_CA_move_14 ?_
    refine xr_get (pc := 17) (v := .ref (G.1 0 3)) hC hR (xo_K0 xg0) xf_CA_160 rfl xd_CA_move_17 ?_
    refine lv_iload_n (pc := 20) hx hb xd_CA_move_20 rfl (lv_at hl 1 rfl) ?_
    refine xr_callV (pc := 21) (As := [.int a1]) (rest := []) hC hR hS (xc_Ho_has l G xg0 h) (xo_K3 xg0) xv_CA_173 ⟨rfl, rfl, Nat.le_of_ble_eq_true rfl, Nat.le_of_ble_eq_true rfl⟩ rfl hl.1 rfl (Nat.le_of_ble_eq_true rfl) xd_CA_move_21 (fun r4 M3 H locs h hR hS => ?_)
    refine lv_if_ne (pc := 24) (tgt := 34) hx hb xd_CA_move_24 (by decide) (fun hq => ?_) (fun hq => ?_)
    · have h := h.1 hq
      refine lv_aload_n (pc := 34) hx hb xd_CA_move_34 rfl (lv_at hl 0 rfl) ?_
      refine xr_get (pc := 35) (v := .ref (G.1 0 0)) hC hR xo_C0 xf_CA_10 rfl xd_CA_move_35 ?_
      refine xr_get (pc := 38) (v := .ref (G.1 0 3)) hC hR (xo_K0 xg0) xf_CA_160 rfl xd_CA_move_38 ?_
      refine xr_get (pc := 41) (v := .ref (G.1 0 5)) hC hR (xo_K3 xg0) xf_CA_178 rfl xd_CA_move_41 ?_
      refine lv_iload_n (pc := 44) hx hb xd_CA_move_44 rfl (lv_at hl 1 rfl) ?_
      obtain ⟨hq, h⟩ := h
      refine xr_zald (pc := 45) hC hR (xo_K5 xg0) hq xd_CA_move_45 ?_
      obtain ⟨J66_4, eJ66_4, h⟩ := xj_open h
      have kJ66_4 : ∀ (v6 : Int32) (M7 : xM) (H : Heap) (locs : List Loc) (ls : Array Slot), J66_4 v6 M7 → xRp G M7 H → va_S (xA G) s.heap H locs → lv_has ls 4 [(0, .ref (G.1 8 0))] → W p l e rm_CA_move s m args below meth c H locs 0 0 (MQ below (xPi G post) args s 0 0 (xA G)) (F0 m 66 ls [.int v6]) := by
        intro v6 M7 H locs ls h hR hS hl
        rw [eJ66_4] at h
        refine lv_istore_n (pc := 66) (lv' := [(3, .int v6), (0, .ref (G.1 8 0))]) hx hb xd_CA_move_66 rfl hl (by decide) rfl (fun ls hl => ?_)
        refine lv_iload_n (pc := 67) hx hb xd_CA_move_67 rfl (lv_at hl 0 rfl) ?_
        refine lv_iconst (pc := 68) (v := (-1 : Int32)) hx hb xd_CA_move_68 (by decide) ?_
        refine lv_icmp_ne (pc := 69) (tgt := 81) hx hb xd_CA_move_69 (by decide) (fun hq => ?_) (fun hq => ?_)
        · have h := h.1 hq
          refine lv_aload_n (pc := 81) hx hb xd_CA_move_81 rfl (lv_at hl 1 rfl) ?_
          refine lv_iload_n (pc := 82) hx hb xd_CA_move_82 rfl (lv_at hl 0 rfl) ?_
          refine xr_callV (pc := 83) (As := [.int v6]) (rest := []) hC hR hS (xc_CA_taken l G  h) xo_C0 xv_CA_78 ⟨rfl, rfl, Nat.le_of_ble_eq_true rfl, Nat.le_of_ble_eq_true rfl⟩ rfl hl.1 rfl (Nat.le_of_ble_eq_true rfl) xd_CA_move_83 (fun r9 M8 H locs h hR hS => ?_)
          exact xr_iret hC hr hlk hR hS h xd_CA_move_86
        · have h := h.2 hq
          refine lv_aload_n (pc := 72) hx hb xd_CA_move_72 rfl (lv_at hl 1 rfl) ?_
          refine lv_bipush (pc := 73) (v := (-6 : Int32)) hx hb xd_CA_move_73 (by decide) ?_
          refine xr_callV (pc := 75) (As := [.int (-6 : Int32)]) (rest := []) hC hR hS (xc_CA_refused l G  h) xo_C0 xv_CA_67 ⟨rfl, rfl, Nat.le_of_ble_eq_true rfl, Nat.le_of_ble_eq_true rfl⟩ rfl hl.1 rfl (Nat.le_of_ble_eq_true rfl) xd_CA_move_75 (fun r11 M10 H locs h hR hS => ?_)
          refine lv_goto (pc := 78) (tgt := 86) hx hb xd_CA_move_78 (by decide) ?_
          exact xr_iret hC hr hlk hR hS h xd_CA_move_86
      refine lv_if_eq (pc := 46) (tgt := 53) hx hb xd_CA_move_46 (by decide) (fun hq => ?_) (fun hq => ?_)
      · have h := h.1 hq
        refine lv_aload_n (pc := 53) hx hb xd_CA_move_53 rfl (lv_at hl 0 rfl) ?_
        refine xr_get (pc := 54) (v := .ref (G.1 8 11)) hC hR xo_C0 xf_CA_40 rfl xd_CA_move_54 ?_
        refine lv_aload_n (pc := 57) hx hb xd_CA_move_57 rfl (lv_at hl 0 rfl) ?_
        refine xr_get (pc := 58) (v := .ref (G.1 0 0)) hC hR xo_C0 xf_CA_10 rfl xd_CA_move_58 ?_
        refine lv_iload_n (pc := 61) hx hb xd_CA_move_61 rfl (lv_at hl 1 rfl) ?_
        refine lv_iload_n (pc := 62) hx hb xd_CA_move_62 rfl (lv_at hl 2 rfl) ?_
        refine xr_callV (pc := 63) (As := [.ref (G.1 0 0), .int a1, .int a2]) (rest := []) hC hR hS (xc_Mv_moveOne l G xg0 h) xo_C11 xv_CA_240 ⟨rfl, rfl, Nat.le_of_ble_eq_true rfl, Nat.le_of_ble_eq_true rfl⟩ rfl hl.1 rfl (Nat.le_of_ble_eq_true rfl) xd_CA_move_63 (fun r13 M12 H locs h hR hS => ?_)
        exact kJ66_4 r13 M12 H locs ls h hR hS (lv_sub hl [0] rfl)
      · have h := h.2 hq
        refine lv_iconst (pc := 49) (v := (-1 : Int32)) hx hb xd_CA_move_49 (by decide) ?_
        refine lv_goto (pc := 50) (tgt := 66) hx hb xd_CA_move_50 (by decide) ?_
        exact kJ66_4 (-1 : Int32) M3 H locs ls h hR hS (lv_sub hl [0] rfl)
    · have h := h.2 hq
      refine lv_aload_n (pc := 27) hx hb xd_CA_move_27 rfl (lv_at hl 0 rfl) ?_
      refine lv_bipush (pc := 28) (v := (-2 : Int32)) hx hb xd_CA_move_28 (by decide) ?_
      refine xr_callV (pc := 30) (As := [.int (-2 : Int32)]) (rest := []) hC hR hS (xc_CA_refused l G  h) xo_C0 xv_CA_67 ⟨rfl, rfl, Nat.le_of_ble_eq_true rfl, Nat.le_of_ble_eq_true rfl⟩ rfl hl.1 rfl (Nat.le_of_ble_eq_true rfl) xd_CA_move_30 (fun r15 M14 H locs h hR hS => ?_)
      exact xr_iret hC hr hlk hR hS h xd_CA_move_33
  · have h := h.2 hq
    refine lv_aload_n (pc := 7) hx hb xd_CA_move_7 rfl (lv_at hl 0 rfl) ?_
    refine lv_iconst (pc := 8) (v := (-1 : Int32)) hx hb xd_CA_move_8 (by decide) ?_
    refine xr_callV (pc := 9) (As := [.int (-1 : Int32)]) (rest := []) hC hR hS (xc_CA_refused l G  h) xo_C0 xv_CA_67 ⟨rfl, rfl, Nat.le_of_ble_eq_true rfl, Nat.le_of_ble_eq_true rfl⟩ rfl hl.1 rfl (Nat.le_of_ble_eq_true rfl) xd_CA_move_9 (fun r17 M16 H locs h hR hS => ?_)
    exact xr_iret hC hr hlk hR hS h xd_CA_move_12

/-! ColoursApart.settle(I)I -/
theorem xd_CA_settle_0 : decode b_CA_settle 0 = .ok (.iload_n 1, 1) := by decide +kernel
theorem xd_CA_settle_1 : decode b_CA_settle 1 = .ok (.invokestatic 237, 3) := by decide +kernel
theorem xd_CA_settle_4 : decode b_CA_settle 4 = .ok (.ifCond .eq 22, 3) := by decide +kernel
theorem xd_CA_settle_7 : decode b_CA_settle 7 = .ok (.aload_n 0, 1) := by decide +kernel
theorem xd_CA_settle_8 : decode b_CA_settle 8 = .ok (.aload_n 0, 1) := by decide +kernel
theorem xd_CA_settle_9 : decode b_CA_settle 9 = .ok (.getfield 40, 3) := by decide +kernel
theorem xd_CA_settle_12 : decode b_CA_settle 12 = .ok (.aload_n 0, 1) := by decide +kernel
theorem xd_CA_settle_13 : decode b_CA_settle 13 = .ok (.getfield 10, 3) := by decide +kernel
theorem xd_CA_settle_16 : decode b_CA_settle 16 = .ok (.iload_n 1, 1) := by decide +kernel
theorem xd_CA_settle_17 : decode b_CA_settle 17 = .ok (.invokevirtual 244, 3) := by decide +kernel
theorem xd_CA_settle_20 : decode b_CA_settle 20 = .ok (.invokevirtual 78, 3) := by decide +kernel
theorem xd_CA_settle_23 : decode b_CA_settle 23 = .ok (.goto 8, 3) := by decide +kernel
theorem xd_CA_settle_26 : decode b_CA_settle 26 = .ok (.aload_n 0, 1) := by decide +kernel
theorem xd_CA_settle_27 : decode b_CA_settle 27 = .ok (.iconst (-1), 1) := by decide +kernel
theorem xd_CA_settle_28 : decode b_CA_settle 28 = .ok (.invokevirtual 67, 3) := by decide +kernel
theorem xd_CA_settle_31 : decode b_CA_settle 31 = .ok (.ireturn, 1) := by decide +kernel
abbrev rm_CA_settle : Room := { frames := 7, cells := 0, slots := 0, locals := 173 }
def xw_CA_settle (a1 : Int32) (M : xM) (post : Int32 → xM → Prop) : Prop :=
  xw_CA_isLeastDistance a1 M (fun (r2 : Int32) (M1 : xM) => ((r2 = 0) → (xw_CA_refused (-1 : Int32) M1 (fun (r4 : Int32) (M3 : xM) => post r4 M3))) ∧ ((¬ r2 = 0) → (xw_Mv_moveAll 0 a1 M1 (fun (r6 : Int32) (M5 : xM) => xw_CA_taken r6 M5 (fun (r8 : Int32) (M7 : xM) => post r8 M7)))))
set_option maxHeartbeats 4000000 in
set_option maxRecDepth 100000 in
theorem xc_CA_settle (l : Launch) (G : xG) {a1 : Int32}  {M : xM} {post : Int32 → xM → Prop} (h : xw_CA_settle a1 M post) : Met l y_CA_settle (Cond.code y_CA_settle b_CA_settle 2 (some .int) :: xTG) rm_CA_settle (xPre G M [.ref (G.1 8 0), .int a1]) (xPi G post) 0 0 (xA G) := by
  refine xMet (own := R_CA) [.ref (G.1 8 0), .int a1] (Or.inl (by decide)) rfl (Nat.le_of_ble_eq_true rfl) (fun p e s m args below meth c ls hC hr hlk hR hS hl => ?_)
  have hx := hC.1
  have hb := hC.2.1
  have hl : lv_has ls 2 [(0, .ref (G.1 8 0)), (1, .int a1)] := hl
  obtain ⟨H, eH⟩ : ∃ H : Heap, H = s.heap := ⟨_, rfl⟩
  obtain ⟨locs, eL⟩ : ∃ locs : List Loc, locs = [] := ⟨_, rfl⟩
  rw [← eH] at hR
  replace hS : va_S (xA G) s.heap H locs := by rw [eH, eL]; exact hS
  suffices hh : W p l e rm_CA_settle s m args below meth c H locs 0 0 (MQ below (xPi G post) args s 0 0 (xA G)) (F0 m 0 ls []) from by rw [eH, eL] at hh; exact hh
  unfold xw_CA_settle at h
  refine lv_iload_n (pc := 0) hx hb xd_CA_settle_0 rfl (lv_at hl 1 rfl) ?_
  refine xr_callS (pc := 1) (As := [.int a1]) (rest := []) hC hR hS (xc_CA_isLeastDistance l G  h) xv_CA_237 ⟨rfl, rfl, Nat.le_of_ble_eq_true rfl, Nat.le_of_ble_eq_true rfl⟩ rfl hl.1 rfl (Nat.le_of_ble_eq_true rfl) xd_CA_settle_1 (fun r2 M1 H locs h hR hS => ?_)
  refine lv_if_eq (pc := 4) (tgt := 26) hx hb xd_CA_settle_4 (by decide) (fun hq => ?_) (fun hq => ?_)
  · have h := h.1 hq
    refine lv_aload_n (pc := 26) hx hb xd_CA_settle_26 rfl (lv_at hl 0 rfl) ?_
    refine lv_iconst (pc := 27) (v := (-1 : Int32)) hx hb xd_CA_settle_27 (by decide) ?_
    refine xr_callV (pc := 28) (As := [.int (-1 : Int32)]) (rest := []) hC hR hS (xc_CA_refused l G  h) xo_C0 xv_CA_67 ⟨rfl, rfl, Nat.le_of_ble_eq_true rfl, Nat.le_of_ble_eq_true rfl⟩ rfl hl.1 rfl (Nat.le_of_ble_eq_true rfl) xd_CA_settle_28 (fun r4 M3 H locs h hR hS => ?_)
    exact xr_iret hC hr hlk hR hS h xd_CA_settle_31
  · have h := h.2 hq
    refine lv_aload_n (pc := 7) hx hb xd_CA_settle_7 rfl (lv_at hl 0 rfl) ?_
    refine lv_aload_n (pc := 8) hx hb xd_CA_settle_8 rfl (lv_at hl 0 rfl) ?_
    refine xr_get (pc := 9) (v := .ref (G.1 8 11)) hC hR xo_C0 xf_CA_40 rfl xd_CA_settle_9 ?_
    refine lv_aload_n (pc := 12) hx hb xd_CA_settle_12 rfl (lv_at hl 0 rfl) ?_
    refine xr_get (pc := 13) (v := .ref (G.1 0 0)) hC hR xo_C0 xf_CA_10 rfl xd_CA_settle_13 ?_
    refine lv_iload_n (pc := 16) hx hb xd_CA_settle_16 rfl (lv_at hl 1 rfl) ?_
    refine xr_callV (pc := 17) (As := [.ref (G.1 0 0), .int a1]) (rest := [.ref (G.1 8 0)]) hC hR hS (xc_Mv_moveAll l G xg0 h) xo_C11 xv_CA_244 ⟨rfl, rfl, Nat.le_of_ble_eq_true rfl, Nat.le_of_ble_eq_true rfl⟩ rfl hl.1 rfl (Nat.le_of_ble_eq_true rfl) xd_CA_settle_17 (fun r6 M5 H locs h hR hS => ?_)
    refine xr_callV (pc := 20) (As := [.int r6]) (rest := []) hC hR hS (xc_CA_taken l G  h) xo_C0 xv_CA_78 ⟨rfl, rfl, Nat.le_of_ble_eq_true rfl, Nat.le_of_ble_eq_true rfl⟩ rfl hl.1 rfl (Nat.le_of_ble_eq_true rfl) xd_CA_settle_20 (fun r8 M7 H locs h hR hS => ?_)
    refine lv_goto (pc := 23) (tgt := 31) hx hb xd_CA_settle_23 (by decide) ?_
    exact xr_iret hC hr hlk hR hS h xd_CA_settle_31

/-! ColoursApart.stuck()I -/
theorem xd_CA_stuck_0 : decode b_CA_stuck 0 = .ok (.aload_n 0, 1) := by decide +kernel
theorem xd_CA_stuck_1 : decode b_CA_stuck 1 = .ok (.getfield 40, 3) := by decide +kernel
theorem xd_CA_stuck_4 : decode b_CA_stuck 4 = .ok (.getfield 247, 3) := by decide +kernel
theorem xd_CA_stuck_7 : decode b_CA_stuck 7 = .ok (.ifCond .eq 7, 3) := by decide +kernel
theorem xd_CA_stuck_10 : decode b_CA_stuck 10 = .ok (.iconst 1, 1) := by decide +kernel
theorem xd_CA_stuck_11 : decode b_CA_stuck 11 = .ok (.goto 4, 3) := by decide +kernel
theorem xd_CA_stuck_14 : decode b_CA_stuck 14 = .ok (.iconst 0, 1) := by decide +kernel
theorem xd_CA_stuck_15 : decode b_CA_stuck 15 = .ok (.ireturn, 1) := by decide +kernel
abbrev rm_CA_stuck : Room := { frames := 0, cells := 0, slots := 0, locals := 0 }
def xw_CA_stuck  (M : xM) (post : Int32 → xM → Prop) : Prop :=
  (((M 8 11 2) = 0) → (post (0 : Int32) M)) ∧ ((¬ (M 8 11 2) = 0) → (post (1 : Int32) M))
set_option maxHeartbeats 4000000 in
set_option maxRecDepth 100000 in
theorem xc_CA_stuck (l : Launch) (G : xG)   {M : xM} {post : Int32 → xM → Prop} (h : xw_CA_stuck  M post) : Met l y_CA_stuck (Cond.code y_CA_stuck b_CA_stuck 1 (some .int) :: xTG) rm_CA_stuck (xPre G M [.ref (G.1 8 0)]) (xPi G post) 0 0 (xA G) := by
  refine xMet (own := R_CA) [.ref (G.1 8 0)] (Or.inl (by decide)) rfl (Nat.le_of_ble_eq_true rfl) (fun p e s m args below meth c ls hC hr hlk hR hS hl => ?_)
  have hx := hC.1
  have hb := hC.2.1
  have hl : lv_has ls 1 [(0, .ref (G.1 8 0))] := hl
  obtain ⟨H, eH⟩ : ∃ H : Heap, H = s.heap := ⟨_, rfl⟩
  obtain ⟨locs, eL⟩ : ∃ locs : List Loc, locs = [] := ⟨_, rfl⟩
  rw [← eH] at hR
  replace hS : va_S (xA G) s.heap H locs := by rw [eH, eL]; exact hS
  suffices hh : W p l e rm_CA_stuck s m args below meth c H locs 0 0 (MQ below (xPi G post) args s 0 0 (xA G)) (F0 m 0 ls []) from by rw [eH, eL] at hh; exact hh
  unfold xw_CA_stuck at h
  refine lv_aload_n (pc := 0) hx hb xd_CA_stuck_0 rfl (lv_at hl 0 rfl) ?_
  refine xr_get (pc := 1) (v := .ref (G.1 8 11)) hC hR xo_C0 xf_CA_40 rfl xd_CA_stuck_1 ?_
  refine xr_get (pc := 4) (v := .int (M 8 11 2)) hC hR xo_C11 xf_CA_247 rfl xd_CA_stuck_4 ?_
  refine lv_if_eq (pc := 7) (tgt := 14) hx hb xd_CA_stuck_7 (by decide) (fun hq => ?_) (fun hq => ?_)
  · have h := h.1 hq
    refine lv_iconst (pc := 14) (v := (0 : Int32)) hx hb xd_CA_stuck_14 (by decide) ?_
    exact xr_iret hC hr hlk hR hS h xd_CA_stuck_15
  · have h := h.2 hq
    refine lv_iconst (pc := 10) (v := (1 : Int32)) hx hb xd_CA_stuck_10 (by decide) ?_
    refine lv_goto (pc := 11) (tgt := 15) hx hb xd_CA_stuck_11 (by decide) ?_
    exact xr_iret hC hr hlk hR hS h xd_CA_stuck_15

/-! ColoursApart.ramp(III)I -/
theorem xd_CA_ramp_0 : decode b_CA_ramp 0 = .ok (.iload_n 1, 1) := by decide +kernel
theorem xd_CA_ramp_1 : decode b_CA_ramp 1 = .ok (.invokestatic 142, 3) := by decide +kernel
theorem xd_CA_ramp_4 : decode b_CA_ramp 4 = .ok (.ifCond .eq 21, 3) := by decide +kernel
theorem xd_CA_ramp_7 : decode b_CA_ramp 7 = .ok (.iload_n 2, 1) := by decide +kernel
theorem xd_CA_ramp_8 : decode b_CA_ramp 8 = .ok (.invokestatic 142, 3) := by decide +kernel
theorem xd_CA_ramp_11 : decode b_CA_ramp 11 = .ok (.ifCond .eq 14, 3) := by decide +kernel
theorem xd_CA_ramp_14 : decode b_CA_ramp 14 = .ok (.iload_n 3, 1) := by decide +kernel
theorem xd_CA_ramp_15 : decode b_CA_ramp 15 = .ok (.iconst 2, 1) := by decide +kernel
theorem xd_CA_ramp_16 : decode b_CA_ramp 16 = .ok (.if_icmp .lt 9, 3) := by decide +kernel
theorem xd_CA_ramp_19 : decode b_CA_ramp 19 = .ok (.iload_n 3, 1) := by decide +kernel
theorem xd_CA_ramp_20 : decode b_CA_ramp 20 = .ok (.bipush 12, 2) := by decide +kernel
theorem xd_CA_ramp_22 : decode b_CA_ramp 22 = .ok (.if_icmp .le 9, 3) := by decide +kernel
theorem xd_CA_ramp_25 : decode b_CA_ramp 25 = .ok (.aload_n 0, 1) := by decide +kernel
theorem xd_CA_ramp_26 : decode b_CA_ramp 26 = .ok (.iconst (-1), 1) := by decide +kernel
theorem xd_CA_ramp_27 : decode b_CA_ramp 27 = .ok (.invokevirtual 67, 3) := by decide +kernel
theorem xd_CA_ramp_30 : decode b_CA_ramp 30 = .ok (.ireturn, 1) := by decide +kernel
theorem xd_CA_ramp_31 : decode b_CA_ramp 31 = .ok (.iload_n 1, 1) := by decide +kernel
theorem xd_CA_ramp_32 : decode b_CA_ramp 32 = .ok (.invokestatic 151, 3) := by decide +kernel
theorem xd_CA_ramp_35 : decode b_CA_ramp 35 = .ok (.iload_n 2, 1) := by decide +kernel
theorem xd_CA_ramp_36 : decode b_CA_ramp 36 = .ok (.invokestatic 151, 3) := by decide +kernel
theorem xd_CA_ramp_39 : decode b_CA_ramp 39 = .ok (.if_icmp .lt 10, 3) := by decide +kernel
theorem xd_CA_ramp_42 : decode b_CA_ramp 42 = .ok (.aload_n 0, 1) := by decide +kernel
theorem xd_CA_ramp_43 : decode b_CA_ramp 43 = .ok (.bipush (-6), 2) := by decide +kernel
theorem xd_CA_ramp_45 : decode b_CA_ramp 45 = .ok (.invokevirtual 67, 3) := by decide +kernel
theorem xd_CA_ramp_48 : decode b_CA_ramp 48 = .ok (.ireturn, 1) := by decide +kernel
theorem xd_CA_ramp_49 : decode b_CA_ramp 49 = .ok (.aload_n 0, 1) := by decide +kernel
theorem xd_CA_ramp_50 : decode b_CA_ramp 50 = .ok (.aload_n 0, 1) := by decide +kernel
theorem xd_CA_ramp_51 : decode b_CA_ramp 51 = .ok (.getfield 47, 3) := by decide +kernel
theorem xd_CA_ramp_54 : decode b_CA_ramp 54 = .ok (.iload_n 1, 1) := by decide +kernel
theorem xd_CA_ramp_55 : decode b_CA_ramp 55 = .ok (.iload_n 2, 1) := by decide +kernel
theorem xd_CA_ramp_56 : decode b_CA_ramp 56 = .ok (.iload_n 3, 1) := by decide +kernel
theorem xd_CA_ramp_57 : decode b_CA_ramp 57 = .ok (.invokevirtual 251, 3) := by decide +kernel
theorem xd_CA_ramp_60 : decode b_CA_ramp 60 = .ok (.invokevirtual 78, 3) := by decide +kernel
theorem xd_CA_ramp_63 : decode b_CA_ramp 63 = .ok (.ireturn, 1) := by decide +kernel
abbrev rm_CA_ramp : Room := { frames := 3, cells := 0, slots := 0, locals := 75 }
def xw_CA_ramp (a1 : Int32) (a2 : Int32) (a3 : Int32) (M : xM) (post : Int32 → xM → Prop) : Prop :=
  xw_Rg_isColour a1 M (fun (r2 : Int32) (M1 : xM) => xj (fun (J25_2 : xM → Prop) => ((r2 = 0) → (J25_2  M1)) ∧ ((¬ r2 = 0) → (xw_Rg_isColour a2 M1 (fun (r8 : Int32) (M7 : xM) => ((r8 = 0) → (J25_2  M7)) ∧ ((¬ r8 = 0) → (((a3 < (2 : Int32)) → (J25_2  M7)) ∧ ((¬ a3 < (2 : Int32)) → (((a3 ≤ (12 : Int32)) → (xw_Rg_lightOf a1 M7 (fun (r10 : Int32) (M9 : xM) => xw_Rg_lightOf a2 M9 (fun (r12 : Int32) (M11 : xM) => ((r10 < r12) → (xw_Ra_climb a1 a2 a3 M11 (fun (r14 : Int32) (M13 : xM) => xw_CA_taken r14 M13 (fun (r16 : Int32) (M15 : xM) => post r16 M15)))) ∧ ((¬ r10 < r12) → (xw_CA_refused (-6 : Int32) M11 (fun (r18 : Int32) (M17 : xM) => post r18 M17))))))) ∧ ((¬ a3 ≤ (12 : Int32)) → (J25_2  M7)))))))))) (fun (M4 : xM) => xw_CA_refused (-1 : Int32) M4 (fun (r6 : Int32) (M5 : xM) => post r6 M5)))
set_option maxHeartbeats 4000000 in
set_option maxRecDepth 100000 in
theorem xc_CA_ramp (l : Launch) (G : xG) {a1 : Int32} {a2 : Int32} {a3 : Int32}  {M : xM} {post : Int32 → xM → Prop} (h : xw_CA_ramp a1 a2 a3 M post) : Met l y_CA_ramp (Cond.code y_CA_ramp b_CA_ramp 4 (some .int) :: xTG) rm_CA_ramp (xPre G M [.ref (G.1 8 0), .int a1, .int a2, .int a3]) (xPi G post) 0 0 (xA G) := by
  refine xMet (own := R_CA) [.ref (G.1 8 0), .int a1, .int a2, .int a3] (Or.inl (by decide)) rfl (Nat.le_of_ble_eq_true rfl) (fun p e s m args below meth c ls hC hr hlk hR hS hl => ?_)
  have hx := hC.1
  have hb := hC.2.1
  have hl : lv_has ls 4 [(0, .ref (G.1 8 0)), (1, .int a1), (2, .int a2), (3, .int a3)] := hl
  obtain ⟨H, eH⟩ : ∃ H : Heap, H = s.heap := ⟨_, rfl⟩
  obtain ⟨locs, eL⟩ : ∃ locs : List Loc, locs = [] := ⟨_, rfl⟩
  rw [← eH] at hR
  replace hS : va_S (xA G) s.heap H locs := by rw [eH, eL]; exact hS
  suffices hh : W p l e rm_CA_ramp s m args below meth c H locs 0 0 (MQ below (xPi G post) args s 0 0 (xA G)) (F0 m 0 ls []) from by rw [eH, eL] at hh; exact hh
  unfold xw_CA_ramp at h
  refine lv_iload_n (pc := 0) hx hb xd_CA_ramp_0 rfl (lv_at hl 1 rfl) ?_
  refine xr_callS (pc := 1) (As := [.int a1]) (rest := []) hC hR hS (xc_Rg_isColour l G  h) xv_CA_142 ⟨rfl, rfl, Nat.le_of_ble_eq_true rfl, Nat.le_of_ble_eq_true rfl⟩ rfl hl.1 rfl (Nat.le_of_ble_eq_true rfl) xd_CA_ramp_1 (fun r2 M1 H locs h hR hS => ?_)
  obtain ⟨J25_2, eJ25_2, h⟩ := xj_open h
  have kJ25_2 : ∀ (M4 : xM) (H : Heap) (locs : List Loc) (ls : Array Slot), J25_2 M4 → xRp G M4 H → va_S (xA G) s.heap H locs → lv_has ls 4 [(0, .ref (G.1 8 0))] → W p l e rm_CA_ramp s m args below meth c H locs 0 0 (MQ below (xPi G post) args s 0 0 (xA G)) (F0 m 25 ls []) := by
    intro M4 H locs ls h hR hS hl
    rw [eJ25_2] at h
    refine lv_aload_n (pc := 25) hx hb xd_CA_ramp_25 rfl (lv_at hl 0 rfl) ?_
    refine lv_iconst (pc := 26) (v := (-1 : Int32)) hx hb xd_CA_ramp_26 (by decide) ?_
    refine xr_callV (pc := 27) (As := [.int (-1 : Int32)]) (rest := []) hC hR hS (xc_CA_refused l G  h) xo_C0 xv_CA_67 ⟨rfl, rfl, Nat.le_of_ble_eq_true rfl, Nat.le_of_ble_eq_true rfl⟩ rfl hl.1 rfl (Nat.le_of_ble_eq_true rfl) xd_CA_ramp_27 (fun r6 M5 H locs h hR hS => ?_)
    exact xr_iret hC hr hlk hR hS h xd_CA_ramp_30
  refine lv_if_eq (pc := 4) (tgt := 25) hx hb xd_CA_ramp_4 (by decide) (fun hq => ?_) (fun hq => ?_)
  · have h := h.1 hq
    exact kJ25_2  M1 H locs ls h hR hS (lv_sub hl [0] rfl)
  · have h := h.2 hq
    refine lv_iload_n (pc := 7) hx hb xd_CA_ramp_7 rfl (lv_at hl 2 rfl) ?_
    refine xr_callS (pc := 8) (As := [.int a2]) (rest := []) hC hR hS (xc_Rg_isColour l G  h) xv_CA_142 ⟨rfl, rfl, Nat.le_of_ble_eq_true rfl, Nat.le_of_ble_eq_true rfl⟩ rfl hl.1 rfl (Nat.le_of_ble_eq_true rfl) xd_CA_ramp_8 (fun r8 M7 H locs h hR hS => ?_)
    refine lv_if_eq (pc := 11) (tgt := 25) hx hb xd_CA_ramp_11 (by decide) (fun hq => ?_) (fun hq => ?_)
    · have h := h.1 hq
      exact kJ25_2  M7 H locs ls h hR hS (lv_sub hl [0] rfl)
    · have h := h.2 hq
      refine lv_iload_n (pc := 14) hx hb xd_CA_ramp_14 rfl (lv_at hl 3 rfl) ?_
      refine lv_iconst (pc := 15) (v := (2 : Int32)) hx hb xd_CA_ramp_15 (by decide) ?_
      refine lv_icmp_lt (pc := 16) (tgt := 25) hx hb xd_CA_ramp_16 (by decide) (fun hq => ?_) (fun hq => ?_)
      · have h := h.1 hq
        exact kJ25_2  M7 H locs ls h hR hS (lv_sub hl [0] rfl)
      · have h := h.2 hq
        refine lv_iload_n (pc := 19) hx hb xd_CA_ramp_19 rfl (lv_at hl 3 rfl) ?_
        refine lv_bipush (pc := 20) (v := (12 : Int32)) hx hb xd_CA_ramp_20 (by decide) ?_
        refine lv_icmp_le (pc := 22) (tgt := 31) hx hb xd_CA_ramp_22 (by decide) (fun hq => ?_) (fun hq => ?_)
        · have h := h.1 hq
          refine lv_iload_n (pc := 31) hx hb xd_CA_ramp_31 rfl (lv_at hl 1 rfl) ?_
          refine xr_callS (pc := 32) (As := [.int a1]) (rest := []) hC hR hS (xc_Rg_lightOf l G  h) xv_CA_151 ⟨rfl, rfl, Nat.le_of_ble_eq_true rfl, Nat.le_of_ble_eq_true rfl⟩ rfl hl.1 rfl (Nat.le_of_ble_eq_true rfl) xd_CA_ramp_32 (fun r10 M9 H locs h hR hS => ?_)
          refine lv_iload_n (pc := 35) hx hb xd_CA_ramp_35 rfl (lv_at hl 2 rfl) ?_
          refine xr_callS (pc := 36) (As := [.int a2]) (rest := [.int r10]) hC hR hS (xc_Rg_lightOf l G  h) xv_CA_151 ⟨rfl, rfl, Nat.le_of_ble_eq_true rfl, Nat.le_of_ble_eq_true rfl⟩ rfl hl.1 rfl (Nat.le_of_ble_eq_true rfl) xd_CA_ramp_36 (fun r12 M11 H locs h hR hS => ?_)
          refine lv_icmp_lt (pc := 39) (tgt := 49) hx hb xd_CA_ramp_39 (by decide) (fun hq => ?_) (fun hq => ?_)
          · have h := h.1 hq
            refine lv_aload_n (pc := 49) hx hb xd_CA_ramp_49 rfl (lv_at hl 0 rfl) ?_
            refine lv_aload_n (pc := 50) hx hb xd_CA_ramp_50 rfl (lv_at hl 0 rfl) ?_
            refine xr_get (pc := 51) (v := .ref (G.1 8 14)) hC hR xo_C0 xf_CA_47 rfl xd_CA_ramp_51 ?_
            refine lv_iload_n (pc := 54) hx hb xd_CA_ramp_54 rfl (lv_at hl 1 rfl) ?_
            refine lv_iload_n (pc := 55) hx hb xd_CA_ramp_55 rfl (lv_at hl 2 rfl) ?_
            refine lv_iload_n (pc := 56) hx hb xd_CA_ramp_56 rfl (lv_at hl 3 rfl) ?_
            refine xr_callV (pc := 57) (As := [.int a1, .int a2, .int a3]) (rest := [.ref (G.1 8 0)]) hC hR hS (xc_Ra_climb l G  h) xo_C14 xv_CA_251 ⟨rfl, rfl, Nat.le_of_ble_eq_true rfl, Nat.le_of_ble_eq_true rfl⟩ rfl hl.1 rfl (Nat.le_of_ble_eq_true rfl) xd_CA_ramp_57 (fun r14 M13 H locs h hR hS => ?_)
            refine xr_callV (pc := 60) (As := [.int r14]) (rest := []) hC hR hS (xc_CA_taken l G  h) xo_C0 xv_CA_78 ⟨rfl, rfl, Nat.le_of_ble_eq_true rfl, Nat.le_of_ble_eq_true rfl⟩ rfl hl.1 rfl (Nat.le_of_ble_eq_true rfl) xd_CA_ramp_60 (fun r16 M15 H locs h hR hS => ?_)
            exact xr_iret hC hr hlk hR hS h xd_CA_ramp_63
          · have h := h.2 hq
            refine lv_aload_n (pc := 42) hx hb xd_CA_ramp_42 rfl (lv_at hl 0 rfl) ?_
            refine lv_bipush (pc := 43) (v := (-6 : Int32)) hx hb xd_CA_ramp_43 (by decide) ?_
            refine xr_callV (pc := 45) (As := [.int (-6 : Int32)]) (rest := []) hC hR hS (xc_CA_refused l G  h) xo_C0 xv_CA_67 ⟨rfl, rfl, Nat.le_of_ble_eq_true rfl, Nat.le_of_ble_eq_true rfl⟩ rfl hl.1 rfl (Nat.le_of_ble_eq_true rfl) xd_CA_ramp_45 (fun r18 M17 H locs h hR hS => ?_)
            exact xr_iret hC hr hlk hR hS h xd_CA_ramp_48
        · have h := h.2 hq
          exact kJ25_2  M7 H locs ls h hR hS (lv_sub hl [0] rfl)

/-! ColoursApart.step(I)I -/
theorem xd_CA_step_0 : decode b_CA_step 0 = .ok (.aload_n 0, 1) := by decide +kernel
theorem xd_CA_step_1 : decode b_CA_step 1 = .ok (.getfield 47, 3) := by decide +kernel
theorem xd_CA_step_4 : decode b_CA_step 4 = .ok (.iload_n 1, 1) := by decide +kernel
theorem xd_CA_step_5 : decode b_CA_step 5 = .ok (.invokevirtual 255, 3) := by decide +kernel
theorem xd_CA_step_8 : decode b_CA_step 8 = .ok (.ireturn, 1) := by decide +kernel
abbrev rm_CA_step : Room := { frames := 1, cells := 0, slots := 0, locals := 21 }
def xw_CA_step (a1 : Int32) (M : xM) (post : Int32 → xM → Prop) : Prop :=
  xw_Ra_colourAt a1 M (fun (r2 : Int32) (M1 : xM) => post r2 M1)
set_option maxHeartbeats 4000000 in
set_option maxRecDepth 100000 in
theorem xc_CA_step (l : Launch) (G : xG) {a1 : Int32}  {M : xM} {post : Int32 → xM → Prop} (h : xw_CA_step a1 M post) : Met l y_CA_step (Cond.code y_CA_step b_CA_step 2 (some .int) :: xTG) rm_CA_step (xPre G M [.ref (G.1 8 0), .int a1]) (xPi G post) 0 0 (xA G) := by
  refine xMet (own := R_CA) [.ref (G.1 8 0), .int a1] (Or.inl (by decide)) rfl (Nat.le_of_ble_eq_true rfl) (fun p e s m args below meth c ls hC hr hlk hR hS hl => ?_)
  have hx := hC.1
  have hb := hC.2.1
  have hl : lv_has ls 2 [(0, .ref (G.1 8 0)), (1, .int a1)] := hl
  obtain ⟨H, eH⟩ : ∃ H : Heap, H = s.heap := ⟨_, rfl⟩
  obtain ⟨locs, eL⟩ : ∃ locs : List Loc, locs = [] := ⟨_, rfl⟩
  rw [← eH] at hR
  replace hS : va_S (xA G) s.heap H locs := by rw [eH, eL]; exact hS
  suffices hh : W p l e rm_CA_step s m args below meth c H locs 0 0 (MQ below (xPi G post) args s 0 0 (xA G)) (F0 m 0 ls []) from by rw [eH, eL] at hh; exact hh
  unfold xw_CA_step at h
  refine lv_aload_n (pc := 0) hx hb xd_CA_step_0 rfl (lv_at hl 0 rfl) ?_
  refine xr_get (pc := 1) (v := .ref (G.1 8 14)) hC hR xo_C0 xf_CA_47 rfl xd_CA_step_1 ?_
  refine lv_iload_n (pc := 4) hx hb xd_CA_step_4 rfl (lv_at hl 1 rfl) ?_
  refine xr_callV (pc := 5) (As := [.int a1]) (rest := []) hC hR hS (xc_Ra_colourAt l G  h) xo_C14 xv_CA_255 ⟨rfl, rfl, Nat.le_of_ble_eq_true rfl, Nat.le_of_ble_eq_true rfl⟩ rfl hl.1 rfl (Nat.le_of_ble_eq_true rfl) xd_CA_step_5 (fun r2 M1 H locs h hR hS => ?_)
  exact xr_iret hC hr hlk hR hS h xd_CA_step_8

/-! ColoursApart.rising(I)I -/
theorem xd_CA_rising_0 : decode b_CA_rising 0 = .ok (.iload_n 1, 1) := by decide +kernel
theorem xd_CA_rising_1 : decode b_CA_rising 1 = .ok (.invokestatic 139, 3) := by decide +kernel
theorem xd_CA_rising_4 : decode b_CA_rising 4 = .ok (.ifCond .eq 13, 3) := by decide +kernel
theorem xd_CA_rising_7 : decode b_CA_rising 7 = .ok (.aload_n 0, 1) := by decide +kernel
theorem xd_CA_rising_8 : decode b_CA_rising 8 = .ok (.getfield 47, 3) := by decide +kernel
theorem xd_CA_rising_11 : decode b_CA_rising 11 = .ok (.getfield 256, 3) := by decide +kernel
theorem xd_CA_rising_14 : decode b_CA_rising 14 = .ok (.ifCond .ne 5, 3) := by decide +kernel
theorem xd_CA_rising_17 : decode b_CA_rising 17 = .ok (.iconst (-1), 1) := by decide +kernel
theorem xd_CA_rising_18 : decode b_CA_rising 18 = .ok (.ireturn, 1) := by decide +kernel
theorem xd_CA_rising_19 : decode b_CA_rising 19 = .ok (.aload_n 0, 1) := by decide +kernel
theorem xd_CA_rising_20 : decode b_CA_rising 20 = .ok (.getfield 47, 3) := by decide +kernel
theorem xd_CA_rising_23 : decode b_CA_rising 23 = .ok (.aload_n 0, 1) := by decide +kernel
theorem xd_CA_rising_24 : decode b_CA_rising 24 = .ok (.getfield 10, 3) := by decide +kernel
theorem xd_CA_rising_27 : decode b_CA_rising 27 = .ok (.getfield 97, 3) := by decide +kernel
theorem xd_CA_rising_30 : decode b_CA_rising 30 = .ok (.iload_n 1, 1) := by decide +kernel
theorem xd_CA_rising_31 : decode b_CA_rising 31 = .ok (.invokevirtual 259, 3) := by decide +kernel
theorem xd_CA_rising_34 : decode b_CA_rising 34 = .ok (.ifCond .eq 7, 3) := by decide +kernel
theorem xd_CA_rising_37 : decode b_CA_rising 37 = .ok (.iconst 1, 1) := by decide +kernel
theorem xd_CA_rising_38 : decode b_CA_rising 38 = .ok (.goto 4, 3) := by decide +kernel
theorem xd_CA_rising_41 : decode b_CA_rising 41 = .ok (.iconst 0, 1) := by decide +kernel
theorem xd_CA_rising_42 : decode b_CA_rising 42 = .ok (.ireturn, 1) := by decide +kernel
abbrev rm_CA_rising : Room := { frames := 4, cells := 0, slots := 0, locals := 95 }
def xw_CA_rising (a1 : Int32) (M : xM) (post : Int32 → xM → Prop) : Prop :=
  xw_CA_isSight a1 M (fun (r2 : Int32) (M1 : xM) => ((r2 = 0) → (post (-1 : Int32) M1)) ∧ ((¬ r2 = 0) → (((¬ (M1 8 14 1) = 0) → (xw_Ra_growsFor 0 a1 M1 (fun (r4 : Int32) (M3 : xM) => ((r4 = 0) → (post (0 : Int32) M3)) ∧ ((¬ r4 = 0) → (post (1 : Int32) M3))))) ∧ (((M1 8 14 1) = 0) → (post (-1 : Int32) M1)))))
set_option maxHeartbeats 4000000 in
set_option maxRecDepth 100000 in
theorem xc_CA_rising (l : Launch) (G : xG) {a1 : Int32}  {M : xM} {post : Int32 → xM → Prop} (h : xw_CA_rising a1 M post) : Met l y_CA_rising (Cond.code y_CA_rising b_CA_rising 2 (some .int) :: xTG) rm_CA_rising (xPre G M [.ref (G.1 8 0), .int a1]) (xPi G post) 0 0 (xA G) := by
  refine xMet (own := R_CA) [.ref (G.1 8 0), .int a1] (Or.inl (by decide)) rfl (Nat.le_of_ble_eq_true rfl) (fun p e s m args below meth c ls hC hr hlk hR hS hl => ?_)
  have hx := hC.1
  have hb := hC.2.1
  have hl : lv_has ls 2 [(0, .ref (G.1 8 0)), (1, .int a1)] := hl
  obtain ⟨H, eH⟩ : ∃ H : Heap, H = s.heap := ⟨_, rfl⟩
  obtain ⟨locs, eL⟩ : ∃ locs : List Loc, locs = [] := ⟨_, rfl⟩
  rw [← eH] at hR
  replace hS : va_S (xA G) s.heap H locs := by rw [eH, eL]; exact hS
  suffices hh : W p l e rm_CA_rising s m args below meth c H locs 0 0 (MQ below (xPi G post) args s 0 0 (xA G)) (F0 m 0 ls []) from by rw [eH, eL] at hh; exact hh
  unfold xw_CA_rising at h
  refine lv_iload_n (pc := 0) hx hb xd_CA_rising_0 rfl (lv_at hl 1 rfl) ?_
  refine xr_callS (pc := 1) (As := [.int a1]) (rest := []) hC hR hS (xc_CA_isSight l G  h) xv_CA_139 ⟨rfl, rfl, Nat.le_of_ble_eq_true rfl, Nat.le_of_ble_eq_true rfl⟩ rfl hl.1 rfl (Nat.le_of_ble_eq_true rfl) xd_CA_rising_1 (fun r2 M1 H locs h hR hS => ?_)
  refine lv_if_eq (pc := 4) (tgt := 17) hx hb xd_CA_rising_4 (by decide) (fun hq => ?_) (fun hq => ?_)
  · have h := h.1 hq
    refine lv_iconst (pc := 17) (v := (-1 : Int32)) hx hb xd_CA_rising_17 (by decide) ?_
    exact xr_iret hC hr hlk hR hS h xd_CA_rising_18
  · have h := h.2 hq
    refine lv_aload_n (pc := 7) hx hb xd_CA_rising_7 rfl (lv_at hl 0 rfl) ?_
    refine xr_get (pc := 8) (v := .ref (G.1 8 14)) hC hR xo_C0 xf_CA_47 rfl xd_CA_rising_8 ?_
    refine xr_get (pc := 11) (v := .int (M1 8 14 1)) hC hR xo_C14 xf_CA_256 rfl xd_CA_rising_11 ?_
    refine lv_if_ne (pc := 14) (tgt := 19) hx hb xd_CA_rising_14 (by decide) (fun hq => ?_) (fun hq => ?_)
    · have h := h.1 hq
      refine lv_aload_n (pc := 19) hx hb xd_CA_rising_19 rfl (lv_at hl 0 rfl) ?_
      refine xr_get (pc := 20) (v := .ref (G.1 8 14)) hC hR xo_C0 xf_CA_47 rfl xd_CA_rising_20 ?_
      refine lv_aload_n (pc := 23) hx hb xd_CA_rising_23 rfl (lv_at hl 0 rfl) ?_
      refine xr_get (pc := 24) (v := .ref (G.1 0 0)) hC hR xo_C0 xf_CA_10 rfl xd_CA_rising_24 ?_
      refine xr_get (pc := 27) (v := .ref (G.1 0 1)) hC hR (xo_K0 xg0) xf_CA_97 rfl xd_CA_rising_27 ?_
      refine lv_iload_n (pc := 30) hx hb xd_CA_rising_30 rfl (lv_at hl 1 rfl) ?_
      refine xr_callV (pc := 31) (As := [.ref (G.1 0 1), .int a1]) (rest := []) hC hR hS (xc_Ra_growsFor l G xg0 h) xo_C14 xv_CA_259 ⟨rfl, rfl, Nat.le_of_ble_eq_true rfl, Nat.le_of_ble_eq_true rfl⟩ rfl hl.1 rfl (Nat.le_of_ble_eq_true rfl) xd_CA_rising_31 (fun r4 M3 H locs h hR hS => ?_)
      refine lv_if_eq (pc := 34) (tgt := 41) hx hb xd_CA_rising_34 (by decide) (fun hq => ?_) (fun hq => ?_)
      · have h := h.1 hq
        refine lv_iconst (pc := 41) (v := (0 : Int32)) hx hb xd_CA_rising_41 (by decide) ?_
        exact xr_iret hC hr hlk hR hS h xd_CA_rising_42
      · have h := h.2 hq
        refine lv_iconst (pc := 37) (v := (1 : Int32)) hx hb xd_CA_rising_37 (by decide) ?_
        refine lv_goto (pc := 38) (tgt := 42) hx hb xd_CA_rising_38 (by decide) ?_
        exact xr_iret hC hr hlk hR hS h xd_CA_rising_42
    · have h := h.2 hq
      refine lv_iconst (pc := 17) (v := (-1 : Int32)) hx hb xd_CA_rising_17 (by decide) ?_
      exact xr_iret hC hr hlk hR hS h xd_CA_rising_18

/-! ColoursApart.group(III)I -/
theorem xd_CA_group_0 : decode b_CA_group 0 = .ok (.iload_n 1, 1) := by decide +kernel
theorem xd_CA_group_1 : decode b_CA_group 1 = .ok (.invokestatic 139, 3) := by decide +kernel
theorem xd_CA_group_4 : decode b_CA_group 4 = .ok (.ifCond .eq 14, 3) := by decide +kernel
theorem xd_CA_group_7 : decode b_CA_group 7 = .ok (.iload_n 2, 1) := by decide +kernel
theorem xd_CA_group_8 : decode b_CA_group 8 = .ok (.ifCond .lt 10, 3) := by decide +kernel
theorem xd_CA_group_11 : decode b_CA_group 11 = .ok (.iload_n 2, 1) := by decide +kernel
theorem xd_CA_group_12 : decode b_CA_group 12 = .ok (.ldc_w 263, 3) := by decide +kernel
theorem xd_CA_group_15 : decode b_CA_group 15 = .ok (.if_icmp .le 5, 3) := by decide +kernel
theorem xd_CA_group_18 : decode b_CA_group 18 = .ok (.iconst (-1), 1) := by decide +kernel
theorem xd_CA_group_19 : decode b_CA_group 19 = .ok (.ireturn, 1) := by decide +kernel
theorem xd_CA_group_20 : decode b_CA_group 20 = .ok (.aload_n 0, 1) := by decide +kernel
theorem xd_CA_group_21 : decode b_CA_group 21 = .ok (.getfield 10, 3) := by decide +kernel
theorem xd_CA_group_24 : decode b_CA_group 24 = .ok (.getfield 160, 3) := by decide +kernel
theorem xd_CA_group_27 : decode b_CA_group 27 = .ok (.iload_n 3, 1) := by decide +kernel
theorem xd_CA_group_28 : decode b_CA_group 28 = .ok (.invokevirtual 173, 3) := by decide +kernel
theorem xd_CA_group_31 : decode b_CA_group 31 = .ok (.ifCond .eq 20, 3) := by decide +kernel
theorem xd_CA_group_34 : decode b_CA_group 34 = .ok (.aload_n 0, 1) := by decide +kernel
theorem xd_CA_group_35 : decode b_CA_group 35 = .ok (.getfield 54, 3) := by decide +kernel
theorem xd_CA_group_38 : decode b_CA_group 38 = .ok (.aload_n 0, 1) := by decide +kernel
theorem xd_CA_group_39 : decode b_CA_group 39 = .ok (.getfield 10, 3) := by decide +kernel
theorem xd_CA_group_42 : decode b_CA_group 42 = .ok (.iload_n 1, 1) := by decide +kernel
theorem xd_CA_group_43 : decode b_CA_group 43 = .ok (.iload_n 2, 1) := by decide +kernel
theorem xd_CA_group_44 : decode b_CA_group 44 = .ok (.iload_n 3, 1) := by decide +kernel
theorem xd_CA_group_45 : decode b_CA_group 45 = .ok (.invokevirtual 264, 3) := by decide +kernel
theorem xd_CA_group_48 : decode b_CA_group 48 = .ok (.goto 5, 3) := by decide +kernel
theorem xd_CA_group_51 : decode b_CA_group 51 = .ok (.bipush (-2), 2) := by decide +kernel
theorem xd_CA_group_53 : decode b_CA_group 53 = .ok (.ireturn, 1) := by decide +kernel
abbrev rm_CA_group : Room := { frames := 4, cells := 0, slots := 0, locals := 99 }
def xw_CA_group (a1 : Int32) (a2 : Int32) (a3 : Int32) (M : xM) (post : Int32 → xM → Prop) : Prop :=
  xw_CA_isSight a1 M (fun (r2 : Int32) (M1 : xM) => ((r2 = 0) → (post (-1 : Int32) M1)) ∧ ((¬ r2 = 0) → (((a2 < 0) → (post (-1 : Int32) M1)) ∧ ((¬ a2 < 0) → (((a2 ≤ (2000000 : Int32)) → (xw_Ho_has 0 a3 M1 (fun (r4 : Int32) (M3 : xM) => ((r4 = 0) → (post (-2 : Int32) M3)) ∧ ((¬ r4 = 0) → (xw_Gp_lowestWith 0 a1 a2 a3 M3 (fun (r6 : Int32) (M5 : xM) => post r6 M5)))))) ∧ ((¬ a2 ≤ (2000000 : Int32)) → (post (-1 : Int32) M1)))))))
set_option maxHeartbeats 4000000 in
set_option maxRecDepth 100000 in
theorem xc_CA_group (l : Launch) (G : xG) {a1 : Int32} {a2 : Int32} {a3 : Int32}  {M : xM} {post : Int32 → xM → Prop} (h : xw_CA_group a1 a2 a3 M post) : Met l y_CA_group (Cond.code y_CA_group b_CA_group 4 (some .int) :: xTG) rm_CA_group (xPre G M [.ref (G.1 8 0), .int a1, .int a2, .int a3]) (xPi G post) 0 0 (xA G) := by
  refine xMet (own := R_CA) [.ref (G.1 8 0), .int a1, .int a2, .int a3] (Or.inl (by decide)) rfl (Nat.le_of_ble_eq_true rfl) (fun p e s m args below meth c ls hC hr hlk hR hS hl => ?_)
  have hx := hC.1
  have hb := hC.2.1
  have hl : lv_has ls 4 [(0, .ref (G.1 8 0)), (1, .int a1), (2, .int a2), (3, .int a3)] := hl
  obtain ⟨H, eH⟩ : ∃ H : Heap, H = s.heap := ⟨_, rfl⟩
  obtain ⟨locs, eL⟩ : ∃ locs : List Loc, locs = [] := ⟨_, rfl⟩
  rw [← eH] at hR
  replace hS : va_S (xA G) s.heap H locs := by rw [eH, eL]; exact hS
  suffices hh : W p l e rm_CA_group s m args below meth c H locs 0 0 (MQ below (xPi G post) args s 0 0 (xA G)) (F0 m 0 ls []) from by rw [eH, eL] at hh; exact hh
  unfold xw_CA_group at h
  refine lv_iload_n (pc := 0) hx hb xd_CA_group_0 rfl (lv_at hl 1 rfl) ?_
  refine xr_callS (pc := 1) (As := [.int a1]) (rest := []) hC hR hS (xc_CA_isSight l G  h) xv_CA_139 ⟨rfl, rfl, Nat.le_of_ble_eq_true rfl, Nat.le_of_ble_eq_true rfl⟩ rfl hl.1 rfl (Nat.le_of_ble_eq_true rfl) xd_CA_group_1 (fun r2 M1 H locs h hR hS => ?_)
  refine lv_if_eq (pc := 4) (tgt := 18) hx hb xd_CA_group_4 (by decide) (fun hq => ?_) (fun hq => ?_)
  · have h := h.1 hq
    refine lv_iconst (pc := 18) (v := (-1 : Int32)) hx hb xd_CA_group_18 (by decide) ?_
    exact xr_iret hC hr hlk hR hS h xd_CA_group_19
  · have h := h.2 hq
    refine lv_iload_n (pc := 7) hx hb xd_CA_group_7 rfl (lv_at hl 2 rfl) ?_
    refine lv_if_lt (pc := 8) (tgt := 18) hx hb xd_CA_group_8 (by decide) (fun hq => ?_) (fun hq => ?_)
    · have h := h.1 hq
      refine lv_iconst (pc := 18) (v := (-1 : Int32)) hx hb xd_CA_group_18 (by decide) ?_
      exact xr_iret hC hr hlk hR hS h xd_CA_group_19
    · have h := h.2 hq
      refine lv_iload_n (pc := 11) hx hb xd_CA_group_11 rfl (lv_at hl 2 rfl) ?_
      refine lv_ldcw (pc := 12) (v := (2000000 : Int32)) hx hb hC.2.2.2.1 (hC.2.2.2.2.1 _ xk_CA_263) xd_CA_group_12 ?_
      refine lv_icmp_le (pc := 15) (tgt := 20) hx hb xd_CA_group_15 (by decide) (fun hq => ?_) (fun hq => ?_)
      · have h := h.1 hq
        refine lv_aload_n (pc := 20) hx hb xd_CA_group_20 rfl (lv_at hl 0 rfl) ?_
        refine xr_get (pc := 21) (v := .ref (G.1 0 0)) hC hR xo_C0 xf_CA_10 rfl xd_CA_group_21 ?_
        refine xr_get (pc := 24) (v := .ref (G.1 0 3)) hC hR (xo_K0 xg0) xf_CA_160 rfl xd_CA_group_24 ?_
        refine lv_iload_n (pc := 27) hx hb xd_CA_group_27 rfl (lv_at hl 3 rfl) ?_
        refine xr_callV (pc := 28) (As := [.int a3]) (rest := []) hC hR hS (xc_Ho_has l G xg0 h) (xo_K3 xg0) xv_CA_173 ⟨rfl, rfl, Nat.le_of_ble_eq_true rfl, Nat.le_of_ble_eq_true rfl⟩ rfl hl.1 rfl (Nat.le_of_ble_eq_true rfl) xd_CA_group_28 (fun r4 M3 H locs h hR hS => ?_)
        refine lv_if_eq (pc := 31) (tgt := 51) hx hb xd_CA_group_31 (by decide) (fun hq => ?_) (fun hq => ?_)
        · have h := h.1 hq
          refine lv_bipush (pc := 51) (v := (-2 : Int32)) hx hb xd_CA_group_51 (by decide) ?_
          exact xr_iret hC hr hlk hR hS h xd_CA_group_53
        · have h := h.2 hq
          refine lv_aload_n (pc := 34) hx hb xd_CA_group_34 rfl (lv_at hl 0 rfl) ?_
          refine xr_get (pc := 35) (v := .ref (G.1 8 16)) hC hR xo_C0 xf_CA_54 rfl xd_CA_group_35 ?_
          refine lv_aload_n (pc := 38) hx hb xd_CA_group_38 rfl (lv_at hl 0 rfl) ?_
          refine xr_get (pc := 39) (v := .ref (G.1 0 0)) hC hR xo_C0 xf_CA_10 rfl xd_CA_group_39 ?_
          refine lv_iload_n (pc := 42) hx hb xd_CA_group_42 rfl (lv_at hl 1 rfl) ?_
          refine lv_iload_n (pc := 43) hx hb xd_CA_group_43 rfl (lv_at hl 2 rfl) ?_
          refine lv_iload_n (pc := 44) hx hb xd_CA_group_44 rfl (lv_at hl 3 rfl) ?_
          refine xr_callV (pc := 45) (As := [.ref (G.1 0 0), .int a1, .int a2, .int a3]) (rest := []) hC hR hS (xc_Gp_lowestWith l G xg0 h) xo_C16 xv_CA_264 ⟨rfl, rfl, Nat.le_of_ble_eq_true rfl, Nat.le_of_ble_eq_true rfl⟩ rfl hl.1 rfl (Nat.le_of_ble_eq_true rfl) xd_CA_group_45 (fun r6 M5 H locs h hR hS => ?_)
          refine lv_goto (pc := 48) (tgt := 53) hx hb xd_CA_group_48 (by decide) ?_
          exact xr_iret hC hr hlk hR hS h xd_CA_group_53
      · have h := h.2 hq
        refine lv_iconst (pc := 18) (v := (-1 : Int32)) hx hb xd_CA_group_18 (by decide) ?_
        exact xr_iret hC hr hlk hR hS h xd_CA_group_19

/-! ColoursApart.isImage(I)Z -/
theorem xd_CA_isImage_0 : decode b_CA_isImage 0 = .ok (.iload_n 0, 1) := by decide +kernel
theorem xd_CA_isImage_1 : decode b_CA_isImage 1 = .ok (.ifCond .lt 12, 3) := by decide +kernel
theorem xd_CA_isImage_4 : decode b_CA_isImage 4 = .ok (.iload_n 0, 1) := by decide +kernel
theorem xd_CA_isImage_5 : decode b_CA_isImage 5 = .ok (.iconst 3, 1) := by decide +kernel
theorem xd_CA_isImage_6 : decode b_CA_isImage 6 = .ok (.if_icmp .ge 7, 3) := by decide +kernel
theorem xd_CA_isImage_9 : decode b_CA_isImage 9 = .ok (.iconst 1, 1) := by decide +kernel
theorem xd_CA_isImage_10 : decode b_CA_isImage 10 = .ok (.goto 4, 3) := by decide +kernel
theorem xd_CA_isImage_13 : decode b_CA_isImage 13 = .ok (.iconst 0, 1) := by decide +kernel
theorem xd_CA_isImage_14 : decode b_CA_isImage 14 = .ok (.ireturn, 1) := by decide +kernel
abbrev rm_CA_isImage : Room := { frames := 0, cells := 0, slots := 0, locals := 0 }
def xw_CA_isImage (a0 : Int32) (M : xM) (post : Int32 → xM → Prop) : Prop :=
  ((a0 < 0) → (post (0 : Int32) M)) ∧ ((¬ a0 < 0) → ((((3 : Int32) ≤ a0) → (post (0 : Int32) M)) ∧ ((¬ (3 : Int32) ≤ a0) → (post (1 : Int32) M))))
set_option maxHeartbeats 4000000 in
set_option maxRecDepth 100000 in
theorem xc_CA_isImage (l : Launch) (G : xG) {a0 : Int32}  {M : xM} {post : Int32 → xM → Prop} (h : xw_CA_isImage a0 M post) : Met l y_CA_isImage (Cond.code y_CA_isImage b_CA_isImage 1 (some .boolean) :: xTG) rm_CA_isImage (xPre G M [.int a0]) (xPi G post) 0 0 (xA G) := by
  refine xMet (own := R_CA) [.int a0] (Or.inl (by decide)) rfl (Nat.le_of_ble_eq_true rfl) (fun p e s m args below meth c ls hC hr hlk hR hS hl => ?_)
  have hx := hC.1
  have hb := hC.2.1
  have hl : lv_has ls 1 [(0, .int a0)] := hl
  obtain ⟨H, eH⟩ : ∃ H : Heap, H = s.heap := ⟨_, rfl⟩
  obtain ⟨locs, eL⟩ : ∃ locs : List Loc, locs = [] := ⟨_, rfl⟩
  rw [← eH] at hR
  replace hS : va_S (xA G) s.heap H locs := by rw [eH, eL]; exact hS
  suffices hh : W p l e rm_CA_isImage s m args below meth c H locs 0 0 (MQ below (xPi G post) args s 0 0 (xA G)) (F0 m 0 ls []) from by rw [eH, eL] at hh; exact hh
  unfold xw_CA_isImage at h
  refine lv_iload_n (pc := 0) hx hb xd_CA_isImage_0 rfl (lv_at hl 0 rfl) ?_
  refine lv_if_lt (pc := 1) (tgt := 13) hx hb xd_CA_isImage_1 (by decide) (fun hq => ?_) (fun hq => ?_)
  · have h := h.1 hq
    refine lv_iconst (pc := 13) (v := (0 : Int32)) hx hb xd_CA_isImage_13 (by decide) ?_
    exact xr_zret hC hr hlk hR hS (by decide) h xd_CA_isImage_14
  · have h := h.2 hq
    refine lv_iload_n (pc := 4) hx hb xd_CA_isImage_4 rfl (lv_at hl 0 rfl) ?_
    refine lv_iconst (pc := 5) (v := (3 : Int32)) hx hb xd_CA_isImage_5 (by decide) ?_
    refine lv_icmp_ge (pc := 6) (tgt := 13) hx hb xd_CA_isImage_6 (by decide) (fun hq => ?_) (fun hq => ?_)
    · have h := h.1 hq
      refine lv_iconst (pc := 13) (v := (0 : Int32)) hx hb xd_CA_isImage_13 (by decide) ?_
      exact xr_zret hC hr hlk hR hS (by decide) h xd_CA_isImage_14
    · have h := h.2 hq
      refine lv_iconst (pc := 9) (v := (1 : Int32)) hx hb xd_CA_isImage_9 (by decide) ?_
      refine lv_goto (pc := 10) (tgt := 14) hx hb xd_CA_isImage_10 (by decide) ?_
      exact xr_zret hC hr hlk hR hS (by decide) h xd_CA_isImage_14

/-! ColoursApart.image(I)I -/
theorem xd_CA_image_0 : decode b_CA_image 0 = .ok (.iload_n 1, 1) := by decide +kernel
theorem xd_CA_image_1 : decode b_CA_image 1 = .ok (.invokestatic 268, 3) := by decide +kernel
theorem xd_CA_image_4 : decode b_CA_image 4 = .ok (.ifCond .ne 9, 3) := by decide +kernel
theorem xd_CA_image_7 : decode b_CA_image 7 = .ok (.aload_n 0, 1) := by decide +kernel
theorem xd_CA_image_8 : decode b_CA_image 8 = .ok (.iconst (-1), 1) := by decide +kernel
theorem xd_CA_image_9 : decode b_CA_image 9 = .ok (.invokevirtual 67, 3) := by decide +kernel
theorem xd_CA_image_12 : decode b_CA_image 12 = .ok (.ireturn, 1) := by decide +kernel
theorem xd_CA_image_13 : decode b_CA_image 13 = .ok (.aload_n 0, 1) := by decide +kernel
theorem xd_CA_image_14 : decode b_CA_image 14 = .ok (.getfield 16, 3) := by decide +kernel
theorem xd_CA_image_17 : decode b_CA_image 17 = .ok (.iload_n 1, 1) := by decide +kernel
theorem xd_CA_image_18 : decode b_CA_image 18 = .ok (.aaload, 1) := by decide +kernel
theorem xd_CA_image_19 : decode b_CA_image 19 = .ok (.aload_n 0, 1) := by decide +kernel
theorem xd_CA_image_20 : decode b_CA_image 20 = .ok (.getfield 10, 3) := by decide +kernel
theorem xd_CA_image_23 : decode b_CA_image 23 = .ok (.invokevirtual 271, 3) := by decide +kernel
theorem xd_CA_image_26 : decode b_CA_image 26 = .ok (.aload_n 0, 1) := by decide +kernel
theorem xd_CA_image_27 : decode b_CA_image 27 = .ok (.getfield 20, 3) := by decide +kernel
theorem xd_CA_image_30 : decode b_CA_image 30 = .ok (.iload_n 1, 1) := by decide +kernel
theorem xd_CA_image_31 : decode b_CA_image 31 = .ok (.iconst 1, 1) := by decide +kernel
theorem xd_CA_image_32 : decode b_CA_image 32 = .ok (.bastore, 1) := by decide +kernel
theorem xd_CA_image_33 : decode b_CA_image 33 = .ok (.aload_n 0, 1) := by decide +kernel
theorem xd_CA_image_34 : decode b_CA_image 34 = .ok (.iconst 0, 1) := by decide +kernel
theorem xd_CA_image_35 : decode b_CA_image 35 = .ok (.invokevirtual 78, 3) := by decide +kernel
theorem xd_CA_image_38 : decode b_CA_image 38 = .ok (.ireturn, 1) := by decide +kernel
abbrev rm_CA_image : Room := { frames := 3, cells := 0, slots := 0, locals := 73 }
def xw_CA_image (a1 : Int32) (M : xM) (post : Int32 → xM → Prop) : Prop :=
  xw_CA_isImage a1 M (fun (r2 : Int32) (M1 : xM) => ((¬ r2 = 0) → ((vp_in a1 3) ∧ (xw_Ke_copyFrom (1 + a1.toNatClampNeg) 0 M1 (fun (M4 : xM) => (vp_in a1 3) ∧ (xw_CA_taken (0 : Int32) (us M4 8 2 a1.toNatClampNeg (1 : Int32)) (fun (r6 : Int32) (M5 : xM) => post r6 M5)))))) ∧ ((r2 = 0) → (xw_CA_refused (-1 : Int32) M1 (fun (r8 : Int32) (M7 : xM) => post r8 M7))))
set_option maxHeartbeats 4000000 in
set_option maxRecDepth 100000 in
theorem xc_CA_image (l : Launch) (G : xG) {a1 : Int32}  {M : xM} {post : Int32 → xM → Prop} (h : xw_CA_image a1 M post) : Met l y_CA_image (Cond.code y_CA_image b_CA_image 2 (some .int) :: xTG) rm_CA_image (xPre G M [.ref (G.1 8 0), .int a1]) (xPi G post) 0 0 (xA G) := by
  refine xMet (own := R_CA) [.ref (G.1 8 0), .int a1] (Or.inl (by decide)) rfl (Nat.le_of_ble_eq_true rfl) (fun p e s m args below meth c ls hC hr hlk hR hS hl => ?_)
  have hx := hC.1
  have hb := hC.2.1
  have hl : lv_has ls 2 [(0, .ref (G.1 8 0)), (1, .int a1)] := hl
  obtain ⟨H, eH⟩ : ∃ H : Heap, H = s.heap := ⟨_, rfl⟩
  obtain ⟨locs, eL⟩ : ∃ locs : List Loc, locs = [] := ⟨_, rfl⟩
  rw [← eH] at hR
  replace hS : va_S (xA G) s.heap H locs := by rw [eH, eL]; exact hS
  suffices hh : W p l e rm_CA_image s m args below meth c H locs 0 0 (MQ below (xPi G post) args s 0 0 (xA G)) (F0 m 0 ls []) from by rw [eH, eL] at hh; exact hh
  unfold xw_CA_image at h
  refine lv_iload_n (pc := 0) hx hb xd_CA_image_0 rfl (lv_at hl 1 rfl) ?_
  refine xr_callS (pc := 1) (As := [.int a1]) (rest := []) hC hR hS (xc_CA_isImage l G  h) xv_CA_268 ⟨rfl, rfl, Nat.le_of_ble_eq_true rfl, Nat.le_of_ble_eq_true rfl⟩ rfl hl.1 rfl (Nat.le_of_ble_eq_true rfl) xd_CA_image_1 (fun r2 M1 H locs h hR hS => ?_)
  refine lv_if_ne (pc := 4) (tgt := 13) hx hb xd_CA_image_4 (by decide) (fun hq => ?_) (fun hq => ?_)
  · have h := h.1 hq
    refine lv_aload_n (pc := 13) hx hb xd_CA_image_13 rfl (lv_at hl 0 rfl) ?_
    refine xr_get (pc := 14) (v := .ref (G.1 8 1)) hC hR xo_C0 xf_CA_16 rfl xd_CA_image_14 ?_
    refine lv_iload_n (pc := 17) hx hb xd_CA_image_17 rfl (lv_at hl 1 rfl) ?_
    obtain ⟨hq, h⟩ := h
    have hg3 := xin3 hq
    refine xr_aald (pc := 18) hC hR xo_C1 hq xd_CA_image_18 ?_
    refine lv_aload_n (pc := 19) hx hb xd_CA_image_19 rfl (lv_at hl 0 rfl) ?_
    refine xr_get (pc := 20) (v := .ref (G.1 0 0)) hC hR xo_C0 xf_CA_10 rfl xd_CA_image_20 ?_
    refine xr_callVv (pc := 23) (As := [.ref (G.1 0 0)]) (rest := []) hC hR hS (xc_Ke_copyFrom l G hg3 xg0 h) (xo_K0 hg3) xv_CA_271 ⟨rfl, rfl, Nat.le_of_ble_eq_true rfl, Nat.le_of_ble_eq_true rfl⟩ rfl hl.1 rfl (Nat.le_of_ble_eq_true rfl) xd_CA_image_23 (fun M4 H locs h hR hS => ?_)
    refine lv_aload_n (pc := 26) hx hb xd_CA_image_26 rfl (lv_at hl 0 rfl) ?_
    refine xr_get (pc := 27) (v := .ref (G.1 8 2)) hC hR xo_C0 xf_CA_20 rfl xd_CA_image_27 ?_
    refine lv_iload_n (pc := 30) hx hb xd_CA_image_30 rfl (lv_at hl 1 rfl) ?_
    refine lv_iconst (pc := 31) (v := (1 : Int32)) hx hb xd_CA_image_31 (by decide) ?_
    obtain ⟨hq, h⟩ := h
    refine xr_zast (pc := 32) hC hR hS xo_C2 hq (by decide) xd_CA_image_32 (fun H locs hR hS => ?_)
    refine lv_aload_n (pc := 33) hx hb xd_CA_image_33 rfl (lv_at hl 0 rfl) ?_
    refine lv_iconst (pc := 34) (v := (0 : Int32)) hx hb xd_CA_image_34 (by decide) ?_
    refine xr_callV (pc := 35) (As := [.int (0 : Int32)]) (rest := []) hC hR hS (xc_CA_taken l G  h) xo_C0 xv_CA_78 ⟨rfl, rfl, Nat.le_of_ble_eq_true rfl, Nat.le_of_ble_eq_true rfl⟩ rfl hl.1 rfl (Nat.le_of_ble_eq_true rfl) xd_CA_image_35 (fun r6 M5 H locs h hR hS => ?_)
    exact xr_iret hC hr hlk hR hS h xd_CA_image_38
  · have h := h.2 hq
    refine lv_aload_n (pc := 7) hx hb xd_CA_image_7 rfl (lv_at hl 0 rfl) ?_
    refine lv_iconst (pc := 8) (v := (-1 : Int32)) hx hb xd_CA_image_8 (by decide) ?_
    refine xr_callV (pc := 9) (As := [.int (-1 : Int32)]) (rest := []) hC hR hS (xc_CA_refused l G  h) xo_C0 xv_CA_67 ⟨rfl, rfl, Nat.le_of_ble_eq_true rfl, Nat.le_of_ble_eq_true rfl⟩ rfl hl.1 rfl (Nat.le_of_ble_eq_true rfl) xd_CA_image_9 (fun r8 M7 H locs h hR hS => ?_)
    exact xr_iret hC hr hlk hR hS h xd_CA_image_12

/-! ColoursApart.back(I)I -/
theorem xd_CA_back_0 : decode b_CA_back 0 = .ok (.iload_n 1, 1) := by decide +kernel
theorem xd_CA_back_1 : decode b_CA_back 1 = .ok (.invokestatic 268, 3) := by decide +kernel
theorem xd_CA_back_4 : decode b_CA_back 4 = .ok (.ifCond .ne 9, 3) := by decide +kernel
theorem xd_CA_back_7 : decode b_CA_back 7 = .ok (.aload_n 0, 1) := by decide +kernel
theorem xd_CA_back_8 : decode b_CA_back 8 = .ok (.iconst (-1), 1) := by decide +kernel
theorem xd_CA_back_9 : decode b_CA_back 9 = .ok (.invokevirtual 67, 3) := by decide +kernel
theorem xd_CA_back_12 : decode b_CA_back 12 = .ok (.ireturn, 1) := by decide +kernel
theorem xd_CA_back_13 : decode b_CA_back 13 = .ok (.aload_n 0, 1) := by decide +kernel
theorem xd_CA_back_14 : decode b_CA_back 14 = .ok (.getfield 20, 3) := by decide +kernel
theorem xd_CA_back_17 : decode b_CA_back 17 = .ok (.iload_n 1, 1) := by decide +kernel
theorem xd_CA_back_18 : decode b_CA_back 18 = .ok (.baload, 1) := by decide +kernel
theorem xd_CA_back_19 : decode b_CA_back 19 = .ok (.ifCond .ne 10, 3) := by decide +kernel
theorem xd_CA_back_22 : decode b_CA_back 22 = .ok (.aload_n 0, 1) := by decide +kernel
theorem xd_CA_back_23 : decode b_CA_back 23 = .ok (.bipush (-6), 2) := by decide +kernel
theorem xd_CA_back_25 : decode b_CA_back 25 = .ok (.invokevirtual 67, 3) := by decide +kernel
theorem xd_CA_back_28 : decode b_CA_back 28 = .ok (.ireturn, 1) := by decide +kernel
theorem xd_CA_back_29 : decode b_CA_back 29 = .ok (.aload_n 0, 1) := by decide +kernel
theorem xd_CA_back_30 : decode b_CA_back 30 = .ok (.getfield 10, 3) := by decide +kernel
theorem xd_CA_back_33 : decode b_CA_back 33 = .ok (.aload_n 0, 1) := by decide +kernel
theorem xd_CA_back_34 : decode b_CA_back 34 = .ok (.getfield 16, 3) := by decide +kernel
theorem xd_CA_back_37 : decode b_CA_back 37 = .ok (.iload_n 1, 1) := by decide +kernel
theorem xd_CA_back_38 : decode b_CA_back 38 = .ok (.aaload, 1) := by decide +kernel
theorem xd_CA_back_39 : decode b_CA_back 39 = .ok (.invokevirtual 271, 3) := by decide +kernel
theorem xd_CA_back_42 : decode b_CA_back 42 = .ok (.aload_n 0, 1) := by decide +kernel
theorem xd_CA_back_43 : decode b_CA_back 43 = .ok (.iconst 0, 1) := by decide +kernel
theorem xd_CA_back_44 : decode b_CA_back 44 = .ok (.invokevirtual 78, 3) := by decide +kernel
theorem xd_CA_back_47 : decode b_CA_back 47 = .ok (.ireturn, 1) := by decide +kernel
abbrev rm_CA_back : Room := { frames := 3, cells := 0, slots := 0, locals := 73 }
def xw_CA_back (a1 : Int32) (M : xM) (post : Int32 → xM → Prop) : Prop :=
  xw_CA_isImage a1 M (fun (r2 : Int32) (M1 : xM) => ((¬ r2 = 0) → ((vp_in a1 3) ∧ (((¬ (M1 8 2 a1.toNatClampNeg) = 0) → ((vp_in a1 3) ∧ (xw_Ke_copyFrom 0 (1 + a1.toNatClampNeg) M1 (fun (M4 : xM) => xw_CA_taken (0 : Int32) M4 (fun (r6 : Int32) (M5 : xM) => post r6 M5))))) ∧ (((M1 8 2 a1.toNatClampNeg) = 0) → (xw_CA_refused (-6 : Int32) M1 (fun (r8 : Int32) (M7 : xM) => post r8 M7)))))) ∧ ((r2 = 0) → (xw_CA_refused (-1 : Int32) M1 (fun (r10 : Int32) (M9 : xM) => post r10 M9))))
set_option maxHeartbeats 4000000 in
set_option maxRecDepth 100000 in
theorem xc_CA_back (l : Launch) (G : xG) {a1 : Int32}  {M : xM} {post : Int32 → xM → Prop} (h : xw_CA_back a1 M post) : Met l y_CA_back (Cond.code y_CA_back b_CA_back 2 (some .int) :: xTG) rm_CA_back (xPre G M [.ref (G.1 8 0), .int a1]) (xPi G post) 0 0 (xA G) := by
  refine xMet (own := R_CA) [.ref (G.1 8 0), .int a1] (Or.inl (by decide)) rfl (Nat.le_of_ble_eq_true rfl) (fun p e s m args below meth c ls hC hr hlk hR hS hl => ?_)
  have hx := hC.1
  have hb := hC.2.1
  have hl : lv_has ls 2 [(0, .ref (G.1 8 0)), (1, .int a1)] := hl
  obtain ⟨H, eH⟩ : ∃ H : Heap, H = s.heap := ⟨_, rfl⟩
  obtain ⟨locs, eL⟩ : ∃ locs : List Loc, locs = [] := ⟨_, rfl⟩
  rw [← eH] at hR
  replace hS : va_S (xA G) s.heap H locs := by rw [eH, eL]; exact hS
  suffices hh : W p l e rm_CA_back s m args below meth c H locs 0 0 (MQ below (xPi G post) args s 0 0 (xA G)) (F0 m 0 ls []) from by rw [eH, eL] at hh; exact hh
  unfold xw_CA_back at h
  refine lv_iload_n (pc := 0) hx hb xd_CA_back_0 rfl (lv_at hl 1 rfl) ?_
  refine xr_callS (pc := 1) (As := [.int a1]) (rest := []) hC hR hS (xc_CA_isImage l G  h) xv_CA_268 ⟨rfl, rfl, Nat.le_of_ble_eq_true rfl, Nat.le_of_ble_eq_true rfl⟩ rfl hl.1 rfl (Nat.le_of_ble_eq_true rfl) xd_CA_back_1 (fun r2 M1 H locs h hR hS => ?_)
  refine lv_if_ne (pc := 4) (tgt := 13) hx hb xd_CA_back_4 (by decide) (fun hq => ?_) (fun hq => ?_)
  · have h := h.1 hq
    refine lv_aload_n (pc := 13) hx hb xd_CA_back_13 rfl (lv_at hl 0 rfl) ?_
    refine xr_get (pc := 14) (v := .ref (G.1 8 2)) hC hR xo_C0 xf_CA_20 rfl xd_CA_back_14 ?_
    refine lv_iload_n (pc := 17) hx hb xd_CA_back_17 rfl (lv_at hl 1 rfl) ?_
    obtain ⟨hq, h⟩ := h
    refine xr_zald (pc := 18) hC hR xo_C2 hq xd_CA_back_18 ?_
    refine lv_if_ne (pc := 19) (tgt := 29) hx hb xd_CA_back_19 (by decide) (fun hq => ?_) (fun hq => ?_)
    · have h := h.1 hq
      refine lv_aload_n (pc := 29) hx hb xd_CA_back_29 rfl (lv_at hl 0 rfl) ?_
      refine xr_get (pc := 30) (v := .ref (G.1 0 0)) hC hR xo_C0 xf_CA_10 rfl xd_CA_back_30 ?_
      refine lv_aload_n (pc := 33) hx hb xd_CA_back_33 rfl (lv_at hl 0 rfl) ?_
      refine xr_get (pc := 34) (v := .ref (G.1 8 1)) hC hR xo_C0 xf_CA_16 rfl xd_CA_back_34 ?_
      refine lv_iload_n (pc := 37) hx hb xd_CA_back_37 rfl (lv_at hl 1 rfl) ?_
      obtain ⟨hq, h⟩ := h
      have hg3 := xin3 hq
      refine xr_aald (pc := 38) hC hR xo_C1 hq xd_CA_back_38 ?_
      refine xr_callVv (pc := 39) (As := [.ref (G.1 (1 + a1.toNatClampNeg) 0)]) (rest := []) hC hR hS (xc_Ke_copyFrom l G xg0 hg3 h) (xo_K0 xg0) xv_CA_271 ⟨rfl, rfl, Nat.le_of_ble_eq_true rfl, Nat.le_of_ble_eq_true rfl⟩ rfl hl.1 rfl (Nat.le_of_ble_eq_true rfl) xd_CA_back_39 (fun M4 H locs h hR hS => ?_)
      refine lv_aload_n (pc := 42) hx hb xd_CA_back_42 rfl (lv_at hl 0 rfl) ?_
      refine lv_iconst (pc := 43) (v := (0 : Int32)) hx hb xd_CA_back_43 (by decide) ?_
      refine xr_callV (pc := 44) (As := [.int (0 : Int32)]) (rest := []) hC hR hS (xc_CA_taken l G  h) xo_C0 xv_CA_78 ⟨rfl, rfl, Nat.le_of_ble_eq_true rfl, Nat.le_of_ble_eq_true rfl⟩ rfl hl.1 rfl (Nat.le_of_ble_eq_true rfl) xd_CA_back_44 (fun r6 M5 H locs h hR hS => ?_)
      exact xr_iret hC hr hlk hR hS h xd_CA_back_47
    · have h := h.2 hq
      refine lv_aload_n (pc := 22) hx hb xd_CA_back_22 rfl (lv_at hl 0 rfl) ?_
      refine lv_bipush (pc := 23) (v := (-6 : Int32)) hx hb xd_CA_back_23 (by decide) ?_
      refine xr_callV (pc := 25) (As := [.int (-6 : Int32)]) (rest := []) hC hR hS (xc_CA_refused l G  h) xo_C0 xv_CA_67 ⟨rfl, rfl, Nat.le_of_ble_eq_true rfl, Nat.le_of_ble_eq_true rfl⟩ rfl hl.1 rfl (Nat.le_of_ble_eq_true rfl) xd_CA_back_25 (fun r8 M7 H locs h hR hS => ?_)
      exact xr_iret hC hr hlk hR hS h xd_CA_back_28
  · have h := h.2 hq
    refine lv_aload_n (pc := 7) hx hb xd_CA_back_7 rfl (lv_at hl 0 rfl) ?_
    refine lv_iconst (pc := 8) (v := (-1 : Int32)) hx hb xd_CA_back_8 (by decide) ?_
    refine xr_callV (pc := 9) (As := [.int (-1 : Int32)]) (rest := []) hC hR hS (xc_CA_refused l G  h) xo_C0 xv_CA_67 ⟨rfl, rfl, Nat.le_of_ble_eq_true rfl, Nat.le_of_ble_eq_true rfl⟩ rfl hl.1 rfl (Nat.le_of_ble_eq_true rfl) xd_CA_back_9 (fun r10 M9 H locs h hR hS => ?_)
    exact xr_iret hC hr hlk hR hS h xd_CA_back_12

/-! ColoursApart.sheetsThere()I -/
theorem xd_CA_sheetsThere_0 : decode b_CA_sheetsThere 0 = .ok (.iconst 0, 1) := by decide +kernel
theorem xd_CA_sheetsThere_1 : decode b_CA_sheetsThere 1 = .ok (.istore_n 1, 1) := by decide +kernel
theorem xd_CA_sheetsThere_2 : decode b_CA_sheetsThere 2 = .ok (.iconst 0, 1) := by decide +kernel
theorem xd_CA_sheetsThere_3 : decode b_CA_sheetsThere 3 = .ok (.istore_n 2, 1) := by decide +kernel
theorem xd_CA_sheetsThere_4 : decode b_CA_sheetsThere 4 = .ok (.iload_n 2, 1) := by decide +kernel
theorem xd_CA_sheetsThere_5 : decode b_CA_sheetsThere 5 = .ok (.iconst 4, 1) := by decide +kernel
theorem xd_CA_sheetsThere_6 : decode b_CA_sheetsThere 6 = .ok (.if_icmp .ge 24, 3) := by decide +kernel
theorem xd_CA_sheetsThere_9 : decode b_CA_sheetsThere 9 = .ok (.aload_n 0, 1) := by decide +kernel
theorem xd_CA_sheetsThere_10 : decode b_CA_sheetsThere 10 = .ok (.getfield 26, 3) := by decide +kernel
theorem xd_CA_sheetsThere_13 : decode b_CA_sheetsThere 13 = .ok (.iload_n 2, 1) := by decide +kernel
theorem xd_CA_sheetsThere_14 : decode b_CA_sheetsThere 14 = .ok (.aaload, 1) := by decide +kernel
theorem xd_CA_sheetsThere_15 : decode b_CA_sheetsThere 15 = .ok (.invokevirtual 81, 3) := by decide +kernel
theorem xd_CA_sheetsThere_18 : decode b_CA_sheetsThere 18 = .ok (.ifCond .eq 6, 3) := by decide +kernel
theorem xd_CA_sheetsThere_21 : decode b_CA_sheetsThere 21 = .ok (.iinc 1 1, 3) := by decide +kernel
theorem xd_CA_sheetsThere_24 : decode b_CA_sheetsThere 24 = .ok (.iinc 2 1, 3) := by decide +kernel
theorem xd_CA_sheetsThere_27 : decode b_CA_sheetsThere 27 = .ok (.goto (-23), 3) := by decide +kernel
theorem xd_CA_sheetsThere_30 : decode b_CA_sheetsThere 30 = .ok (.iload_n 1, 1) := by decide +kernel
theorem xd_CA_sheetsThere_31 : decode b_CA_sheetsThere 31 = .ok (.ireturn, 1) := by decide +kernel
abbrev rm_CA_sheetsThere : Room := { frames := 1, cells := 0, slots := 0, locals := 20 }
def xw_CA_sheetsThere_4 (post : Int32 → xM → Prop) (k30 : Int32 → Int32 → xM → Prop) : Nat → Int32 → Int32 → xM → Prop
  | 0, _, _, _ => False
  | n4 + 1, x1, x2, M => (((4 : Int32) ≤ x2) → (k30 x1 x2 M)) ∧ ((¬ (4 : Int32) ≤ x2) → ((vp_in x2 4) ∧ (xw_Sh_isThere (4 + x2.toNatClampNeg) M (fun (r3 : Int32) (M2 : xM) => ((r3 = 0) → (xw_CA_sheetsThere_4 post k30 n4 x1 (x2 + (1 : Int32)) M2)) ∧ ((¬ r3 = 0) → (xw_CA_sheetsThere_4 post k30 n4 (x1 + (1 : Int32)) (x2 + (1 : Int32)) M2))))))
def xw_CA_sheetsThere  (M : xM) (post : Int32 → xM → Prop) : Prop :=
  ∃ n4 : Nat, xw_CA_sheetsThere_4 post (fun (y4 : Int32) (y5 : Int32) (M6 : xM) => post y4 M6) n4 (0 : Int32) (0 : Int32) M
set_option maxHeartbeats 4000000 in
set_option maxRecDepth 100000 in
theorem xt_CA_sheetsThere_4 {p : Program} {l : Launch} {e : Env} {s : State} {m : MethodId} {args : Array Value} {below : List Frame} {meth : Method} {c : Code} {G : xG} (hC : xC p s m args c b_CA_sheetsThere R_CA 3 G) (hr : meth.sig.returnType = (some .int)) (hlk : meth.locks = false)  {post : Int32 → xM → Prop} {k30 : Int32 → Int32 → xM → Prop} (hk30 : ∀ (x1 : Int32) (x2 : Int32) (M : xM) (H : Heap) (locs : List Loc) (ls : Array Slot), k30 x1 x2 M → xRp G M H → va_S (xA G) s.heap H locs → lv_has ls 3 [(0, .ref (G.1 8 0)), (1, .int x1), (2, .int x2)] → W p l e rm_CA_sheetsThere s m args below meth c H locs 0 0 (MQ below (xPi G post) args s 0 0 (xA G)) (F0 m 30 ls [])) : ∀ (n : Nat) (x1 : Int32) (x2 : Int32) (M : xM) (H : Heap) (locs : List Loc) (ls : Array Slot), xw_CA_sheetsThere_4 post k30 n x1 x2 M → xRp G M H → va_S (xA G) s.heap H locs → lv_has ls 3 [(0, .ref (G.1 8 0)), (1, .int x1), (2, .int x2)] → W p l e rm_CA_sheetsThere s m args below meth c H locs 0 0 (MQ below (xPi G post) args s 0 0 (xA G)) (F0 m 4 ls []) := by
  have hx := hC.1
  have hb := hC.2.1
  intro n
  induction n with
  | zero => intro x1 x2 M H locs ls; exact fun h => h.elim
  | succ n ih =>
    intro x1 x2 M H locs ls h hR hS hl
    refine lv_iload_n (pc := 4) hx hb xd_CA_sheetsThere_4 rfl (lv_at hl 2 rfl) ?_
    refine lv_iconst (pc := 5) (v := (4 : Int32)) hx hb xd_CA_sheetsThere_5 (by decide) ?_
    refine lv_icmp_ge (pc := 6) (tgt := 30) hx hb xd_CA_sheetsThere_6 (by decide) (fun hq => ?_) (fun hq => ?_)
    · have h := h.1 hq
      exact hk30 x1 x2 M H locs ls h hR hS (lv_sub hl [0, 1, 2] rfl)
    · have h := h.2 hq
      refine lv_aload_n (pc := 9) hx hb xd_CA_sheetsThere_9 rfl (lv_at hl 0 rfl) ?_
      refine xr_get (pc := 10) (v := .ref (G.1 8 3)) hC hR xo_C0 xf_CA_26 rfl xd_CA_sheetsThere_10 ?_
      refine lv_iload_n (pc := 13) hx hb xd_CA_sheetsThere_13 rfl (lv_at hl 2 rfl) ?_
      obtain ⟨hq, h⟩ := h
      have hg1 := xin4 hq
      refine xr_aald (pc := 14) hC hR xo_C3 hq xd_CA_sheetsThere_14 ?_
      refine xr_callV (pc := 15) (As := []) (rest := []) hC hR hS (xc_Sh_isThere l G hg1 h) (xo_S0 hg1) xv_CA_81 ⟨rfl, rfl, Nat.le_of_ble_eq_true rfl, Nat.le_of_ble_eq_true rfl⟩ rfl hl.1 rfl (Nat.le_of_ble_eq_true rfl) xd_CA_sheetsThere_15 (fun r3 M2 H locs h hR hS => ?_)
      refine lv_if_eq (pc := 18) (tgt := 24) hx hb xd_CA_sheetsThere_18 (by decide) (fun hq => ?_) (fun hq => ?_)
      · have h := h.1 hq
        refine lv_iinc (pc := 24) (v := (x2 + (1 : Int32))) (lv' := [(2, .int (x2 + (1 : Int32))), (0, .ref (G.1 8 0)), (1, .int x1)]) hx hb xd_CA_sheetsThere_24 hl (k := 2) rfl rfl (by decide) rfl (fun ls hl => ?_)
        refine lv_goto (pc := 27) (tgt := 4) hx hb xd_CA_sheetsThere_27 (by decide) ?_
        exact ih x1 (x2 + (1 : Int32)) M2 H locs ls h hR hS (lv_sub hl [1, 2, 0] rfl)
      · have h := h.2 hq
        refine lv_iinc (pc := 21) (v := (x1 + (1 : Int32))) (lv' := [(1, .int (x1 + (1 : Int32))), (0, .ref (G.1 8 0)), (2, .int x2)]) hx hb xd_CA_sheetsThere_21 hl (k := 1) rfl rfl (by decide) rfl (fun ls hl => ?_)
        refine lv_iinc (pc := 24) (v := (x2 + (1 : Int32))) (lv' := [(2, .int (x2 + (1 : Int32))), (1, .int (x1 + (1 : Int32))), (0, .ref (G.1 8 0))]) hx hb xd_CA_sheetsThere_24 hl (k := 2) rfl rfl (by decide) rfl (fun ls hl => ?_)
        refine lv_goto (pc := 27) (tgt := 4) hx hb xd_CA_sheetsThere_27 (by decide) ?_
        exact ih (x1 + (1 : Int32)) (x2 + (1 : Int32)) M2 H locs ls h hR hS (lv_sub hl [2, 1, 0] rfl)
set_option maxHeartbeats 4000000 in
set_option maxRecDepth 100000 in
theorem xc_CA_sheetsThere (l : Launch) (G : xG)   {M : xM} {post : Int32 → xM → Prop} (h : xw_CA_sheetsThere  M post) : Met l y_CA_sheetsThere (Cond.code y_CA_sheetsThere b_CA_sheetsThere 3 (some .int) :: xTG) rm_CA_sheetsThere (xPre G M [.ref (G.1 8 0)]) (xPi G post) 0 0 (xA G) := by
  refine xMet (own := R_CA) [.ref (G.1 8 0)] (Or.inl (by decide)) rfl (Nat.le_of_ble_eq_true rfl) (fun p e s m args below meth c ls hC hr hlk hR hS hl => ?_)
  have hx := hC.1
  have hb := hC.2.1
  have hl : lv_has ls 3 [(0, .ref (G.1 8 0))] := hl
  obtain ⟨H, eH⟩ : ∃ H : Heap, H = s.heap := ⟨_, rfl⟩
  obtain ⟨locs, eL⟩ : ∃ locs : List Loc, locs = [] := ⟨_, rfl⟩
  rw [← eH] at hR
  replace hS : va_S (xA G) s.heap H locs := by rw [eH, eL]; exact hS
  suffices hh : W p l e rm_CA_sheetsThere s m args below meth c H locs 0 0 (MQ below (xPi G post) args s 0 0 (xA G)) (F0 m 0 ls []) from by rw [eH, eL] at hh; exact hh
  unfold xw_CA_sheetsThere at h
  refine lv_iconst (pc := 0) (v := (0 : Int32)) hx hb xd_CA_sheetsThere_0 (by decide) ?_
  refine lv_istore_n (pc := 1) (lv' := [(1, .int (0 : Int32)), (0, .ref (G.1 8 0))]) hx hb xd_CA_sheetsThere_1 rfl hl (by decide) rfl (fun ls hl => ?_)
  refine lv_iconst (pc := 2) (v := (0 : Int32)) hx hb xd_CA_sheetsThere_2 (by decide) ?_
  refine lv_istore_n (pc := 3) (lv' := [(2, .int (0 : Int32)), (1, .int (0 : Int32)), (0, .ref (G.1 8 0))]) hx hb xd_CA_sheetsThere_3 rfl hl (by decide) rfl (fun ls hl => ?_)
  obtain ⟨n, h⟩ := h
  refine xt_CA_sheetsThere_4 hC hr hlk  (fun y4 y5 M6 H locs ls h hR hS hl => ?_) n (0 : Int32) (0 : Int32) M H locs ls h hR hS (lv_sub hl [2, 1, 0] rfl)
  refine lv_iload_n (pc := 30) hx hb xd_CA_sheetsThere_30 rfl (lv_at hl 1 rfl) ?_
  exact xr_iret hC hr hlk hR hS h xd_CA_sheetsThere_31

/-! ColoursApart.count(I)I -/
theorem xd_CA_count_0 : decode b_CA_count 0 = .ok (.iload_n 1, 1) := by decide +kernel
theorem xd_CA_count_1 : decode b_CA_count 1 = .ok (.tableswitch 84 0 4 #[35, 46, 57, 68, 73], 35) := by decide +kernel
theorem xd_CA_count_36 : decode b_CA_count 36 = .ok (.aload_n 0, 1) := by decide +kernel
theorem xd_CA_count_37 : decode b_CA_count 37 = .ok (.getfield 10, 3) := by decide +kernel
theorem xd_CA_count_40 : decode b_CA_count 40 = .ok (.getfield 160, 3) := by decide +kernel
theorem xd_CA_count_43 : decode b_CA_count 43 = .ok (.getfield 164, 3) := by decide +kernel
theorem xd_CA_count_46 : decode b_CA_count 46 = .ok (.ireturn, 1) := by decide +kernel
theorem xd_CA_count_47 : decode b_CA_count 47 = .ok (.aload_n 0, 1) := by decide +kernel
theorem xd_CA_count_48 : decode b_CA_count 48 = .ok (.getfield 10, 3) := by decide +kernel
theorem xd_CA_count_51 : decode b_CA_count 51 = .ok (.getfield 160, 3) := by decide +kernel
theorem xd_CA_count_54 : decode b_CA_count 54 = .ok (.invokevirtual 275, 3) := by decide +kernel
theorem xd_CA_count_57 : decode b_CA_count 57 = .ok (.ireturn, 1) := by decide +kernel
theorem xd_CA_count_58 : decode b_CA_count 58 = .ok (.aload_n 0, 1) := by decide +kernel
theorem xd_CA_count_59 : decode b_CA_count 59 = .ok (.getfield 10, 3) := by decide +kernel
theorem xd_CA_count_62 : decode b_CA_count 62 = .ok (.getfield 160, 3) := by decide +kernel
theorem xd_CA_count_65 : decode b_CA_count 65 = .ok (.getfield 218, 3) := by decide +kernel
theorem xd_CA_count_68 : decode b_CA_count 68 = .ok (.ireturn, 1) := by decide +kernel
theorem xd_CA_count_69 : decode b_CA_count 69 = .ok (.aload_n 0, 1) := by decide +kernel
theorem xd_CA_count_70 : decode b_CA_count 70 = .ok (.invokevirtual 278, 3) := by decide +kernel
theorem xd_CA_count_73 : decode b_CA_count 73 = .ok (.ireturn, 1) := by decide +kernel
theorem xd_CA_count_74 : decode b_CA_count 74 = .ok (.aload_n 0, 1) := by decide +kernel
theorem xd_CA_count_75 : decode b_CA_count 75 = .ok (.getfield 10, 3) := by decide +kernel
theorem xd_CA_count_78 : decode b_CA_count 78 = .ok (.getfield 125, 3) := by decide +kernel
theorem xd_CA_count_81 : decode b_CA_count 81 = .ok (.invokevirtual 132, 3) := by decide +kernel
theorem xd_CA_count_84 : decode b_CA_count 84 = .ok (.ireturn, 1) := by decide +kernel
theorem xd_CA_count_85 : decode b_CA_count 85 = .ok (.iconst (-1), 1) := by decide +kernel
theorem xd_CA_count_86 : decode b_CA_count 86 = .ok (.ireturn, 1) := by decide +kernel
abbrev rm_CA_count : Room := { frames := 2, cells := 0, slots := 0, locals := 42 }
def xw_CA_count (a1 : Int32) (M : xM) (post : Int32 → xM → Prop) : Prop :=
  (a1 = (0 : Int32) → (post (M 0 3 0) M)) ∧ (a1 = (1 : Int32) → (xw_Ho_fixedOnes 0 M (fun (r2 : Int32) (M1 : xM) => post r2 M1))) ∧ (a1 = (2 : Int32) → (post (M 0 3 6) M)) ∧ (a1 = (3 : Int32) → (xw_CA_sheetsThere M (fun (r4 : Int32) (M3 : xM) => post r4 M3))) ∧ (a1 = (4 : Int32) → (xw_Gr_places 0 M (fun (r6 : Int32) (M5 : xM) => post r6 M5))) ∧ (¬ a1 = (0 : Int32) → ¬ a1 = (1 : Int32) → ¬ a1 = (2 : Int32) → ¬ a1 = (3 : Int32) → ¬ a1 = (4 : Int32) → (post (-1 : Int32) M))
set_option maxHeartbeats 4000000 in
set_option maxRecDepth 100000 in
theorem xc_CA_count (l : Launch) (G : xG) {a1 : Int32}  {M : xM} {post : Int32 → xM → Prop} (h : xw_CA_count a1 M post) : Met l y_CA_count (Cond.code y_CA_count b_CA_count 2 (some .int) :: xTG) rm_CA_count (xPre G M [.ref (G.1 8 0), .int a1]) (xPi G post) 0 0 (xA G) := by
  refine xMet (own := R_CA) [.ref (G.1 8 0), .int a1] (Or.inl (by decide)) rfl (Nat.le_of_ble_eq_true rfl) (fun p e s m args below meth c ls hC hr hlk hR hS hl => ?_)
  have hx := hC.1
  have hb := hC.2.1
  have hl : lv_has ls 2 [(0, .ref (G.1 8 0)), (1, .int a1)] := hl
  obtain ⟨H, eH⟩ : ∃ H : Heap, H = s.heap := ⟨_, rfl⟩
  obtain ⟨locs, eL⟩ : ∃ locs : List Loc, locs = [] := ⟨_, rfl⟩
  rw [← eH] at hR
  replace hS : va_S (xA G) s.heap H locs := by rw [eH, eL]; exact hS
  suffices hh : W p l e rm_CA_count s m args below meth c H locs 0 0 (MQ below (xPi G post) args s 0 0 (xA G)) (F0 m 0 ls []) from by rw [eH, eL] at hh; exact hh
  unfold xw_CA_count at h
  refine lv_iload_n (pc := 0) hx hb xd_CA_count_0 rfl (lv_at hl 1 rfl) ?_
  by_cases hs0 : a1 = (0 : Int32)
  · have h := h.1 hs0
    refine lv_tableIn (pc := 1) (tgt := 36) (off := 35) hx hb xd_CA_count_1 (by rw [hs0]; decide) (by rw [hs0]; decide) (by rw [hs0]; rfl) (by decide) ?_
    refine lv_aload_n (pc := 36) hx hb xd_CA_count_36 rfl (lv_at hl 0 rfl) ?_
    refine xr_get (pc := 37) (v := .ref (G.1 0 0)) hC hR xo_C0 xf_CA_10 rfl xd_CA_count_37 ?_
    refine xr_get (pc := 40) (v := .ref (G.1 0 3)) hC hR (xo_K0 xg0) xf_CA_160 rfl xd_CA_count_40 ?_
    refine xr_get (pc := 43) (v := .int (M 0 3 0)) hC hR (xo_K3 xg0) xf_CA_164 rfl xd_CA_count_43 ?_
    exact xr_iret hC hr hlk hR hS h xd_CA_count_46
  by_cases hs1 : a1 = (1 : Int32)
  · have h := h.2.1 hs1
    refine lv_tableIn (pc := 1) (tgt := 47) (off := 46) hx hb xd_CA_count_1 (by rw [hs1]; decide) (by rw [hs1]; decide) (by rw [hs1]; rfl) (by decide) ?_
    refine lv_aload_n (pc := 47) hx hb xd_CA_count_47 rfl (lv_at hl 0 rfl) ?_
    refine xr_get (pc := 48) (v := .ref (G.1 0 0)) hC hR xo_C0 xf_CA_10 rfl xd_CA_count_48 ?_
    refine xr_get (pc := 51) (v := .ref (G.1 0 3)) hC hR (xo_K0 xg0) xf_CA_160 rfl xd_CA_count_51 ?_
    refine xr_callV (pc := 54) (As := []) (rest := []) hC hR hS (xc_Ho_fixedOnes l G xg0 h) (xo_K3 xg0) xv_CA_275 ⟨rfl, rfl, Nat.le_of_ble_eq_true rfl, Nat.le_of_ble_eq_true rfl⟩ rfl hl.1 rfl (Nat.le_of_ble_eq_true rfl) xd_CA_count_54 (fun r2 M1 H locs h hR hS => ?_)
    exact xr_iret hC hr hlk hR hS h xd_CA_count_57
  by_cases hs2 : a1 = (2 : Int32)
  · have h := h.2.2.1 hs2
    refine lv_tableIn (pc := 1) (tgt := 58) (off := 57) hx hb xd_CA_count_1 (by rw [hs2]; decide) (by rw [hs2]; decide) (by rw [hs2]; rfl) (by decide) ?_
    refine lv_aload_n (pc := 58) hx hb xd_CA_count_58 rfl (lv_at hl 0 rfl) ?_
    refine xr_get (pc := 59) (v := .ref (G.1 0 0)) hC hR xo_C0 xf_CA_10 rfl xd_CA_count_59 ?_
    refine xr_get (pc := 62) (v := .ref (G.1 0 3)) hC hR (xo_K0 xg0) xf_CA_160 rfl xd_CA_count_62 ?_
    refine xr_get (pc := 65) (v := .int (M 0 3 6)) hC hR (xo_K3 xg0) xf_CA_218 rfl xd_CA_count_65 ?_
    exact xr_iret hC hr hlk hR hS h xd_CA_count_68
  by_cases hs3 : a1 = (3 : Int32)
  · have h := h.2.2.2.1 hs3
    refine lv_tableIn (pc := 1) (tgt := 69) (off := 68) hx hb xd_CA_count_1 (by rw [hs3]; decide) (by rw [hs3]; decide) (by rw [hs3]; rfl) (by decide) ?_
    refine lv_aload_n (pc := 69) hx hb xd_CA_count_69 rfl (lv_at hl 0 rfl) ?_
    refine xr_callV (pc := 70) (As := []) (rest := []) hC hR hS (xc_CA_sheetsThere l G  h) xo_C0 xv_CA_278 ⟨rfl, rfl, Nat.le_of_ble_eq_true rfl, Nat.le_of_ble_eq_true rfl⟩ rfl hl.1 rfl (Nat.le_of_ble_eq_true rfl) xd_CA_count_70 (fun r4 M3 H locs h hR hS => ?_)
    exact xr_iret hC hr hlk hR hS h xd_CA_count_73
  by_cases hs4 : a1 = (4 : Int32)
  · have h := h.2.2.2.2.1 hs4
    refine lv_tableIn (pc := 1) (tgt := 74) (off := 73) hx hb xd_CA_count_1 (by rw [hs4]; decide) (by rw [hs4]; decide) (by rw [hs4]; rfl) (by decide) ?_
    refine lv_aload_n (pc := 74) hx hb xd_CA_count_74 rfl (lv_at hl 0 rfl) ?_
    refine xr_get (pc := 75) (v := .ref (G.1 0 0)) hC hR xo_C0 xf_CA_10 rfl xd_CA_count_75 ?_
    refine xr_get (pc := 78) (v := .ref (G.1 0 12)) hC hR (xo_K0 xg0) xf_CA_125 rfl xd_CA_count_78 ?_
    refine xr_callV (pc := 81) (As := []) (rest := []) hC hR hS (xc_Gr_places l G xg0 h) (xo_K12 xg0) xv_CA_132 ⟨rfl, rfl, Nat.le_of_ble_eq_true rfl, Nat.le_of_ble_eq_true rfl⟩ rfl hl.1 rfl (Nat.le_of_ble_eq_true rfl) xd_CA_count_81 (fun r6 M5 H locs h hR hS => ?_)
    exact xr_iret hC hr hlk hR hS h xd_CA_count_84
  have h := h.2.2.2.2.2 hs0 hs1 hs2 hs3 hs4
  refine lv_tableOut (pc := 1) (tgt := 85) hx hb xd_CA_count_1 (xsw5 hs0 hs1 hs2 hs3 hs4) (by decide) ?_
  refine lv_iconst (pc := 85) (v := (-1 : Int32)) hx hb xd_CA_count_85 (by decide) ?_
  exact xr_iret hC hr hlk hR hS h xd_CA_count_86

/-! ColoursApart.status()I -/
theorem xd_CA_status_0 : decode b_CA_status 0 = .ok (.aload_n 0, 1) := by decide +kernel
theorem xd_CA_status_1 : decode b_CA_status 1 = .ok (.getfield 58, 3) := by decide +kernel
theorem xd_CA_status_4 : decode b_CA_status 4 = .ok (.ireturn, 1) := by decide +kernel
abbrev rm_CA_status : Room := { frames := 0, cells := 0, slots := 0, locals := 0 }
def xw_CA_status  (M : xM) (post : Int32 → xM → Prop) : Prop :=
  post (M 8 0 8) M
set_option maxHeartbeats 4000000 in
set_option maxRecDepth 100000 in
theorem xc_CA_status (l : Launch) (G : xG)   {M : xM} {post : Int32 → xM → Prop} (h : xw_CA_status  M post) : Met l y_CA_status (Cond.code y_CA_status b_CA_status 1 (some .int) :: xTG) rm_CA_status (xPre G M [.ref (G.1 8 0)]) (xPi G post) 0 0 (xA G) := by
  refine xMet (own := R_CA) [.ref (G.1 8 0)] (Or.inl (by decide)) rfl (Nat.le_of_ble_eq_true rfl) (fun p e s m args below meth c ls hC hr hlk hR hS hl => ?_)
  have hx := hC.1
  have hb := hC.2.1
  have hl : lv_has ls 1 [(0, .ref (G.1 8 0))] := hl
  obtain ⟨H, eH⟩ : ∃ H : Heap, H = s.heap := ⟨_, rfl⟩
  obtain ⟨locs, eL⟩ : ∃ locs : List Loc, locs = [] := ⟨_, rfl⟩
  rw [← eH] at hR
  replace hS : va_S (xA G) s.heap H locs := by rw [eH, eL]; exact hS
  suffices hh : W p l e rm_CA_status s m args below meth c H locs 0 0 (MQ below (xPi G post) args s 0 0 (xA G)) (F0 m 0 ls []) from by rw [eH, eL] at hh; exact hh
  unfold xw_CA_status at h
  refine lv_aload_n (pc := 0) hx hb xd_CA_status_0 rfl (lv_at hl 0 rfl) ?_
  refine xr_get (pc := 1) (v := .int (M 8 0 8)) hC hR xo_C0 xf_CA_58 rfl xd_CA_status_1 ?_
  exact xr_iret hC hr hlk hR hS h xd_CA_status_4
