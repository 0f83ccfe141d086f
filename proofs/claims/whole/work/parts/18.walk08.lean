/-! ColoursApart.box(III)I -/
theorem xd_CA_box_0 : decode b_CA_box 0 = .ok (.iload_n 1, 1) := by decide +kernel
theorem xd_CA_box_1 : decode b_CA_box 1 = .ok (.invokestatic 185, 3) := by decide +kernel
theorem xd_CA_box_4 : decode b_CA_box 4 = .ok (.ifCond .eq 42, 3) := by decide +kernel
theorem xd_CA_box_7 : decode b_CA_box 7 = .ok (.iload_n 2, 1) := by decide +kernel
theorem xd_CA_box_8 : decode b_CA_box 8 = .ok (.invokestatic 142, 3) := by decide +kernel
theorem xd_CA_box_11 : decode b_CA_box 11 = .ok (.ifCond .eq 35, 3) := by decide +kernel
theorem xd_CA_box_14 : decode b_CA_box 14 = .ok (.iload_n 3, 1) := by decide +kernel
theorem xd_CA_box_15 : decode b_CA_box 15 = .ok (.invokestatic 142, 3) := by decide +kernel
theorem xd_CA_box_18 : decode b_CA_box 18 = .ok (.ifCond .eq 28, 3) := by decide +kernel
theorem xd_CA_box_21 : decode b_CA_box 21 = .ok (.iload_n 2, 1) := by decide +kernel
theorem xd_CA_box_22 : decode b_CA_box 22 = .ok (.iload_n 2, 1) := by decide +kernel
theorem xd_CA_box_23 : decode b_CA_box 23 = .ok (.iload_n 3, 1) := by decide +kernel
theorem xd_CA_box_24 : decode b_CA_box 24 = .ok (.invokestatic 194, 3) := by decide +kernel
theorem xd_CA_box_27 : decode b_CA_box 27 = .ok (.ifCond .eq 19, 3) := by decide +kernel
theorem xd_CA_box_30 : decode b_CA_box 30 = .ok (.aload_n 0, 1) := by decide +kernel
theorem xd_CA_box_31 : decode b_CA_box 31 = .ok (.getfield 10, 3) := by decide +kernel
theorem xd_CA_box_34 : decode b_CA_box 34 = .ok (.getfield 160, 3) := by decide +kernel
theorem xd_CA_box_37 : decode b_CA_box 37 = .ok (.iload_n 1, 1) := by decide +kernel
theorem xd_CA_box_38 : decode b_CA_box 38 = .ok (.iload_n 2, 1) := by decide +kernel
theorem xd_CA_box_39 : decode b_CA_box 39 = .ok (.iload_n 3, 1) := by decide +kernel
theorem xd_CA_box_40 : decode b_CA_box 40 = .ok (.invokevirtual 198, 3) := by decide +kernel
theorem xd_CA_box_43 : decode b_CA_box 43 = .ok (.ifCond .eq 9, 3) := by decide +kernel
theorem xd_CA_box_46 : decode b_CA_box 46 = .ok (.aload_n 0, 1) := by decide +kernel
theorem xd_CA_box_47 : decode b_CA_box 47 = .ok (.iconst (-1), 1) := by decide +kernel
theorem xd_CA_box_48 : decode b_CA_box 48 = .ok (.invokevirtual 67, 3) := by decide +kernel
theorem xd_CA_box_51 : decode b_CA_box 51 = .ok (.ireturn, 1) := by decide +kernel
theorem xd_CA_box_52 : decode b_CA_box 52 = .ok (.aload_n 0, 1) := by decide +kernel
theorem xd_CA_box_53 : decode b_CA_box 53 = .ok (.getfield 10, 3) := by decide +kernel
theorem xd_CA_box_56 : decode b_CA_box 56 = .ok (.getfield 160, 3) := by decide +kernel
theorem xd_CA_box_59 : decode b_CA_box 59 = .ok (.getfield 201, 3) := by decide +kernel
theorem xd_CA_box_62 : decode b_CA_box 62 = .ok (.iload_n 1, 1) := by decide +kernel
theorem xd_CA_box_63 : decode b_CA_box 63 = .ok (.iload_n 2, 1) := by decide +kernel
theorem xd_CA_box_64 : decode b_CA_box 64 = .ok (.iastore, 1) := by decide +kernel
theorem xd_CA_box_65 : decode b_CA_box 65 = .ok (.aload_n 0, 1) := by decide +kernel
theorem xd_CA_box_66 : decode b_CA_box 66 = .ok (.getfield 10, 3) := by decide +kernel
theorem xd_CA_box_69 : decode b_CA_box 69 = .ok (.getfield 160, 3) := by decide +kernel
theorem xd_CA_box_72 : decode b_CA_box 72 = .ok (.getfield 204, 3) := by decide +kernel
theorem xd_CA_box_75 : decode b_CA_box 75 = .ok (.iload_n 1, 1) := by decide +kernel
theorem xd_CA_box_76 : decode b_CA_box 76 = .ok (.iload_n 3, 1) := by decide +kernel
theorem xd_CA_box_77 : decode b_CA_box 77 = .ok (.iastore, 1) := by decide +kernel
theorem xd_CA_box_78 : decode b_CA_box 78 = .ok (.aload_n 0, 1) := by decide +kernel
theorem xd_CA_box_79 : decode b_CA_box 79 = .ok (.iconst 0, 1) := by decide +kernel
theorem xd_CA_box_80 : decode b_CA_box 80 = .ok (.invokevirtual 78, 3) := by decide +kernel
theorem xd_CA_box_83 : decode b_CA_box 83 = .ok (.ireturn, 1) := by decide +kernel
abbrev rm_CA_box : Room := { frames := 3, cells := 0, slots := 0, locals := 66 }
def xw_CA_box (a1 : Int32) (a2 : Int32) (a3 : Int32) (M : xM) (post : Int32 → xM → Prop) : Prop :=
  xw_CA_isName a1 M (fun (r2 : Int32) (M1 : xM) => xj (fun (J46_2 : xM → Prop) => ((r2 = 0) → (J46_2  M1)) ∧ ((¬ r2 = 0) → (xw_Rg_isColour a2 M1 (fun (r8 : Int32) (M7 : xM) => ((r8 = 0) → (J46_2  M7)) ∧ ((¬ r8 = 0) → (xw_Rg_isColour a3 M7 (fun (r10 : Int32) (M9 : xM) => ((r10 = 0) → (J46_2  M9)) ∧ ((¬ r10 = 0) → (xw_Rg_isBetween a2 a2 a3 M9 (fun (r12 : Int32) (M11 : xM) => ((r12 = 0) → (J46_2  M11)) ∧ ((¬ r12 = 0) → (xw_Ho_wouldLeaveOut 0 a1 a2 a3 M11 (fun (r14 : Int32) (M13 : xM) => ((r14 = 0) → ((vp_in a1 8) ∧ ((vp_in a1 8) ∧ (xw_CA_taken (0 : Int32) (us (us M13 0 7 a1.toNatClampNeg a2) 0 8 a1.toNatClampNeg a3) (fun (r16 : Int32) (M15 : xM) => post r16 M15))))) ∧ ((¬ r14 = 0) → (J46_2  M13))))))))))))))) (fun (M4 : xM) => xw_CA_refused (-1 : Int32) M4 (fun (r6 : Int32) (M5 : xM) => post r6 M5)))
set_option maxHeartbeats 4000000 in
set_option maxRecDepth 100000 in
theorem xc_CA_box (l : Launch) (G : xG) {a1 : Int32} {a2 : Int32} {a3 : Int32}  {M : xM} {post : Int32 → xM → Prop} (h : xw_CA_box a1 a2 a3 M post) : Met l y_CA_box (Cond.code y_CA_box b_CA_box 4 (some .int) :: xTG) rm_CA_box (xPre G M [.ref (G.1 8 0), .int a1, .int a2, .int a3]) (xPi G post) 0 0 (xA G) := by
  refine xMet (own := R_CA) [.ref (G.1 8 0), .int a1, .int a2, .int a3] (Or.inl (by decide)) rfl (Nat.le_of_ble_eq_true rfl) (fun p e s m args below meth c ls hC hr hlk hR hS hl => ?_)
  have hx := hC.1
  have hb := hC.2.1
  have hl : lv_has ls 4 [(0, .ref (G.1 8 0)), (1, .int a1), (2, .int a2), (3, .int a3)] := hl
  obtain ⟨H, eH⟩ : ∃ H : Heap, H = s.heap := ⟨_, rfl⟩
  obtain ⟨locs, eL⟩ : ∃ locs : List Loc, locs = [] := ⟨_, rfl⟩
  rw [← eH] at hR
  replace hS : va_S (xA G) s.heap H locs := by rw [eH, eL]; exact hS
  suffices hh : W p l e rm_CA_box s m args below meth c H locs 0 0 (MQ below (xPi G post) args s 0 0 (xA G)) (F0 m 0 ls []) from by rw [eH, eL] at hh; exact hh
  unfold xw_CA_box at h
  refine lv_iload_n (pc := 0) hx hb xd_CA_box_0 rfl (lv_at hl 1 rfl) ?_
  refine xr_callS (pc := 1) (As := [.int a1]) (rest := []) hC hR hS (xc_CA_isName l G  h) xv_CA_185 ⟨rfl, rfl, Nat.le_of_ble_eq_true rfl, Nat.le_of_ble_eq_true rfl⟩ rfl hl.1 rfl (Nat.le_of_ble_eq_true rfl) xd_CA_box_1 (fun r2 M1 H locs h hR hS => ?_)
  obtain ⟨J46_2, eJ46_2, h⟩ := xj_open h
  have kJ46_2 : ∀ (M4 : xM) (H : Heap) (locs : List Loc) (ls : Array Slot), J46_2 M4 → xRp G M4 H → va_S (xA G) s.heap H locs → lv_has ls 4 [(0, .ref (G.1 8 0))] → W p l e rm_CA_box s m args below meth c H locs 0 0 (MQ below (xPi G post) args s 0 0 (xA G)) (F0 m 46 ls []) := by
    intro M4 H locs ls h hR hS hl
    rw [eJ46_2] at h
    refine lv_aload_n (pc := 46) hx hb xd_CA_box_46 rfl (lv_at hl 0 rfl) ?_
    refine lv_iconst (pc := 47) (v := (-1 : Int32)) hx hb xd_CA_box_47 (by decide) ?_
    refine xr_callV (pc := 48) (As := [.int (-1 : Int32)]) (rest := []) hC hR hS (xc_CA_refused l G  h) xo_C0 xv_CA_67 ⟨rfl, rfl, Nat.le_of_ble_eq_true rfl, Nat.le_of_ble_eq_true rfl⟩ rfl hl.1 rfl (Nat.le_of_ble_eq_true rfl) xd_CA_box_48 (fun r6 M5 H locs h hR hS => ?_)
    exact xr_iret hC hr hlk hR hS h xd_CA_box_51
  refine lv_if_eq (pc := 4) (tgt := 46) hx hb xd_CA_box_4 (by decide) (fun hq => ?_) (fun hq => ?_)
  · have h := h.1 hq
    exact kJ46_2  M1 H locs ls h hR hS (lv_sub hl [0] rfl)
  · have h := h.2 hq
    refine lv_iload_n (pc := 7) hx hb xd_CA_box_7 rfl (lv_at hl 2 rfl) ?_
    refine xr_callS (pc := 8) (As := [.int a2]) (rest := []) hC hR hS (xc_Rg_isColour l G  h) xv_CA_142 ⟨rfl, rfl, Nat.le_of_ble_eq_true rfl, Nat.le_of_ble_eq_true rfl⟩ rfl hl.1 rfl (Nat.le_of_ble_eq_true rfl) xd_CA_box_8 (fun r8 M7 H locs h hR hS => ?_)
    refine lv_if_eq (pc := 11) (tgt := 46) hx hb xd_CA_box_11 (by decide) (fun hq => ?_) (fun hq => ?_)
    · have h := h.1 hq
      exact kJ46_2  M7 H locs ls h hR hS (lv_sub hl [0] rfl)
    · have h := h.2 hq
      refine lv_iload_n (pc := 14) hx hb xd_CA_box_14 rfl (lv_at hl 3 rfl) ?_
      refine xr_callS (pc := 15) (As := [.int a3]) (rest := []) hC hR hS (xc_Rg_isColour l G  h) xv_CA_142 ⟨rfl, rfl, Nat.le_of_ble_eq_true rfl, Nat.le_of_ble_eq_true rfl⟩ rfl hl.1 rfl (Nat.le_of_ble_eq_true rfl) xd_CA_box_15 (fun r10 M9 H locs h hR hS => ?_)
      refine lv_if_eq (pc := 18) (tgt := 46) hx hb xd_CA_box_18 (by decide) (fun hq => ?_) (fun hq => ?_)
      · have h := h.1 hq
        exact kJ46_2  M9 H locs ls h hR hS (lv_sub hl [0] rfl)
      · have h := h.2 hq
        refine lv_iload_n (pc := 21) hx hb xd_CA_box_21 rfl (lv_at hl 2 rfl) ?_
        refine lv_iload_n (pc := 22) hx hb xd_CA_box_22 rfl (lv_at hl 2 rfl) ?_
        refine lv_iload_n (pc := 23) hx hb xd_CA_box_23 rfl (lv_at hl 3 rfl) ?_
        refine xr_callS (pc := 24) (As := [.int a2, .int a2, .int a3]) (rest := []) hC hR hS (xc_Rg_isBetween l G  h) xv_CA_194 ⟨rfl, rfl, Nat.le_of_ble_eq_true rfl, Nat.le_of_ble_eq_true rfl⟩ rfl hl.1 rfl (Nat.le_of_ble_eq_true rfl) xd_CA_box_24 (fun r12 M11 H locs h hR hS => ?_)
        refine lv_if_eq (pc := 27) (tgt := 46) hx hb xd_CA_box_27 (by decide) (fun hq => ?_) (fun hq => ?_)
        · have h := h.1 hq
          exact kJ46_2  M11 H locs ls h hR hS (lv_sub hl [0] rfl)
        · have h := h.2 hq
          refine lv_aload_n (pc := 30) hx hb xd_CA_box_30 rfl (lv_at hl 0 rfl) ?_
          refine xr_get (pc := 31) (v := .ref (G.1 0 0)) hC hR xo_C0 xf_CA_10 rfl xd_CA_box_31 ?_
          refine xr_get (pc := 34) (v := .ref (G.1 0 3)) hC hR (xo_K0 xg0) xf_CA_160 rfl xd_CA_box_34 ?_
          refine lv_iload_n (pc := 37) hx hb xd_CA_box_37 rfl (lv_at hl 1 rfl) ?_
          refine lv_iload_n (pc := 38) hx hb xd_CA_box_38 rfl (lv_at hl 2 rfl) ?_
          refine lv_iload_n (pc := 39) hx hb xd_CA_box_39 rfl (lv_at hl 3 rfl) ?_
          refine xr_callV (pc := 40) (As := [.int a1, .int a2, .int a3]) (rest := []) hC hR hS (xc_Ho_wouldLeaveOut l G xg0 h) (xo_K3 xg0) xv_CA_198 ⟨rfl, rfl, Nat.le_of_ble_eq_true rfl, Nat.le_of_ble_eq_true rfl⟩ rfl hl.1 rfl (Nat.le_of_ble_eq_true rfl) xd_CA_box_40 (fun r14 M13 H locs h hR hS => ?_)
          refine lv_if_eq (pc := 43) (tgt := 52) hx hb xd_CA_box_43 (by decide) (fun hq => ?_) (fun hq => ?_)
          · have h := h.1 hq
            refine lv_aload_n (pc := 52) hx hb xd_CA_box_52 rfl (lv_at hl 0 rfl) ?_
            refine xr_get (pc := 53) (v := .ref (G.1 0 0)) hC hR xo_C0 xf_CA_10 rfl xd_CA_box_53 ?_
            refine xr_get (pc := 56) (v := .ref (G.1 0 3)) hC hR (xo_K0 xg0) xf_CA_160 rfl xd_CA_box_56 ?_
            refine xr_get (pc := 59) (v := .ref (G.1 0 7)) hC hR (xo_K3 xg0) xf_CA_201 rfl xd_CA_box_59 ?_
            refine lv_iload_n (pc := 62) hx hb xd_CA_box_62 rfl (lv_at hl 1 rfl) ?_
            refine lv_iload_n (pc := 63) hx hb xd_CA_box_63 rfl (lv_at hl 2 rfl) ?_
            obtain ⟨hq, h⟩ := h
            refine xr_iast (pc := 64) hC hR hS (xo_K7 xg0) hq xd_CA_box_64 (fun H locs hR hS => ?_)
            refine lv_aload_n (pc := 65) hx hb xd_CA_box_65 rfl (lv_at hl 0 rfl) ?_
            refine xr_get (pc := 66) (v := .ref (G.1 0 0)) hC hR xo_C0 xf_CA_10 rfl xd_CA_box_66 ?_
            refine xr_get (pc := 69) (v := .ref (G.1 0 3)) hC hR (xo_K0 xg0) xf_CA_160 rfl xd_CA_box_69 ?_
            refine xr_get (pc := 72) (v := .ref (G.1 0 8)) hC hR (xo_K3 xg0) xf_CA_204 rfl xd_CA_box_72 ?_
            refine lv_iload_n (pc := 75) hx hb xd_CA_box_75 rfl (lv_at hl 1 rfl) ?_
            refine lv_iload_n (pc := 76) hx hb xd_CA_box_76 rfl (lv_at hl 3 rfl) ?_
            obtain ⟨hq, h⟩ := h
            refine xr_iast (pc := 77) hC hR hS (xo_K8 xg0) hq xd_CA_box_77 (fun H locs hR hS => ?_)
            refine lv_aload_n (pc := 78) hx hb xd_CA_box_78 rfl (lv_at hl 0 rfl) ?_
            refine lv_iconst (pc := 79) (v := (0 : Int32)) hx hb xd_CA_box_79 (by decide) ?_
            refine xr_callV (pc := 80) (As := [.int (0 : Int32)]) (rest := []) hC hR hS (xc_CA_taken l G  h) xo_C0 xv_CA_78 ⟨rfl, rfl, Nat.le_of_ble_eq_true rfl, Nat.le_of_ble_eq_true rfl⟩ rfl hl.1 rfl (Nat.le_of_ble_eq_true rfl) xd_CA_box_80 (fun r16 M15 H locs h hR hS => ?_)
            exact xr_iret hC hr hlk hR hS h xd_CA_box_83
          · have h := h.2 hq
            exact kJ46_2  M13 H locs ls h hR hS (lv_sub hl [0] rfl)

/-! ColoursApart.pair(III)I -/
theorem xd_CA_pair_0 : decode b_CA_pair 0 = .ok (.iload_n 1, 1) := by decide +kernel
theorem xd_CA_pair_1 : decode b_CA_pair 1 = .ok (.iload_n 2, 1) := by decide +kernel
theorem xd_CA_pair_2 : decode b_CA_pair 2 = .ok (.if_icmp .eq 16, 3) := by decide +kernel
theorem xd_CA_pair_5 : decode b_CA_pair 5 = .ok (.iload_n 3, 1) := by decide +kernel
theorem xd_CA_pair_6 : decode b_CA_pair 6 = .ok (.bipush 10, 2) := by decide +kernel
theorem xd_CA_pair_8 : decode b_CA_pair 8 = .ok (.if_icmp .lt 10, 3) := by decide +kernel
theorem xd_CA_pair_11 : decode b_CA_pair 11 = .ok (.iload_n 3, 1) := by decide +kernel
theorem xd_CA_pair_12 : decode b_CA_pair 12 = .ok (.sipush 210, 3) := by decide +kernel
theorem xd_CA_pair_15 : decode b_CA_pair 15 = .ok (.if_icmp .le 9, 3) := by decide +kernel
theorem xd_CA_pair_18 : decode b_CA_pair 18 = .ok (.aload_n 0, 1) := by decide +kernel
theorem xd_CA_pair_19 : decode b_CA_pair 19 = .ok (.iconst (-1), 1) := by decide +kernel
theorem xd_CA_pair_20 : decode b_CA_pair 20 = .ok (.invokevirtual 67, 3) := by decide +kernel
theorem xd_CA_pair_23 : decode b_CA_pair 23 = .ok (.ireturn, 1) := by decide +kernel
theorem xd_CA_pair_24 : decode b_CA_pair 24 = .ok (.aload_n 0, 1) := by decide +kernel
theorem xd_CA_pair_25 : decode b_CA_pair 25 = .ok (.getfield 10, 3) := by decide +kernel
theorem xd_CA_pair_28 : decode b_CA_pair 28 = .ok (.getfield 160, 3) := by decide +kernel
theorem xd_CA_pair_31 : decode b_CA_pair 31 = .ok (.iload_n 1, 1) := by decide +kernel
theorem xd_CA_pair_32 : decode b_CA_pair 32 = .ok (.invokevirtual 173, 3) := by decide +kernel
theorem xd_CA_pair_35 : decode b_CA_pair 35 = .ok (.ifCond .eq 17, 3) := by decide +kernel
theorem xd_CA_pair_38 : decode b_CA_pair 38 = .ok (.aload_n 0, 1) := by decide +kernel
theorem xd_CA_pair_39 : decode b_CA_pair 39 = .ok (.getfield 10, 3) := by decide +kernel
theorem xd_CA_pair_42 : decode b_CA_pair 42 = .ok (.getfield 160, 3) := by decide +kernel
theorem xd_CA_pair_45 : decode b_CA_pair 45 = .ok (.iload_n 2, 1) := by decide +kernel
theorem xd_CA_pair_46 : decode b_CA_pair 46 = .ok (.invokevirtual 173, 3) := by decide +kernel
theorem xd_CA_pair_49 : decode b_CA_pair 49 = .ok (.ifCond .ne 10, 3) := by decide +kernel
theorem xd_CA_pair_52 : decode b_CA_pair 52 = .ok (.aload_n 0, 1) := by decide +kernel
theorem xd_CA_pair_53 : decode b_CA_pair 53 = .ok (.bipush (-2), 2) := by decide +kernel
theorem xd_CA_pair_55 : decode b_CA_pair 55 = .ok (.invokevirtual 67, 3) := by decide +kernel
theorem xd_CA_pair_58 : decode b_CA_pair 58 = .ok (.ireturn, 1) := by decide +kernel
theorem xd_CA_pair_59 : decode b_CA_pair 59 = .ok (.aload_n 0, 1) := by decide +kernel
theorem xd_CA_pair_60 : decode b_CA_pair 60 = .ok (.getfield 10, 3) := by decide +kernel
theorem xd_CA_pair_63 : decode b_CA_pair 63 = .ok (.getfield 160, 3) := by decide +kernel
theorem xd_CA_pair_66 : decode b_CA_pair 66 = .ok (.iload_n 1, 1) := by decide +kernel
theorem xd_CA_pair_67 : decode b_CA_pair 67 = .ok (.iload_n 2, 1) := by decide +kernel
theorem xd_CA_pair_68 : decode b_CA_pair 68 = .ok (.invokestatic 207, 3) := by decide +kernel
theorem xd_CA_pair_71 : decode b_CA_pair 71 = .ok (.iload_n 1, 1) := by decide +kernel
theorem xd_CA_pair_72 : decode b_CA_pair 72 = .ok (.iload_n 2, 1) := by decide +kernel
theorem xd_CA_pair_73 : decode b_CA_pair 73 = .ok (.invokestatic 212, 3) := by decide +kernel
theorem xd_CA_pair_76 : decode b_CA_pair 76 = .ok (.iload_n 3, 1) := by decide +kernel
theorem xd_CA_pair_77 : decode b_CA_pair 77 = .ok (.invokevirtual 215, 3) := by decide +kernel
theorem xd_CA_pair_80 : decode b_CA_pair 80 = .ok (.ifCond .ne 10, 3) := by decide +kernel
theorem xd_CA_pair_83 : decode b_CA_pair 83 = .ok (.aload_n 0, 1) := by decide +kernel
theorem xd_CA_pair_84 : decode b_CA_pair 84 = .ok (.bipush (-5), 2) := by decide +kernel
theorem xd_CA_pair_86 : decode b_CA_pair 86 = .ok (.invokevirtual 67, 3) := by decide +kernel
theorem xd_CA_pair_89 : decode b_CA_pair 89 = .ok (.ireturn, 1) := by decide +kernel
theorem xd_CA_pair_90 : decode b_CA_pair 90 = .ok (.aload_n 0, 1) := by decide +kernel
theorem xd_CA_pair_91 : decode b_CA_pair 91 = .ok (.aload_n 0, 1) := by decide +kernel
theorem xd_CA_pair_92 : decode b_CA_pair 92 = .ok (.getfield 10, 3) := by decide +kernel
theorem xd_CA_pair_95 : decode b_CA_pair 95 = .ok (.getfield 160, 3) := by decide +kernel
theorem xd_CA_pair_98 : decode b_CA_pair 98 = .ok (.getfield 218, 3) := by decide +kernel
theorem xd_CA_pair_101 : decode b_CA_pair 101 = .ok (.invokevirtual 78, 3) := by decide +kernel
theorem xd_CA_pair_104 : decode b_CA_pair 104 = .ok (.ireturn, 1) := by decide +kernel
abbrev rm_CA_pair : Room := { frames := 2, cells := 0, slots := 0, locals := 48 }
def xw_CA_pair (a1 : Int32) (a2 : Int32) (a3 : Int32) (M : xM) (post : Int32 → xM → Prop) : Prop :=
  xj (fun (J18_0 : xM → Prop) => ((a1 = a2) → (J18_0  M)) ∧ ((¬ a1 = a2) → (((a3 < (10 : Int32)) → (J18_0  M)) ∧ ((¬ a3 < (10 : Int32)) → (((a3 ≤ (210 : Int32)) → (xw_Ho_has 0 a1 M (fun (r6 : Int32) (M5 : xM) => xj (fun (J52_6 : xM → Prop) => ((r6 = 0) → (J52_6  M5)) ∧ ((¬ r6 = 0) → (xw_Ho_has 0 a2 M5 (fun (r12 : Int32) (M11 : xM) => ((¬ r12 = 0) → (xw_Ho_bind 0 (if a2 < a1 then a2 else a1) (if a1 < a2 then a2 else a1) a3 M11 (fun (r14 : Int32) (M13 : xM) => ((¬ r14 = 0) → (xw_CA_taken (M13 0 3 6) M13 (fun (r16 : Int32) (M15 : xM) => post r16 M15))) ∧ ((r14 = 0) → (xw_CA_refused (-5 : Int32) M13 (fun (r18 : Int32) (M17 : xM) => post r18 M17)))))) ∧ ((r12 = 0) → (J52_6  M11)))))) (fun (M8 : xM) => xw_CA_refused (-2 : Int32) M8 (fun (r10 : Int32) (M9 : xM) => post r10 M9))))) ∧ ((¬ a3 ≤ (210 : Int32)) → (J18_0  M))))))) (fun (M2 : xM) => xw_CA_refused (-1 : Int32) M2 (fun (r4 : Int32) (M3 : xM) => post r4 M3))
set_option maxHeartbeats 4000000 in
set_option maxRecDepth 100000 in
theorem xc_CA_pair (l : Launch) (G : xG) {a1 : Int32} {a2 : Int32} {a3 : Int32}  {M : xM} {post : Int32 → xM → Prop} (h : xw_CA_pair a1 a2 a3 M post) : Met l y_CA_pair (Cond.code y_CA_pair b_CA_pair 4 (some .int) :: xTG) rm_CA_pair (xPre G M [.ref (G.1 8 0), .int a1, .int a2, .int a3]) (xPi G post) 0 0 (xA G) := by
  refine xMet (own := R_CA) [.ref (G.1 8 0), .int a1, .int a2, .int a3] (Or.inl (by decide)) rfl (Nat.le_of_ble_eq_true rfl) (fun p e s m args below meth c ls hC hr hlk hR hS hl => ?_)
  have hx := hC.1
  have hb := hC.2.1
  have hl : lv_has ls 4 [(0, .ref (G.1 8 0)), (1, .int a1), (2, .int a2), (3, .int a3)] := hl
  obtain ⟨H, eH⟩ : ∃ H : Heap, H = s.heap := ⟨_, rfl⟩
  obtain ⟨locs, eL⟩ : ∃ locs : List Loc, locs = [] := ⟨_, rfl⟩
  rw [← eH] at hR
  replace hS : va_S (xA G) s.heap H locs := by rw [eH, eL]; exact hS
  suffices hh : W p l e rm_CA_pair s m args below meth c H locs 0 0 (MQ below (xPi G post) args s 0 0 (xA G)) (F0 m 0 ls []) from by rw [eH, eL] at hh; exact hh
  unfold xw_CA_pair at h
  refine lv_iload_n (pc := 0) hx hb xd_CA_pair_0 rfl (lv_at hl 1 rfl) ?_
  refine lv_iload_n (pc := 1) hx hb xd_CA_pair_1 rfl (lv_at hl 2 rfl) ?_
  obtain ⟨J18_0, eJ18_0, h⟩ := xj_open h
  have kJ18_0 : ∀ (M2 : xM) (H : Heap) (locs : List Loc) (ls : Array Slot), J18_0 M2 → xRp G M2 H → va_S (xA G) s.heap H locs → lv_has ls 4 [(0, .ref (G.1 8 0))] → W p l e rm_CA_pair s m args below meth c H locs 0 0 (MQ below (xPi G post) args s 0 0 (xA G)) (F0 m 18 ls []) := by
    intro M2 H locs ls h hR hS hl
    rw [eJ18_0] at h
    refine lv_aload_n (pc := 18) hx hb xd_CA_pair_18 rfl (lv_at hl 0 rfl) ?_
    refine lv_iconst (pc := 19) (v := (-1 : Int32)) hx hb xd_CA_pair_19 (by decide) ?_
    refine xr_callV (pc := 20) (As := [.int (-1 : Int32)]) (rest := []) hC hR hS (xc_CA_refused l G  h) xo_C0 xv_CA_67 ⟨rfl, rfl, Nat.le_of_ble_eq_true rfl, Nat.le_of_ble_eq_true rfl⟩ rfl hl.1 rfl (Nat.le_of_ble_eq_true rfl) xd_CA_pair_20 (fun r4 M3 H locs h hR hS => ?_)
    exact xr_iret hC hr hlk hR hS h xd_CA_pair_23
  refine lv_icmp_eq (pc := 2) (tgt := 18) hx hb xd_CA_pair_2 (by decide) (fun hq => ?_) (fun hq => ?_)
  · have h := h.1 hq
    exact kJ18_0  M H locs ls h hR hS (lv_sub hl [0] rfl)
  · have h := h.2 hq
    refine lv_iload_n (pc := 5) hx hb xd_CA_pair_5 rfl (lv_at hl 3 rfl) ?_
    refine lv_bipush (pc := 6) (v := (10 : Int32)) hx hb xd_CA_pair_6 (by decide) ?_
    refine lv_icmp_lt (pc := 8) (tgt := 18) hx hb xd_CA_pair_8 (by decide) (fun hq => ?_) (fun hq => ?_)
    · have h := h.1 hq
      exact kJ18_0  M H locs ls h hR hS (lv_sub hl [0] rfl)
    · have h := h.2 hq
      refine lv_iload_n (pc := 11) hx hb xd_CA_pair_11 rfl (lv_at hl 3 rfl) ?_
      refine lv_sipush (pc := 12) (v := (210 : Int32)) hx hb xd_CA_pair_12 (by decide) ?_
      refine lv_icmp_le (pc := 15) (tgt := 24) hx hb xd_CA_pair_15 (by decide) (fun hq => ?_) (fun hq => ?_)
      · have h := h.1 hq
        refine lv_aload_n (pc := 24) hx hb xd_CA_pair_24 rfl (lv_at hl 0 rfl) ?_
        refine xr_get (pc := 25) (v := .ref (G.1 0 0)) hC hR xo_C0 xf_CA_10 rfl xd_CA_pair_25 ?_
        refine xr_get (pc := 28) (v := .ref (G.1 0 3)) hC hR (xo_K0 xg0) xf_CA_160 rfl xd_CA_pair_28 ?_
        refine lv_iload_n (pc := 31) hx hb xd_CA_pair_31 rfl (lv_at hl 1 rfl) ?_
        refine xr_callV (pc := 32) (As := [.int a1]) (rest := []) hC hR hS (xc_Ho_has l G xg0 h) (xo_K3 xg0) xv_CA_173 ⟨rfl, rfl, Nat.le_of_ble_eq_true rfl, Nat.le_of_ble_eq_true rfl⟩ rfl hl.1 rfl (Nat.le_of_ble_eq_true rfl) xd_CA_pair_32 (fun r6 M5 H locs h hR hS => ?_)
        obtain ⟨J52_6, eJ52_6, h⟩ := xj_open h
        have kJ52_6 : ∀ (M8 : xM) (H : Heap) (locs : List Loc) (ls : Array Slot), J52_6 M8 → xRp G M8 H → va_S (xA G) s.heap H locs → lv_has ls 4 [(0, .ref (G.1 8 0))] → W p l e rm_CA_pair s m args below meth c H locs 0 0 (MQ below (xPi G post) args s 0 0 (xA G)) (F0 m 52 ls []) := by
          intro M8 H locs ls h hR hS hl
          rw [eJ52_6] at h
          refine lv_aload_n (pc := 52) hx hb xd_CA_pair_52 rfl (lv_at hl 0 rfl) ?_
          refine lv_bipush (pc := 53) (v := (-2 : Int32)) hx hb xd_CA_pair_53 (by decide) ?_
          refine xr_callV (pc := 55) (As := [.int (-2 : Int32)]) (rest := []) hC hR hS (xc_CA_refused l G  h) xo_C0 xv_CA_67 ⟨rfl, rfl, Nat.le_of_ble_eq_true rfl, Nat.le_of_ble_eq_true rfl⟩ rfl hl.1 rfl (Nat.le_of_ble_eq_true rfl) xd_CA_pair_55 (fun r10 M9 H locs h hR hS => ?_)
          exact xr_iret hC hr hlk hR hS h xd_CA_pair_58
        refine lv_if_eq (pc := 35) (tgt := 52) hx hb xd_CA_pair_35 (by decide) (fun hq => ?_) (fun hq => ?_)
        · have h := h.1 hq
          exact kJ52_6  M5 H locs ls h hR hS (lv_sub hl [0] rfl)
        · have h := h.2 hq
          refine lv_aload_n (pc := 38) hx hb xd_CA_pair_38 rfl (lv_at hl 0 rfl) ?_
          refine xr_get (pc := 39) (v := .ref (G.1 0 0)) hC hR xo_C0 xf_CA_10 rfl xd_CA_pair_39 ?_
          refine xr_get (pc := 42) (v := .ref (G.1 0 3)) hC hR (xo_K0 xg0) xf_CA_160 rfl xd_CA_pair_42 ?_
          refine lv_iload_n (pc := 45) hx hb xd_CA_pair_45 rfl (lv_at hl 2 rfl) ?_
          refine xr_callV (pc := 46) (As := [.int a2]) (rest := []) hC hR hS (xc_Ho_has l G xg0 h) (xo_K3 xg0) xv_CA_173 ⟨rfl, rfl, Nat.le_of_ble_eq_true rfl, Nat.le_of_ble_eq_true rfl⟩ rfl hl.1 rfl (Nat.le_of_ble_eq_true rfl) xd_CA_pair_46 (fun r12 M11 H locs h hR hS => ?_)
          refine lv_if_ne (pc := 49) (tgt := 59) hx hb xd_CA_pair_49 (by decide) (fun hq => ?_) (fun hq => ?_)
          · have h := h.1 hq
            refine lv_aload_n (pc := 59) hx hb xd_CA_pair_59 rfl (lv_at hl 0 rfl) ?_
            refine xr_get (pc := 60) (v := .ref (G.1 0 0)) hC hR xo_C0 xf_CA_10 rfl xd_CA_pair_60 ?_
            refine xr_get (pc := 63) (v := .ref (G.1 0 3)) hC hR (xo_K0 xg0) xf_CA_160 rfl xd_CA_pair_63 ?_
            refine lv_iload_n (pc := 66) hx hb xd_CA_pair_66 rfl (lv_at hl 1 rfl) ?_
            refine lv_iload_n (pc := 67) hx hb xd_CA_pair_67 rfl (lv_at hl 2 rfl) ?_
            refine xr_min (pc := 68) hC xk_CA_207 hl.1 (Nat.le_of_ble_eq_true rfl) (Nat.le_of_ble_eq_true rfl) xd_CA_pair_68 ?_
            refine lv_iload_n (pc := 71) hx hb xd_CA_pair_71 rfl (lv_at hl 1 rfl) ?_
            refine lv_iload_n (pc := 72) hx hb xd_CA_pair_72 rfl (lv_at hl 2 rfl) ?_
            refine xr_max (pc := 73) hC xk_CA_212 hl.1 (Nat.le_of_ble_eq_true rfl) (Nat.le_of_ble_eq_true rfl) xd_CA_pair_73 ?_
            refine lv_iload_n (pc := 76) hx hb xd_CA_pair_76 rfl (lv_at hl 3 rfl) ?_
            refine xr_callV (pc := 77) (As := [.int (if a2 < a1 then a2 else a1), .int (if a1 < a2 then a2 else a1), .int a3]) (rest := []) hC hR hS (xc_Ho_bind l G xg0 h) (xo_K3 xg0) xv_CA_215 ⟨rfl, rfl, Nat.le_of_ble_eq_true rfl, Nat.le_of_ble_eq_true rfl⟩ rfl hl.1 rfl (Nat.le_of_ble_eq_true rfl) xd_CA_pair_77 (fun r14 M13 H locs h hR hS => ?_)
            refine lv_if_ne (pc := 80) (tgt := 90) hx hb xd_CA_pair_80 (by decide) (fun hq => ?_) (fun hq => ?_)
            · have h := h.1 hq
              refine lv_aload_n (pc := 90) hx hb xd_CA_pair_90 rfl (lv_at hl 0 rfl) ?_
              refine lv_aload_n (pc := 91) hx hb xd_CA_pair_91 rfl (lv_at hl 0 rfl) ?_
              refine xr_get (pc := 92) (v := .ref (G.1 0 0)) hC hR xo_C0 xf_CA_10 rfl xd_CA_pair_92 ?_
              refine xr_get (pc := 95) (v := .ref (G.1 0 3)) hC hR (xo_K0 xg0) xf_CA_160 rfl xd_CA_pair_95 ?_
              refine xr_get (pc := 98) (v := .int (M13 0 3 6)) hC hR (xo_K3 xg0) xf_CA_218 rfl xd_CA_pair_98 ?_
              refine xr_callV (pc := 101) (As := [.int (M13 0 3 6)]) (rest := []) hC hR hS (xc_CA_taken l G  h) xo_C0 xv_CA_78 ⟨rfl, rfl, Nat.le_of_ble_eq_true rfl, Nat.le_of_ble_eq_true rfl⟩ rfl hl.1 rfl (Nat.le_of_ble_eq_true rfl) xd_CA_pair_101 (fun r16 M15 H locs h hR hS => ?_)
              exact xr_iret hC hr hlk hR hS h xd_CA_pair_104
            · have h := h.2 hq
              refine lv_aload_n (pc := 83) hx hb xd_CA_pair_83 rfl (lv_at hl 0 rfl) ?_
              refine lv_bipush (pc := 84) (v := (-5 : Int32)) hx hb xd_CA_pair_84 (by decide) ?_
              refine xr_callV (pc := 86) (As := [.int (-5 : Int32)]) (rest := []) hC hR hS (xc_CA_refused l G  h) xo_C0 xv_CA_67 ⟨rfl, rfl, Nat.le_of_ble_eq_true rfl, Nat.le_of_ble_eq_true rfl⟩ rfl hl.1 rfl (Nat.le_of_ble_eq_true rfl) xd_CA_pair_86 (fun r18 M17 H locs h hR hS => ?_)
              exact xr_iret hC hr hlk hR hS h xd_CA_pair_89
          · have h := h.2 hq
            exact kJ52_6  M11 H locs ls h hR hS (lv_sub hl [0] rfl)
      · have h := h.2 hq
        exact kJ18_0  M H locs ls h hR hS (lv_sub hl [0] rfl)

/-! ColoursApart.commonDivisor(II)I -/
theorem xd_CA_commonDivisor_0 : decode b_CA_commonDivisor 0 = .ok (.iload_n 0, 1) := by decide +kernel
theorem xd_CA_commonDivisor_1 : decode b_CA_commonDivisor 1 = .ok (.istore_n 2, 1) := by decide +kernel
theorem xd_CA_commonDivisor_2 : decode b_CA_commonDivisor 2 = .ok (.iload_n 1, 1) := by decide +kernel
theorem xd_CA_commonDivisor_3 : decode b_CA_commonDivisor 3 = .ok (.istore_n 3, 1) := by decide +kernel
theorem xd_CA_commonDivisor_4 : decode b_CA_commonDivisor 4 = .ok (.iconst 0, 1) := by decide +kernel
theorem xd_CA_commonDivisor_5 : decode b_CA_commonDivisor 5 = .ok (.istore 4, 2) := by decide +kernel
theorem xd_CA_commonDivisor_7 : decode b_CA_commonDivisor 7 = .ok (.iload 4, 2) := by decide +kernel
theorem xd_CA_commonDivisor_9 : decode b_CA_commonDivisor 9 = .ok (.bipush 32, 2) := by decide +kernel
theorem xd_CA_commonDivisor_11 : decode b_CA_commonDivisor 11 = .ok (.if_icmp .ge 23, 3) := by decide +kernel
theorem xd_CA_commonDivisor_14 : decode b_CA_commonDivisor 14 = .ok (.iload_n 3, 1) := by decide +kernel
theorem xd_CA_commonDivisor_15 : decode b_CA_commonDivisor 15 = .ok (.ifCond .eq 19, 3) := by decide +kernel
theorem xd_CA_commonDivisor_18 : decode b_CA_commonDivisor 18 = .ok (.iload_n 2, 1) := by decide +kernel
theorem xd_CA_commonDivisor_19 : decode b_CA_commonDivisor 19 = .ok (.iload_n 3, 1) := by decide +kernel
theorem xd_CA_commonDivisor_20 : decode b_CA_commonDivisor 20 = .ok (.irem, 1) := by decide +kernel
theorem xd_CA_commonDivisor_21 : decode b_CA_commonDivisor 21 = .ok (.istore 5, 2) := by decide +kernel
theorem xd_CA_commonDivisor_23 : decode b_CA_commonDivisor 23 = .ok (.iload_n 3, 1) := by decide +kernel
theorem xd_CA_commonDivisor_24 : decode b_CA_commonDivisor 24 = .ok (.istore_n 2, 1) := by decide +kernel
theorem xd_CA_commonDivisor_25 : decode b_CA_commonDivisor 25 = .ok (.iload 5, 2) := by decide +kernel
theorem xd_CA_commonDivisor_27 : decode b_CA_commonDivisor 27 = .ok (.istore_n 3, 1) := by decide +kernel
theorem xd_CA_commonDivisor_28 : decode b_CA_commonDivisor 28 = .ok (.iinc 4 1, 3) := by decide +kernel
theorem xd_CA_commonDivisor_31 : decode b_CA_commonDivisor 31 = .ok (.goto (-24), 3) := by decide +kernel
theorem xd_CA_commonDivisor_34 : decode b_CA_commonDivisor 34 = .ok (.iconst 1, 1) := by decide +kernel
theorem xd_CA_commonDivisor_35 : decode b_CA_commonDivisor 35 = .ok (.iload_n 2, 1) := by decide +kernel
theorem xd_CA_commonDivisor_36 : decode b_CA_commonDivisor 36 = .ok (.invokestatic 212, 3) := by decide +kernel
theorem xd_CA_commonDivisor_39 : decode b_CA_commonDivisor 39 = .ok (.ireturn, 1) := by decide +kernel
abbrev rm_CA_commonDivisor : Room := { frames := 1, cells := 0, slots := 0, locals := 24 }
def xw_CA_commonDivisor_7 (post : Int32 → xM → Prop) (k34 : Int32 → Int32 → Int32 → xM → Prop) : Nat → Int32 → Int32 → Int32 → xM → Prop
  | 0, _, _, _, _ => False
  | n7 + 1, x2, x3, x4, M => (((32 : Int32) ≤ x4) → (k34 x2 x3 x4 M)) ∧ ((¬ (32 : Int32) ≤ x4) → (((x3 = 0) → (k34 x2 x3 x4 M)) ∧ ((¬ x3 = 0) → ((¬ x3 = 0) ∧ (xw_CA_commonDivisor_7 post k34 n7 x3 (x2 - x2 / x3 * x3) (x4 + (1 : Int32)) M)))))
def xw_CA_commonDivisor (a0 : Int32) (a1 : Int32) (M : xM) (post : Int32 → xM → Prop) : Prop :=
  ∃ n7 : Nat, xw_CA_commonDivisor_7 post (fun (y1 : Int32) (y2 : Int32) (y3 : Int32) (M4 : xM) => post (if (1 : Int32) < y1 then y1 else (1 : Int32)) M4) n7 a0 a1 (0 : Int32) M
set_option maxHeartbeats 4000000 in
set_option maxRecDepth 100000 in
theorem xt_CA_commonDivisor_7 {p : Program} {l : Launch} {e : Env} {s : State} {m : MethodId} {args : Array Value} {below : List Frame} {meth : Method} {c : Code} {G : xG} (hC : xC p s m args c b_CA_commonDivisor R_CA 6 G) (hr : meth.sig.returnType = (some .int)) (hlk : meth.locks = false)  {post : Int32 → xM → Prop} {k34 : Int32 → Int32 → Int32 → xM → Prop} (hk34 : ∀ (x2 : Int32) (x3 : Int32) (x4 : Int32) (M : xM) (H : Heap) (locs : List Loc) (ls : Array Slot), k34 x2 x3 x4 M → xRp G M H → va_S (xA G) s.heap H locs → lv_has ls 6 [(2, .int x2), (3, .int x3), (4, .int x4)] → W p l e rm_CA_commonDivisor s m args below meth c H locs 0 0 (MQ below (xPi G post) args s 0 0 (xA G)) (F0 m 34 ls [])) : ∀ (n : Nat) (x2 : Int32) (x3 : Int32) (x4 : Int32) (M : xM) (H : Heap) (locs : List Loc) (ls : Array Slot), xw_CA_commonDivisor_7 post k34 n x2 x3 x4 M → xRp G M H → va_S (xA G) s.heap H locs → lv_has ls 6 [(2, .int x2), (3, .int x3), (4, .int x4)] → W p l e rm_CA_commonDivisor s m args below meth c H locs 0 0 (MQ below (xPi G post) args s 0 0 (xA G)) (F0 m 7 ls []) := by
  have hx := hC.1
  have hb := hC.2.1
  intro n
  induction n with
  | zero => intro x2 x3 x4 M H locs ls; exact fun h => h.elim
  | succ n ih =>
    intro x2 x3 x4 M H locs ls h hR hS hl
    refine lv_iload (pc := 7) hx hb xd_CA_commonDivisor_7 (lv_at hl 2 rfl) ?_
    refine lv_bipush (pc := 9) (v := (32 : Int32)) hx hb xd_CA_commonDivisor_9 (by decide) ?_
    refine lv_icmp_ge (pc := 11) (tgt := 34) hx hb xd_CA_commonDivisor_11 (by decide) (fun hq => ?_) (fun hq => ?_)
    · have h := h.1 hq
      exact hk34 x2 x3 x4 M H locs ls h hR hS (lv_sub hl [0, 1, 2] rfl)
    · have h := h.2 hq
      refine lv_iload_n (pc := 14) hx hb xd_CA_commonDivisor_14 rfl (lv_at hl 1 rfl) ?_
      refine lv_if_eq (pc := 15) (tgt := 34) hx hb xd_CA_commonDivisor_15 (by decide) (fun hq => ?_) (fun hq => ?_)
      · have h := h.1 hq
        exact hk34 x2 x3 x4 M H locs ls h hR hS (lv_sub hl [0, 1, 2] rfl)
      · have h := h.2 hq
        refine lv_iload_n (pc := 18) hx hb xd_CA_commonDivisor_18 rfl (lv_at hl 0 rfl) ?_
        refine lv_iload_n (pc := 19) hx hb xd_CA_commonDivisor_19 rfl (lv_at hl 1 rfl) ?_
        obtain ⟨hq, h⟩ := h
        refine lv_irem (pc := 20) hx hb xd_CA_commonDivisor_20 hq ?_
        refine lv_istore (pc := 21) (lv' := [(5, .int (x2 - x2 / x3 * x3)), (2, .int x2), (3, .int x3), (4, .int x4)]) hx hb xd_CA_commonDivisor_21 hl (by decide) rfl (fun ls hl => ?_)
        refine lv_iload_n (pc := 23) hx hb xd_CA_commonDivisor_23 rfl (lv_at hl 2 rfl) ?_
        refine lv_istore_n (pc := 24) (lv' := [(2, .int x3), (5, .int (x2 - x2 / x3 * x3)), (3, .int x3), (4, .int x4)]) hx hb xd_CA_commonDivisor_24 rfl hl (by decide) rfl (fun ls hl => ?_)
        refine lv_iload (pc := 25) hx hb xd_CA_commonDivisor_25 (lv_at hl 1 rfl) ?_
        refine lv_istore_n (pc := 27) (lv' := [(3, .int (x2 - x2 / x3 * x3)), (2, .int x3), (5, .int (x2 - x2 / x3 * x3)), (4, .int x4)]) hx hb xd_CA_commonDivisor_27 rfl hl (by decide) rfl (fun ls hl => ?_)
        refine lv_iinc (pc := 28) (v := (x4 + (1 : Int32))) (lv' := [(4, .int (x4 + (1 : Int32))), (3, .int (x2 - x2 / x3 * x3)), (2, .int x3), (5, .int (x2 - x2 / x3 * x3))]) hx hb xd_CA_commonDivisor_28 hl (k := 3) rfl rfl (by decide) rfl (fun ls hl => ?_)
        refine lv_goto (pc := 31) (tgt := 7) hx hb xd_CA_commonDivisor_31 (by decide) ?_
        exact ih x3 (x2 - x2 / x3 * x3) (x4 + (1 : Int32)) M H locs ls h hR hS (lv_sub hl [2, 1, 0] rfl)
set_option maxHeartbeats 4000000 in
set_option maxRecDepth 100000 in
theorem xc_CA_commonDivisor (l : Launch) (G : xG) {a0 : Int32} {a1 : Int32}  {M : xM} {post : Int32 → xM → Prop} (h : xw_CA_commonDivisor a0 a1 M post) : Met l y_CA_commonDivisor (Cond.code y_CA_commonDivisor b_CA_commonDivisor 6 (some .int) :: xTG) rm_CA_commonDivisor (xPre G M [.int a0, .int a1]) (xPi G post) 0 0 (xA G) := by
  refine xMet (own := R_CA) [.int a0, .int a1] (Or.inl (by decide)) rfl (Nat.le_of_ble_eq_true rfl) (fun p e s m args below meth c ls hC hr hlk hR hS hl => ?_)
  have hx := hC.1
  have hb := hC.2.1
  have hl : lv_has ls 6 [(0, .int a0), (1, .int a1)] := hl
  obtain ⟨H, eH⟩ : ∃ H : Heap, H = s.heap := ⟨_, rfl⟩
  obtain ⟨locs, eL⟩ : ∃ locs : List Loc, locs = [] := ⟨_, rfl⟩
  rw [← eH] at hR
  replace hS : va_S (xA G) s.heap H locs := by rw [eH, eL]; exact hS
  suffices hh : W p l e rm_CA_commonDivisor s m args below meth c H locs 0 0 (MQ below (xPi G post) args s 0 0 (xA G)) (F0 m 0 ls []) from by rw [eH, eL] at hh; exact hh
  unfold xw_CA_commonDivisor at h
  refine lv_iload_n (pc := 0) hx hb xd_CA_commonDivisor_0 rfl (lv_at hl 0 rfl) ?_
  refine lv_istore_n (pc := 1) (lv' := [(2, .int a0), (0, .int a0), (1, .int a1)]) hx hb xd_CA_commonDivisor_1 rfl hl (by decide) rfl (fun ls hl => ?_)
  refine lv_iload_n (pc := 2) hx hb xd_CA_commonDivisor_2 rfl (lv_at hl 2 rfl) ?_
  refine lv_istore_n (pc := 3) (lv' := [(3, .int a1), (2, .int a0), (0, .int a0), (1, .int a1)]) hx hb xd_CA_commonDivisor_3 rfl hl (by decide) rfl (fun ls hl => ?_)
  refine lv_iconst (pc := 4) (v := (0 : Int32)) hx hb xd_CA_commonDivisor_4 (by decide) ?_
  refine lv_istore (pc := 5) (lv' := [(4, .int (0 : Int32)), (3, .int a1), (2, .int a0), (0, .int a0), (1, .int a1)]) hx hb xd_CA_commonDivisor_5 hl (by decide) rfl (fun ls hl => ?_)
  obtain ⟨n, h⟩ := h
  refine xt_CA_commonDivisor_7 hC hr hlk  (fun y1 y2 y3 M4 H locs ls h hR hS hl => ?_) n a0 a1 (0 : Int32) M H locs ls h hR hS (lv_sub hl [2, 1, 0] rfl)
  refine lv_iconst (pc := 34) (v := (1 : Int32)) hx hb xd_CA_commonDivisor_34 (by decide) ?_
  refine lv_iload_n (pc := 35) hx hb xd_CA_commonDivisor_35 rfl (lv_at hl 0 rfl) ?_
  refine xr_max (pc := 36) hC xk_CA_212 hl.1 (Nat.le_of_ble_eq_true rfl) (Nat.le_of_ble_eq_true rfl) xd_CA_commonDivisor_36 ?_
  exact xr_iret hC hr hlk hR hS h xd_CA_commonDivisor_39

/-! ColoursApart.contrast(III)I -/
theorem xd_CA_contrast_0 : decode b_CA_contrast 0 = .ok (.iload_n 1, 1) := by decide +kernel
theorem xd_CA_contrast_1 : decode b_CA_contrast 1 = .ok (.invokestatic 142, 3) := by decide +kernel
theorem xd_CA_contrast_4 : decode b_CA_contrast 4 = .ok (.ifCond .eq 19, 3) := by decide +kernel
theorem xd_CA_contrast_7 : decode b_CA_contrast 7 = .ok (.iload_n 2, 1) := by decide +kernel
theorem xd_CA_contrast_8 : decode b_CA_contrast 8 = .ok (.invokestatic 142, 3) := by decide +kernel
theorem xd_CA_contrast_11 : decode b_CA_contrast 11 = .ok (.ifCond .eq 12, 3) := by decide +kernel
theorem xd_CA_contrast_14 : decode b_CA_contrast 14 = .ok (.iload_n 3, 1) := by decide +kernel
theorem xd_CA_contrast_15 : decode b_CA_contrast 15 = .ok (.ifCond .lt 8, 3) := by decide +kernel
theorem xd_CA_contrast_18 : decode b_CA_contrast 18 = .ok (.iload_n 3, 1) := by decide +kernel
theorem xd_CA_contrast_19 : decode b_CA_contrast 19 = .ok (.iconst 1, 1) := by decide +kernel
theorem xd_CA_contrast_20 : decode b_CA_contrast 20 = .ok (.if_icmp .le 5, 3) := by decide +kernel
theorem xd_CA_contrast_23 : decode b_CA_contrast 23 = .ok (.iconst (-1), 1) := by decide +kernel
theorem xd_CA_contrast_24 : decode b_CA_contrast 24 = .ok (.ireturn, 1) := by decide +kernel
theorem xd_CA_contrast_25 : decode b_CA_contrast 25 = .ok (.iload_n 1, 1) := by decide +kernel
theorem xd_CA_contrast_26 : decode b_CA_contrast 26 = .ok (.invokestatic 151, 3) := by decide +kernel
theorem xd_CA_contrast_29 : decode b_CA_contrast 29 = .ok (.iload_n 2, 1) := by decide +kernel
theorem xd_CA_contrast_30 : decode b_CA_contrast 30 = .ok (.invokestatic 151, 3) := by decide +kernel
theorem xd_CA_contrast_33 : decode b_CA_contrast 33 = .ok (.invokestatic 212, 3) := by decide +kernel
theorem xd_CA_contrast_36 : decode b_CA_contrast 36 = .ok (.bipush 13, 2) := by decide +kernel
theorem xd_CA_contrast_38 : decode b_CA_contrast 38 = .ok (.iadd, 1) := by decide +kernel
theorem xd_CA_contrast_39 : decode b_CA_contrast 39 = .ok (.istore 4, 2) := by decide +kernel
theorem xd_CA_contrast_41 : decode b_CA_contrast 41 = .ok (.iload_n 1, 1) := by decide +kernel
theorem xd_CA_contrast_42 : decode b_CA_contrast 42 = .ok (.invokestatic 151, 3) := by decide +kernel
theorem xd_CA_contrast_45 : decode b_CA_contrast 45 = .ok (.iload_n 2, 1) := by decide +kernel
theorem xd_CA_contrast_46 : decode b_CA_contrast 46 = .ok (.invokestatic 151, 3) := by decide +kernel
theorem xd_CA_contrast_49 : decode b_CA_contrast 49 = .ok (.invokestatic 207, 3) := by decide +kernel
theorem xd_CA_contrast_52 : decode b_CA_contrast 52 = .ok (.bipush 13, 2) := by decide +kernel
theorem xd_CA_contrast_54 : decode b_CA_contrast 54 = .ok (.iadd, 1) := by decide +kernel
theorem xd_CA_contrast_55 : decode b_CA_contrast 55 = .ok (.istore 5, 2) := by decide +kernel
theorem xd_CA_contrast_57 : decode b_CA_contrast 57 = .ok (.iload 4, 2) := by decide +kernel
theorem xd_CA_contrast_59 : decode b_CA_contrast 59 = .ok (.iload 5, 2) := by decide +kernel
theorem xd_CA_contrast_61 : decode b_CA_contrast 61 = .ok (.invokestatic 221, 3) := by decide +kernel
theorem xd_CA_contrast_64 : decode b_CA_contrast 64 = .ok (.istore 6, 2) := by decide +kernel
theorem xd_CA_contrast_66 : decode b_CA_contrast 66 = .ok (.iload_n 3, 1) := by decide +kernel
theorem xd_CA_contrast_67 : decode b_CA_contrast 67 = .ok (.ifCond .ne 8, 3) := by decide +kernel
theorem xd_CA_contrast_70 : decode b_CA_contrast 70 = .ok (.iload 4, 2) := by decide +kernel
theorem xd_CA_contrast_72 : decode b_CA_contrast 72 = .ok (.goto 5, 3) := by decide +kernel
theorem xd_CA_contrast_75 : decode b_CA_contrast 75 = .ok (.iload 5, 2) := by decide +kernel
theorem xd_CA_contrast_77 : decode b_CA_contrast 77 = .ok (.iload 6, 2) := by decide +kernel
theorem xd_CA_contrast_79 : decode b_CA_contrast 79 = .ok (.idiv, 1) := by decide +kernel
theorem xd_CA_contrast_80 : decode b_CA_contrast 80 = .ok (.ireturn, 1) := by decide +kernel
abbrev rm_CA_contrast : Room := { frames := 2, cells := 0, slots := 0, locals := 49 }
def xw_CA_contrast (a1 : Int32) (a2 : Int32) (a3 : Int32) (M : xM) (post : Int32 → xM → Prop) : Prop :=
  xw_Rg_isColour a1 M (fun (r2 : Int32) (M1 : xM) => ((r2 = 0) → (post (-1 : Int32) M1)) ∧ ((¬ r2 = 0) → (xw_Rg_isColour a2 M1 (fun (r4 : Int32) (M3 : xM) => ((r4 = 0) → (post (-1 : Int32) M3)) ∧ ((¬ r4 = 0) → (((a3 < 0) → (post (-1 : Int32) M3)) ∧ ((¬ a3 < 0) → (((a3 ≤ (1 : Int32)) → (xw_Rg_lightOf a1 M3 (fun (r6 : Int32) (M5 : xM) => xw_Rg_lightOf a2 M5 (fun (r8 : Int32) (M7 : xM) => xw_Rg_lightOf a1 M7 (fun (r10 : Int32) (M9 : xM) => xw_Rg_lightOf a2 M9 (fun (r12 : Int32) (M11 : xM) => xw_CA_commonDivisor ((if r6 < r8 then r8 else r6) + (13 : Int32)) ((if r12 < r10 then r12 else r10) + (13 : Int32)) M11 (fun (r14 : Int32) (M13 : xM) => ((¬ a3 = 0) → ((¬ r14 = 0) ∧ (post (((if r12 < r10 then r12 else r10) + (13 : Int32)) / r14) M13))) ∧ ((a3 = 0) → ((¬ r14 = 0) ∧ (post (((if r6 < r8 then r8 else r6) + (13 : Int32)) / r14) M13)))))))))) ∧ ((¬ a3 ≤ (1 : Int32)) → (post (-1 : Int32) M3))))))))))
set_option maxHeartbeats 4000000 in
set_option maxRecDepth 100000 in
theorem xc_CA_contrast (l : Launch) (G : xG) {a1 : Int32} {a2 : Int32} {a3 : Int32}  {M : xM} {post : Int32 → xM → Prop} (h : xw_CA_contrast a1 a2 a3 M post) : Met l y_CA_contrast (Cond.code y_CA_contrast b_CA_contrast 7 (some .int) :: xTG) rm_CA_contrast (xPre G M [.ref (G.1 8 0), .int a1, .int a2, .int a3]) (xPi G post) 0 0 (xA G) := by
  refine xMet (own := R_CA) [.ref (G.1 8 0), .int a1, .int a2, .int a3] (Or.inl (by decide)) rfl (Nat.le_of_ble_eq_true rfl) (fun p e s m args below meth c ls hC hr hlk hR hS hl => ?_)
  have hx := hC.1
  have hb := hC.2.1
  have hl : lv_has ls 7 [(0, .ref (G.1 8 0)), (1, .int a1), (2, .int a2), (3, .int a3)] := hl
  obtain ⟨H, eH⟩ : ∃ H : Heap, H = s.heap := ⟨_, rfl⟩
  obtain ⟨locs, eL⟩ : ∃ locs : List Loc, locs = [] := ⟨_, rfl⟩
  rw [← eH] at hR
  replace hS : va_S (xA G) s.heap H locs := by rw [eH, eL]; exact hS
  suffices hh : W p l e rm_CA_contrast s m args below meth c H locs 0 0 (MQ below (xPi G post) args s 0 0 (xA G)) (F0 m 0 ls []) from by rw [eH, eL] at hh; exact hh
  unfold xw_CA_contrast at h
  refine lv_iload_n (pc := 0) hx hb xd_CA_contrast_0 rfl (lv_at hl 1 rfl) ?_
  refine xr_callS (pc := 1) (As := [.int a1]) (rest := []) hC hR hS (xc_Rg_isColour l G  h) xv_CA_142 ⟨rfl, rfl, Nat.le_of_ble_eq_true rfl, Nat.le_of_ble_eq_true rfl⟩ rfl hl.1 rfl (Nat.le_of_ble_eq_true rfl) xd_CA_contrast_1 (fun r2 M1 H locs h hR hS => ?_)
  refine lv_if_eq (pc := 4) (tgt := 23) hx hb xd_CA_contrast_4 (by decide) (fun hq => ?_) (fun hq => ?_)
  · have h := h.1 hq
    refine lv_iconst (pc := 23) (v := (-1 : Int32)) hx hb xd_CA_contrast_23 (by decide) ?_
    exact xr_iret hC hr hlk hR hS h xd_CA_contrast_24
  · have h := h.2 hq
    refine lv_iload_n (pc := 7) hx hb xd_CA_contrast_7 rfl (lv_at hl 2 rfl) ?_
    refine xr_callS (pc := 8) (As := [.int a2]) (rest := []) hC hR hS (xc_Rg_isColour l G  h) xv_CA_142 ⟨rfl, rfl, Nat.le_of_ble_eq_true rfl, Nat.le_of_ble_eq_true rfl⟩ rfl hl.1 rfl (Nat.le_of_ble_eq_true rfl) xd_CA_contrast_8 (fun r4 M3 H locs h hR hS => ?_)
    refine lv_if_eq (pc := 11) (tgt := 23) hx hb xd_CA_contrast_11 (by decide) (fun hq => ?_) (fun hq => ?_)
    · have h := h.1 hq
      refine lv_iconst (pc := 23) (v := (-1 : Int32)) hx hb xd_CA_contrast_23 (by decide) ?_
      exact xr_iret hC hr hlk hR hS h xd_CA_contrast_24
    · have h := h.2 hq
      refine lv_iload_n (pc := 14) hx hb xd_CA_contrast_14 rfl (lv_at hl 3 rfl) ?_
      refine lv_if_lt (pc := 15) (tgt := 23) hx hb xd_CA_contrast_15 (by decide) (fun hq => ?_) (fun hq => ?_)
      · have h := h.1 hq
        refine lv_iconst (pc := 23) (v := (-1 : Int32)) hx hb xd_CA_contrast_23 (by decide) ?_
        exact xr_iret hC hr hlk hR hS h xd_CA_contrast_24
      · have h := h.2 hq
        refine lv_iload_n (pc := 18) hx hb xd_CA_contrast_18 rfl (lv_at hl 3 rfl) ?_
        refine lv_iconst (pc := 19) (v := (1 : Int32)) hx hb xd_CA_contrast_19 (by decide) ?_
        refine lv_icmp_le (pc := 20) (tgt := 25) hx hb xd_CA_contrast_20 (by decide) (fun hq => ?_) (fun hq => ?_)
        · have h := h.1 hq
          refine lv_iload_n (pc := 25) hx hb xd_CA_contrast_25 rfl (lv_at hl 1 rfl) ?_
          refine xr_callS (pc := 26) (As := [.int a1]) (rest := []) hC hR hS (xc_Rg_lightOf l G  h) xv_CA_151 ⟨rfl, rfl, Nat.le_of_ble_eq_true rfl, Nat.le_of_ble_eq_true rfl⟩ rfl hl.1 rfl (Nat.le_of_ble_eq_true rfl) xd_CA_contrast_26 (fun r6 M5 H locs h hR hS => ?_)
          refine lv_iload_n (pc := 29) hx hb xd_CA_contrast_29 rfl (lv_at hl 2 rfl) ?_
          refine xr_callS (pc := 30) (As := [.int a2]) (rest := [.int r6]) hC hR hS (xc_Rg_lightOf l G  h) xv_CA_151 ⟨rfl, rfl, Nat.le_of_ble_eq_true rfl, Nat.le_of_ble_eq_true rfl⟩ rfl hl.1 rfl (Nat.le_of_ble_eq_true rfl) xd_CA_contrast_30 (fun r8 M7 H locs h hR hS => ?_)
          refine xr_max (pc := 33) hC xk_CA_212 hl.1 (Nat.le_of_ble_eq_true rfl) (Nat.le_of_ble_eq_true rfl) xd_CA_contrast_33 ?_
          refine lv_bipush (pc := 36) (v := (13 : Int32)) hx hb xd_CA_contrast_36 (by decide) ?_
          refine lv_iadd (pc := 38) hx hb xd_CA_contrast_38 ?_
          refine lv_istore (pc := 39) (lv' := [(4, .int ((if r6 < r8 then r8 else r6) + (13 : Int32))), (0, .ref (G.1 8 0)), (1, .int a1), (2, .int a2), (3, .int a3)]) hx hb xd_CA_contrast_39 hl (by decide) rfl (fun ls hl => ?_)
          refine lv_iload_n (pc := 41) hx hb xd_CA_contrast_41 rfl (lv_at hl 2 rfl) ?_
          refine xr_callS (pc := 42) (As := [.int a1]) (rest := []) hC hR hS (xc_Rg_lightOf l G  h) xv_CA_151 ⟨rfl, rfl, Nat.le_of_ble_eq_true rfl, Nat.le_of_ble_eq_true rfl⟩ rfl hl.1 rfl (Nat.le_of_ble_eq_true rfl) xd_CA_contrast_42 (fun r10 M9 H locs h hR hS => ?_)
          refine lv_iload_n (pc := 45) hx hb xd_CA_contrast_45 rfl (lv_at hl 3 rfl) ?_
          refine xr_callS (pc := 46) (As := [.int a2]) (rest := [.int r10]) hC hR hS (xc_Rg_lightOf l G  h) xv_CA_151 ⟨rfl, rfl, Nat.le_of_ble_eq_true rfl, Nat.le_of_ble_eq_true rfl⟩ rfl hl.1 rfl (Nat.le_of_ble_eq_true rfl) xd_CA_contrast_46 (fun r12 M11 H locs h hR hS => ?_)
          refine xr_min (pc := 49) hC xk_CA_207 hl.1 (Nat.le_of_ble_eq_true rfl) (Nat.le_of_ble_eq_true rfl) xd_CA_contrast_49 ?_
          refine lv_bipush (pc := 52) (v := (13 : Int32)) hx hb xd_CA_contrast_52 (by decide) ?_
          refine lv_iadd (pc := 54) hx hb xd_CA_contrast_54 ?_
          refine lv_istore (pc := 55) (lv' := [(5, .int ((if r12 < r10 then r12 else r10) + (13 : Int32))), (4, .int ((if r6 < r8 then r8 else r6) + (13 : Int32))), (0, .ref (G.1 8 0)), (1, .int a1), (2, .int a2), (3, .int a3)]) hx hb xd_CA_contrast_55 hl (by decide) rfl (fun ls hl => ?_)
          refine lv_iload (pc := 57) hx hb xd_CA_contrast_57 (lv_at hl 1 rfl) ?_
          refine lv_iload (pc := 59) hx hb xd_CA_contrast_59 (lv_at hl 0 rfl) ?_
          refine xr_callS (pc := 61) (As := [.int ((if r6 < r8 then r8 else r6) + (13 : Int32)), .int ((if r12 < r10 then r12 else r10) + (13 : Int32))]) (rest := []) hC hR hS (xc_CA_commonDivisor l G  h) xv_CA_221 ⟨rfl, rfl, Nat.le_of_ble_eq_true rfl, Nat.le_of_ble_eq_true rfl⟩ rfl hl.1 rfl (Nat.le_of_ble_eq_true rfl) xd_CA_contrast_61 (fun r14 M13 H locs h hR hS => ?_)
          refine lv_istore (pc := 64) (lv' := [(6, .int r14), (5, .int ((if r12 < r10 then r12 else r10) + (13 : Int32))), (4, .int ((if r6 < r8 then r8 else r6) + (13 : Int32))), (0, .ref (G.1 8 0)), (1, .int a1), (2, .int a2), (3, .int a3)]) hx hb xd_CA_contrast_64 hl (by decide) rfl (fun ls hl => ?_)
          refine lv_iload_n (pc := 66) hx hb xd_CA_contrast_66 rfl (lv_at hl 6 rfl) ?_
          refine lv_if_ne (pc := 67) (tgt := 75) hx hb xd_CA_contrast_67 (by decide) (fun hq => ?_) (fun hq => ?_)
          · have h := h.1 hq
            refine lv_iload (pc := 75) hx hb xd_CA_contrast_75 (lv_at hl 1 rfl) ?_
            refine lv_iload (pc := 77) hx hb xd_CA_contrast_77 (lv_at hl 0 rfl) ?_
            obtain ⟨hq, h⟩ := h
            refine lv_idiv (pc := 79) hx hb xd_CA_contrast_79 hq ?_
            exact xr_iret hC hr hlk hR hS h xd_CA_contrast_80
          · have h := h.2 hq
            refine lv_iload (pc := 70) hx hb xd_CA_contrast_70 (lv_at hl 2 rfl) ?_
            refine lv_goto (pc := 72) (tgt := 77) hx hb xd_CA_contrast_72 (by decide) ?_
            refine lv_iload (pc := 77) hx hb xd_CA_contrast_77 (lv_at hl 0 rfl) ?_
            obtain ⟨hq, h⟩ := h
            refine lv_idiv (pc := 79) hx hb xd_CA_contrast_79 hq ?_
            exact xr_iret hC hr hlk hR hS h xd_CA_contrast_80
        · have h := h.2 hq
          refine lv_iconst (pc := 23) (v := (-1 : Int32)) hx hb xd_CA_contrast_23 (by decide) ?_
          exact xr_iret hC hr hlk hR hS h xd_CA_contrast_24

/-! ColoursApart.unmet()I -/
theorem xd_CA_unmet_0 : decode b_CA_unmet 0 = .ok (.iconst 0, 1) := by decide +kernel
theorem xd_CA_unmet_1 : decode b_CA_unmet 1 = .ok (.istore_n 1, 1) := by decide +kernel
theorem xd_CA_unmet_2 : decode b_CA_unmet 2 = .ok (.iload_n 1, 1) := by decide +kernel
theorem xd_CA_unmet_3 : decode b_CA_unmet 3 = .ok (.aload_n 0, 1) := by decide +kernel
theorem xd_CA_unmet_4 : decode b_CA_unmet 4 = .ok (.getfield 10, 3) := by decide +kernel
theorem xd_CA_unmet_7 : decode b_CA_unmet 7 = .ok (.getfield 160, 3) := by decide +kernel
theorem xd_CA_unmet_10 : decode b_CA_unmet 10 = .ok (.getfield 218, 3) := by decide +kernel
theorem xd_CA_unmet_13 : decode b_CA_unmet 13 = .ok (.if_icmp .ge 25, 3) := by decide +kernel
theorem xd_CA_unmet_16 : decode b_CA_unmet 16 = .ok (.aload_n 0, 1) := by decide +kernel
theorem xd_CA_unmet_17 : decode b_CA_unmet 17 = .ok (.getfield 10, 3) := by decide +kernel
theorem xd_CA_unmet_20 : decode b_CA_unmet 20 = .ok (.getfield 160, 3) := by decide +kernel
theorem xd_CA_unmet_23 : decode b_CA_unmet 23 = .ok (.iload_n 1, 1) := by decide +kernel
theorem xd_CA_unmet_24 : decode b_CA_unmet 24 = .ok (.invokevirtual 224, 3) := by decide +kernel
theorem xd_CA_unmet_27 : decode b_CA_unmet 27 = .ok (.ifCond .ne 5, 3) := by decide +kernel
theorem xd_CA_unmet_30 : decode b_CA_unmet 30 = .ok (.iload_n 1, 1) := by decide +kernel
theorem xd_CA_unmet_31 : decode b_CA_unmet 31 = .ok (.ireturn, 1) := by decide +kernel
theorem xd_CA_unmet_32 : decode b_CA_unmet 32 = .ok (.iinc 1 1, 3) := by decide +kernel
theorem xd_CA_unmet_35 : decode b_CA_unmet 35 = .ok (.goto (-33), 3) := by decide +kernel
theorem xd_CA_unmet_38 : decode b_CA_unmet 38 = .ok (.iconst (-1), 1) := by decide +kernel
theorem xd_CA_unmet_39 : decode b_CA_unmet 39 = .ok (.ireturn, 1) := by decide +kernel
abbrev rm_CA_unmet : Room := { frames := 4, cells := 0, slots := 0, locals := 85 }
def xw_CA_unmet_2 (post : Int32 → xM → Prop) (k38 : Int32 → xM → Prop) : Nat → Int32 → xM → Prop
  | 0, _, _ => False
  | n2 + 1, x1, M => (((M 0 3 6) ≤ x1) → (k38 x1 M)) ∧ ((¬ (M 0 3 6) ≤ x1) → (xw_Ho_isMet 0 x1 M (fun (r2 : Int32) (M1 : xM) => ((¬ r2 = 0) → (xw_CA_unmet_2 post k38 n2 (x1 + (1 : Int32)) M1)) ∧ ((r2 = 0) → (post x1 M1)))))
def xw_CA_unmet  (M : xM) (post : Int32 → xM → Prop) : Prop :=
  ∃ n2 : Nat, xw_CA_unmet_2 post (fun (y3 : Int32) (M4 : xM) => post (-1 : Int32) M4) n2 (0 : Int32) M
set_option maxHeartbeats 4000000 in
set_option maxRecDepth 100000 in
theorem xt_CA_unmet_2 {p : Program} {l : Launch} {e : Env} {s : State} {m : MethodId} {args : Array Value} {below : List Frame} {meth : Method} {c : Code} {G : xG} (hC : xC p s m args c b_CA_unmet R_CA 2 G) (hr : meth.sig.returnType = (some .int)) (hlk : meth.locks = false)  {post : Int32 → xM → Prop} {k38 : Int32 → xM → Prop} (hk38 : ∀ (x1 : Int32) (M : xM) (H : Heap) (locs : List Loc) (ls : Array Slot), k38 x1 M → xRp G M H → va_S (xA G) s.heap H locs → lv_has ls 2 [(0, .ref (G.1 8 0)), (1, .int x1)] → W p l e rm_CA_unmet s m args below meth c H locs 0 0 (MQ below (xPi G post) args s 0 0 (xA G)) (F0 m 38 ls [])) : ∀ (n : Nat) (x1 : Int32) (M : xM) (H : Heap) (locs : List Loc) (ls : Array Slot), xw_CA_unmet_2 post k38 n x1 M → xRp G M H → va_S (xA G) s.heap H locs → lv_has ls 2 [(0, .ref (G.1 8 0)), (1, .int x1)] → W p l e rm_CA_unmet s m args below meth c H locs 0 0 (MQ below (xPi G post) args s 0 0 (xA G)) (F0 m 2 ls []) := by
  have hx := hC.1
  have hb := hC.2.1
  intro n
  induction n with
  | zero => intro x1 M H locs ls; exact fun h => h.elim
  | succ n ih =>
    intro x1 M H locs ls h hR hS hl
    refine lv_iload_n (pc := 2) hx hb xd_CA_unmet_2 rfl (lv_at hl 1 rfl) ?_
    refine lv_aload_n (pc := 3) hx hb xd_CA_unmet_3 rfl (lv_at hl 0 rfl) ?_
    refine xr_get (pc := 4) (v := .ref (G.1 0 0)) hC hR xo_C0 xf_CA_10 rfl xd_CA_unmet_4 ?_
    refine xr_get (pc := 7) (v := .ref (G.1 0 3)) hC hR (xo_K0 xg0) xf_CA_160 rfl xd_CA_unmet_7 ?_
    refine xr_get (pc := 10) (v := .int (M 0 3 6)) hC hR (xo_K3 xg0) xf_CA_218 rfl xd_CA_unmet_10 ?_
    refine lv_icmp_ge (pc := 13) (tgt := 38) hx hb xd_CA_unmet_13 (by decide) (fun hq => ?_) (fun hq => ?_)
    · have h := h.1 hq
      exact hk38 x1 M H locs ls h hR hS (lv_sub hl [0, 1] rfl)
    · have h := h.2 hq
      refine lv_aload_n (pc := 16) hx hb xd_CA_unmet_16 rfl (lv_at hl 0 rfl) ?_
      refine xr_get (pc := 17) (v := .ref (G.1 0 0)) hC hR xo_C0 xf_CA_10 rfl xd_CA_unmet_17 ?_
      refine xr_get (pc := 20) (v := .ref (G.1 0 3)) hC hR (xo_K0 xg0) xf_CA_160 rfl xd_CA_unmet_20 ?_
      refine lv_iload_n (pc := 23) hx hb xd_CA_unmet_23 rfl (lv_at hl 1 rfl) ?_
      refine xr_callV (pc := 24) (As := [.int x1]) (rest := []) hC hR hS (xc_Ho_isMet l G xg0 h) (xo_K3 xg0) xv_CA_224 ⟨rfl, rfl, Nat.le_of_ble_eq_true rfl, Nat.le_of_ble_eq_true rfl⟩ rfl hl.1 rfl (Nat.le_of_ble_eq_true rfl) xd_CA_unmet_24 (fun r2 M1 H locs h hR hS => ?_)
      refine lv_if_ne (pc := 27) (tgt := 32) hx hb xd_CA_unmet_27 (by decide) (fun hq => ?_) (fun hq => ?_)
      · have h := h.1 hq
        refine lv_iinc (pc := 32) (v := (x1 + (1 : Int32))) (lv' := [(1, .int (x1 + (1 : Int32))), (0, .ref (G.1 8 0))]) hx hb xd_CA_unmet_32 hl (k := 1) rfl rfl (by decide) rfl (fun ls hl => ?_)
        refine lv_goto (pc := 35) (tgt := 2) hx hb xd_CA_unmet_35 (by decide) ?_
        exact ih (x1 + (1 : Int32)) M1 H locs ls h hR hS (lv_sub hl [1, 0] rfl)
      · have h := h.2 hq
        refine lv_iload_n (pc := 30) hx hb xd_CA_unmet_30 rfl (lv_at hl 1 rfl) ?_
        exact xr_iret hC hr hlk hR hS h xd_CA_unmet_31
set_option maxHeartbeats 4000000 in
set_option maxRecDepth 100000 in
theorem xc_CA_unmet (l : Launch) (G : xG)   {M : xM} {post : Int32 → xM → Prop} (h : xw_CA_unmet  M post) : Met l y_CA_unmet (Cond.code y_CA_unmet b_CA_unmet 2 (some .int) :: xTG) rm_CA_unmet (xPre G M [.ref (G.1 8 0)]) (xPi G post) 0 0 (xA G) := by
  refine xMet (own := R_CA) [.ref (G.1 8 0)] (Or.inl (by decide)) rfl (Nat.le_of_ble_eq_true rfl) (fun p e s m args below meth c ls hC hr hlk hR hS hl => ?_)
  have hx := hC.1
  have hb := hC.2.1
  have hl : lv_has ls 2 [(0, .ref (G.1 8 0))] := hl
  obtain ⟨H, eH⟩ : ∃ H : Heap, H = s.heap := ⟨_, rfl⟩
  obtain ⟨locs, eL⟩ : ∃ locs : List Loc, locs = [] := ⟨_, rfl⟩
  rw [← eH] at hR
  replace hS : va_S (xA G) s.heap H locs := by rw [eH, eL]; exact hS
  suffices hh : W p l e rm_CA_unmet s m args below meth c H locs 0 0 (MQ below (xPi G post) args s 0 0 (xA G)) (F0 m 0 ls []) from by rw [eH, eL] at hh; exact hh
  unfold xw_CA_unmet at h
  refine lv_iconst (pc := 0) (v := (0 : Int32)) hx hb xd_CA_unmet_0 (by decide) ?_
  refine lv_istore_n (pc := 1) (lv' := [(1, .int (0 : Int32)), (0, .ref (G.1 8 0))]) hx hb xd_CA_unmet_1 rfl hl (by decide) rfl (fun ls hl => ?_)
  obtain ⟨n, h⟩ := h
  refine xt_CA_unmet_2 hC hr hlk  (fun y3 M4 H locs ls h hR hS hl => ?_) n (0 : Int32) M H locs ls h hR hS (lv_sub hl [1, 0] rfl)
  refine lv_iconst (pc := 38) (v := (-1 : Int32)) hx hb xd_CA_unmet_38 (by decide) ?_
  exact xr_iret hC hr hlk hR hS h xd_CA_unmet_39

/-! ColoursApart.of(II)I -/
theorem xd_CA_of_0 : decode b_CA_of 0 = .ok (.aload_n 0, 1) := by decide +kernel
theorem xd_CA_of_1 : decode b_CA_of 1 = .ok (.getfield 10, 3) := by decide +kernel
theorem xd_CA_of_4 : decode b_CA_of 4 = .ok (.getfield 160, 3) := by decide +kernel
theorem xd_CA_of_7 : decode b_CA_of 7 = .ok (.iload_n 1, 1) := by decide +kernel
theorem xd_CA_of_8 : decode b_CA_of 8 = .ok (.invokevirtual 173, 3) := by decide +kernel
theorem xd_CA_of_11 : decode b_CA_of 11 = .ok (.ifCond .ne 6, 3) := by decide +kernel
theorem xd_CA_of_14 : decode b_CA_of 14 = .ok (.bipush (-2), 2) := by decide +kernel
theorem xd_CA_of_16 : decode b_CA_of 16 = .ok (.ireturn, 1) := by decide +kernel
theorem xd_CA_of_17 : decode b_CA_of 17 = .ok (.iload_n 2, 1) := by decide +kernel
theorem xd_CA_of_18 : decode b_CA_of 18 = .ok (.tableswitch 86 0 3 #[30, 43, 64, 77], 30) := by decide +kernel
theorem xd_CA_of_48 : decode b_CA_of 48 = .ok (.aload_n 0, 1) := by decide +kernel
theorem xd_CA_of_49 : decode b_CA_of 49 = .ok (.getfield 10, 3) := by decide +kernel
theorem xd_CA_of_52 : decode b_CA_of 52 = .ok (.getfield 160, 3) := by decide +kernel
theorem xd_CA_of_55 : decode b_CA_of 55 = .ok (.getfield 181, 3) := by decide +kernel
theorem xd_CA_of_58 : decode b_CA_of 58 = .ok (.iload_n 1, 1) := by decide +kernel
theorem xd_CA_of_59 : decode b_CA_of 59 = .ok (.iaload, 1) := by decide +kernel
theorem xd_CA_of_60 : decode b_CA_of 60 = .ok (.ireturn, 1) := by decide +kernel
theorem xd_CA_of_61 : decode b_CA_of 61 = .ok (.aload_n 0, 1) := by decide +kernel
theorem xd_CA_of_62 : decode b_CA_of 62 = .ok (.getfield 10, 3) := by decide +kernel
theorem xd_CA_of_65 : decode b_CA_of 65 = .ok (.getfield 160, 3) := by decide +kernel
theorem xd_CA_of_68 : decode b_CA_of 68 = .ok (.getfield 178, 3) := by decide +kernel
theorem xd_CA_of_71 : decode b_CA_of 71 = .ok (.iload_n 1, 1) := by decide +kernel
theorem xd_CA_of_72 : decode b_CA_of 72 = .ok (.baload, 1) := by decide +kernel
theorem xd_CA_of_73 : decode b_CA_of 73 = .ok (.ifCond .eq 7, 3) := by decide +kernel
theorem xd_CA_of_76 : decode b_CA_of 76 = .ok (.iconst 1, 1) := by decide +kernel
theorem xd_CA_of_77 : decode b_CA_of 77 = .ok (.goto 4, 3) := by decide +kernel
theorem xd_CA_of_80 : decode b_CA_of 80 = .ok (.iconst 0, 1) := by decide +kernel
theorem xd_CA_of_81 : decode b_CA_of 81 = .ok (.ireturn, 1) := by decide +kernel
theorem xd_CA_of_82 : decode b_CA_of 82 = .ok (.aload_n 0, 1) := by decide +kernel
theorem xd_CA_of_83 : decode b_CA_of 83 = .ok (.getfield 10, 3) := by decide +kernel
theorem xd_CA_of_86 : decode b_CA_of 86 = .ok (.getfield 160, 3) := by decide +kernel
theorem xd_CA_of_89 : decode b_CA_of 89 = .ok (.getfield 191, 3) := by decide +kernel
theorem xd_CA_of_92 : decode b_CA_of 92 = .ok (.iload_n 1, 1) := by decide +kernel
theorem xd_CA_of_93 : decode b_CA_of 93 = .ok (.iaload, 1) := by decide +kernel
theorem xd_CA_of_94 : decode b_CA_of 94 = .ok (.ireturn, 1) := by decide +kernel
theorem xd_CA_of_95 : decode b_CA_of 95 = .ok (.aload_n 0, 1) := by decide +kernel
theorem xd_CA_of_96 : decode b_CA_of 96 = .ok (.getfield 10, 3) := by decide +kernel
theorem xd_CA_of_99 : decode b_CA_of 99 = .ok (.iload_n 1, 1) := by decide +kernel
theorem xd_CA_of_100 : decode b_CA_of 100 = .ok (.invokevirtual 227, 3) := by decide +kernel
theorem xd_CA_of_103 : decode b_CA_of 103 = .ok (.ireturn, 1) := by decide +kernel
theorem xd_CA_of_104 : decode b_CA_of 104 = .ok (.iconst (-1), 1) := by decide +kernel
theorem xd_CA_of_105 : decode b_CA_of 105 = .ok (.ireturn, 1) := by decide +kernel
abbrev rm_CA_of : Room := { frames := 5, cells := 0, slots := 0, locals := 118 }
def xw_CA_of (a1 : Int32) (a2 : Int32) (M : xM) (post : Int32 → xM → Prop) : Prop :=
  xw_Ho_has 0 a1 M (fun (r2 : Int32) (M1 : xM) => ((¬ r2 = 0) → ((a2 = (0 : Int32) → ((vp_in a1 12) ∧ (post (M1 0 4 a1.toNatClampNeg) M1))) ∧ (a2 = (1 : Int32) → ((vp_in a1 12) ∧ ((((M1 0 5 a1.toNatClampNeg) = 0) → (post (0 : Int32) M1)) ∧ ((¬ (M1 0 5 a1.toNatClampNeg) = 0) → (post (1 : Int32) M1))))) ∧ (a2 = (2 : Int32) → ((vp_in a1 12) ∧ (post (M1 0 6 a1.toNatClampNeg) M1))) ∧ (a2 = (3 : Int32) → (xw_Ke_leastFromOthers 0 a1 M1 (fun (r4 : Int32) (M3 : xM) => post r4 M3))) ∧ (¬ a2 = (0 : Int32) → ¬ a2 = (1 : Int32) → ¬ a2 = (2 : Int32) → ¬ a2 = (3 : Int32) → (post (-1 : Int32) M1)))) ∧ ((r2 = 0) → (post (-2 : Int32) M1)))
set_option maxHeartbeats 4000000 in
set_option maxRecDepth 100000 in
theorem xc_CA_of (l : Launch) (G : xG) {a1 : Int32} {a2 : Int32}  {M : xM} {post : Int32 → xM → Prop} (h : xw_CA_of a1 a2 M post) : Met l y_CA_of (Cond.code y_CA_of b_CA_of 3 (some .int) :: xTG) rm_CA_of (xPre G M [.ref (G.1 8 0), .int a1, .int a2]) (xPi G post) 0 0 (xA G) := by
  refine xMet (own := R_CA) [.ref (G.1 8 0), .int a1, .int a2] (Or.inl (by decide)) rfl (Nat.le_of_ble_eq_true rfl) (fun p e s m args below meth c ls hC hr hlk hR hS hl => ?_)
  have hx := hC.1
  have hb := hC.2.1
  have hl : lv_has ls 3 [(0, .ref (G.1 8 0)), (1, .int a1), (2, .int a2)] := hl
  obtain ⟨H, eH⟩ : ∃ H : Heap, H = s.heap := ⟨_, rfl⟩
  obtain ⟨locs, eL⟩ : ∃ locs : List Loc, locs = [] := ⟨_, rfl⟩
  rw [← eH] at hR
  replace hS : va_S (xA G) s.heap H locs := by rw [eH, eL]; exact hS
  suffices hh : W p l e rm_CA_of s m args below meth c H locs 0 0 (MQ below (xPi G post) args s 0 0 (xA G)) (F0 m 0 ls []) from by rw [eH, eL] at hh; exact hh
  unfold xw_CA_of at h
  refine lv_aload_n (pc := 0) hx hb xd_CA_of_0 rfl (lv_at hl 0 rfl) ?_
  refine xr_get (pc := 1) (v := .ref (G.1 0 0)) hC hR xo_C0 xf_CA_10 rfl xd_CA_of_1 ?_
  refine xr_get (pc := 4) (v := .ref (G.1 0 3)) hC hR (xo_K0 xg0) xf_CA_160 rfl xd_CA_of_4 ?_
  refine lv_iload_n (pc := 7) hx hb xd_CA_of_7 rfl (lv_at hl 1 rfl) ?_
  refine xr_callV (pc := 8) (As := [.int a1]) (rest := []) hC hR hS (xc_Ho_has l G xg0 h) (xo_K3 xg0) xv_CA_173 ⟨rfl, rfl, Nat.le_of_ble_eq_true rfl, Nat.le_of_ble_eq_true rfl⟩ rfl hl.1 rfl (Nat.le_of_ble_eq_true rfl) xd_CA_of_8 (fun r2 M1 H locs h hR hS => ?_)
  refine lv_if_ne (pc := 11) (tgt := 17) hx hb xd_CA_of_11 (by decide) (fun hq => ?_) (fun hq => ?_)
  · have h := h.1 hq
    refine lv_iload_n (pc := 17) hx hb xd_CA_of_17 rfl (lv_at hl 2 rfl) ?_
    by_cases hs0 : a2 = (0 : Int32)
    · have h := h.1 hs0
      refine lv_tableIn (pc := 18) (tgt := 48) (off := 30) hx hb xd_CA_of_18 (by rw [hs0]; decide) (by rw [hs0]; decide) (by rw [hs0]; rfl) (by decide) ?_
      refine lv_aload_n (pc := 48) hx hb xd_CA_of_48 rfl (lv_at hl 0 rfl) ?_
      refine xr_get (pc := 49) (v := .ref (G.1 0 0)) hC hR xo_C0 xf_CA_10 rfl xd_CA_of_49 ?_
      refine xr_get (pc := 52) (v := .ref (G.1 0 3)) hC hR (xo_K0 xg0) xf_CA_160 rfl xd_CA_of_52 ?_
      refine xr_get (pc := 55) (v := .ref (G.1 0 4)) hC hR (xo_K3 xg0) xf_CA_181 rfl xd_CA_of_55 ?_
      refine lv_iload_n (pc := 58) hx hb xd_CA_of_58 rfl (lv_at hl 1 rfl) ?_
      obtain ⟨hq, h⟩ := h
      refine xr_iald (pc := 59) hC hR (xo_K4 xg0) hq xd_CA_of_59 ?_
      exact xr_iret hC hr hlk hR hS h xd_CA_of_60
    by_cases hs1 : a2 = (1 : Int32)
    · have h := h.2.1 hs1
      refine lv_tableIn (pc := 18) (tgt := 61) (off := 43) hx hb xd_CA_of_18 (by rw [hs1]; decide) (by rw [hs1]; decide) (by rw [hs1]; rfl) (by decide) ?_
      refine lv_aload_n (pc := 61) hx hb xd_CA_of_61 rfl (lv_at hl 0 rfl) ?_
      refine xr_get (pc := 62) (v := .ref (G.1 0 0)) hC hR xo_C0 xf_CA_10 rfl xd_CA_of_62 ?_
      refine xr_get (pc := 65) (v := .ref (G.1 0 3)) hC hR (xo_K0 xg0) xf_CA_160 rfl xd_CA_of_65 ?_
      refine xr_get (pc := 68) (v := .ref (G.1 0 5)) hC hR (xo_K3 xg0) xf_CA_178 rfl xd_CA_of_68 ?_
      refine lv_iload_n (pc := 71) hx hb xd_CA_of_71 rfl (lv_at hl 1 rfl) ?_
      obtain ⟨hq, h⟩ := h
      refine xr_zald (pc := 72) hC hR (xo_K5 xg0) hq xd_CA_of_72 ?_
      refine lv_if_eq (pc := 73) (tgt := 80) hx hb xd_CA_of_73 (by decide) (fun hq => ?_) (fun hq => ?_)
      · have h := h.1 hq
        refine lv_iconst (pc := 80) (v := (0 : Int32)) hx hb xd_CA_of_80 (by decide) ?_
        exact xr_iret hC hr hlk hR hS h xd_CA_of_81
      · have h := h.2 hq
        refine lv_iconst (pc := 76) (v := (1 : Int32)) hx hb xd_CA_of_76 (by decide) ?_
        refine lv_goto (pc := 77) (tgt := 81) hx hb xd_CA_of_77 (by decide) ?_
        exact xr_iret hC hr hlk hR hS h xd_CA_of_81
    by_cases hs2 : a2 = (2 : Int32)
    · have h := h.2.2.1 hs2
      refine lv_tableIn (pc := 18) (tgt := 82) (off := 64) hx hb xd_CA_of_18 (by rw [hs2]; decide) (by rw [hs2]; decide) (by rw [hs2]; rfl) (by decide) ?_
      refine lv_aload_n (pc := 82) hx hb xd_CA_of_82 rfl (lv_at hl 0 rfl) ?_
      refine xr_get (pc := 83) (v := .ref (G.1 0 0)) hC hR xo_C0 xf_CA_10 rfl xd_CA_of_83 ?_
      refine xr_get (pc := 86) (v := .ref (G.1 0 3)) hC hR (xo_K0 xg0) xf_CA_160 rfl xd_CA_of_86 ?_
      refine xr_get (pc := 89) (v := .ref (G.1 0 6)) hC hR (xo_K3 xg0) xf_CA_191 rfl xd_CA_of_89 ?_
      refine lv_iload_n (pc := 92) hx hb xd_CA_of_92 rfl (lv_at hl 1 rfl) ?_
      obtain ⟨hq, h⟩ := h
      refine xr_iald (pc := 93) hC hR (xo_K6 xg0) hq xd_CA_of_93 ?_
      exact xr_iret hC hr hlk hR hS h xd_CA_of_94
    by_cases hs3 : a2 = (3 : Int32)
    · have h := h.2.2.2.1 hs3
      refine lv_tableIn (pc := 18) (tgt := 95) (off := 77) hx hb xd_CA_of_18 (by rw [hs3]; decide) (by rw [hs3]; decide) (by rw [hs3]; rfl) (by decide) ?_
      refine lv_aload_n (pc := 95) hx hb xd_CA_of_95 rfl (lv_at hl 0 rfl) ?_
      refine xr_get (pc := 96) (v := .ref (G.1 0 0)) hC hR xo_C0 xf_CA_10 rfl xd_CA_of_96 ?_
      refine lv_iload_n (pc := 99) hx hb xd_CA_of_99 rfl (lv_at hl 1 rfl) ?_
      refine xr_callV (pc := 100) (As := [.int a1]) (rest := []) hC hR hS (xc_Ke_leastFromOthers l G xg0 h) (xo_K0 xg0) xv_CA_227 ⟨rfl, rfl, Nat.le_of_ble_eq_true rfl, Nat.le_of_ble_eq_true rfl⟩ rfl hl.1 rfl (Nat.le_of_ble_eq_true rfl) xd_CA_of_100 (fun r4 M3 H locs h hR hS => ?_)
      exact xr_iret hC hr hlk hR hS h xd_CA_of_103
    have h := h.2.2.2.2 hs0 hs1 hs2 hs3
    refine lv_tableOut (pc := 18) (tgt := 104) hx hb xd_CA_of_18 (xsw4 hs0 hs1 hs2 hs3) (by decide) ?_
    refine lv_iconst (pc := 104) (v := (-1 : Int32)) hx hb xd_CA_of_104 (by decide) ?_
    exact xr_iret hC hr hlk hR hS h xd_CA_of_105
  · have h := h.2 hq
    refine lv_bipush (pc := 14) (v := (-2 : Int32)) hx hb xd_CA_of_14 (by decide) ?_
    exact xr_iret hC hr hlk hR hS h xd_CA_of_16

/-! ColoursApart.best(I)I -/
theorem xd_CA_best_0 : decode b_CA_best 0 = .ok (.aload_n 0, 1) := by decide +kernel
theorem xd_CA_best_1 : decode b_CA_best 1 = .ok (.getfield 10, 3) := by decide +kernel
theorem xd_CA_best_4 : decode b_CA_best 4 = .ok (.getfield 125, 3) := by decide +kernel
theorem xd_CA_best_7 : decode b_CA_best 7 = .ok (.getfield 129, 3) := by decide +kernel
theorem xd_CA_best_10 : decode b_CA_best 10 = .ok (.iconst 4, 1) := by decide +kernel
theorem xd_CA_best_11 : decode b_CA_best 11 = .ok (.if_icmp .ne 7, 3) := by decide +kernel
theorem xd_CA_best_14 : decode b_CA_best 14 = .ok (.iconst 4, 1) := by decide +kernel
theorem xd_CA_best_15 : decode b_CA_best 15 = .ok (.goto 4, 3) := by decide +kernel
theorem xd_CA_best_18 : decode b_CA_best 18 = .ok (.iconst 5, 1) := by decide +kernel
theorem xd_CA_best_19 : decode b_CA_best 19 = .ok (.istore_n 2, 1) := by decide +kernel
theorem xd_CA_best_20 : decode b_CA_best 20 = .ok (.iload_n 1, 1) := by decide +kernel
theorem xd_CA_best_21 : decode b_CA_best 21 = .ok (.iconst 1, 1) := by decide +kernel
theorem xd_CA_best_22 : decode b_CA_best 22 = .ok (.if_icmp .lt 8, 3) := by decide +kernel
theorem xd_CA_best_25 : decode b_CA_best 25 = .ok (.iload_n 1, 1) := by decide +kernel
theorem xd_CA_best_26 : decode b_CA_best 26 = .ok (.iload_n 2, 1) := by decide +kernel
theorem xd_CA_best_27 : decode b_CA_best 27 = .ok (.if_icmp .le 9, 3) := by decide +kernel
theorem xd_CA_best_30 : decode b_CA_best 30 = .ok (.aload_n 0, 1) := by decide +kernel
theorem xd_CA_best_31 : decode b_CA_best 31 = .ok (.iconst (-1), 1) := by decide +kernel
theorem xd_CA_best_32 : decode b_CA_best 32 = .ok (.invokevirtual 67, 3) := by decide +kernel
theorem xd_CA_best_35 : decode b_CA_best 35 = .ok (.ireturn, 1) := by decide +kernel
theorem xd_CA_best_36 : decode b_CA_best 36 = .ok (.aload_n 0, 1) := by decide +kernel
theorem xd_CA_best_37 : decode b_CA_best 37 = .ok (.aload_n 0, 1) := by decide +kernel
theorem xd_CA_best_38 : decode b_CA_best 38 = .ok (.getfield 33, 3) := by decide +kernel
theorem xd_CA_best_41 : decode b_CA_best 41 = .ok (.aload_n 0, 1) := by decide +kernel
theorem xd_CA_best_42 : decode b_CA_best 42 = .ok (.getfield 10, 3) := by decide +kernel
theorem xd_CA_best_45 : decode b_CA_best 45 = .ok (.iload_n 1, 1) := by decide +kernel
theorem xd_CA_best_46 : decode b_CA_best 46 = .ok (.invokevirtual 230, 3) := by decide +kernel
theorem xd_CA_best_49 : decode b_CA_best 49 = .ok (.invokevirtual 78, 3) := by decide +kernel
theorem xd_CA_best_52 : decode b_CA_best 52 = .ok (.ireturn, 1) := by decide +kernel
abbrev rm_CA_best : Room := { frames := 12, cells := 0, slots := 0, locals := 348 }
def xw_CA_best (a1 : Int32) (M : xM) (post : Int32 → xM → Prop) : Prop :=
  xj (fun (J19_0 : Int32 → xM → Prop) => ((¬ (M 0 12 0) = (4 : Int32)) → (J19_0 (5 : Int32) M)) ∧ (((M 0 12 0) = (4 : Int32)) → (J19_0 (4 : Int32) M))) (fun (v2 : Int32) (M3 : xM) => xj (fun (J30_3 : xM → Prop) => ((a1 < (1 : Int32)) → (J30_3  M3)) ∧ ((¬ a1 < (1 : Int32)) → (((a1 ≤ v2) → (xw_Ch_choose 0 a1 M3 (fun (r9 : Int32) (M8 : xM) => xw_CA_taken r9 M8 (fun (r11 : Int32) (M10 : xM) => post r11 M10)))) ∧ ((¬ a1 ≤ v2) → (J30_3  M3))))) (fun (M5 : xM) => xw_CA_refused (-1 : Int32) M5 (fun (r7 : Int32) (M6 : xM) => post r7 M6)))
set_option maxHeartbeats 4000000 in
set_option maxRecDepth 100000 in
theorem xc_CA_best (l : Launch) (G : xG) {a1 : Int32}  {M : xM} {post : Int32 → xM → Prop} (h : xw_CA_best a1 M post) : Met l y_CA_best (Cond.code y_CA_best b_CA_best 3 (some .int) :: xTG) rm_CA_best (xPre G M [.ref (G.1 8 0), .int a1]) (xPi G post) 0 0 (xA G) := by
  refine xMet (own := R_CA) [.ref (G.1 8 0), .int a1] (Or.inl (by decide)) rfl (Nat.le_of_ble_eq_true rfl) (fun p e s m args below meth c ls hC hr hlk hR hS hl => ?_)
  have hx := hC.1
  have hb := hC.2.1
  have hl : lv_has ls 3 [(0, .ref (G.1 8 0)), (1, .int a1)] := hl
  obtain ⟨H, eH⟩ : ∃ H : Heap, H = s.heap := ⟨_, rfl⟩
  obtain ⟨locs, eL⟩ : ∃ locs : List Loc, locs = [] := ⟨_, rfl⟩
  rw [← eH] at hR
  replace hS : va_S (xA G) s.heap H locs := by rw [eH, eL]; exact hS
  suffices hh : W p l e rm_CA_best s m args below meth c H locs 0 0 (MQ below (xPi G post) args s 0 0 (xA G)) (F0 m 0 ls []) from by rw [eH, eL] at hh; exact hh
  unfold xw_CA_best at h
  refine lv_aload_n (pc := 0) hx hb xd_CA_best_0 rfl (lv_at hl 0 rfl) ?_
  refine xr_get (pc := 1) (v := .ref (G.1 0 0)) hC hR xo_C0 xf_CA_10 rfl xd_CA_best_1 ?_
  refine xr_get (pc := 4) (v := .ref (G.1 0 12)) hC hR (xo_K0 xg0) xf_CA_125 rfl xd_CA_best_4 ?_
  refine xr_get (pc := 7) (v := .int (M 0 12 0)) hC hR (xo_K12 xg0) xf_CA_129 rfl xd_CA_best_7 ?_
  refine lv_iconst (pc := 10) (v := (4 : Int32)) hx hb xd_CA_best_10 (by decide) ?_
  obtain ⟨J19_0, eJ19_0, h⟩ := xj_open h
  have kJ19_0 : ∀ (v2 : Int32) (M3 : xM) (H : Heap) (locs : List Loc) (ls : Array Slot), J19_0 v2 M3 → xRp G M3 H → va_S (xA G) s.heap H locs → lv_has ls 3 [(0, .ref (G.1 8 0)), (1, .int a1)] → W p l e rm_CA_best s m args below meth c H locs 0 0 (MQ below (xPi G post) args s 0 0 (xA G)) (F0 m 19 ls [.int v2]) := by
    intro v2 M3 H locs ls h hR hS hl
    rw [eJ19_0] at h
    refine lv_istore_n (pc := 19) (lv' := [(2, .int v2), (0, .ref (G.1 8 0)), (1, .int a1)]) hx hb xd_CA_best_19 rfl hl (by decide) rfl (fun ls hl => ?_)
    refine lv_iload_n (pc := 20) hx hb xd_CA_best_20 rfl (lv_at hl 2 rfl) ?_
    refine lv_iconst (pc := 21) (v := (1 : Int32)) hx hb xd_CA_best_21 (by decide) ?_
    obtain ⟨J30_3, eJ30_3, h⟩ := xj_open h
    have kJ30_3 : ∀ (M5 : xM) (H : Heap) (locs : List Loc) (ls : Array Slot), J30_3 M5 → xRp G M5 H → va_S (xA G) s.heap H locs → lv_has ls 3 [(0, .ref (G.1 8 0))] → W p l e rm_CA_best s m args below meth c H locs 0 0 (MQ below (xPi G post) args s 0 0 (xA G)) (F0 m 30 ls []) := by
      intro M5 H locs ls h hR hS hl
      rw [eJ30_3] at h
      refine lv_aload_n (pc := 30) hx hb xd_CA_best_30 rfl (lv_at hl 0 rfl) ?_
      refine lv_iconst (pc := 31) (v := (-1 : Int32)) hx hb xd_CA_best_31 (by decide) ?_
      refine xr_callV (pc := 32) (As := [.int (-1 : Int32)]) (rest := []) hC hR hS (xc_CA_refused l G  h) xo_C0 xv_CA_67 ⟨rfl, rfl, Nat.le_of_ble_eq_true rfl, Nat.le_of_ble_eq_true rfl⟩ rfl hl.1 rfl (Nat.le_of_ble_eq_true rfl) xd_CA_best_32 (fun r7 M6 H locs h hR hS => ?_)
      exact xr_iret hC hr hlk hR hS h xd_CA_best_35
    refine lv_icmp_lt (pc := 22) (tgt := 30) hx hb xd_CA_best_22 (by decide) (fun hq => ?_) (fun hq => ?_)
    · have h := h.1 hq
      exact kJ30_3  M3 H locs ls h hR hS (lv_sub hl [1] rfl)
    · have h := h.2 hq
      refine lv_iload_n (pc := 25) hx hb xd_CA_best_25 rfl (lv_at hl 2 rfl) ?_
      refine lv_iload_n (pc := 26) hx hb xd_CA_best_26 rfl (lv_at hl 0 rfl) ?_
      refine lv_icmp_le (pc := 27) (tgt := 36) hx hb xd_CA_best_27 (by decide) (fun hq => ?_) (fun hq => ?_)
      · have h := h.1 hq
        refine lv_aload_n (pc := 36) hx hb xd_CA_best_36 rfl (lv_at hl 1 rfl) ?_
        refine lv_aload_n (pc := 37) hx hb xd_CA_best_37 rfl (lv_at hl 1 rfl) ?_
        refine xr_get (pc := 38) (v := .ref (G.1 8 4)) hC hR xo_C0 xf_CA_33 rfl xd_CA_best_38 ?_
        refine lv_aload_n (pc := 41) hx hb xd_CA_best_41 rfl (lv_at hl 1 rfl) ?_
        refine xr_get (pc := 42) (v := .ref (G.1 0 0)) hC hR xo_C0 xf_CA_10 rfl xd_CA_best_42 ?_
        refine lv_iload_n (pc := 45) hx hb xd_CA_best_45 rfl (lv_at hl 2 rfl) ?_
        refine xr_callV (pc := 46) (As := [.ref (G.1 0 0), .int a1]) (rest := [.ref (G.1 8 0)]) hC hR hS (xc_Ch_choose l G xg0 h) xo_C4 xv_CA_230 ⟨rfl, rfl, Nat.le_of_ble_eq_true rfl, Nat.le_of_ble_eq_true rfl⟩ rfl hl.1 rfl (Nat.le_of_ble_eq_true rfl) xd_CA_best_46 (fun r9 M8 H locs h hR hS => ?_)
        refine xr_callV (pc := 49) (As := [.int r9]) (rest := []) hC hR hS (xc_CA_taken l G  h) xo_C0 xv_CA_78 ⟨rfl, rfl, Nat.le_of_ble_eq_true rfl, Nat.le_of_ble_eq_true rfl⟩ rfl hl.1 rfl (Nat.le_of_ble_eq_true rfl) xd_CA_best_49 (fun r11 M10 H locs h hR hS => ?_)
        exact xr_iret hC hr hlk hR hS h xd_CA_best_52
      · have h := h.2 hq
        exact kJ30_3  M3 H locs ls h hR hS (lv_sub hl [1] rfl)
  refine lv_icmp_ne (pc := 11) (tgt := 18) hx hb xd_CA_best_11 (by decide) (fun hq => ?_) (fun hq => ?_)
  · have h := h.1 hq
    refine lv_iconst (pc := 18) (v := (5 : Int32)) hx hb xd_CA_best_18 (by decide) ?_
    exact kJ19_0 (5 : Int32) M H locs ls h hR hS (lv_sub hl [0, 1] rfl)
  · have h := h.2 hq
    refine lv_iconst (pc := 14) (v := (4 : Int32)) hx hb xd_CA_best_14 (by decide) ?_
    refine lv_goto (pc := 15) (tgt := 19) hx hb xd_CA_best_15 (by decide) ?_
    exact kJ19_0 (4 : Int32) M H locs ls h hR hS (lv_sub hl [0, 1] rfl)

/-! ColoursApart.chosen(I)I -/
theorem xd_CA_chosen_0 : decode b_CA_chosen 0 = .ok (.aload_n 0, 1) := by decide +kernel
theorem xd_CA_chosen_1 : decode b_CA_chosen 1 = .ok (.getfield 33, 3) := by decide +kernel
theorem xd_CA_chosen_4 : decode b_CA_chosen 4 = .ok (.iload_n 1, 1) := by decide +kernel
theorem xd_CA_chosen_5 : decode b_CA_chosen 5 = .ok (.invokevirtual 234, 3) := by decide +kernel
theorem xd_CA_chosen_8 : decode b_CA_chosen 8 = .ok (.ireturn, 1) := by decide +kernel
abbrev rm_CA_chosen : Room := { frames := 1, cells := 0, slots := 0, locals := 21 }
def xw_CA_chosen (a1 : Int32) (M : xM) (post : Int32 → xM → Prop) : Prop :=
  xw_Ch_placeAt a1 M (fun (r2 : Int32) (M1 : xM) => post r2 M1)
set_option maxHeartbeats 4000000 in
set_option maxRecDepth 100000 in
theorem xc_CA_chosen (l : Launch) (G : xG) {a1 : Int32}  {M : xM} {post : Int32 → xM → Prop} (h : xw_CA_chosen a1 M post) : Met l y_CA_chosen (Cond.code y_CA_chosen b_CA_chosen 2 (some .int) :: xTG) rm_CA_chosen (xPre G M [.ref (G.1 8 0), .int a1]) (xPi G post) 0 0 (xA G) := by
  refine xMet (own := R_CA) [.ref (G.1 8 0), .int a1] (Or.inl (by decide)) rfl (Nat.le_of_ble_eq_true rfl) (fun p e s m args below meth c ls hC hr hlk hR hS hl => ?_)
  have hx := hC.1
  have hb := hC.2.1
  have hl : lv_has ls 2 [(0, .ref (G.1 8 0)), (1, .int a1)] := hl
  obtain ⟨H, eH⟩ : ∃ H : Heap, H = s.heap := ⟨_, rfl⟩
  obtain ⟨locs, eL⟩ : ∃ locs : List Loc, locs = [] := ⟨_, rfl⟩
  rw [← eH] at hR
  replace hS : va_S (xA G) s.heap H locs := by rw [eH, eL]; exact hS
  suffices hh : W p l e rm_CA_chosen s m args below meth c H locs 0 0 (MQ below (xPi G post) args s 0 0 (xA G)) (F0 m 0 ls []) from by rw [eH, eL] at hh; exact hh
  unfold xw_CA_chosen at h
  refine lv_aload_n (pc := 0) hx hb xd_CA_chosen_0 rfl (lv_at hl 0 rfl) ?_
  refine xr_get (pc := 1) (v := .ref (G.1 8 4)) hC hR xo_C0 xf_CA_33 rfl xd_CA_chosen_1 ?_
  refine lv_iload_n (pc := 4) hx hb xd_CA_chosen_4 rfl (lv_at hl 1 rfl) ?_
  refine xr_callV (pc := 5) (As := [.int a1]) (rest := []) hC hR hS (xc_Ch_placeAt l G  h) xo_C4 xv_CA_234 ⟨rfl, rfl, Nat.le_of_ble_eq_true rfl, Nat.le_of_ble_eq_true rfl⟩ rfl hl.1 rfl (Nat.le_of_ble_eq_true rfl) xd_CA_chosen_5 (fun r2 M1 H locs h hR hS => ?_)
  exact xr_iret hC hr hlk hR hS h xd_CA_chosen_8

/-! ColoursApart.isLeastDistance(I)Z -/
theorem xd_CA_isLeastDistance_0 : decode b_CA_isLeastDistance 0 = .ok (.iload_n 0, 1) := by decide +kernel
theorem xd_CA_isLeastDistance_1 : decode b_CA_isLeastDistance 1 = .ok (.iconst 1, 1) := by decide +kernel
theorem xd_CA_isLeastDistance_2 : decode b_CA_isLeastDistance 2 = .ok (.if_icmp .lt 14, 3) := by decide +kernel
theorem xd_CA_isLeastDistance_5 : decode b_CA_isLeastDistance 5 = .ok (.iload_n 0, 1) := by decide +kernel
theorem xd_CA_isLeastDistance_6 : decode b_CA_isLeastDistance 6 = .ok (.ldc_w 263, 3) := by decide +kernel
theorem xd_CA_isLeastDistance_9 : decode b_CA_isLeastDistance 9 = .ok (.if_icmp .gt 7, 3) := by decide +kernel
theorem xd_CA_isLeastDistance_12 : decode b_CA_isLeastDistance 12 = .ok (.iconst 1, 1) := by decide +kernel
theorem xd_CA_isLeastDistance_13 : decode b_CA_isLeastDistance 13 = .ok (.goto 4, 3) := by decide +kernel
theorem xd_CA_isLeastDistance_16 : decode b_CA_isLeastDistance 16 = .ok (.iconst 0, 1) := by decide +kernel
theorem xd_CA_isLeastDistance_17 : decode b_CA_isLeastDistance 17 = .ok (.ireturn, 1) := by decide +kernel
abbrev rm_CA_isLeastDistance : Room := { frames := 0, cells := 0, slots := 0, locals := 0 }
def xw_CA_isLeastDistance (a0 : Int32) (M : xM) (post : Int32 → xM → Prop) : Prop :=
  ((a0 < (1 : Int32)) → (post (0 : Int32) M)) ∧ ((¬ a0 < (1 : Int32)) → ((((2000000 : Int32) < a0) → (post (0 : Int32) M)) ∧ ((¬ (2000000 : Int32) < a0) → (post (1 : Int32) M))))
set_option maxHeartbeats 4000000 in
set_option maxRecDepth 100000 in
theorem xc_CA_isLeastDistance (l : Launch) (G : xG) {a0 : Int32}  {M : xM} {post : Int32 → xM → Prop} (h : xw_CA_isLeastDistance a0 M post) : Met l y_CA_isLeastDistance (Cond.code y_CA_isLeastDistance b_CA_isLeastDistance 1 (some .boolean) :: xTG) rm_CA_isLeastDistance (xPre G M [.int a0]) (xPi G post) 0 0 (xA G) := by
  refine xMet (own := R_CA) [.int a0] (Or.inl (by decide)) rfl (Nat.le_of_ble_eq_true rfl) (fun p e s m args below meth c ls hC hr hlk hR hS hl => ?_)
  have hx := hC.1
  have hb := hC.2.1
  have hl : lv_has ls 1 [(0, .int a0)] := hl
  obtain ⟨H, eH⟩ : ∃ H : Heap, H = s.heap := ⟨_, rfl⟩
  obtain ⟨locs, eL⟩ : ∃ locs : List Loc, locs = [] := ⟨_, rfl⟩
  rw [← eH] at hR
  replace hS : va_S (xA G) s.heap H locs := by rw [eH, eL]; exact hS
  suffices hh : W p l e rm_CA_isLeastDistance s m args below meth c H locs 0 0 (MQ below (xPi G post) args s 0 0 (xA G)) (F0 m 0 ls []) from by rw [eH, eL] at hh; exact hh
  unfold xw_CA_isLeastDistance at h
  refine lv_iload_n (pc := 0) hx hb xd_CA_isLeastDistance_0 rfl (lv_at hl 0 rfl) ?_
  refine lv_iconst (pc := 1) (v := (1 : Int32)) hx hb xd_CA_isLeastDistance_1 (by decide) ?_
  refine lv_icmp_lt (pc := 2) (tgt := 16) hx hb xd_CA_isLeastDistance_2 (by decide) (fun hq => ?_) (fun hq => ?_)
  · have h := h.1 hq
    refine lv_iconst (pc := 16) (v := (0 : Int32)) hx hb xd_CA_isLeastDistance_16 (by decide) ?_
    exact xr_zret hC hr hlk hR hS (by decide) h xd_CA_isLeastDistance_17
  · have h := h.2 hq
    refine lv_iload_n (pc := 5) hx hb xd_CA_isLeastDistance_5 rfl (lv_at hl 0 rfl) ?_
    refine lv_ldcw (pc := 6) (v := (2000000 : Int32)) hx hb hC.2.2.2.1 (hC.2.2.2.2.1 _ xk_CA_263) xd_CA_isLeastDistance_6 ?_
    refine lv_icmp_gt (pc := 9) (tgt := 16) hx hb xd_CA_isLeastDistance_9 (by decide) (fun hq => ?_) (fun hq => ?_)
    · have h := h.1 hq
      refine lv_iconst (pc := 16) (v := (0 : Int32)) hx hb xd_CA_isLeastDistance_16 (by decide) ?_
      exact xr_zret hC hr hlk hR hS (by decide) h xd_CA_isLeastDistance_17
    · have h := h.2 hq
      refine lv_iconst (pc := 12) (v := (1 : Int32)) hx hb xd_CA_isLeastDistance_12 (by decide) ?_
      refine lv_goto (pc := 13) (tgt := 17) hx hb xd_CA_isLeastDistance_13 (by decide) ?_
      exact xr_zret hC hr hlk hR hS (by decide) h xd_CA_isLeastDistance_17
