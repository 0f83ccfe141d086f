/-! ColoursApartModel.set(II)I -/
theorem xd_Mo_set_0 : decode b_Mo_set 0 = .ok (.iload_n 2, 1) := by decide +kernel
theorem xd_Mo_set_1 : decode b_Mo_set 1 = .ok (.invokestatic 133, 3) := by decide +kernel
theorem xd_Mo_set_4 : decode b_Mo_set 4 = .ok (.ifCond .ne 9, 3) := by decide +kernel
theorem xd_Mo_set_7 : decode b_Mo_set 7 = .ok (.aload_n 0, 1) := by decide +kernel
theorem xd_Mo_set_8 : decode b_Mo_set 8 = .ok (.iconst (-1), 1) := by decide +kernel
theorem xd_Mo_set_9 : decode b_Mo_set 9 = .ok (.invokevirtual 89, 3) := by decide +kernel
theorem xd_Mo_set_12 : decode b_Mo_set 12 = .ok (.ireturn, 1) := by decide +kernel
theorem xd_Mo_set_13 : decode b_Mo_set 13 = .ok (.aload_n 0, 1) := by decide +kernel
theorem xd_Mo_set_14 : decode b_Mo_set 14 = .ok (.iload_n 1, 1) := by decide +kernel
theorem xd_Mo_set_15 : decode b_Mo_set 15 = .ok (.invokevirtual 151, 3) := by decide +kernel
theorem xd_Mo_set_18 : decode b_Mo_set 18 = .ok (.ifCond .ne 10, 3) := by decide +kernel
theorem xd_Mo_set_21 : decode b_Mo_set 21 = .ok (.aload_n 0, 1) := by decide +kernel
theorem xd_Mo_set_22 : decode b_Mo_set 22 = .ok (.bipush (-2), 2) := by decide +kernel
theorem xd_Mo_set_24 : decode b_Mo_set 24 = .ok (.invokevirtual 89, 3) := by decide +kernel
theorem xd_Mo_set_27 : decode b_Mo_set 27 = .ok (.ireturn, 1) := by decide +kernel
theorem xd_Mo_set_28 : decode b_Mo_set 28 = .ok (.aload_n 0, 1) := by decide +kernel
theorem xd_Mo_set_29 : decode b_Mo_set 29 = .ok (.iload_n 1, 1) := by decide +kernel
theorem xd_Mo_set_30 : decode b_Mo_set 30 = .ok (.iload_n 2, 1) := by decide +kernel
theorem xd_Mo_set_31 : decode b_Mo_set 31 = .ok (.invokevirtual 154, 3) := by decide +kernel
theorem xd_Mo_set_34 : decode b_Mo_set 34 = .ok (.ifCond .ne 9, 3) := by decide +kernel
theorem xd_Mo_set_37 : decode b_Mo_set 37 = .ok (.aload_n 0, 1) := by decide +kernel
theorem xd_Mo_set_38 : decode b_Mo_set 38 = .ok (.iconst (-1), 1) := by decide +kernel
theorem xd_Mo_set_39 : decode b_Mo_set 39 = .ok (.invokevirtual 89, 3) := by decide +kernel
theorem xd_Mo_set_42 : decode b_Mo_set 42 = .ok (.ireturn, 1) := by decide +kernel
theorem xd_Mo_set_43 : decode b_Mo_set 43 = .ok (.aload_n 0, 1) := by decide +kernel
theorem xd_Mo_set_44 : decode b_Mo_set 44 = .ok (.getfield 38, 3) := by decide +kernel
theorem xd_Mo_set_47 : decode b_Mo_set 47 = .ok (.iload_n 1, 1) := by decide +kernel
theorem xd_Mo_set_48 : decode b_Mo_set 48 = .ok (.baload, 1) := by decide +kernel
theorem xd_Mo_set_49 : decode b_Mo_set 49 = .ok (.ifCond .eq 10, 3) := by decide +kernel
theorem xd_Mo_set_52 : decode b_Mo_set 52 = .ok (.aload_n 0, 1) := by decide +kernel
theorem xd_Mo_set_53 : decode b_Mo_set 53 = .ok (.bipush (-6), 2) := by decide +kernel
theorem xd_Mo_set_55 : decode b_Mo_set 55 = .ok (.invokevirtual 89, 3) := by decide +kernel
theorem xd_Mo_set_58 : decode b_Mo_set 58 = .ok (.ireturn, 1) := by decide +kernel
theorem xd_Mo_set_59 : decode b_Mo_set 59 = .ok (.aload_n 0, 1) := by decide +kernel
theorem xd_Mo_set_60 : decode b_Mo_set 60 = .ok (.getfield 35, 3) := by decide +kernel
theorem xd_Mo_set_63 : decode b_Mo_set 63 = .ok (.iload_n 1, 1) := by decide +kernel
theorem xd_Mo_set_64 : decode b_Mo_set 64 = .ok (.iaload, 1) := by decide +kernel
theorem xd_Mo_set_65 : decode b_Mo_set 65 = .ok (.istore_n 3, 1) := by decide +kernel
theorem xd_Mo_set_66 : decode b_Mo_set 66 = .ok (.aload_n 0, 1) := by decide +kernel
theorem xd_Mo_set_67 : decode b_Mo_set 67 = .ok (.getfield 35, 3) := by decide +kernel
theorem xd_Mo_set_70 : decode b_Mo_set 70 = .ok (.iload_n 1, 1) := by decide +kernel
theorem xd_Mo_set_71 : decode b_Mo_set 71 = .ok (.iload_n 2, 1) := by decide +kernel
theorem xd_Mo_set_72 : decode b_Mo_set 72 = .ok (.iastore, 1) := by decide +kernel
theorem xd_Mo_set_73 : decode b_Mo_set 73 = .ok (.aload_n 0, 1) := by decide +kernel
theorem xd_Mo_set_74 : decode b_Mo_set 74 = .ok (.iload_n 3, 1) := by decide +kernel
theorem xd_Mo_set_75 : decode b_Mo_set 75 = .ok (.invokevirtual 89, 3) := by decide +kernel
theorem xd_Mo_set_78 : decode b_Mo_set 78 = .ok (.ireturn, 1) := by decide +kernel
abbrev rm_Mo_set : Room := { frames := 3, cells := 0, slots := 0, locals := 68 }
def xw_Mo_set (a1 : Int32) (a2 : Int32) (M : xM) (post : Int32 → xM → Prop) : Prop :=
  xw_Mo_isColour a2 M (fun (r2 : Int32) (M1 : xM) => ((¬ r2 = 0) → (xw_Mo_isIn a1 M1 (fun (r4 : Int32) (M3 : xM) => ((¬ r4 = 0) → (xw_Mo_isNamed a1 a2 M3 (fun (r6 : Int32) (M5 : xM) => ((¬ r6 = 0) → ((vp_in a1 12) ∧ ((((M5 9 7 a1.toNatClampNeg) = 0) → ((vp_in a1 12) ∧ ((vp_in a1 12) ∧ (xw_Mo_ends (M5 9 6 a1.toNatClampNeg) (us M5 9 6 a1.toNatClampNeg a2) (fun (r8 : Int32) (M7 : xM) => post r8 M7))))) ∧ ((¬ (M5 9 7 a1.toNatClampNeg) = 0) → (xw_Mo_ends (-6 : Int32) M5 (fun (r10 : Int32) (M9 : xM) => post r10 M9)))))) ∧ ((r6 = 0) → (xw_Mo_ends (-1 : Int32) M5 (fun (r12 : Int32) (M11 : xM) => post r12 M11)))))) ∧ ((r4 = 0) → (xw_Mo_ends (-2 : Int32) M3 (fun (r14 : Int32) (M13 : xM) => post r14 M13)))))) ∧ ((r2 = 0) → (xw_Mo_ends (-1 : Int32) M1 (fun (r16 : Int32) (M15 : xM) => post r16 M15))))
set_option maxHeartbeats 4000000 in
set_option maxRecDepth 100000 in
theorem xc_Mo_set (l : Launch) (G : xG) {a1 : Int32} {a2 : Int32}  {M : xM} {post : Int32 → xM → Prop} (h : xw_Mo_set a1 a2 M post) : Met l y_Mo_set (Cond.code y_Mo_set b_Mo_set 4 (some .int) :: xTG) rm_Mo_set (xPre G M [.ref (G.1 9 0), .int a1, .int a2]) (xPi G post) 0 0 (xA G) := by
  refine xMet (own := R_Mo) [.ref (G.1 9 0), .int a1, .int a2] (Or.inl (by decide)) rfl (Nat.le_of_ble_eq_true rfl) (fun p e s m args below meth c ls hC hr hlk hR hS hl => ?_)
  have hx := hC.1
  have hb := hC.2.1
  have hl : lv_has ls 4 [(0, .ref (G.1 9 0)), (1, .int a1), (2, .int a2)] := hl
  obtain ⟨H, eH⟩ : ∃ H : Heap, H = s.heap := ⟨_, rfl⟩
  obtain ⟨locs, eL⟩ : ∃ locs : List Loc, locs = [] := ⟨_, rfl⟩
  rw [← eH] at hR
  replace hS : va_S (xA G) s.heap H locs := by rw [eH, eL]; exact hS
  suffices hh : W p l e rm_Mo_set s m args below meth c H locs 0 0 (MQ below (xPi G post) args s 0 0 (xA G)) (F0 m 0 ls []) from by rw [eH, eL] at hh; exact hh
  unfold xw_Mo_set at h
  refine lv_iload_n (pc := 0) hx hb xd_Mo_set_0 rfl (lv_at hl 2 rfl) ?_
  refine xr_callS (pc := 1) (As := [.int a2]) (rest := []) hC hR hS (xc_Mo_isColour l G  h) xv_Mo_133 ⟨rfl, rfl, Nat.le_of_ble_eq_true rfl, Nat.le_of_ble_eq_true rfl⟩ rfl hl.1 rfl (Nat.le_of_ble_eq_true rfl) xd_Mo_set_1 (fun r2 M1 H locs h hR hS => ?_)
  refine lv_if_ne (pc := 4) (tgt := 13) hx hb xd_Mo_set_4 (by decide) (fun hq => ?_) (fun hq => ?_)
  · have h := h.1 hq
    refine lv_aload_n (pc := 13) hx hb xd_Mo_set_13 rfl (lv_at hl 0 rfl) ?_
    refine lv_iload_n (pc := 14) hx hb xd_Mo_set_14 rfl (lv_at hl 1 rfl) ?_
    refine xr_callV (pc := 15) (As := [.int a1]) (rest := []) hC hR hS (xc_Mo_isIn l G  h) xo_M0 xv_Mo_151 ⟨rfl, rfl, Nat.le_of_ble_eq_true rfl, Nat.le_of_ble_eq_true rfl⟩ rfl hl.1 rfl (Nat.le_of_ble_eq_true rfl) xd_Mo_set_15 (fun r4 M3 H locs h hR hS => ?_)
    refine lv_if_ne (pc := 18) (tgt := 28) hx hb xd_Mo_set_18 (by decide) (fun hq => ?_) (fun hq => ?_)
    · have h := h.1 hq
      refine lv_aload_n (pc := 28) hx hb xd_Mo_set_28 rfl (lv_at hl 0 rfl) ?_
      refine lv_iload_n (pc := 29) hx hb xd_Mo_set_29 rfl (lv_at hl 1 rfl) ?_
      refine lv_iload_n (pc := 30) hx hb xd_Mo_set_30 rfl (lv_at hl 2 rfl) ?_
      refine xr_callV (pc := 31) (As := [.int a1, .int a2]) (rest := []) hC hR hS (xc_Mo_isNamed l G  h) xo_M0 xv_Mo_154 ⟨rfl, rfl, Nat.le_of_ble_eq_true rfl, Nat.le_of_ble_eq_true rfl⟩ rfl hl.1 rfl (Nat.le_of_ble_eq_true rfl) xd_Mo_set_31 (fun r6 M5 H locs h hR hS => ?_)
      refine lv_if_ne (pc := 34) (tgt := 43) hx hb xd_Mo_set_34 (by decide) (fun hq => ?_) (fun hq => ?_)
      · have h := h.1 hq
        refine lv_aload_n (pc := 43) hx hb xd_Mo_set_43 rfl (lv_at hl 0 rfl) ?_
        refine xr_get (pc := 44) (v := .ref (G.1 9 7)) hC hR xo_M0 xf_Mo_38 rfl xd_Mo_set_44 ?_
        refine lv_iload_n (pc := 47) hx hb xd_Mo_set_47 rfl (lv_at hl 1 rfl) ?_
        obtain ⟨hq, h⟩ := h
        refine xr_zald (pc := 48) hC hR xo_M7 hq xd_Mo_set_48 ?_
        refine lv_if_eq (pc := 49) (tgt := 59) hx hb xd_Mo_set_49 (by decide) (fun hq => ?_) (fun hq => ?_)
        · have h := h.1 hq
          refine lv_aload_n (pc := 59) hx hb xd_Mo_set_59 rfl (lv_at hl 0 rfl) ?_
          refine xr_get (pc := 60) (v := .ref (G.1 9 6)) hC hR xo_M0 xf_Mo_35 rfl xd_Mo_set_60 ?_
          refine lv_iload_n (pc := 63) hx hb xd_Mo_set_63 rfl (lv_at hl 1 rfl) ?_
          obtain ⟨hq, h⟩ := h
          refine xr_iald (pc := 64) hC hR xo_M6 hq xd_Mo_set_64 ?_
          refine lv_istore_n (pc := 65) (lv' := [(3, .int (M5 9 6 a1.toNatClampNeg)), (0, .ref (G.1 9 0)), (1, .int a1), (2, .int a2)]) hx hb xd_Mo_set_65 rfl hl (by decide) rfl (fun ls hl => ?_)
          refine lv_aload_n (pc := 66) hx hb xd_Mo_set_66 rfl (lv_at hl 1 rfl) ?_
          refine xr_get (pc := 67) (v := .ref (G.1 9 6)) hC hR xo_M0 xf_Mo_35 rfl xd_Mo_set_67 ?_
          refine lv_iload_n (pc := 70) hx hb xd_Mo_set_70 rfl (lv_at hl 2 rfl) ?_
          refine lv_iload_n (pc := 71) hx hb xd_Mo_set_71 rfl (lv_at hl 3 rfl) ?_
          obtain ⟨hq, h⟩ := h
          refine xr_iast (pc := 72) hC hR hS xo_M6 hq xd_Mo_set_72 (fun H locs hR hS => ?_)
          refine lv_aload_n (pc := 73) hx hb xd_Mo_set_73 rfl (lv_at hl 1 rfl) ?_
          refine lv_iload_n (pc := 74) hx hb xd_Mo_set_74 rfl (lv_at hl 0 rfl) ?_
          refine xr_callV (pc := 75) (As := [.int (M5 9 6 a1.toNatClampNeg)]) (rest := []) hC hR hS (xc_Mo_ends l G  h) xo_M0 xv_Mo_89 ⟨rfl, rfl, Nat.le_of_ble_eq_true rfl, Nat.le_of_ble_eq_true rfl⟩ rfl hl.1 rfl (Nat.le_of_ble_eq_true rfl) xd_Mo_set_75 (fun r8 M7 H locs h hR hS => ?_)
          exact xr_iret hC hr hlk hR hS h xd_Mo_set_78
        · have h := h.2 hq
          refine lv_aload_n (pc := 52) hx hb xd_Mo_set_52 rfl (lv_at hl 0 rfl) ?_
          refine lv_bipush (pc := 53) (v := (-6 : Int32)) hx hb xd_Mo_set_53 (by decide) ?_
          refine xr_callV (pc := 55) (As := [.int (-6 : Int32)]) (rest := []) hC hR hS (xc_Mo_ends l G  h) xo_M0 xv_Mo_89 ⟨rfl, rfl, Nat.le_of_ble_eq_true rfl, Nat.le_of_ble_eq_true rfl⟩ rfl hl.1 rfl (Nat.le_of_ble_eq_true rfl) xd_Mo_set_55 (fun r10 M9 H locs h hR hS => ?_)
          exact xr_iret hC hr hlk hR hS h xd_Mo_set_58
      · have h := h.2 hq
        refine lv_aload_n (pc := 37) hx hb xd_Mo_set_37 rfl (lv_at hl 0 rfl) ?_
        refine lv_iconst (pc := 38) (v := (-1 : Int32)) hx hb xd_Mo_set_38 (by decide) ?_
        refine xr_callV (pc := 39) (As := [.int (-1 : Int32)]) (rest := []) hC hR hS (xc_Mo_ends l G  h) xo_M0 xv_Mo_89 ⟨rfl, rfl, Nat.le_of_ble_eq_true rfl, Nat.le_of_ble_eq_true rfl⟩ rfl hl.1 rfl (Nat.le_of_ble_eq_true rfl) xd_Mo_set_39 (fun r12 M11 H locs h hR hS => ?_)
        exact xr_iret hC hr hlk hR hS h xd_Mo_set_42
    · have h := h.2 hq
      refine lv_aload_n (pc := 21) hx hb xd_Mo_set_21 rfl (lv_at hl 0 rfl) ?_
      refine lv_bipush (pc := 22) (v := (-2 : Int32)) hx hb xd_Mo_set_22 (by decide) ?_
      refine xr_callV (pc := 24) (As := [.int (-2 : Int32)]) (rest := []) hC hR hS (xc_Mo_ends l G  h) xo_M0 xv_Mo_89 ⟨rfl, rfl, Nat.le_of_ble_eq_true rfl, Nat.le_of_ble_eq_true rfl⟩ rfl hl.1 rfl (Nat.le_of_ble_eq_true rfl) xd_Mo_set_24 (fun r14 M13 H locs h hR hS => ?_)
      exact xr_iret hC hr hlk hR hS h xd_Mo_set_27
  · have h := h.2 hq
    refine lv_aload_n (pc := 7) hx hb xd_Mo_set_7 rfl (lv_at hl 0 rfl) ?_
    refine lv_iconst (pc := 8) (v := (-1 : Int32)) hx hb xd_Mo_set_8 (by decide) ?_
    refine xr_callV (pc := 9) (As := [.int (-1 : Int32)]) (rest := []) hC hR hS (xc_Mo_ends l G  h) xo_M0 xv_Mo_89 ⟨rfl, rfl, Nat.le_of_ble_eq_true rfl, Nat.le_of_ble_eq_true rfl⟩ rfl hl.1 rfl (Nat.le_of_ble_eq_true rfl) xd_Mo_set_9 (fun r16 M15 H locs h hR hS => ?_)
    exact xr_iret hC hr hlk hR hS h xd_Mo_set_12

/-! ColoursApartModel.fix(IZ)I -/
theorem xd_Mo_fix_0 : decode b_Mo_fix 0 = .ok (.aload_n 0, 1) := by decide +kernel
theorem xd_Mo_fix_1 : decode b_Mo_fix 1 = .ok (.iload_n 1, 1) := by decide +kernel
theorem xd_Mo_fix_2 : decode b_Mo_fix 2 = .ok (.invokevirtual 151, 3) := by decide +kernel
theorem xd_Mo_fix_5 : decode b_Mo_fix 5 = .ok (.ifCond .ne 10, 3) := by decide +kernel
theorem xd_Mo_fix_8 : decode b_Mo_fix 8 = .ok (.aload_n 0, 1) := by decide +kernel
theorem xd_Mo_fix_9 : decode b_Mo_fix 9 = .ok (.bipush (-2), 2) := by decide +kernel
theorem xd_Mo_fix_11 : decode b_Mo_fix 11 = .ok (.invokevirtual 89, 3) := by decide +kernel
theorem xd_Mo_fix_14 : decode b_Mo_fix 14 = .ok (.ireturn, 1) := by decide +kernel
theorem xd_Mo_fix_15 : decode b_Mo_fix 15 = .ok (.aload_n 0, 1) := by decide +kernel
theorem xd_Mo_fix_16 : decode b_Mo_fix 16 = .ok (.getfield 38, 3) := by decide +kernel
theorem xd_Mo_fix_19 : decode b_Mo_fix 19 = .ok (.iload_n 1, 1) := by decide +kernel
theorem xd_Mo_fix_20 : decode b_Mo_fix 20 = .ok (.iload_n 2, 1) := by decide +kernel
theorem xd_Mo_fix_21 : decode b_Mo_fix 21 = .ok (.bastore, 1) := by decide +kernel
theorem xd_Mo_fix_22 : decode b_Mo_fix 22 = .ok (.aload_n 0, 1) := by decide +kernel
theorem xd_Mo_fix_23 : decode b_Mo_fix 23 = .ok (.iconst 0, 1) := by decide +kernel
theorem xd_Mo_fix_24 : decode b_Mo_fix 24 = .ok (.invokevirtual 89, 3) := by decide +kernel
theorem xd_Mo_fix_27 : decode b_Mo_fix 27 = .ok (.ireturn, 1) := by decide +kernel
abbrev rm_Mo_fix : Room := { frames := 2, cells := 0, slots := 0, locals := 43 }
def xw_Mo_fix (a1 : Int32) (a2 : Int32) (M : xM) (post : Int32 → xM → Prop) : Prop :=
  xw_Mo_isIn a1 M (fun (r2 : Int32) (M1 : xM) => ((¬ r2 = 0) → ((a2 &&& 1 = a2) ∧ ((vp_in a1 12) ∧ (xw_Mo_ends (0 : Int32) (us M1 9 7 a1.toNatClampNeg a2) (fun (r4 : Int32) (M3 : xM) => post r4 M3))))) ∧ ((r2 = 0) → (xw_Mo_ends (-2 : Int32) M1 (fun (r6 : Int32) (M5 : xM) => post r6 M5))))
set_option maxHeartbeats 4000000 in
set_option maxRecDepth 100000 in
theorem xc_Mo_fix (l : Launch) (G : xG) {a1 : Int32} {a2 : Int32}  {M : xM} {post : Int32 → xM → Prop} (h : xw_Mo_fix a1 a2 M post) : Met l y_Mo_fix (Cond.code y_Mo_fix b_Mo_fix 3 (some .int) :: xTG) rm_Mo_fix (xPre G M [.ref (G.1 9 0), .int a1, .int a2]) (xPi G post) 0 0 (xA G) := by
  refine xMet (own := R_Mo) [.ref (G.1 9 0), .int a1, .int a2] (Or.inl (by decide)) rfl (Nat.le_of_ble_eq_true rfl) (fun p e s m args below meth c ls hC hr hlk hR hS hl => ?_)
  have hx := hC.1
  have hb := hC.2.1
  have hl : lv_has ls 3 [(0, .ref (G.1 9 0)), (1, .int a1), (2, .int a2)] := hl
  obtain ⟨H, eH⟩ : ∃ H : Heap, H = s.heap := ⟨_, rfl⟩
  obtain ⟨locs, eL⟩ : ∃ locs : List Loc, locs = [] := ⟨_, rfl⟩
  rw [← eH] at hR
  replace hS : va_S (xA G) s.heap H locs := by rw [eH, eL]; exact hS
  suffices hh : W p l e rm_Mo_fix s m args below meth c H locs 0 0 (MQ below (xPi G post) args s 0 0 (xA G)) (F0 m 0 ls []) from by rw [eH, eL] at hh; exact hh
  unfold xw_Mo_fix at h
  refine lv_aload_n (pc := 0) hx hb xd_Mo_fix_0 rfl (lv_at hl 0 rfl) ?_
  refine lv_iload_n (pc := 1) hx hb xd_Mo_fix_1 rfl (lv_at hl 1 rfl) ?_
  refine xr_callV (pc := 2) (As := [.int a1]) (rest := []) hC hR hS (xc_Mo_isIn l G  h) xo_M0 xv_Mo_151 ⟨rfl, rfl, Nat.le_of_ble_eq_true rfl, Nat.le_of_ble_eq_true rfl⟩ rfl hl.1 rfl (Nat.le_of_ble_eq_true rfl) xd_Mo_fix_2 (fun r2 M1 H locs h hR hS => ?_)
  refine lv_if_ne (pc := 5) (tgt := 15) hx hb xd_Mo_fix_5 (by decide) (fun hq => ?_) (fun hq => ?_)
  · have h := h.1 hq
    refine lv_aload_n (pc := 15) hx hb xd_Mo_fix_15 rfl (lv_at hl 0 rfl) ?_
    refine xr_get (pc := 16) (v := .ref (G.1 9 7)) hC hR xo_M0 xf_Mo_38 rfl xd_Mo_fix_16 ?_
    refine lv_iload_n (pc := 19) hx hb xd_Mo_fix_19 rfl (lv_at hl 1 rfl) ?_
    refine lv_iload_n (pc := 20) hx hb xd_Mo_fix_20 rfl (lv_at hl 2 rfl) ?_
    obtain ⟨hz, h⟩ := h
    obtain ⟨hq, h⟩ := h
    refine xr_zast (pc := 21) hC hR hS xo_M7 hq hz xd_Mo_fix_21 (fun H locs hR hS => ?_)
    refine lv_aload_n (pc := 22) hx hb xd_Mo_fix_22 rfl (lv_at hl 0 rfl) ?_
    refine lv_iconst (pc := 23) (v := (0 : Int32)) hx hb xd_Mo_fix_23 (by decide) ?_
    refine xr_callV (pc := 24) (As := [.int (0 : Int32)]) (rest := []) hC hR hS (xc_Mo_ends l G  h) xo_M0 xv_Mo_89 ⟨rfl, rfl, Nat.le_of_ble_eq_true rfl, Nat.le_of_ble_eq_true rfl⟩ rfl hl.1 rfl (Nat.le_of_ble_eq_true rfl) xd_Mo_fix_24 (fun r4 M3 H locs h hR hS => ?_)
    exact xr_iret hC hr hlk hR hS h xd_Mo_fix_27
  · have h := h.2 hq
    refine lv_aload_n (pc := 8) hx hb xd_Mo_fix_8 rfl (lv_at hl 0 rfl) ?_
    refine lv_bipush (pc := 9) (v := (-2 : Int32)) hx hb xd_Mo_fix_9 (by decide) ?_
    refine xr_callV (pc := 11) (As := [.int (-2 : Int32)]) (rest := []) hC hR hS (xc_Mo_ends l G  h) xo_M0 xv_Mo_89 ⟨rfl, rfl, Nat.le_of_ble_eq_true rfl, Nat.le_of_ble_eq_true rfl⟩ rfl hl.1 rfl (Nat.le_of_ble_eq_true rfl) xd_Mo_fix_11 (fun r6 M5 H locs h hR hS => ?_)
    exact xr_iret hC hr hlk hR hS h xd_Mo_fix_14

/-! ColoursApartModel.name(II)I -/
theorem xd_Mo_name_0 : decode b_Mo_name 0 = .ok (.iload_n 2, 1) := by decide +kernel
theorem xd_Mo_name_1 : decode b_Mo_name 1 = .ok (.iconst (-1), 1) := by decide +kernel
theorem xd_Mo_name_2 : decode b_Mo_name 2 = .ok (.bipush 7, 2) := by decide +kernel
theorem xd_Mo_name_4 : decode b_Mo_name 4 = .ok (.invokestatic 85, 3) := by decide +kernel
theorem xd_Mo_name_7 : decode b_Mo_name 7 = .ok (.ifCond .ne 9, 3) := by decide +kernel
theorem xd_Mo_name_10 : decode b_Mo_name 10 = .ok (.aload_n 0, 1) := by decide +kernel
theorem xd_Mo_name_11 : decode b_Mo_name 11 = .ok (.iconst (-1), 1) := by decide +kernel
theorem xd_Mo_name_12 : decode b_Mo_name 12 = .ok (.invokevirtual 89, 3) := by decide +kernel
theorem xd_Mo_name_15 : decode b_Mo_name 15 = .ok (.ireturn, 1) := by decide +kernel
theorem xd_Mo_name_16 : decode b_Mo_name 16 = .ok (.aload_n 0, 1) := by decide +kernel
theorem xd_Mo_name_17 : decode b_Mo_name 17 = .ok (.iload_n 1, 1) := by decide +kernel
theorem xd_Mo_name_18 : decode b_Mo_name 18 = .ok (.invokevirtual 151, 3) := by decide +kernel
theorem xd_Mo_name_21 : decode b_Mo_name 21 = .ok (.ifCond .ne 10, 3) := by decide +kernel
theorem xd_Mo_name_24 : decode b_Mo_name 24 = .ok (.aload_n 0, 1) := by decide +kernel
theorem xd_Mo_name_25 : decode b_Mo_name 25 = .ok (.bipush (-2), 2) := by decide +kernel
theorem xd_Mo_name_27 : decode b_Mo_name 27 = .ok (.invokevirtual 89, 3) := by decide +kernel
theorem xd_Mo_name_30 : decode b_Mo_name 30 = .ok (.ireturn, 1) := by decide +kernel
theorem xd_Mo_name_31 : decode b_Mo_name 31 = .ok (.iload_n 2, 1) := by decide +kernel
theorem xd_Mo_name_32 : decode b_Mo_name 32 = .ok (.iconst (-1), 1) := by decide +kernel
theorem xd_Mo_name_33 : decode b_Mo_name 33 = .ok (.if_icmp .eq 33, 3) := by decide +kernel
theorem xd_Mo_name_36 : decode b_Mo_name 36 = .ok (.aload_n 0, 1) := by decide +kernel
theorem xd_Mo_name_37 : decode b_Mo_name 37 = .ok (.getfield 35, 3) := by decide +kernel
theorem xd_Mo_name_40 : decode b_Mo_name 40 = .ok (.iload_n 1, 1) := by decide +kernel
theorem xd_Mo_name_41 : decode b_Mo_name 41 = .ok (.iaload, 1) := by decide +kernel
theorem xd_Mo_name_42 : decode b_Mo_name 42 = .ok (.aload_n 0, 1) := by decide +kernel
theorem xd_Mo_name_43 : decode b_Mo_name 43 = .ok (.getfield 45, 3) := by decide +kernel
theorem xd_Mo_name_46 : decode b_Mo_name 46 = .ok (.iload_n 2, 1) := by decide +kernel
theorem xd_Mo_name_47 : decode b_Mo_name 47 = .ok (.iaload, 1) := by decide +kernel
theorem xd_Mo_name_48 : decode b_Mo_name 48 = .ok (.aload_n 0, 1) := by decide +kernel
theorem xd_Mo_name_49 : decode b_Mo_name 49 = .ok (.getfield 49, 3) := by decide +kernel
theorem xd_Mo_name_52 : decode b_Mo_name 52 = .ok (.iload_n 2, 1) := by decide +kernel
theorem xd_Mo_name_53 : decode b_Mo_name 53 = .ok (.iaload, 1) := by decide +kernel
theorem xd_Mo_name_54 : decode b_Mo_name 54 = .ok (.invokestatic 148, 3) := by decide +kernel
theorem xd_Mo_name_57 : decode b_Mo_name 57 = .ok (.ifCond .ne 9, 3) := by decide +kernel
theorem xd_Mo_name_60 : decode b_Mo_name 60 = .ok (.aload_n 0, 1) := by decide +kernel
theorem xd_Mo_name_61 : decode b_Mo_name 61 = .ok (.iconst (-1), 1) := by decide +kernel
theorem xd_Mo_name_62 : decode b_Mo_name 62 = .ok (.invokevirtual 89, 3) := by decide +kernel
theorem xd_Mo_name_65 : decode b_Mo_name 65 = .ok (.ireturn, 1) := by decide +kernel
theorem xd_Mo_name_66 : decode b_Mo_name 66 = .ok (.aload_n 0, 1) := by decide +kernel
theorem xd_Mo_name_67 : decode b_Mo_name 67 = .ok (.getfield 42, 3) := by decide +kernel
theorem xd_Mo_name_70 : decode b_Mo_name 70 = .ok (.iload_n 1, 1) := by decide +kernel
theorem xd_Mo_name_71 : decode b_Mo_name 71 = .ok (.iload_n 2, 1) := by decide +kernel
theorem xd_Mo_name_72 : decode b_Mo_name 72 = .ok (.iastore, 1) := by decide +kernel
theorem xd_Mo_name_73 : decode b_Mo_name 73 = .ok (.aload_n 0, 1) := by decide +kernel
theorem xd_Mo_name_74 : decode b_Mo_name 74 = .ok (.iconst 0, 1) := by decide +kernel
theorem xd_Mo_name_75 : decode b_Mo_name 75 = .ok (.invokevirtual 89, 3) := by decide +kernel
theorem xd_Mo_name_78 : decode b_Mo_name 78 = .ok (.ireturn, 1) := by decide +kernel
abbrev rm_Mo_name : Room := { frames := 2, cells := 0, slots := 0, locals := 46 }
def xw_Mo_name (a1 : Int32) (a2 : Int32) (M : xM) (post : Int32 → xM → Prop) : Prop :=
  xw_Mo_in a2 (-1 : Int32) (7 : Int32) M (fun (r2 : Int32) (M1 : xM) => ((¬ r2 = 0) → (xw_Mo_isIn a1 M1 (fun (r4 : Int32) (M3 : xM) => ((¬ r4 = 0) → (xj (fun (J66_4 : xM → Prop) => ((a2 = (-1 : Int32)) → (J66_4  M3)) ∧ ((¬ a2 = (-1 : Int32)) → ((vp_in a1 12) ∧ ((vp_in a2 8) ∧ ((vp_in a2 8) ∧ (xw_Mo_isWithin (M3 9 6 a1.toNatClampNeg) (M3 9 9 a2.toNatClampNeg) (M3 9 10 a2.toNatClampNeg) M3 (fun (r10 : Int32) (M9 : xM) => ((¬ r10 = 0) → (J66_4  M9)) ∧ ((r10 = 0) → (xw_Mo_ends (-1 : Int32) M9 (fun (r12 : Int32) (M11 : xM) => post r12 M11)))))))))) (fun (M6 : xM) => (vp_in a1 12) ∧ (xw_Mo_ends (0 : Int32) (us M6 9 8 a1.toNatClampNeg a2) (fun (r8 : Int32) (M7 : xM) => post r8 M7))))) ∧ ((r4 = 0) → (xw_Mo_ends (-2 : Int32) M3 (fun (r14 : Int32) (M13 : xM) => post r14 M13)))))) ∧ ((r2 = 0) → (xw_Mo_ends (-1 : Int32) M1 (fun (r16 : Int32) (M15 : xM) => post r16 M15))))
set_option maxHeartbeats 4000000 in
set_option maxRecDepth 100000 in
theorem xc_Mo_name (l : Launch) (G : xG) {a1 : Int32} {a2 : Int32}  {M : xM} {post : Int32 → xM → Prop} (h : xw_Mo_name a1 a2 M post) : Met l y_Mo_name (Cond.code y_Mo_name b_Mo_name 3 (some .int) :: xTG) rm_Mo_name (xPre G M [.ref (G.1 9 0), .int a1, .int a2]) (xPi G post) 0 0 (xA G) := by
  refine xMet (own := R_Mo) [.ref (G.1 9 0), .int a1, .int a2] (Or.inl (by decide)) rfl (Nat.le_of_ble_eq_true rfl) (fun p e s m args below meth c ls hC hr hlk hR hS hl => ?_)
  have hx := hC.1
  have hb := hC.2.1
  have hl : lv_has ls 3 [(0, .ref (G.1 9 0)), (1, .int a1), (2, .int a2)] := hl
  obtain ⟨H, eH⟩ : ∃ H : Heap, H = s.heap := ⟨_, rfl⟩
  obtain ⟨locs, eL⟩ : ∃ locs : List Loc, locs = [] := ⟨_, rfl⟩
  rw [← eH] at hR
  replace hS : va_S (xA G) s.heap H locs := by rw [eH, eL]; exact hS
  suffices hh : W p l e rm_Mo_name s m args below meth c H locs 0 0 (MQ below (xPi G post) args s 0 0 (xA G)) (F0 m 0 ls []) from by rw [eH, eL] at hh; exact hh
  unfold xw_Mo_name at h
  refine lv_iload_n (pc := 0) hx hb xd_Mo_name_0 rfl (lv_at hl 2 rfl) ?_
  refine lv_iconst (pc := 1) (v := (-1 : Int32)) hx hb xd_Mo_name_1 (by decide) ?_
  refine lv_bipush (pc := 2) (v := (7 : Int32)) hx hb xd_Mo_name_2 (by decide) ?_
  refine xr_callS (pc := 4) (As := [.int a2, .int (-1 : Int32), .int (7 : Int32)]) (rest := []) hC hR hS (xc_Mo_in l G  h) xv_Mo_85 ⟨rfl, rfl, Nat.le_of_ble_eq_true rfl, Nat.le_of_ble_eq_true rfl⟩ rfl hl.1 rfl (Nat.le_of_ble_eq_true rfl) xd_Mo_name_4 (fun r2 M1 H locs h hR hS => ?_)
  refine lv_if_ne (pc := 7) (tgt := 16) hx hb xd_Mo_name_7 (by decide) (fun hq => ?_) (fun hq => ?_)
  · have h := h.1 hq
    refine lv_aload_n (pc := 16) hx hb xd_Mo_name_16 rfl (lv_at hl 0 rfl) ?_
    refine lv_iload_n (pc := 17) hx hb xd_Mo_name_17 rfl (lv_at hl 1 rfl) ?_
    refine xr_callV (pc := 18) (As := [.int a1]) (rest := []) hC hR hS (xc_Mo_isIn l G  h) xo_M0 xv_Mo_151 ⟨rfl, rfl, Nat.le_of_ble_eq_true rfl, Nat.le_of_ble_eq_true rfl⟩ rfl hl.1 rfl (Nat.le_of_ble_eq_true rfl) xd_Mo_name_18 (fun r4 M3 H locs h hR hS => ?_)
    refine lv_if_ne (pc := 21) (tgt := 31) hx hb xd_Mo_name_21 (by decide) (fun hq => ?_) (fun hq => ?_)
    · have h := h.1 hq
      refine lv_iload_n (pc := 31) hx hb xd_Mo_name_31 rfl (lv_at hl 2 rfl) ?_
      refine lv_iconst (pc := 32) (v := (-1 : Int32)) hx hb xd_Mo_name_32 (by decide) ?_
      obtain ⟨J66_4, eJ66_4, h⟩ := xj_open h
      have kJ66_4 : ∀ (M6 : xM) (H : Heap) (locs : List Loc) (ls : Array Slot), J66_4 M6 → xRp G M6 H → va_S (xA G) s.heap H locs → lv_has ls 3 [(0, .ref (G.1 9 0)), (1, .int a1), (2, .int a2)] → W p l e rm_Mo_name s m args below meth c H locs 0 0 (MQ below (xPi G post) args s 0 0 (xA G)) (F0 m 66 ls []) := by
        intro M6 H locs ls h hR hS hl
        rw [eJ66_4] at h
        refine lv_aload_n (pc := 66) hx hb xd_Mo_name_66 rfl (lv_at hl 0 rfl) ?_
        refine xr_get (pc := 67) (v := .ref (G.1 9 8)) hC hR xo_M0 xf_Mo_42 rfl xd_Mo_name_67 ?_
        refine lv_iload_n (pc := 70) hx hb xd_Mo_name_70 rfl (lv_at hl 1 rfl) ?_
        refine lv_iload_n (pc := 71) hx hb xd_Mo_name_71 rfl (lv_at hl 2 rfl) ?_
        obtain ⟨hq, h⟩ := h
        refine xr_iast (pc := 72) hC hR hS xo_M8 hq xd_Mo_name_72 (fun H locs hR hS => ?_)
        refine lv_aload_n (pc := 73) hx hb xd_Mo_name_73 rfl (lv_at hl 0 rfl) ?_
        refine lv_iconst (pc := 74) (v := (0 : Int32)) hx hb xd_Mo_name_74 (by decide) ?_
        refine xr_callV (pc := 75) (As := [.int (0 : Int32)]) (rest := []) hC hR hS (xc_Mo_ends l G  h) xo_M0 xv_Mo_89 ⟨rfl, rfl, Nat.le_of_ble_eq_true rfl, Nat.le_of_ble_eq_true rfl⟩ rfl hl.1 rfl (Nat.le_of_ble_eq_true rfl) xd_Mo_name_75 (fun r8 M7 H locs h hR hS => ?_)
        exact xr_iret hC hr hlk hR hS h xd_Mo_name_78
      refine lv_icmp_eq (pc := 33) (tgt := 66) hx hb xd_Mo_name_33 (by decide) (fun hq => ?_) (fun hq => ?_)
      · have h := h.1 hq
        exact kJ66_4  M3 H locs ls h hR hS (lv_sub hl [0, 1, 2] rfl)
      · have h := h.2 hq
        refine lv_aload_n (pc := 36) hx hb xd_Mo_name_36 rfl (lv_at hl 0 rfl) ?_
        refine xr_get (pc := 37) (v := .ref (G.1 9 6)) hC hR xo_M0 xf_Mo_35 rfl xd_Mo_name_37 ?_
        refine lv_iload_n (pc := 40) hx hb xd_Mo_name_40 rfl (lv_at hl 1 rfl) ?_
        obtain ⟨hq, h⟩ := h
        refine xr_iald (pc := 41) hC hR xo_M6 hq xd_Mo_name_41 ?_
        refine lv_aload_n (pc := 42) hx hb xd_Mo_name_42 rfl (lv_at hl 0 rfl) ?_
        refine xr_get (pc := 43) (v := .ref (G.1 9 9)) hC hR xo_M0 xf_Mo_45 rfl xd_Mo_name_43 ?_
        refine lv_iload_n (pc := 46) hx hb xd_Mo_name_46 rfl (lv_at hl 2 rfl) ?_
        obtain ⟨hq, h⟩ := h
        refine xr_iald (pc := 47) hC hR xo_M9 hq xd_Mo_name_47 ?_
        refine lv_aload_n (pc := 48) hx hb xd_Mo_name_48 rfl (lv_at hl 0 rfl) ?_
        refine xr_get (pc := 49) (v := .ref (G.1 9 10)) hC hR xo_M0 xf_Mo_49 rfl xd_Mo_name_49 ?_
        refine lv_iload_n (pc := 52) hx hb xd_Mo_name_52 rfl (lv_at hl 2 rfl) ?_
        obtain ⟨hq, h⟩ := h
        refine xr_iald (pc := 53) hC hR xo_M10 hq xd_Mo_name_53 ?_
        refine xr_callS (pc := 54) (As := [.int (M3 9 6 a1.toNatClampNeg), .int (M3 9 9 a2.toNatClampNeg), .int (M3 9 10 a2.toNatClampNeg)]) (rest := []) hC hR hS (xc_Mo_isWithin l G  h) xv_Mo_148 ⟨rfl, rfl, Nat.le_of_ble_eq_true rfl, Nat.le_of_ble_eq_true rfl⟩ rfl hl.1 rfl (Nat.le_of_ble_eq_true rfl) xd_Mo_name_54 (fun r10 M9 H locs h hR hS => ?_)
        refine lv_if_ne (pc := 57) (tgt := 66) hx hb xd_Mo_name_57 (by decide) (fun hq => ?_) (fun hq => ?_)
        · have h := h.1 hq
          exact kJ66_4  M9 H locs ls h hR hS (lv_sub hl [0, 1, 2] rfl)
        · have h := h.2 hq
          refine lv_aload_n (pc := 60) hx hb xd_Mo_name_60 rfl (lv_at hl 0 rfl) ?_
          refine lv_iconst (pc := 61) (v := (-1 : Int32)) hx hb xd_Mo_name_61 (by decide) ?_
          refine xr_callV (pc := 62) (As := [.int (-1 : Int32)]) (rest := []) hC hR hS (xc_Mo_ends l G  h) xo_M0 xv_Mo_89 ⟨rfl, rfl, Nat.le_of_ble_eq_true rfl, Nat.le_of_ble_eq_true rfl⟩ rfl hl.1 rfl (Nat.le_of_ble_eq_true rfl) xd_Mo_name_62 (fun r12 M11 H locs h hR hS => ?_)
          exact xr_iret hC hr hlk hR hS h xd_Mo_name_65
    · have h := h.2 hq
      refine lv_aload_n (pc := 24) hx hb xd_Mo_name_24 rfl (lv_at hl 0 rfl) ?_
      refine lv_bipush (pc := 25) (v := (-2 : Int32)) hx hb xd_Mo_name_25 (by decide) ?_
      refine xr_callV (pc := 27) (As := [.int (-2 : Int32)]) (rest := []) hC hR hS (xc_Mo_ends l G  h) xo_M0 xv_Mo_89 ⟨rfl, rfl, Nat.le_of_ble_eq_true rfl, Nat.le_of_ble_eq_true rfl⟩ rfl hl.1 rfl (Nat.le_of_ble_eq_true rfl) xd_Mo_name_27 (fun r14 M13 H locs h hR hS => ?_)
      exact xr_iret hC hr hlk hR hS h xd_Mo_name_30
  · have h := h.2 hq
    refine lv_aload_n (pc := 10) hx hb xd_Mo_name_10 rfl (lv_at hl 0 rfl) ?_
    refine lv_iconst (pc := 11) (v := (-1 : Int32)) hx hb xd_Mo_name_11 (by decide) ?_
    refine xr_callV (pc := 12) (As := [.int (-1 : Int32)]) (rest := []) hC hR hS (xc_Mo_ends l G  h) xo_M0 xv_Mo_89 ⟨rfl, rfl, Nat.le_of_ble_eq_true rfl, Nat.le_of_ble_eq_true rfl⟩ rfl hl.1 rfl (Nat.le_of_ble_eq_true rfl) xd_Mo_name_12 (fun r16 M15 H locs h hR hS => ?_)
    exact xr_iret hC hr hlk hR hS h xd_Mo_name_15

/-! ColoursApartModel.box(III)I -/
theorem xd_Mo_box_0 : decode b_Mo_box 0 = .ok (.iload_n 1, 1) := by decide +kernel
theorem xd_Mo_box_1 : decode b_Mo_box 1 = .ok (.iconst 0, 1) := by decide +kernel
theorem xd_Mo_box_2 : decode b_Mo_box 2 = .ok (.bipush 7, 2) := by decide +kernel
theorem xd_Mo_box_4 : decode b_Mo_box 4 = .ok (.invokestatic 85, 3) := by decide +kernel
theorem xd_Mo_box_7 : decode b_Mo_box 7 = .ok (.ifCond .eq 17, 3) := by decide +kernel
theorem xd_Mo_box_10 : decode b_Mo_box 10 = .ok (.iload_n 2, 1) := by decide +kernel
theorem xd_Mo_box_11 : decode b_Mo_box 11 = .ok (.invokestatic 133, 3) := by decide +kernel
theorem xd_Mo_box_14 : decode b_Mo_box 14 = .ok (.ifCond .eq 10, 3) := by decide +kernel
theorem xd_Mo_box_17 : decode b_Mo_box 17 = .ok (.iload_n 3, 1) := by decide +kernel
theorem xd_Mo_box_18 : decode b_Mo_box 18 = .ok (.invokestatic 133, 3) := by decide +kernel
theorem xd_Mo_box_21 : decode b_Mo_box 21 = .ok (.ifCond .ne 9, 3) := by decide +kernel
theorem xd_Mo_box_24 : decode b_Mo_box 24 = .ok (.aload_n 0, 1) := by decide +kernel
theorem xd_Mo_box_25 : decode b_Mo_box 25 = .ok (.iconst (-1), 1) := by decide +kernel
theorem xd_Mo_box_26 : decode b_Mo_box 26 = .ok (.invokevirtual 89, 3) := by decide +kernel
theorem xd_Mo_box_29 : decode b_Mo_box 29 = .ok (.ireturn, 1) := by decide +kernel
theorem xd_Mo_box_30 : decode b_Mo_box 30 = .ok (.iconst 0, 1) := by decide +kernel
theorem xd_Mo_box_31 : decode b_Mo_box 31 = .ok (.istore 4, 2) := by decide +kernel
theorem xd_Mo_box_33 : decode b_Mo_box 33 = .ok (.iload 4, 2) := by decide +kernel
theorem xd_Mo_box_35 : decode b_Mo_box 35 = .ok (.iconst 3, 1) := by decide +kernel
theorem xd_Mo_box_36 : decode b_Mo_box 36 = .ok (.if_icmp .ge 30, 3) := by decide +kernel
theorem xd_Mo_box_39 : decode b_Mo_box 39 = .ok (.iload_n 2, 1) := by decide +kernel
theorem xd_Mo_box_40 : decode b_Mo_box 40 = .ok (.iload 4, 2) := by decide +kernel
theorem xd_Mo_box_42 : decode b_Mo_box 42 = .ok (.invokestatic 97, 3) := by decide +kernel
theorem xd_Mo_box_45 : decode b_Mo_box 45 = .ok (.iload_n 3, 1) := by decide +kernel
theorem xd_Mo_box_46 : decode b_Mo_box 46 = .ok (.iload 4, 2) := by decide +kernel
theorem xd_Mo_box_48 : decode b_Mo_box 48 = .ok (.invokestatic 97, 3) := by decide +kernel
theorem xd_Mo_box_51 : decode b_Mo_box 51 = .ok (.if_icmp .le 9, 3) := by decide +kernel
theorem xd_Mo_box_54 : decode b_Mo_box 54 = .ok (.aload_n 0, 1) := by decide +kernel
theorem xd_Mo_box_55 : decode b_Mo_box 55 = .ok (.iconst (-1), 1) := by decide +kernel
theorem xd_Mo_box_56 : decode b_Mo_box 56 = .ok (.invokevirtual 89, 3) := by decide +kernel
theorem xd_Mo_box_59 : decode b_Mo_box 59 = .ok (.ireturn, 1) := by decide +kernel
theorem xd_Mo_box_60 : decode b_Mo_box 60 = .ok (.iinc 4 1, 3) := by decide +kernel
theorem xd_Mo_box_63 : decode b_Mo_box 63 = .ok (.goto (-30), 3) := by decide +kernel
theorem xd_Mo_box_66 : decode b_Mo_box 66 = .ok (.iconst 0, 1) := by decide +kernel
theorem xd_Mo_box_67 : decode b_Mo_box 67 = .ok (.istore 4, 2) := by decide +kernel
theorem xd_Mo_box_69 : decode b_Mo_box 69 = .ok (.iload 4, 2) := by decide +kernel
theorem xd_Mo_box_71 : decode b_Mo_box 71 = .ok (.aload_n 0, 1) := by decide +kernel
theorem xd_Mo_box_72 : decode b_Mo_box 72 = .ok (.getfield 145, 3) := by decide +kernel
theorem xd_Mo_box_75 : decode b_Mo_box 75 = .ok (.if_icmp .ge 41, 3) := by decide +kernel
theorem xd_Mo_box_78 : decode b_Mo_box 78 = .ok (.aload_n 0, 1) := by decide +kernel
theorem xd_Mo_box_79 : decode b_Mo_box 79 = .ok (.getfield 42, 3) := by decide +kernel
theorem xd_Mo_box_82 : decode b_Mo_box 82 = .ok (.iload 4, 2) := by decide +kernel
theorem xd_Mo_box_84 : decode b_Mo_box 84 = .ok (.iaload, 1) := by decide +kernel
theorem xd_Mo_box_85 : decode b_Mo_box 85 = .ok (.iload_n 1, 1) := by decide +kernel
theorem xd_Mo_box_86 : decode b_Mo_box 86 = .ok (.if_icmp .ne 24, 3) := by decide +kernel
theorem xd_Mo_box_89 : decode b_Mo_box 89 = .ok (.aload_n 0, 1) := by decide +kernel
theorem xd_Mo_box_90 : decode b_Mo_box 90 = .ok (.getfield 35, 3) := by decide +kernel
theorem xd_Mo_box_93 : decode b_Mo_box 93 = .ok (.iload 4, 2) := by decide +kernel
theorem xd_Mo_box_95 : decode b_Mo_box 95 = .ok (.iaload, 1) := by decide +kernel
theorem xd_Mo_box_96 : decode b_Mo_box 96 = .ok (.iload_n 2, 1) := by decide +kernel
theorem xd_Mo_box_97 : decode b_Mo_box 97 = .ok (.iload_n 3, 1) := by decide +kernel
theorem xd_Mo_box_98 : decode b_Mo_box 98 = .ok (.invokestatic 148, 3) := by decide +kernel
theorem xd_Mo_box_101 : decode b_Mo_box 101 = .ok (.ifCond .ne 9, 3) := by decide +kernel
theorem xd_Mo_box_104 : decode b_Mo_box 104 = .ok (.aload_n 0, 1) := by decide +kernel
theorem xd_Mo_box_105 : decode b_Mo_box 105 = .ok (.iconst (-1), 1) := by decide +kernel
theorem xd_Mo_box_106 : decode b_Mo_box 106 = .ok (.invokevirtual 89, 3) := by decide +kernel
theorem xd_Mo_box_109 : decode b_Mo_box 109 = .ok (.ireturn, 1) := by decide +kernel
theorem xd_Mo_box_110 : decode b_Mo_box 110 = .ok (.iinc 4 1, 3) := by decide +kernel
theorem xd_Mo_box_113 : decode b_Mo_box 113 = .ok (.goto (-44), 3) := by decide +kernel
theorem xd_Mo_box_116 : decode b_Mo_box 116 = .ok (.aload_n 0, 1) := by decide +kernel
theorem xd_Mo_box_117 : decode b_Mo_box 117 = .ok (.getfield 45, 3) := by decide +kernel
theorem xd_Mo_box_120 : decode b_Mo_box 120 = .ok (.iload_n 1, 1) := by decide +kernel
theorem xd_Mo_box_121 : decode b_Mo_box 121 = .ok (.iload_n 2, 1) := by decide +kernel
theorem xd_Mo_box_122 : decode b_Mo_box 122 = .ok (.iastore, 1) := by decide +kernel
theorem xd_Mo_box_123 : decode b_Mo_box 123 = .ok (.aload_n 0, 1) := by decide +kernel
theorem xd_Mo_box_124 : decode b_Mo_box 124 = .ok (.getfield 49, 3) := by decide +kernel
theorem xd_Mo_box_127 : decode b_Mo_box 127 = .ok (.iload_n 1, 1) := by decide +kernel
theorem xd_Mo_box_128 : decode b_Mo_box 128 = .ok (.iload_n 3, 1) := by decide +kernel
theorem xd_Mo_box_129 : decode b_Mo_box 129 = .ok (.iastore, 1) := by decide +kernel
theorem xd_Mo_box_130 : decode b_Mo_box 130 = .ok (.aload_n 0, 1) := by decide +kernel
theorem xd_Mo_box_131 : decode b_Mo_box 131 = .ok (.iconst 0, 1) := by decide +kernel
theorem xd_Mo_box_132 : decode b_Mo_box 132 = .ok (.invokevirtual 89, 3) := by decide +kernel
theorem xd_Mo_box_135 : decode b_Mo_box 135 = .ok (.ireturn, 1) := by decide +kernel
abbrev rm_Mo_box : Room := { frames := 2, cells := 0, slots := 0, locals := 46 }
def xw_Mo_box_33 (x1 : Int32) (x2 : Int32) (x3 : Int32) (post : Int32 → xM → Prop) (k66 : Int32 → xM → Prop) : Nat → Int32 → xM → Prop
  | 0, _, _ => False
  | n33 + 1, x4, M => (((3 : Int32) ≤ x4) → (k66 x4 M)) ∧ ((¬ (3 : Int32) ≤ x4) → (xw_Mo_third x2 x4 M (fun (r12 : Int32) (M11 : xM) => xw_Mo_third x3 x4 M11 (fun (r14 : Int32) (M13 : xM) => ((r12 ≤ r14) → (xw_Mo_box_33 x1 x2 x3 post k66 n33 (x4 + (1 : Int32)) M13)) ∧ ((¬ r12 ≤ r14) → (xw_Mo_ends (-1 : Int32) M13 (fun (r16 : Int32) (M15 : xM) => post r16 M15)))))))
def xw_Mo_box_69 (x1 : Int32) (x2 : Int32) (x3 : Int32) (post : Int32 → xM → Prop) (k116 : Int32 → xM → Prop) : Nat → Int32 → xM → Prop
  | 0, _, _ => False
  | n69 + 1, x4, M => (((M 9 0 9) ≤ x4) → (k116 x4 M)) ∧ ((¬ (M 9 0 9) ≤ x4) → ((vp_in x4 12) ∧ (((¬ (M 9 8 x4.toNatClampNeg) = x1) → (xw_Mo_box_69 x1 x2 x3 post k116 n69 (x4 + (1 : Int32)) M)) ∧ (((M 9 8 x4.toNatClampNeg) = x1) → ((vp_in x4 12) ∧ (xw_Mo_isWithin (M 9 6 x4.toNatClampNeg) x2 x3 M (fun (r20 : Int32) (M19 : xM) => ((¬ r20 = 0) → (xw_Mo_box_69 x1 x2 x3 post k116 n69 (x4 + (1 : Int32)) M19)) ∧ ((r20 = 0) → (xw_Mo_ends (-1 : Int32) M19 (fun (r22 : Int32) (M21 : xM) => post r22 M21))))))))))
def xw_Mo_box (a1 : Int32) (a2 : Int32) (a3 : Int32) (M : xM) (post : Int32 → xM → Prop) : Prop :=
  xw_Mo_in a1 (0 : Int32) (7 : Int32) M (fun (r2 : Int32) (M1 : xM) => xj (fun (J24_2 : xM → Prop) => ((r2 = 0) → (J24_2  M1)) ∧ ((¬ r2 = 0) → (xw_Mo_isColour a2 M1 (fun (r8 : Int32) (M7 : xM) => ((r8 = 0) → (J24_2  M7)) ∧ ((¬ r8 = 0) → (xw_Mo_isColour a3 M7 (fun (r10 : Int32) (M9 : xM) => ((¬ r10 = 0) → (∃ n33 : Nat, xw_Mo_box_33 a1 a2 a3 post (fun (y17 : Int32) (M18 : xM) => ∃ n69 : Nat, xw_Mo_box_69 a1 a2 a3 post (fun (y23 : Int32) (M24 : xM) => (vp_in a1 8) ∧ ((vp_in a1 8) ∧ (xw_Mo_ends (0 : Int32) (us (us M24 9 9 a1.toNatClampNeg a2) 9 10 a1.toNatClampNeg a3) (fun (r26 : Int32) (M25 : xM) => post r26 M25)))) n69 (0 : Int32) M18) n33 (0 : Int32) M9)) ∧ ((r10 = 0) → (J24_2  M9))))))))) (fun (M4 : xM) => xw_Mo_ends (-1 : Int32) M4 (fun (r6 : Int32) (M5 : xM) => post r6 M5)))
set_option maxHeartbeats 4000000 in
set_option maxRecDepth 100000 in
theorem xt_Mo_box_33 {p : Program} {l : Launch} {e : Env} {s : State} {m : MethodId} {args : Array Value} {below : List Frame} {meth : Method} {c : Code} {G : xG} (hC : xC p s m args c b_Mo_box R_Mo 5 G) (hr : meth.sig.returnType = (some .int)) (hlk : meth.locks = false) {x1 : Int32} {x2 : Int32} {x3 : Int32} {post : Int32 → xM → Prop} {k66 : Int32 → xM → Prop} (hk66 : ∀ (x4 : Int32) (M : xM) (H : Heap) (locs : List Loc) (ls : Array Slot), k66 x4 M → xRp G M H → va_S (xA G) s.heap H locs → lv_has ls 5 [(0, .ref (G.1 9 0)), (1, .int x1), (2, .int x2), (3, .int x3), (4, .int x4)] → W p l e rm_Mo_box s m args below meth c H locs 0 0 (MQ below (xPi G post) args s 0 0 (xA G)) (F0 m 66 ls [])) : ∀ (n : Nat) (x4 : Int32) (M : xM) (H : Heap) (locs : List Loc) (ls : Array Slot), xw_Mo_box_33 x1 x2 x3 post k66 n x4 M → xRp G M H → va_S (xA G) s.heap H locs → lv_has ls 5 [(0, .ref (G.1 9 0)), (1, .int x1), (2, .int x2), (3, .int x3), (4, .int x4)] → W p l e rm_Mo_box s m args below meth c H locs 0 0 (MQ below (xPi G post) args s 0 0 (xA G)) (F0 m 33 ls []) := by
  have hx := hC.1
  have hb := hC.2.1
  intro n
  induction n with
  | zero => intro x4 M H locs ls; exact fun h => h.elim
  | succ n ih =>
    intro x4 M H locs ls h hR hS hl
    refine lv_iload (pc := 33) hx hb xd_Mo_box_33 (lv_at hl 4 rfl) ?_
    refine lv_iconst (pc := 35) (v := (3 : Int32)) hx hb xd_Mo_box_35 (by decide) ?_
    refine lv_icmp_ge (pc := 36) (tgt := 66) hx hb xd_Mo_box_36 (by decide) (fun hq => ?_) (fun hq => ?_)
    · have h := h.1 hq
      exact hk66 x4 M H locs ls h hR hS (lv_sub hl [0, 1, 2, 3, 4] rfl)
    · have h := h.2 hq
      refine lv_iload_n (pc := 39) hx hb xd_Mo_box_39 rfl (lv_at hl 2 rfl) ?_
      refine lv_iload (pc := 40) hx hb xd_Mo_box_40 (lv_at hl 4 rfl) ?_
      refine xr_callS (pc := 42) (As := [.int x2, .int x4]) (rest := []) hC hR hS (xc_Mo_third l G  h) xv_Mo_97 ⟨rfl, rfl, Nat.le_of_ble_eq_true rfl, Nat.le_of_ble_eq_true rfl⟩ rfl hl.1 rfl (Nat.le_of_ble_eq_true rfl) xd_Mo_box_42 (fun r12 M11 H locs h hR hS => ?_)
      refine lv_iload_n (pc := 45) hx hb xd_Mo_box_45 rfl (lv_at hl 3 rfl) ?_
      refine lv_iload (pc := 46) hx hb xd_Mo_box_46 (lv_at hl 4 rfl) ?_
      refine xr_callS (pc := 48) (As := [.int x3, .int x4]) (rest := [.int r12]) hC hR hS (xc_Mo_third l G  h) xv_Mo_97 ⟨rfl, rfl, Nat.le_of_ble_eq_true rfl, Nat.le_of_ble_eq_true rfl⟩ rfl hl.1 rfl (Nat.le_of_ble_eq_true rfl) xd_Mo_box_48 (fun r14 M13 H locs h hR hS => ?_)
      refine lv_icmp_le (pc := 51) (tgt := 60) hx hb xd_Mo_box_51 (by decide) (fun hq => ?_) (fun hq => ?_)
      · have h := h.1 hq
        refine lv_iinc (pc := 60) (v := (x4 + (1 : Int32))) (lv' := [(4, .int (x4 + (1 : Int32))), (0, .ref (G.1 9 0)), (1, .int x1), (2, .int x2), (3, .int x3)]) hx hb xd_Mo_box_60 hl (k := 4) rfl rfl (by decide) rfl (fun ls hl => ?_)
        refine lv_goto (pc := 63) (tgt := 33) hx hb xd_Mo_box_63 (by decide) ?_
        exact ih (x4 + (1 : Int32)) M13 H locs ls h hR hS (lv_sub hl [1, 2, 3, 4, 0] rfl)
      · have h := h.2 hq
        refine lv_aload_n (pc := 54) hx hb xd_Mo_box_54 rfl (lv_at hl 0 rfl) ?_
        refine lv_iconst (pc := 55) (v := (-1 : Int32)) hx hb xd_Mo_box_55 (by decide) ?_
        refine xr_callV (pc := 56) (As := [.int (-1 : Int32)]) (rest := []) hC hR hS (xc_Mo_ends l G  h) xo_M0 xv_Mo_89 ⟨rfl, rfl, Nat.le_of_ble_eq_true rfl, Nat.le_of_ble_eq_true rfl⟩ rfl hl.1 rfl (Nat.le_of_ble_eq_true rfl) xd_Mo_box_56 (fun r16 M15 H locs h hR hS => ?_)
        exact xr_iret hC hr hlk hR hS h xd_Mo_box_59
set_option maxHeartbeats 4000000 in
set_option maxRecDepth 100000 in
theorem xt_Mo_box_69 {p : Program} {l : Launch} {e : Env} {s : State} {m : MethodId} {args : Array Value} {below : List Frame} {meth : Method} {c : Code} {G : xG} (hC : xC p s m args c b_Mo_box R_Mo 5 G) (hr : meth.sig.returnType = (some .int)) (hlk : meth.locks = false) {x1 : Int32} {x2 : Int32} {x3 : Int32} {post : Int32 → xM → Prop} {k116 : Int32 → xM → Prop} (hk116 : ∀ (x4 : Int32) (M : xM) (H : Heap) (locs : List Loc) (ls : Array Slot), k116 x4 M → xRp G M H → va_S (xA G) s.heap H locs → lv_has ls 5 [(0, .ref (G.1 9 0)), (1, .int x1), (2, .int x2), (3, .int x3), (4, .int x4)] → W p l e rm_Mo_box s m args below meth c H locs 0 0 (MQ below (xPi G post) args s 0 0 (xA G)) (F0 m 116 ls [])) : ∀ (n : Nat) (x4 : Int32) (M : xM) (H : Heap) (locs : List Loc) (ls : Array Slot), xw_Mo_box_69 x1 x2 x3 post k116 n x4 M → xRp G M H → va_S (xA G) s.heap H locs → lv_has ls 5 [(0, .ref (G.1 9 0)), (1, .int x1), (2, .int x2), (3, .int x3), (4, .int x4)] → W p l e rm_Mo_box s m args below meth c H locs 0 0 (MQ below (xPi G post) args s 0 0 (xA G)) (F0 m 69 ls []) := by
  have hx := hC.1
  have hb := hC.2.1
  intro n
  induction n with
  | zero => intro x4 M H locs ls; exact fun h => h.elim
  | succ n ih =>
    intro x4 M H locs ls h hR hS hl
    refine lv_iload (pc := 69) hx hb xd_Mo_box_69 (lv_at hl 4 rfl) ?_
    refine lv_aload_n (pc := 71) hx hb xd_Mo_box_71 rfl (lv_at hl 0 rfl) ?_
    refine xr_get (pc := 72) (v := .int (M 9 0 9)) hC hR xo_M0 xf_Mo_145 rfl xd_Mo_box_72 ?_
    refine lv_icmp_ge (pc := 75) (tgt := 116) hx hb xd_Mo_box_75 (by decide) (fun hq => ?_) (fun hq => ?_)
    · have h := h.1 hq
      exact hk116 x4 M H locs ls h hR hS (lv_sub hl [0, 1, 2, 3, 4] rfl)
    · have h := h.2 hq
      refine lv_aload_n (pc := 78) hx hb xd_Mo_box_78 rfl (lv_at hl 0 rfl) ?_
      refine xr_get (pc := 79) (v := .ref (G.1 9 8)) hC hR xo_M0 xf_Mo_42 rfl xd_Mo_box_79 ?_
      refine lv_iload (pc := 82) hx hb xd_Mo_box_82 (lv_at hl 4 rfl) ?_
      obtain ⟨hq, h⟩ := h
      refine xr_iald (pc := 84) hC hR xo_M8 hq xd_Mo_box_84 ?_
      refine lv_iload_n (pc := 85) hx hb xd_Mo_box_85 rfl (lv_at hl 1 rfl) ?_
      refine lv_icmp_ne (pc := 86) (tgt := 110) hx hb xd_Mo_box_86 (by decide) (fun hq => ?_) (fun hq => ?_)
      · have h := h.1 hq
        refine lv_iinc (pc := 110) (v := (x4 + (1 : Int32))) (lv' := [(4, .int (x4 + (1 : Int32))), (0, .ref (G.1 9 0)), (1, .int x1), (2, .int x2), (3, .int x3)]) hx hb xd_Mo_box_110 hl (k := 4) rfl rfl (by decide) rfl (fun ls hl => ?_)
        refine lv_goto (pc := 113) (tgt := 69) hx hb xd_Mo_box_113 (by decide) ?_
        exact ih (x4 + (1 : Int32)) M H locs ls h hR hS (lv_sub hl [1, 2, 3, 4, 0] rfl)
      · have h := h.2 hq
        refine lv_aload_n (pc := 89) hx hb xd_Mo_box_89 rfl (lv_at hl 0 rfl) ?_
        refine xr_get (pc := 90) (v := .ref (G.1 9 6)) hC hR xo_M0 xf_Mo_35 rfl xd_Mo_box_90 ?_
        refine lv_iload (pc := 93) hx hb xd_Mo_box_93 (lv_at hl 4 rfl) ?_
        obtain ⟨hq, h⟩ := h
        refine xr_iald (pc := 95) hC hR xo_M6 hq xd_Mo_box_95 ?_
        refine lv_iload_n (pc := 96) hx hb xd_Mo_box_96 rfl (lv_at hl 2 rfl) ?_
        refine lv_iload_n (pc := 97) hx hb xd_Mo_box_97 rfl (lv_at hl 3 rfl) ?_
        refine xr_callS (pc := 98) (As := [.int (M 9 6 x4.toNatClampNeg), .int x2, .int x3]) (rest := []) hC hR hS (xc_Mo_isWithin l G  h) xv_Mo_148 ⟨rfl, rfl, Nat.le_of_ble_eq_true rfl, Nat.le_of_ble_eq_true rfl⟩ rfl hl.1 rfl (Nat.le_of_ble_eq_true rfl) xd_Mo_box_98 (fun r20 M19 H locs h hR hS => ?_)
        refine lv_if_ne (pc := 101) (tgt := 110) hx hb xd_Mo_box_101 (by decide) (fun hq => ?_) (fun hq => ?_)
        · have h := h.1 hq
          refine lv_iinc (pc := 110) (v := (x4 + (1 : Int32))) (lv' := [(4, .int (x4 + (1 : Int32))), (0, .ref (G.1 9 0)), (1, .int x1), (2, .int x2), (3, .int x3)]) hx hb xd_Mo_box_110 hl (k := 4) rfl rfl (by decide) rfl (fun ls hl => ?_)
          refine lv_goto (pc := 113) (tgt := 69) hx hb xd_Mo_box_113 (by decide) ?_
          exact ih (x4 + (1 : Int32)) M19 H locs ls h hR hS (lv_sub hl [1, 2, 3, 4, 0] rfl)
        · have h := h.2 hq
          refine lv_aload_n (pc := 104) hx hb xd_Mo_box_104 rfl (lv_at hl 0 rfl) ?_
          refine lv_iconst (pc := 105) (v := (-1 : Int32)) hx hb xd_Mo_box_105 (by decide) ?_
          refine xr_callV (pc := 106) (As := [.int (-1 : Int32)]) (rest := []) hC hR hS (xc_Mo_ends l G  h) xo_M0 xv_Mo_89 ⟨rfl, rfl, Nat.le_of_ble_eq_true rfl, Nat.le_of_ble_eq_true rfl⟩ rfl hl.1 rfl (Nat.le_of_ble_eq_true rfl) xd_Mo_box_106 (fun r22 M21 H locs h hR hS => ?_)
          exact xr_iret hC hr hlk hR hS h xd_Mo_box_109
set_option maxHeartbeats 4000000 in
set_option maxRecDepth 100000 in
theorem xc_Mo_box (l : Launch) (G : xG) {a1 : Int32} {a2 : Int32} {a3 : Int32}  {M : xM} {post : Int32 → xM → Prop} (h : xw_Mo_box a1 a2 a3 M post) : Met l y_Mo_box (Cond.code y_Mo_box b_Mo_box 5 (some .int) :: xTG) rm_Mo_box (xPre G M [.ref (G.1 9 0), .int a1, .int a2, .int a3]) (xPi G post) 0 0 (xA G) := by
  refine xMet (own := R_Mo) [.ref (G.1 9 0), .int a1, .int a2, .int a3] (Or.inl (by decide)) rfl (Nat.le_of_ble_eq_true rfl) (fun p e s m args below meth c ls hC hr hlk hR hS hl => ?_)
  have hx := hC.1
  have hb := hC.2.1
  have hl : lv_has ls 5 [(0, .ref (G.1 9 0)), (1, .int a1), (2, .int a2), (3, .int a3)] := hl
  obtain ⟨H, eH⟩ : ∃ H : Heap, H = s.heap := ⟨_, rfl⟩
  obtain ⟨locs, eL⟩ : ∃ locs : List Loc, locs = [] := ⟨_, rfl⟩
  rw [← eH] at hR
  replace hS : va_S (xA G) s.heap H locs := by rw [eH, eL]; exact hS
  suffices hh : W p l e rm_Mo_box s m args below meth c H locs 0 0 (MQ below (xPi G post) args s 0 0 (xA G)) (F0 m 0 ls []) from by rw [eH, eL] at hh; exact hh
  unfold xw_Mo_box at h
  refine lv_iload_n (pc := 0) hx hb xd_Mo_box_0 rfl (lv_at hl 1 rfl) ?_
  refine lv_iconst (pc := 1) (v := (0 : Int32)) hx hb xd_Mo_box_1 (by decide) ?_
  refine lv_bipush (pc := 2) (v := (7 : Int32)) hx hb xd_Mo_box_2 (by decide) ?_
  refine xr_callS (pc := 4) (As := [.int a1, .int (0 : Int32), .int (7 : Int32)]) (rest := []) hC hR hS (xc_Mo_in l G  h) xv_Mo_85 ⟨rfl, rfl, Nat.le_of_ble_eq_true rfl, Nat.le_of_ble_eq_true rfl⟩ rfl hl.1 rfl (Nat.le_of_ble_eq_true rfl) xd_Mo_box_4 (fun r2 M1 H locs h hR hS => ?_)
  obtain ⟨J24_2, eJ24_2, h⟩ := xj_open h
  have kJ24_2 : ∀ (M4 : xM) (H : Heap) (locs : List Loc) (ls : Array Slot), J24_2 M4 → xRp G M4 H → va_S (xA G) s.heap H locs → lv_has ls 5 [(0, .ref (G.1 9 0))] → W p l e rm_Mo_box s m args below meth c H locs 0 0 (MQ below (xPi G post) args s 0 0 (xA G)) (F0 m 24 ls []) := by
    intro M4 H locs ls h hR hS hl
    rw [eJ24_2] at h
    refine lv_aload_n (pc := 24) hx hb xd_Mo_box_24 rfl (lv_at hl 0 rfl) ?_
    refine lv_iconst (pc := 25) (v := (-1 : Int32)) hx hb xd_Mo_box_25 (by decide) ?_
    refine xr_callV (pc := 26) (As := [.int (-1 : Int32)]) (rest := []) hC hR hS (xc_Mo_ends l G  h) xo_M0 xv_Mo_89 ⟨rfl, rfl, Nat.le_of_ble_eq_true rfl, Nat.le_of_ble_eq_true rfl⟩ rfl hl.1 rfl (Nat.le_of_ble_eq_true rfl) xd_Mo_box_26 (fun r6 M5 H locs h hR hS => ?_)
    exact xr_iret hC hr hlk hR hS h xd_Mo_box_29
  refine lv_if_eq (pc := 7) (tgt := 24) hx hb xd_Mo_box_7 (by decide) (fun hq => ?_) (fun hq => ?_)
  · have h := h.1 hq
    exact kJ24_2  M1 H locs ls h hR hS (lv_sub hl [0] rfl)
  · have h := h.2 hq
    refine lv_iload_n (pc := 10) hx hb xd_Mo_box_10 rfl (lv_at hl 2 rfl) ?_
    refine xr_callS (pc := 11) (As := [.int a2]) (rest := []) hC hR hS (xc_Mo_isColour l G  h) xv_Mo_133 ⟨rfl, rfl, Nat.le_of_ble_eq_true rfl, Nat.le_of_ble_eq_true rfl⟩ rfl hl.1 rfl (Nat.le_of_ble_eq_true rfl) xd_Mo_box_11 (fun r8 M7 H locs h hR hS => ?_)
    refine lv_if_eq (pc := 14) (tgt := 24) hx hb xd_Mo_box_14 (by decide) (fun hq => ?_) (fun hq => ?_)
    · have h := h.1 hq
      exact kJ24_2  M7 H locs ls h hR hS (lv_sub hl [0] rfl)
    · have h := h.2 hq
      refine lv_iload_n (pc := 17) hx hb xd_Mo_box_17 rfl (lv_at hl 3 rfl) ?_
      refine xr_callS (pc := 18) (As := [.int a3]) (rest := []) hC hR hS (xc_Mo_isColour l G  h) xv_Mo_133 ⟨rfl, rfl, Nat.le_of_ble_eq_true rfl, Nat.le_of_ble_eq_true rfl⟩ rfl hl.1 rfl (Nat.le_of_ble_eq_true rfl) xd_Mo_box_18 (fun r10 M9 H locs h hR hS => ?_)
      refine lv_if_ne (pc := 21) (tgt := 30) hx hb xd_Mo_box_21 (by decide) (fun hq => ?_) (fun hq => ?_)
      · have h := h.1 hq
        refine lv_iconst (pc := 30) (v := (0 : Int32)) hx hb xd_Mo_box_30 (by decide) ?_
        refine lv_istore (pc := 31) (lv' := [(4, .int (0 : Int32)), (0, .ref (G.1 9 0)), (1, .int a1), (2, .int a2), (3, .int a3)]) hx hb xd_Mo_box_31 hl (by decide) rfl (fun ls hl => ?_)
        obtain ⟨n, h⟩ := h
        refine xt_Mo_box_33 hC hr hlk  (fun y17 M18 H locs ls h hR hS hl => ?_) n (0 : Int32) M9 H locs ls h hR hS (lv_sub hl [1, 2, 3, 4, 0] rfl)
        refine lv_iconst (pc := 66) (v := (0 : Int32)) hx hb xd_Mo_box_66 (by decide) ?_
        refine lv_istore (pc := 67) (lv' := [(4, .int (0 : Int32)), (0, .ref (G.1 9 0)), (1, .int a1), (2, .int a2), (3, .int a3)]) hx hb xd_Mo_box_67 hl (by decide) rfl (fun ls hl => ?_)
        obtain ⟨n, h⟩ := h
        refine xt_Mo_box_69 hC hr hlk  (fun y23 M24 H locs ls h hR hS hl => ?_) n (0 : Int32) M18 H locs ls h hR hS (lv_sub hl [1, 2, 3, 4, 0] rfl)
        refine lv_aload_n (pc := 116) hx hb xd_Mo_box_116 rfl (lv_at hl 0 rfl) ?_
        refine xr_get (pc := 117) (v := .ref (G.1 9 9)) hC hR xo_M0 xf_Mo_45 rfl xd_Mo_box_117 ?_
        refine lv_iload_n (pc := 120) hx hb xd_Mo_box_120 rfl (lv_at hl 1 rfl) ?_
        refine lv_iload_n (pc := 121) hx hb xd_Mo_box_121 rfl (lv_at hl 2 rfl) ?_
        obtain ⟨hq, h⟩ := h
        refine xr_iast (pc := 122) hC hR hS xo_M9 hq xd_Mo_box_122 (fun H locs hR hS => ?_)
        refine lv_aload_n (pc := 123) hx hb xd_Mo_box_123 rfl (lv_at hl 0 rfl) ?_
        refine xr_get (pc := 124) (v := .ref (G.1 9 10)) hC hR xo_M0 xf_Mo_49 rfl xd_Mo_box_124 ?_
        refine lv_iload_n (pc := 127) hx hb xd_Mo_box_127 rfl (lv_at hl 1 rfl) ?_
        refine lv_iload_n (pc := 128) hx hb xd_Mo_box_128 rfl (lv_at hl 3 rfl) ?_
        obtain ⟨hq, h⟩ := h
        refine xr_iast (pc := 129) hC hR hS xo_M10 hq xd_Mo_box_129 (fun H locs hR hS => ?_)
        refine lv_aload_n (pc := 130) hx hb xd_Mo_box_130 rfl (lv_at hl 0 rfl) ?_
        refine lv_iconst (pc := 131) (v := (0 : Int32)) hx hb xd_Mo_box_131 (by decide) ?_
        refine xr_callV (pc := 132) (As := [.int (0 : Int32)]) (rest := []) hC hR hS (xc_Mo_ends l G  h) xo_M0 xv_Mo_89 ⟨rfl, rfl, Nat.le_of_ble_eq_true rfl, Nat.le_of_ble_eq_true rfl⟩ rfl hl.1 rfl (Nat.le_of_ble_eq_true rfl) xd_Mo_box_132 (fun r26 M25 H locs h hR hS => ?_)
        exact xr_iret hC hr hlk hR hS h xd_Mo_box_135
      · have h := h.2 hq
        exact kJ24_2  M9 H locs ls h hR hS (lv_sub hl [0] rfl)

/-! ColoursApartModel.pair(III)I -/
theorem xd_Mo_pair_0 : decode b_Mo_pair 0 = .ok (.iload_n 1, 1) := by decide +kernel
theorem xd_Mo_pair_1 : decode b_Mo_pair 1 = .ok (.iload_n 2, 1) := by decide +kernel
theorem xd_Mo_pair_2 : decode b_Mo_pair 2 = .ok (.if_icmp .eq 15, 3) := by decide +kernel
theorem xd_Mo_pair_5 : decode b_Mo_pair 5 = .ok (.iload_n 3, 1) := by decide +kernel
theorem xd_Mo_pair_6 : decode b_Mo_pair 6 = .ok (.bipush 10, 2) := by decide +kernel
theorem xd_Mo_pair_8 : decode b_Mo_pair 8 = .ok (.sipush 210, 3) := by decide +kernel
theorem xd_Mo_pair_11 : decode b_Mo_pair 11 = .ok (.invokestatic 85, 3) := by decide +kernel
theorem xd_Mo_pair_14 : decode b_Mo_pair 14 = .ok (.ifCond .ne 9, 3) := by decide +kernel
theorem xd_Mo_pair_17 : decode b_Mo_pair 17 = .ok (.aload_n 0, 1) := by decide +kernel
theorem xd_Mo_pair_18 : decode b_Mo_pair 18 = .ok (.iconst (-1), 1) := by decide +kernel
theorem xd_Mo_pair_19 : decode b_Mo_pair 19 = .ok (.invokevirtual 89, 3) := by decide +kernel
theorem xd_Mo_pair_22 : decode b_Mo_pair 22 = .ok (.ireturn, 1) := by decide +kernel
theorem xd_Mo_pair_23 : decode b_Mo_pair 23 = .ok (.aload_n 0, 1) := by decide +kernel
theorem xd_Mo_pair_24 : decode b_Mo_pair 24 = .ok (.iload_n 1, 1) := by decide +kernel
theorem xd_Mo_pair_25 : decode b_Mo_pair 25 = .ok (.invokevirtual 151, 3) := by decide +kernel
theorem xd_Mo_pair_28 : decode b_Mo_pair 28 = .ok (.ifCond .eq 11, 3) := by decide +kernel
theorem xd_Mo_pair_31 : decode b_Mo_pair 31 = .ok (.aload_n 0, 1) := by decide +kernel
theorem xd_Mo_pair_32 : decode b_Mo_pair 32 = .ok (.iload_n 2, 1) := by decide +kernel
theorem xd_Mo_pair_33 : decode b_Mo_pair 33 = .ok (.invokevirtual 151, 3) := by decide +kernel
theorem xd_Mo_pair_36 : decode b_Mo_pair 36 = .ok (.ifCond .ne 10, 3) := by decide +kernel
theorem xd_Mo_pair_39 : decode b_Mo_pair 39 = .ok (.aload_n 0, 1) := by decide +kernel
theorem xd_Mo_pair_40 : decode b_Mo_pair 40 = .ok (.bipush (-2), 2) := by decide +kernel
theorem xd_Mo_pair_42 : decode b_Mo_pair 42 = .ok (.invokevirtual 89, 3) := by decide +kernel
theorem xd_Mo_pair_45 : decode b_Mo_pair 45 = .ok (.ireturn, 1) := by decide +kernel
theorem xd_Mo_pair_46 : decode b_Mo_pair 46 = .ok (.iconst 0, 1) := by decide +kernel
theorem xd_Mo_pair_47 : decode b_Mo_pair 47 = .ok (.istore 4, 2) := by decide +kernel
theorem xd_Mo_pair_49 : decode b_Mo_pair 49 = .ok (.iload 4, 2) := by decide +kernel
theorem xd_Mo_pair_51 : decode b_Mo_pair 51 = .ok (.aload_n 0, 1) := by decide +kernel
theorem xd_Mo_pair_52 : decode b_Mo_pair 52 = .ok (.getfield 158, 3) := by decide +kernel
theorem xd_Mo_pair_55 : decode b_Mo_pair 55 = .ok (.if_icmp .ge 73, 3) := by decide +kernel
theorem xd_Mo_pair_58 : decode b_Mo_pair 58 = .ok (.aload_n 0, 1) := by decide +kernel
theorem xd_Mo_pair_59 : decode b_Mo_pair 59 = .ok (.getfield 52, 3) := by decide +kernel
theorem xd_Mo_pair_62 : decode b_Mo_pair 62 = .ok (.iload 4, 2) := by decide +kernel
theorem xd_Mo_pair_64 : decode b_Mo_pair 64 = .ok (.iaload, 1) := by decide +kernel
theorem xd_Mo_pair_65 : decode b_Mo_pair 65 = .ok (.iload_n 1, 1) := by decide +kernel
theorem xd_Mo_pair_66 : decode b_Mo_pair 66 = .ok (.if_icmp .eq 14, 3) := by decide +kernel
theorem xd_Mo_pair_69 : decode b_Mo_pair 69 = .ok (.aload_n 0, 1) := by decide +kernel
theorem xd_Mo_pair_70 : decode b_Mo_pair 70 = .ok (.getfield 52, 3) := by decide +kernel
theorem xd_Mo_pair_73 : decode b_Mo_pair 73 = .ok (.iload 4, 2) := by decide +kernel
theorem xd_Mo_pair_75 : decode b_Mo_pair 75 = .ok (.iaload, 1) := by decide +kernel
theorem xd_Mo_pair_76 : decode b_Mo_pair 76 = .ok (.iload_n 2, 1) := by decide +kernel
theorem xd_Mo_pair_77 : decode b_Mo_pair 77 = .ok (.if_icmp .ne 45, 3) := by decide +kernel
theorem xd_Mo_pair_80 : decode b_Mo_pair 80 = .ok (.aload_n 0, 1) := by decide +kernel
theorem xd_Mo_pair_81 : decode b_Mo_pair 81 = .ok (.getfield 55, 3) := by decide +kernel
theorem xd_Mo_pair_84 : decode b_Mo_pair 84 = .ok (.iload 4, 2) := by decide +kernel
theorem xd_Mo_pair_86 : decode b_Mo_pair 86 = .ok (.iaload, 1) := by decide +kernel
theorem xd_Mo_pair_87 : decode b_Mo_pair 87 = .ok (.iload_n 1, 1) := by decide +kernel
theorem xd_Mo_pair_88 : decode b_Mo_pair 88 = .ok (.if_icmp .eq 17, 3) := by decide +kernel
theorem xd_Mo_pair_91 : decode b_Mo_pair 91 = .ok (.aload_n 0, 1) := by decide +kernel
theorem xd_Mo_pair_92 : decode b_Mo_pair 92 = .ok (.getfield 55, 3) := by decide +kernel
theorem xd_Mo_pair_95 : decode b_Mo_pair 95 = .ok (.iload 4, 2) := by decide +kernel
theorem xd_Mo_pair_97 : decode b_Mo_pair 97 = .ok (.iaload, 1) := by decide +kernel
theorem xd_Mo_pair_98 : decode b_Mo_pair 98 = .ok (.iload_n 2, 1) := by decide +kernel
theorem xd_Mo_pair_99 : decode b_Mo_pair 99 = .ok (.if_icmp .eq 6, 3) := by decide +kernel
theorem xd_Mo_pair_102 : decode b_Mo_pair 102 = .ok (.goto 20, 3) := by decide +kernel
theorem xd_Mo_pair_105 : decode b_Mo_pair 105 = .ok (.aload_n 0, 1) := by decide +kernel
theorem xd_Mo_pair_106 : decode b_Mo_pair 106 = .ok (.getfield 58, 3) := by decide +kernel
theorem xd_Mo_pair_109 : decode b_Mo_pair 109 = .ok (.iload 4, 2) := by decide +kernel
theorem xd_Mo_pair_111 : decode b_Mo_pair 111 = .ok (.iload_n 3, 1) := by decide +kernel
theorem xd_Mo_pair_112 : decode b_Mo_pair 112 = .ok (.iastore, 1) := by decide +kernel
theorem xd_Mo_pair_113 : decode b_Mo_pair 113 = .ok (.aload_n 0, 1) := by decide +kernel
theorem xd_Mo_pair_114 : decode b_Mo_pair 114 = .ok (.aload_n 0, 1) := by decide +kernel
theorem xd_Mo_pair_115 : decode b_Mo_pair 115 = .ok (.getfield 158, 3) := by decide +kernel
theorem xd_Mo_pair_118 : decode b_Mo_pair 118 = .ok (.invokevirtual 89, 3) := by decide +kernel
theorem xd_Mo_pair_121 : decode b_Mo_pair 121 = .ok (.ireturn, 1) := by decide +kernel
theorem xd_Mo_pair_122 : decode b_Mo_pair 122 = .ok (.iinc 4 1, 3) := by decide +kernel
theorem xd_Mo_pair_125 : decode b_Mo_pair 125 = .ok (.goto (-76), 3) := by decide +kernel
theorem xd_Mo_pair_128 : decode b_Mo_pair 128 = .ok (.aload_n 0, 1) := by decide +kernel
theorem xd_Mo_pair_129 : decode b_Mo_pair 129 = .ok (.getfield 158, 3) := by decide +kernel
theorem xd_Mo_pair_132 : decode b_Mo_pair 132 = .ok (.bipush 20, 2) := by decide +kernel
theorem xd_Mo_pair_134 : decode b_Mo_pair 134 = .ok (.if_icmp .ne 10, 3) := by decide +kernel
theorem xd_Mo_pair_137 : decode b_Mo_pair 137 = .ok (.aload_n 0, 1) := by decide +kernel
theorem xd_Mo_pair_138 : decode b_Mo_pair 138 = .ok (.bipush (-5), 2) := by decide +kernel
theorem xd_Mo_pair_140 : decode b_Mo_pair 140 = .ok (.invokevirtual 89, 3) := by decide +kernel
theorem xd_Mo_pair_143 : decode b_Mo_pair 143 = .ok (.ireturn, 1) := by decide +kernel
theorem xd_Mo_pair_144 : decode b_Mo_pair 144 = .ok (.aload_n 0, 1) := by decide +kernel
theorem xd_Mo_pair_145 : decode b_Mo_pair 145 = .ok (.getfield 52, 3) := by decide +kernel
theorem xd_Mo_pair_148 : decode b_Mo_pair 148 = .ok (.aload_n 0, 1) := by decide +kernel
theorem xd_Mo_pair_149 : decode b_Mo_pair 149 = .ok (.getfield 158, 3) := by decide +kernel
theorem xd_Mo_pair_152 : decode b_Mo_pair 152 = .ok (.iload_n 1, 1) := by decide +kernel
theorem xd_Mo_pair_153 : decode b_Mo_pair 153 = .ok (.iastore, 1) := by decide +kernel
theorem xd_Mo_pair_154 : decode b_Mo_pair 154 = .ok (.aload_n 0, 1) := by decide +kernel
theorem xd_Mo_pair_155 : decode b_Mo_pair 155 = .ok (.getfield 55, 3) := by decide +kernel
theorem xd_Mo_pair_158 : decode b_Mo_pair 158 = .ok (.aload_n 0, 1) := by decide +kernel
theorem xd_Mo_pair_159 : decode b_Mo_pair 159 = .ok (.getfield 158, 3) := by decide +kernel
theorem xd_Mo_pair_162 : decode b_Mo_pair 162 = .ok (.iload_n 2, 1) := by decide +kernel
theorem xd_Mo_pair_163 : decode b_Mo_pair 163 = .ok (.iastore, 1) := by decide +kernel
theorem xd_Mo_pair_164 : decode b_Mo_pair 164 = .ok (.aload_n 0, 1) := by decide +kernel
theorem xd_Mo_pair_165 : decode b_Mo_pair 165 = .ok (.getfield 58, 3) := by decide +kernel
theorem xd_Mo_pair_168 : decode b_Mo_pair 168 = .ok (.aload_n 0, 1) := by decide +kernel
theorem xd_Mo_pair_169 : decode b_Mo_pair 169 = .ok (.getfield 158, 3) := by decide +kernel
theorem xd_Mo_pair_172 : decode b_Mo_pair 172 = .ok (.iload_n 3, 1) := by decide +kernel
theorem xd_Mo_pair_173 : decode b_Mo_pair 173 = .ok (.iastore, 1) := by decide +kernel
theorem xd_Mo_pair_174 : decode b_Mo_pair 174 = .ok (.aload_n 0, 1) := by decide +kernel
theorem xd_Mo_pair_175 : decode b_Mo_pair 175 = .ok (.dup, 1) := by decide +kernel
theorem xd_Mo_pair_176 : decode b_Mo_pair 176 = .ok (.getfield 158, 3) := by decide +kernel
theorem xd_Mo_pair_179 : decode b_Mo_pair 179 = .ok (.iconst 1, 1) := by decide +kernel
theorem xd_Mo_pair_180 : decode b_Mo_pair 180 = .ok (.iadd, 1) := by decide +kernel
theorem xd_Mo_pair_181 : decode b_Mo_pair 181 = .ok (.putfield 158, 3) := by decide +kernel
theorem xd_Mo_pair_184 : decode b_Mo_pair 184 = .ok (.aload_n 0, 1) := by decide +kernel
theorem xd_Mo_pair_185 : decode b_Mo_pair 185 = .ok (.aload_n 0, 1) := by decide +kernel
theorem xd_Mo_pair_186 : decode b_Mo_pair 186 = .ok (.getfield 158, 3) := by decide +kernel
theorem xd_Mo_pair_189 : decode b_Mo_pair 189 = .ok (.invokevirtual 89, 3) := by decide +kernel
theorem xd_Mo_pair_192 : decode b_Mo_pair 192 = .ok (.ireturn, 1) := by decide +kernel
abbrev rm_Mo_pair : Room := { frames := 2, cells := 0, slots := 0, locals := 43 }
def xw_Mo_pair_49 (x1 : Int32) (x2 : Int32) (x3 : Int32) (post : Int32 → xM → Prop) (k105 : Int32 → xM → Prop) (k128 : Int32 → xM → Prop) : Nat → Int32 → xM → Prop
  | 0, _, _ => False
  | n49 + 1, x4, M => (((M 9 0 10) ≤ x4) → (k128 x4 M)) ∧ ((¬ (M 9 0 10) ≤ x4) → ((vp_in x4 20) ∧ (xj (fun (J80_14 : xM → Prop) => (((M 9 11 x4.toNatClampNeg) = x1) → (J80_14  M)) ∧ ((¬ (M 9 11 x4.toNatClampNeg) = x1) → ((vp_in x4 20) ∧ (((¬ (M 9 11 x4.toNatClampNeg) = x2) → (xw_Mo_pair_49 x1 x2 x3 post k105 k128 n49 (x4 + (1 : Int32)) M)) ∧ (((M 9 11 x4.toNatClampNeg) = x2) → (J80_14  M)))))) (fun (M16 : xM) => (vp_in x4 20) ∧ ((((M16 9 12 x4.toNatClampNeg) = x1) → (k105 x4 M16)) ∧ ((¬ (M16 9 12 x4.toNatClampNeg) = x1) → ((vp_in x4 20) ∧ ((((M16 9 12 x4.toNatClampNeg) = x2) → (k105 x4 M16)) ∧ ((¬ (M16 9 12 x4.toNatClampNeg) = x2) → (xw_Mo_pair_49 x1 x2 x3 post k105 k128 n49 (x4 + (1 : Int32)) M16))))))))))
def xw_Mo_pair (a1 : Int32) (a2 : Int32) (a3 : Int32) (M : xM) (post : Int32 → xM → Prop) : Prop :=
  xj (fun (J17_0 : xM → Prop) => ((a1 = a2) → (J17_0  M)) ∧ ((¬ a1 = a2) → (xw_Mo_in a3 (10 : Int32) (210 : Int32) M (fun (r6 : Int32) (M5 : xM) => ((¬ r6 = 0) → (xw_Mo_isIn a1 M5 (fun (r8 : Int32) (M7 : xM) => xj (fun (J39_8 : xM → Prop) => ((r8 = 0) → (J39_8  M7)) ∧ ((¬ r8 = 0) → (xw_Mo_isIn a2 M7 (fun (r14 : Int32) (M13 : xM) => ((¬ r14 = 0) → (∃ n49 : Nat, xw_Mo_pair_49 a1 a2 a3 post (fun (y17 : Int32) (M18 : xM) => (vp_in y17 20) ∧ (xw_Mo_ends ((us M18 9 13 y17.toNatClampNeg a3) 9 0 10) (us M18 9 13 y17.toNatClampNeg a3) (fun (r20 : Int32) (M19 : xM) => post r20 M19))) (fun (y21 : Int32) (M22 : xM) => ((¬ (M22 9 0 10) = (20 : Int32)) → ((vp_in (M22 9 0 10) 20) ∧ ((vp_in ((us M22 9 11 (M22 9 0 10).toNatClampNeg a1) 9 0 10) 20) ∧ ((vp_in ((us (us M22 9 11 (M22 9 0 10).toNatClampNeg a1) 9 12 ((us M22 9 11 (M22 9 0 10).toNatClampNeg a1) 9 0 10).toNatClampNeg a2) 9 0 10) 20) ∧ (xw_Mo_ends ((us (us (us (us M22 9 11 (M22 9 0 10).toNatClampNeg a1) 9 12 ((us M22 9 11 (M22 9 0 10).toNatClampNeg a1) 9 0 10).toNatClampNeg a2) 9 13 ((us (us M22 9 11 (M22 9 0 10).toNatClampNeg a1) 9 12 ((us M22 9 11 (M22 9 0 10).toNatClampNeg a1) 9 0 10).toNatClampNeg a2) 9 0 10).toNatClampNeg a3) 9 0 10 (((us (us (us M22 9 11 (M22 9 0 10).toNatClampNeg a1) 9 12 ((us M22 9 11 (M22 9 0 10).toNatClampNeg a1) 9 0 10).toNatClampNeg a2) 9 13 ((us (us M22 9 11 (M22 9 0 10).toNatClampNeg a1) 9 12 ((us M22 9 11 (M22 9 0 10).toNatClampNeg a1) 9 0 10).toNatClampNeg a2) 9 0 10).toNatClampNeg a3) 9 0 10) + (1 : Int32))) 9 0 10) (us (us (us (us M22 9 11 (M22 9 0 10).toNatClampNeg a1) 9 12 ((us M22 9 11 (M22 9 0 10).toNatClampNeg a1) 9 0 10).toNatClampNeg a2) 9 13 ((us (us M22 9 11 (M22 9 0 10).toNatClampNeg a1) 9 12 ((us M22 9 11 (M22 9 0 10).toNatClampNeg a1) 9 0 10).toNatClampNeg a2) 9 0 10).toNatClampNeg a3) 9 0 10 (((us (us (us M22 9 11 (M22 9 0 10).toNatClampNeg a1) 9 12 ((us M22 9 11 (M22 9 0 10).toNatClampNeg a1) 9 0 10).toNatClampNeg a2) 9 13 ((us (us M22 9 11 (M22 9 0 10).toNatClampNeg a1) 9 12 ((us M22 9 11 (M22 9 0 10).toNatClampNeg a1) 9 0 10).toNatClampNeg a2) 9 0 10).toNatClampNeg a3) 9 0 10) + (1 : Int32))) (fun (r24 : Int32) (M23 : xM) => post r24 M23)))))) ∧ (((M22 9 0 10) = (20 : Int32)) → (xw_Mo_ends (-5 : Int32) M22 (fun (r26 : Int32) (M25 : xM) => post r26 M25)))) n49 (0 : Int32) M13)) ∧ ((r14 = 0) → (J39_8  M13)))))) (fun (M10 : xM) => xw_Mo_ends (-2 : Int32) M10 (fun (r12 : Int32) (M11 : xM) => post r12 M11))))) ∧ ((r6 = 0) → (J17_0  M5)))))) (fun (M2 : xM) => xw_Mo_ends (-1 : Int32) M2 (fun (r4 : Int32) (M3 : xM) => post r4 M3))
set_option maxHeartbeats 4000000 in
set_option maxRecDepth 100000 in
theorem xt_Mo_pair_49 {p : Program} {l : Launch} {e : Env} {s : State} {m : MethodId} {args : Array Value} {below : List Frame} {meth : Method} {c : Code} {G : xG} (hC : xC p s m args c b_Mo_pair R_Mo 5 G) (hr : meth.sig.returnType = (some .int)) (hlk : meth.locks = false) {x1 : Int32} {x2 : Int32} {x3 : Int32} {post : Int32 → xM → Prop} {k105 : Int32 → xM → Prop} {k128 : Int32 → xM → Prop} (hk105 : ∀ (x4 : Int32) (M : xM) (H : Heap) (locs : List Loc) (ls : Array Slot), k105 x4 M → xRp G M H → va_S (xA G) s.heap H locs → lv_has ls 5 [(0, .ref (G.1 9 0)), (1, .int x1), (2, .int x2), (3, .int x3), (4, .int x4)] → W p l e rm_Mo_pair s m args below meth c H locs 0 0 (MQ below (xPi G post) args s 0 0 (xA G)) (F0 m 105 ls [])) (hk128 : ∀ (x4 : Int32) (M : xM) (H : Heap) (locs : List Loc) (ls : Array Slot), k128 x4 M → xRp G M H → va_S (xA G) s.heap H locs → lv_has ls 5 [(0, .ref (G.1 9 0)), (1, .int x1), (2, .int x2), (3, .int x3), (4, .int x4)] → W p l e rm_Mo_pair s m args below meth c H locs 0 0 (MQ below (xPi G post) args s 0 0 (xA G)) (F0 m 128 ls [])) : ∀ (n : Nat) (x4 : Int32) (M : xM) (H : Heap) (locs : List Loc) (ls : Array Slot), xw_Mo_pair_49 x1 x2 x3 post k105 k128 n x4 M → xRp G M H → va_S (xA G) s.heap H locs → lv_has ls 5 [(0, .ref (G.1 9 0)), (1, .int x1), (2, .int x2), (3, .int x3), (4, .int x4)] → W p l e rm_Mo_pair s m args below meth c H locs 0 0 (MQ below (xPi G post) args s 0 0 (xA G)) (F0 m 49 ls []) := by
  have hx := hC.1
  have hb := hC.2.1
  intro n
  induction n with
  | zero => intro x4 M H locs ls; exact fun h => h.elim
  | succ n ih =>
    intro x4 M H locs ls h hR hS hl
    refine lv_iload (pc := 49) hx hb xd_Mo_pair_49 (lv_at hl 4 rfl) ?_
    refine lv_aload_n (pc := 51) hx hb xd_Mo_pair_51 rfl (lv_at hl 0 rfl) ?_
    refine xr_get (pc := 52) (v := .int (M 9 0 10)) hC hR xo_M0 xf_Mo_158 rfl xd_Mo_pair_52 ?_
    refine lv_icmp_ge (pc := 55) (tgt := 128) hx hb xd_Mo_pair_55 (by decide) (fun hq => ?_) (fun hq => ?_)
    · have h := h.1 hq
      exact hk128 x4 M H locs ls h hR hS (lv_sub hl [0, 1, 2, 3, 4] rfl)
    · have h := h.2 hq
      refine lv_aload_n (pc := 58) hx hb xd_Mo_pair_58 rfl (lv_at hl 0 rfl) ?_
      refine xr_get (pc := 59) (v := .ref (G.1 9 11)) hC hR xo_M0 xf_Mo_52 rfl xd_Mo_pair_59 ?_
      refine lv_iload (pc := 62) hx hb xd_Mo_pair_62 (lv_at hl 4 rfl) ?_
      obtain ⟨hq, h⟩ := h
      refine xr_iald (pc := 64) hC hR xo_M11 hq xd_Mo_pair_64 ?_
      refine lv_iload_n (pc := 65) hx hb xd_Mo_pair_65 rfl (lv_at hl 1 rfl) ?_
      obtain ⟨J80_14, eJ80_14, h⟩ := xj_open h
      have kJ80_14 : ∀ (M16 : xM) (H : Heap) (locs : List Loc) (ls : Array Slot), J80_14 M16 → xRp G M16 H → va_S (xA G) s.heap H locs → lv_has ls 5 [(0, .ref (G.1 9 0)), (1, .int x1), (2, .int x2), (3, .int x3), (4, .int x4)] → W p l e rm_Mo_pair s m args below meth c H locs 0 0 (MQ below (xPi G post) args s 0 0 (xA G)) (F0 m 80 ls []) := by
        intro M16 H locs ls h hR hS hl
        rw [eJ80_14] at h
        refine lv_aload_n (pc := 80) hx hb xd_Mo_pair_80 rfl (lv_at hl 0 rfl) ?_
        refine xr_get (pc := 81) (v := .ref (G.1 9 12)) hC hR xo_M0 xf_Mo_55 rfl xd_Mo_pair_81 ?_
        refine lv_iload (pc := 84) hx hb xd_Mo_pair_84 (lv_at hl 4 rfl) ?_
        obtain ⟨hq, h⟩ := h
        refine xr_iald (pc := 86) hC hR xo_M12 hq xd_Mo_pair_86 ?_
        refine lv_iload_n (pc := 87) hx hb xd_Mo_pair_87 rfl (lv_at hl 1 rfl) ?_
        refine lv_icmp_eq (pc := 88) (tgt := 105) hx hb xd_Mo_pair_88 (by decide) (fun hq => ?_) (fun hq => ?_)
        · have h := h.1 hq
          exact hk105 x4 M16 H locs ls h hR hS (lv_sub hl [0, 1, 2, 3, 4] rfl)
        · have h := h.2 hq
          refine lv_aload_n (pc := 91) hx hb xd_Mo_pair_91 rfl (lv_at hl 0 rfl) ?_
          refine xr_get (pc := 92) (v := .ref (G.1 9 12)) hC hR xo_M0 xf_Mo_55 rfl xd_Mo_pair_92 ?_
          refine lv_iload (pc := 95) hx hb xd_Mo_pair_95 (lv_at hl 4 rfl) ?_
          obtain ⟨hq, h⟩ := h
          refine xr_iald (pc := 97) hC hR xo_M12 hq xd_Mo_pair_97 ?_
          refine lv_iload_n (pc := 98) hx hb xd_Mo_pair_98 rfl (lv_at hl 2 rfl) ?_
          refine lv_icmp_eq (pc := 99) (tgt := 105) hx hb xd_Mo_pair_99 (by decide) (fun hq => ?_) (fun hq => ?_)
          · have h := h.1 hq
            exact hk105 x4 M16 H locs ls h hR hS (lv_sub hl [0, 1, 2, 3, 4] rfl)
          · have h := h.2 hq
            refine lv_goto (pc := 102) (tgt := 122) hx hb xd_Mo_pair_102 (by decide) ?_
            refine lv_iinc (pc := 122) (v := (x4 + (1 : Int32))) (lv' := [(4, .int (x4 + (1 : Int32))), (0, .ref (G.1 9 0)), (1, .int x1), (2, .int x2), (3, .int x3)]) hx hb xd_Mo_pair_122 hl (k := 4) rfl rfl (by decide) rfl (fun ls hl => ?_)
            refine lv_goto (pc := 125) (tgt := 49) hx hb xd_Mo_pair_125 (by decide) ?_
            exact ih (x4 + (1 : Int32)) M16 H locs ls h hR hS (lv_sub hl [1, 2, 3, 4, 0] rfl)
      refine lv_icmp_eq (pc := 66) (tgt := 80) hx hb xd_Mo_pair_66 (by decide) (fun hq => ?_) (fun hq => ?_)
      · have h := h.1 hq
        exact kJ80_14  M H locs ls h hR hS (lv_sub hl [0, 1, 2, 3, 4] rfl)
      · have h := h.2 hq
        refine lv_aload_n (pc := 69) hx hb xd_Mo_pair_69 rfl (lv_at hl 0 rfl) ?_
        refine xr_get (pc := 70) (v := .ref (G.1 9 11)) hC hR xo_M0 xf_Mo_52 rfl xd_Mo_pair_70 ?_
        refine lv_iload (pc := 73) hx hb xd_Mo_pair_73 (lv_at hl 4 rfl) ?_
        obtain ⟨hq, h⟩ := h
        refine xr_iald (pc := 75) hC hR xo_M11 hq xd_Mo_pair_75 ?_
        refine lv_iload_n (pc := 76) hx hb xd_Mo_pair_76 rfl (lv_at hl 2 rfl) ?_
        refine lv_icmp_ne (pc := 77) (tgt := 122) hx hb xd_Mo_pair_77 (by decide) (fun hq => ?_) (fun hq => ?_)
        · have h := h.1 hq
          refine lv_iinc (pc := 122) (v := (x4 + (1 : Int32))) (lv' := [(4, .int (x4 + (1 : Int32))), (0, .ref (G.1 9 0)), (1, .int x1), (2, .int x2), (3, .int x3)]) hx hb xd_Mo_pair_122 hl (k := 4) rfl rfl (by decide) rfl (fun ls hl => ?_)
          refine lv_goto (pc := 125) (tgt := 49) hx hb xd_Mo_pair_125 (by decide) ?_
          exact ih (x4 + (1 : Int32)) M H locs ls h hR hS (lv_sub hl [1, 2, 3, 4, 0] rfl)
        · have h := h.2 hq
          exact kJ80_14  M H locs ls h hR hS (lv_sub hl [0, 1, 2, 3, 4] rfl)
set_option maxHeartbeats 4000000 in
set_option maxRecDepth 100000 in
theorem xc_Mo_pair (l : Launch) (G : xG) {a1 : Int32} {a2 : Int32} {a3 : Int32}  {M : xM} {post : Int32 → xM → Prop} (h : xw_Mo_pair a1 a2 a3 M post) : Met l y_Mo_pair (Cond.code y_Mo_pair b_Mo_pair 5 (some .int) :: xTG) rm_Mo_pair (xPre G M [.ref (G.1 9 0), .int a1, .int a2, .int a3]) (xPi G post) 0 0 (xA G) := by
  refine xMet (own := R_Mo) [.ref (G.1 9 0), .int a1, .int a2, .int a3] (Or.inl (by decide)) rfl (Nat.le_of_ble_eq_true rfl) (fun p e s m args below meth c ls hC hr hlk hR hS hl => ?_)
  have hx := hC.1
  have hb := hC.2.1
  have hl : lv_has ls 5 [(0, .ref (G.1 9 0)), (1, .int a1), (2, .int a2), (3, .int a3)] := hl
  obtain ⟨H, eH⟩ : ∃ H : Heap, H = s.heap := ⟨_, rfl⟩
  obtain ⟨locs, eL⟩ : ∃ locs : List Loc, locs = [] := ⟨_, rfl⟩
  rw [← eH] at hR
  replace hS : va_S (xA G) s.heap H locs := by rw [eH, eL]; exact hS
  suffices hh : W p l e rm_Mo_pair s m args below meth c H locs 0 0 (MQ below (xPi G post) args s 0 0 (xA G)) (F0 m 0 ls []) from by rw [eH, eL] at hh; exact hh
  unfold xw_Mo_pair at h
  refine lv_iload_n (pc := 0) hx hb xd_Mo_pair_0 rfl (lv_at hl 1 rfl) ?_
  refine lv_iload_n (pc := 1) hx hb xd_Mo_pair_1 rfl (lv_at hl 2 rfl) ?_
  obtain ⟨J17_0, eJ17_0, h⟩ := xj_open h
  have kJ17_0 : ∀ (M2 : xM) (H : Heap) (locs : List Loc) (ls : Array Slot), J17_0 M2 → xRp G M2 H → va_S (xA G) s.heap H locs → lv_has ls 5 [(0, .ref (G.1 9 0))] → W p l e rm_Mo_pair s m args below meth c H locs 0 0 (MQ below (xPi G post) args s 0 0 (xA G)) (F0 m 17 ls []) := by
    intro M2 H locs ls h hR hS hl
    rw [eJ17_0] at h
    refine lv_aload_n (pc := 17) hx hb xd_Mo_pair_17 rfl (lv_at hl 0 rfl) ?_
    refine lv_iconst (pc := 18) (v := (-1 : Int32)) hx hb xd_Mo_pair_18 (by decide) ?_
    refine xr_callV (pc := 19) (As := [.int (-1 : Int32)]) (rest := []) hC hR hS (xc_Mo_ends l G  h) xo_M0 xv_Mo_89 ⟨rfl, rfl, Nat.le_of_ble_eq_true rfl, Nat.le_of_ble_eq_true rfl⟩ rfl hl.1 rfl (Nat.le_of_ble_eq_true rfl) xd_Mo_pair_19 (fun r4 M3 H locs h hR hS => ?_)
    exact xr_iret hC hr hlk hR hS h xd_Mo_pair_22
  refine lv_icmp_eq (pc := 2) (tgt := 17) hx hb xd_Mo_pair_2 (by decide) (fun hq => ?_) (fun hq => ?_)
  · have h := h.1 hq
    exact kJ17_0  M H locs ls h hR hS (lv_sub hl [0] rfl)
  · have h := h.2 hq
    refine lv_iload_n (pc := 5) hx hb xd_Mo_pair_5 rfl (lv_at hl 3 rfl) ?_
    refine lv_bipush (pc := 6) (v := (10 : Int32)) hx hb xd_Mo_pair_6 (by decide) ?_
    refine lv_sipush (pc := 8) (v := (210 : Int32)) hx hb xd_Mo_pair_8 (by decide) ?_
    refine xr_callS (pc := 11) (As := [.int a3, .int (10 : Int32), .int (210 : Int32)]) (rest := []) hC hR hS (xc_Mo_in l G  h) xv_Mo_85 ⟨rfl, rfl, Nat.le_of_ble_eq_true rfl, Nat.le_of_ble_eq_true rfl⟩ rfl hl.1 rfl (Nat.le_of_ble_eq_true rfl) xd_Mo_pair_11 (fun r6 M5 H locs h hR hS => ?_)
    refine lv_if_ne (pc := 14) (tgt := 23) hx hb xd_Mo_pair_14 (by decide) (fun hq => ?_) (fun hq => ?_)
    · have h := h.1 hq
      refine lv_aload_n (pc := 23) hx hb xd_Mo_pair_23 rfl (lv_at hl 0 rfl) ?_
      refine lv_iload_n (pc := 24) hx hb xd_Mo_pair_24 rfl (lv_at hl 1 rfl) ?_
      refine xr_callV (pc := 25) (As := [.int a1]) (rest := []) hC hR hS (xc_Mo_isIn l G  h) xo_M0 xv_Mo_151 ⟨rfl, rfl, Nat.le_of_ble_eq_true rfl, Nat.le_of_ble_eq_true rfl⟩ rfl hl.1 rfl (Nat.le_of_ble_eq_true rfl) xd_Mo_pair_25 (fun r8 M7 H locs h hR hS => ?_)
      obtain ⟨J39_8, eJ39_8, h⟩ := xj_open h
      have kJ39_8 : ∀ (M10 : xM) (H : Heap) (locs : List Loc) (ls : Array Slot), J39_8 M10 → xRp G M10 H → va_S (xA G) s.heap H locs → lv_has ls 5 [(0, .ref (G.1 9 0))] → W p l e rm_Mo_pair s m args below meth c H locs 0 0 (MQ below (xPi G post) args s 0 0 (xA G)) (F0 m 39 ls []) := by
        intro M10 H locs ls h hR hS hl
        rw [eJ39_8] at h
        refine lv_aload_n (pc := 39) hx hb xd_Mo_pair_39 rfl (lv_at hl 0 rfl) ?_
        refine lv_bipush (pc := 40) (v := (-2 : Int32)) hx hb xd_Mo_pair_40 (by decide) ?_
        refine xr_callV (pc := 42) (As := [.int (-2 : Int32)]) (rest := []) hC hR hS (xc_Mo_ends l G  h) xo_M0 xv_Mo_89 ⟨rfl, rfl, Nat.le_of_ble_eq_true rfl, Nat.le_of_ble_eq_true rfl⟩ rfl hl.1 rfl (Nat.le_of_ble_eq_true rfl) xd_Mo_pair_42 (fun r12 M11 H locs h hR hS => ?_)
        exact xr_iret hC hr hlk hR hS h xd_Mo_pair_45
      refine lv_if_eq (pc := 28) (tgt := 39) hx hb xd_Mo_pair_28 (by decide) (fun hq => ?_) (fun hq => ?_)
      · have h := h.1 hq
        exact kJ39_8  M7 H locs ls h hR hS (lv_sub hl [0] rfl)
      · have h := h.2 hq
        refine lv_aload_n (pc := 31) hx hb xd_Mo_pair_31 rfl (lv_at hl 0 rfl) ?_
        refine lv_iload_n (pc := 32) hx hb xd_Mo_pair_32 rfl (lv_at hl 2 rfl) ?_
        refine xr_callV (pc := 33) (As := [.int a2]) (rest := []) hC hR hS (xc_Mo_isIn l G  h) xo_M0 xv_Mo_151 ⟨rfl, rfl, Nat.le_of_ble_eq_true rfl, Nat.le_of_ble_eq_true rfl⟩ rfl hl.1 rfl (Nat.le_of_ble_eq_true rfl) xd_Mo_pair_33 (fun r14 M13 H locs h hR hS => ?_)
        refine lv_if_ne (pc := 36) (tgt := 46) hx hb xd_Mo_pair_36 (by decide) (fun hq => ?_) (fun hq => ?_)
        · have h := h.1 hq
          refine lv_iconst (pc := 46) (v := (0 : Int32)) hx hb xd_Mo_pair_46 (by decide) ?_
          refine lv_istore (pc := 47) (lv' := [(4, .int (0 : Int32)), (0, .ref (G.1 9 0)), (1, .int a1), (2, .int a2), (3, .int a3)]) hx hb xd_Mo_pair_47 hl (by decide) rfl (fun ls hl => ?_)
          obtain ⟨n, h⟩ := h
          refine xt_Mo_pair_49 hC hr hlk  (fun y17 M18 H locs ls h hR hS hl => ?_) (fun y21 M22 H locs ls h hR hS hl => ?_) n (0 : Int32) M13 H locs ls h hR hS (lv_sub hl [1, 2, 3, 4, 0] rfl)
          · refine lv_aload_n (pc := 105) hx hb xd_Mo_pair_105 rfl (lv_at hl 0 rfl) ?_
            refine xr_get (pc := 106) (v := .ref (G.1 9 13)) hC hR xo_M0 xf_Mo_58 rfl xd_Mo_pair_106 ?_
            refine lv_iload (pc := 109) hx hb xd_Mo_pair_109 (lv_at hl 4 rfl) ?_
            refine lv_iload_n (pc := 111) hx hb xd_Mo_pair_111 rfl (lv_at hl 3 rfl) ?_
            obtain ⟨hq, h⟩ := h
            refine xr_iast (pc := 112) hC hR hS xo_M13 hq xd_Mo_pair_112 (fun H locs hR hS => ?_)
            refine lv_aload_n (pc := 113) hx hb xd_Mo_pair_113 rfl (lv_at hl 0 rfl) ?_
            refine lv_aload_n (pc := 114) hx hb xd_Mo_pair_114 rfl (lv_at hl 0 rfl) ?_
            refine xr_get (pc := 115) (v := .int ((us M18 9 13 y17.toNatClampNeg a3) 9 0 10)) hC hR xo_M0 xf_Mo_158 rfl xd_Mo_pair_115 ?_
            refine xr_callV (pc := 118) (As := [.int ((us M18 9 13 y17.toNatClampNeg a3) 9 0 10)]) (rest := []) hC hR hS (xc_Mo_ends l G  h) xo_M0 xv_Mo_89 ⟨rfl, rfl, Nat.le_of_ble_eq_true rfl, Nat.le_of_ble_eq_true rfl⟩ rfl hl.1 rfl (Nat.le_of_ble_eq_true rfl) xd_Mo_pair_118 (fun r20 M19 H locs h hR hS => ?_)
            exact xr_iret hC hr hlk hR hS h xd_Mo_pair_121
          · refine lv_aload_n (pc := 128) hx hb xd_Mo_pair_128 rfl (lv_at hl 0 rfl) ?_
            refine xr_get (pc := 129) (v := .int (M22 9 0 10)) hC hR xo_M0 xf_Mo_158 rfl xd_Mo_pair_129 ?_
            refine lv_bipush (pc := 132) (v := (20 : Int32)) hx hb xd_Mo_pair_132 (by decide) ?_
            refine lv_icmp_ne (pc := 134) (tgt := 144) hx hb xd_Mo_pair_134 (by decide) (fun hq => ?_) (fun hq => ?_)
            · have h := h.1 hq
              refine lv_aload_n (pc := 144) hx hb xd_Mo_pair_144 rfl (lv_at hl 0 rfl) ?_
              refine xr_get (pc := 145) (v := .ref (G.1 9 11)) hC hR xo_M0 xf_Mo_52 rfl xd_Mo_pair_145 ?_
              refine lv_aload_n (pc := 148) hx hb xd_Mo_pair_148 rfl (lv_at hl 0 rfl) ?_
              refine xr_get (pc := 149) (v := .int (M22 9 0 10)) hC hR xo_M0 xf_Mo_158 rfl xd_Mo_pair_149 ?_
              refine lv_iload_n (pc := 152) hx hb xd_Mo_pair_152 rfl (lv_at hl 1 rfl) ?_
              obtain ⟨hq, h⟩ := h
              refine xr_iast (pc := 153) hC hR hS xo_M11 hq xd_Mo_pair_153 (fun H locs hR hS => ?_)
              refine lv_aload_n (pc := 154) hx hb xd_Mo_pair_154 rfl (lv_at hl 0 rfl) ?_
              refine xr_get (pc := 155) (v := .ref (G.1 9 12)) hC hR xo_M0 xf_Mo_55 rfl xd_Mo_pair_155 ?_
              refine lv_aload_n (pc := 158) hx hb xd_Mo_pair_158 rfl (lv_at hl 0 rfl) ?_
              refine xr_get (pc := 159) (v := .int ((us M22 9 11 (M22 9 0 10).toNatClampNeg a1) 9 0 10)) hC hR xo_M0 xf_Mo_158 rfl xd_Mo_pair_159 ?_
              refine lv_iload_n (pc := 162) hx hb xd_Mo_pair_162 rfl (lv_at hl 2 rfl) ?_
              obtain ⟨hq, h⟩ := h
              refine xr_iast (pc := 163) hC hR hS xo_M12 hq xd_Mo_pair_163 (fun H locs hR hS => ?_)
              refine lv_aload_n (pc := 164) hx hb xd_Mo_pair_164 rfl (lv_at hl 0 rfl) ?_
              refine xr_get (pc := 165) (v := .ref (G.1 9 13)) hC hR xo_M0 xf_Mo_58 rfl xd_Mo_pair_165 ?_
              refine lv_aload_n (pc := 168) hx hb xd_Mo_pair_168 rfl (lv_at hl 0 rfl) ?_
              refine xr_get (pc := 169) (v := .int ((us (us M22 9 11 (M22 9 0 10).toNatClampNeg a1) 9 12 ((us M22 9 11 (M22 9 0 10).toNatClampNeg a1) 9 0 10).toNatClampNeg a2) 9 0 10)) hC hR xo_M0 xf_Mo_158 rfl xd_Mo_pair_169 ?_
              refine lv_iload_n (pc := 172) hx hb xd_Mo_pair_172 rfl (lv_at hl 3 rfl) ?_
              obtain ⟨hq, h⟩ := h
              refine xr_iast (pc := 173) hC hR hS xo_M13 hq xd_Mo_pair_173 (fun H locs hR hS => ?_)
              refine lv_aload_n (pc := 174) hx hb xd_Mo_pair_174 rfl (lv_at hl 0 rfl) ?_
              refine lv_dup (pc := 175) hx hb xd_Mo_pair_175 rfl ?_
              refine xr_get (pc := 176) (v := .int ((us (us (us M22 9 11 (M22 9 0 10).toNatClampNeg a1) 9 12 ((us M22 9 11 (M22 9 0 10).toNatClampNeg a1) 9 0 10).toNatClampNeg a2) 9 13 ((us (us M22 9 11 (M22 9 0 10).toNatClampNeg a1) 9 12 ((us M22 9 11 (M22 9 0 10).toNatClampNeg a1) 9 0 10).toNatClampNeg a2) 9 0 10).toNatClampNeg a3) 9 0 10)) hC hR xo_M0 xf_Mo_158 rfl xd_Mo_pair_176 ?_
              refine lv_iconst (pc := 179) (v := (1 : Int32)) hx hb xd_Mo_pair_179 (by decide) ?_
              refine lv_iadd (pc := 180) hx hb xd_Mo_pair_180 ?_
              refine xr_put (pc := 181) hC hR hS xo_M0 xf_Mo_158 xp_10_10 rfl rfl rfl xd_Mo_pair_181 (fun H locs hR hS => ?_)
              refine lv_aload_n (pc := 184) hx hb xd_Mo_pair_184 rfl (lv_at hl 0 rfl) ?_
              refine lv_aload_n (pc := 185) hx hb xd_Mo_pair_185 rfl (lv_at hl 0 rfl) ?_
              refine xr_get (pc := 186) (v := .int ((us (us (us (us M22 9 11 (M22 9 0 10).toNatClampNeg a1) 9 12 ((us M22 9 11 (M22 9 0 10).toNatClampNeg a1) 9 0 10).toNatClampNeg a2) 9 13 ((us (us M22 9 11 (M22 9 0 10).toNatClampNeg a1) 9 12 ((us M22 9 11 (M22 9 0 10).toNatClampNeg a1) 9 0 10).toNatClampNeg a2) 9 0 10).toNatClampNeg a3) 9 0 10 (((us (us (us M22 9 11 (M22 9 0 10).toNatClampNeg a1) 9 12 ((us M22 9 11 (M22 9 0 10).toNatClampNeg a1) 9 0 10).toNatClampNeg a2) 9 13 ((us (us M22 9 11 (M22 9 0 10).toNatClampNeg a1) 9 12 ((us M22 9 11 (M22 9 0 10).toNatClampNeg a1) 9 0 10).toNatClampNeg a2) 9 0 10).toNatClampNeg a3) 9 0 10) + (1 : Int32))) 9 0 10)) hC hR xo_M0 xf_Mo_158 rfl xd_Mo_pair_186 ?_
              refine xr_callV (pc := 189) (As := [.int ((us (us (us (us M22 9 11 (M22 9 0 10).toNatClampNeg a1) 9 12 ((us M22 9 11 (M22 9 0 10).toNatClampNeg a1) 9 0 10).toNatClampNeg a2) 9 13 ((us (us M22 9 11 (M22 9 0 10).toNatClampNeg a1) 9 12 ((us M22 9 11 (M22 9 0 10).toNatClampNeg a1) 9 0 10).toNatClampNeg a2) 9 0 10).toNatClampNeg a3) 9 0 10 (((us (us (us M22 9 11 (M22 9 0 10).toNatClampNeg a1) 9 12 ((us M22 9 11 (M22 9 0 10).toNatClampNeg a1) 9 0 10).toNatClampNeg a2) 9 13 ((us (us M22 9 11 (M22 9 0 10).toNatClampNeg a1) 9 12 ((us M22 9 11 (M22 9 0 10).toNatClampNeg a1) 9 0 10).toNatClampNeg a2) 9 0 10).toNatClampNeg a3) 9 0 10) + (1 : Int32))) 9 0 10)]) (rest := []) hC hR hS (xc_Mo_ends l G  h) xo_M0 xv_Mo_89 ⟨rfl, rfl, Nat.le_of_ble_eq_true rfl, Nat.le_of_ble_eq_true rfl⟩ rfl hl.1 rfl (Nat.le_of_ble_eq_true rfl) xd_Mo_pair_189 (fun r24 M23 H locs h hR hS => ?_)
              exact xr_iret hC hr hlk hR hS h xd_Mo_pair_192
            · have h := h.2 hq
              refine lv_aload_n (pc := 137) hx hb xd_Mo_pair_137 rfl (lv_at hl 0 rfl) ?_
              refine lv_bipush (pc := 138) (v := (-5 : Int32)) hx hb xd_Mo_pair_138 (by decide) ?_
              refine xr_callV (pc := 140) (As := [.int (-5 : Int32)]) (rest := []) hC hR hS (xc_Mo_ends l G  h) xo_M0 xv_Mo_89 ⟨rfl, rfl, Nat.le_of_ble_eq_true rfl, Nat.le_of_ble_eq_true rfl⟩ rfl hl.1 rfl (Nat.le_of_ble_eq_true rfl) xd_Mo_pair_140 (fun r26 M25 H locs h hR hS => ?_)
              exact xr_iret hC hr hlk hR hS h xd_Mo_pair_143
        · have h := h.2 hq
          exact kJ39_8  M13 H locs ls h hR hS (lv_sub hl [0] rfl)
    · have h := h.2 hq
      exact kJ17_0  M5 H locs ls h hR hS (lv_sub hl [0] rfl)
