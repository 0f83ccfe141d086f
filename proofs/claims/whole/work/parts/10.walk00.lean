/-! ColoursApart$Chooser.placeAt(I)I -/
theorem xd_Ch_placeAt_0 : decode b_Ch_placeAt 0 = .ok (.iload_n 1, 1) := by decide +kernel
theorem xd_Ch_placeAt_1 : decode b_Ch_placeAt 1 = .ok (.ifCond .lt 20, 3) := by decide +kernel
theorem xd_Ch_placeAt_4 : decode b_Ch_placeAt 4 = .ok (.iload_n 1, 1) := by decide +kernel
theorem xd_Ch_placeAt_5 : decode b_Ch_placeAt 5 = .ok (.aload_n 0, 1) := by decide +kernel
theorem xd_Ch_placeAt_6 : decode b_Ch_placeAt 6 = .ok (.getfield 32, 3) := by decide +kernel
theorem xd_Ch_placeAt_9 : decode b_Ch_placeAt 9 = .ok (.if_icmp .ge 12, 3) := by decide +kernel
theorem xd_Ch_placeAt_12 : decode b_Ch_placeAt 12 = .ok (.aload_n 0, 1) := by decide +kernel
theorem xd_Ch_placeAt_13 : decode b_Ch_placeAt 13 = .ok (.getfield 29, 3) := by decide +kernel
theorem xd_Ch_placeAt_16 : decode b_Ch_placeAt 16 = .ok (.iload_n 1, 1) := by decide +kernel
theorem xd_Ch_placeAt_17 : decode b_Ch_placeAt 17 = .ok (.iaload, 1) := by decide +kernel
theorem xd_Ch_placeAt_18 : decode b_Ch_placeAt 18 = .ok (.goto 4, 3) := by decide +kernel
theorem xd_Ch_placeAt_21 : decode b_Ch_placeAt 21 = .ok (.iconst (-1), 1) := by decide +kernel
theorem xd_Ch_placeAt_22 : decode b_Ch_placeAt 22 = .ok (.ireturn, 1) := by decide +kernel
abbrev rm_Ch_placeAt : Room := { frames := 0, cells := 0, slots := 0, locals := 0 }
def xw_Ch_placeAt (a1 : Int32) (M : xM) (post : Int32 → xM → Prop) : Prop :=
  ((a1 < 0) → (post (-1 : Int32) M)) ∧ ((¬ a1 < 0) → ((((M 8 4 6) ≤ a1) → (post (-1 : Int32) M)) ∧ ((¬ (M 8 4 6) ≤ a1) → ((vp_in a1 5) ∧ (post (M 8 10 a1.toNatClampNeg) M)))))
set_option maxHeartbeats 4000000 in
set_option maxRecDepth 100000 in
theorem xc_Ch_placeAt (l : Launch) (G : xG) {a1 : Int32}  {M : xM} {post : Int32 → xM → Prop} (h : xw_Ch_placeAt a1 M post) : Met l y_Ch_placeAt (Cond.code y_Ch_placeAt b_Ch_placeAt 2 (some .int) :: xTG) rm_Ch_placeAt (xPre G M [.ref (G.1 8 4), .int a1]) (xPi G post) 0 0 (xA G) := by
  refine xMet (own := R_Ch) [.ref (G.1 8 4), .int a1] (Or.inl (by decide)) rfl (Nat.le_of_ble_eq_true rfl) (fun p e s m args below meth c ls hC hr hlk hR hS hl => ?_)
  have hx := hC.1
  have hb := hC.2.1
  have hl : lv_has ls 2 [(0, .ref (G.1 8 4)), (1, .int a1)] := hl
  obtain ⟨H, eH⟩ : ∃ H : Heap, H = s.heap := ⟨_, rfl⟩
  obtain ⟨locs, eL⟩ : ∃ locs : List Loc, locs = [] := ⟨_, rfl⟩
  rw [← eH] at hR
  replace hS : va_S (xA G) s.heap H locs := by rw [eH, eL]; exact hS
  suffices hh : W p l e rm_Ch_placeAt s m args below meth c H locs 0 0 (MQ below (xPi G post) args s 0 0 (xA G)) (F0 m 0 ls []) from by rw [eH, eL] at hh; exact hh
  unfold xw_Ch_placeAt at h
  refine lv_iload_n (pc := 0) hx hb xd_Ch_placeAt_0 rfl (lv_at hl 1 rfl) ?_
  refine lv_if_lt (pc := 1) (tgt := 21) hx hb xd_Ch_placeAt_1 (by decide) (fun hq => ?_) (fun hq => ?_)
  · have h := h.1 hq
    refine lv_iconst (pc := 21) (v := (-1 : Int32)) hx hb xd_Ch_placeAt_21 (by decide) ?_
    exact xr_iret hC hr hlk hR hS h xd_Ch_placeAt_22
  · have h := h.2 hq
    refine lv_iload_n (pc := 4) hx hb xd_Ch_placeAt_4 rfl (lv_at hl 1 rfl) ?_
    refine lv_aload_n (pc := 5) hx hb xd_Ch_placeAt_5 rfl (lv_at hl 0 rfl) ?_
    refine xr_get (pc := 6) (v := .int (M 8 4 6)) hC hR xo_C4 xf_Ch_32 rfl xd_Ch_placeAt_6 ?_
    refine lv_icmp_ge (pc := 9) (tgt := 21) hx hb xd_Ch_placeAt_9 (by decide) (fun hq => ?_) (fun hq => ?_)
    · have h := h.1 hq
      refine lv_iconst (pc := 21) (v := (-1 : Int32)) hx hb xd_Ch_placeAt_21 (by decide) ?_
      exact xr_iret hC hr hlk hR hS h xd_Ch_placeAt_22
    · have h := h.2 hq
      refine lv_aload_n (pc := 12) hx hb xd_Ch_placeAt_12 rfl (lv_at hl 0 rfl) ?_
      refine xr_get (pc := 13) (v := .ref (G.1 8 10)) hC hR xo_C4 xf_Ch_29 rfl xd_Ch_placeAt_13 ?_
      refine lv_iload_n (pc := 16) hx hb xd_Ch_placeAt_16 rfl (lv_at hl 1 rfl) ?_
      obtain ⟨hq, h⟩ := h
      refine xr_iald (pc := 17) hC hR xo_C10 hq xd_Ch_placeAt_17 ?_
      refine lv_goto (pc := 18) (tgt := 22) hx hb xd_Ch_placeAt_18 (by decide) ?_
      exact xr_iret hC hr hlk hR hS h xd_Ch_placeAt_22

/-! ColoursApart$Grid.places()I -/
theorem xd_Gr_places_0 : decode b_Gr_places 0 = .ok (.aload_n 0, 1) := by decide +kernel
theorem xd_Gr_places_1 : decode b_Gr_places 1 = .ok (.getfield 7, 3) := by decide +kernel
theorem xd_Gr_places_4 : decode b_Gr_places 4 = .ok (.aload_n 0, 1) := by decide +kernel
theorem xd_Gr_places_5 : decode b_Gr_places 5 = .ok (.getfield 7, 3) := by decide +kernel
theorem xd_Gr_places_8 : decode b_Gr_places 8 = .ok (.imul, 1) := by decide +kernel
theorem xd_Gr_places_9 : decode b_Gr_places 9 = .ok (.aload_n 0, 1) := by decide +kernel
theorem xd_Gr_places_10 : decode b_Gr_places 10 = .ok (.getfield 7, 3) := by decide +kernel
theorem xd_Gr_places_13 : decode b_Gr_places 13 = .ok (.imul, 1) := by decide +kernel
theorem xd_Gr_places_14 : decode b_Gr_places 14 = .ok (.ireturn, 1) := by decide +kernel
abbrev rm_Gr_places : Room := { frames := 0, cells := 0, slots := 0, locals := 0 }
def xw_Gr_places (g : Nat) (M : xM) (post : Int32 → xM → Prop) : Prop :=
  post (((M g 12 0) * (M g 12 0)) * (M g 12 0)) M
set_option maxHeartbeats 4000000 in
set_option maxRecDepth 100000 in
theorem xc_Gr_places (l : Launch) (G : xG) {g : Nat} (hg : g < 4) {M : xM} {post : Int32 → xM → Prop} (h : xw_Gr_places g M post) : Met l y_Gr_places (Cond.code y_Gr_places b_Gr_places 1 (some .int) :: xTG) rm_Gr_places (xPre G M [.ref (G.1 g 12)]) (xPi G post) 0 0 (xA G) := by
  refine xMet (own := R_Gr) [.ref (G.1 g 12)] (Or.inl (by decide)) rfl (Nat.le_of_ble_eq_true rfl) (fun p e s m args below meth c ls hC hr hlk hR hS hl => ?_)
  have hx := hC.1
  have hb := hC.2.1
  have hl : lv_has ls 1 [(0, .ref (G.1 g 12))] := hl
  obtain ⟨H, eH⟩ : ∃ H : Heap, H = s.heap := ⟨_, rfl⟩
  obtain ⟨locs, eL⟩ : ∃ locs : List Loc, locs = [] := ⟨_, rfl⟩
  rw [← eH] at hR
  replace hS : va_S (xA G) s.heap H locs := by rw [eH, eL]; exact hS
  suffices hh : W p l e rm_Gr_places s m args below meth c H locs 0 0 (MQ below (xPi G post) args s 0 0 (xA G)) (F0 m 0 ls []) from by rw [eH, eL] at hh; exact hh
  unfold xw_Gr_places at h
  refine lv_aload_n (pc := 0) hx hb xd_Gr_places_0 rfl (lv_at hl 0 rfl) ?_
  refine xr_get (pc := 1) (v := .int (M g 12 0)) hC hR (xo_K12 hg) xf_Gr_7 rfl xd_Gr_places_1 ?_
  refine lv_aload_n (pc := 4) hx hb xd_Gr_places_4 rfl (lv_at hl 0 rfl) ?_
  refine xr_get (pc := 5) (v := .int (M g 12 0)) hC hR (xo_K12 hg) xf_Gr_7 rfl xd_Gr_places_5 ?_
  refine lv_imul (pc := 8) hx hb xd_Gr_places_8 ?_
  refine lv_aload_n (pc := 9) hx hb xd_Gr_places_9 rfl (lv_at hl 0 rfl) ?_
  refine xr_get (pc := 10) (v := .int (M g 12 0)) hC hR (xo_K12 hg) xf_Gr_7 rfl xd_Gr_places_10 ?_
  refine lv_imul (pc := 13) hx hb xd_Gr_places_13 ?_
  exact xr_iret hC hr hlk hR hS h xd_Gr_places_14

/-! ColoursApart$Grid.levelValue(I)I -/
theorem xd_Gr_levelValue_0 : decode b_Gr_levelValue 0 = .ok (.iload_n 1, 1) := by decide +kernel
theorem xd_Gr_levelValue_1 : decode b_Gr_levelValue 1 = .ok (.sipush 255, 3) := by decide +kernel
theorem xd_Gr_levelValue_4 : decode b_Gr_levelValue 4 = .ok (.imul, 1) := by decide +kernel
theorem xd_Gr_levelValue_5 : decode b_Gr_levelValue 5 = .ok (.iconst 1, 1) := by decide +kernel
theorem xd_Gr_levelValue_6 : decode b_Gr_levelValue 6 = .ok (.aload_n 0, 1) := by decide +kernel
theorem xd_Gr_levelValue_7 : decode b_Gr_levelValue 7 = .ok (.getfield 7, 3) := by decide +kernel
theorem xd_Gr_levelValue_10 : decode b_Gr_levelValue 10 = .ok (.iconst 1, 1) := by decide +kernel
theorem xd_Gr_levelValue_11 : decode b_Gr_levelValue 11 = .ok (.isub, 1) := by decide +kernel
theorem xd_Gr_levelValue_12 : decode b_Gr_levelValue 12 = .ok (.invokestatic 13, 3) := by decide +kernel
theorem xd_Gr_levelValue_15 : decode b_Gr_levelValue 15 = .ok (.idiv, 1) := by decide +kernel
theorem xd_Gr_levelValue_16 : decode b_Gr_levelValue 16 = .ok (.ireturn, 1) := by decide +kernel
abbrev rm_Gr_levelValue : Room := { frames := 1, cells := 0, slots := 0, locals := 24 }
def xw_Gr_levelValue (g : Nat) (a1 : Int32) (M : xM) (post : Int32 → xM → Prop) : Prop :=
  (¬ (if (1 : Int32) < ((M g 12 0) - (1 : Int32)) then ((M g 12 0) - (1 : Int32)) else (1 : Int32)) = 0) ∧ (post ((a1 * (255 : Int32)) / (if (1 : Int32) < ((M g 12 0) - (1 : Int32)) then ((M g 12 0) - (1 : Int32)) else (1 : Int32))) M)
set_option maxHeartbeats 4000000 in
set_option maxRecDepth 100000 in
theorem xc_Gr_levelValue (l : Launch) (G : xG) {g : Nat} {a1 : Int32} (hg : g < 4) {M : xM} {post : Int32 → xM → Prop} (h : xw_Gr_levelValue g a1 M post) : Met l y_Gr_levelValue (Cond.code y_Gr_levelValue b_Gr_levelValue 2 (some .int) :: xTG) rm_Gr_levelValue (xPre G M [.ref (G.1 g 12), .int a1]) (xPi G post) 0 0 (xA G) := by
  refine xMet (own := R_Gr) [.ref (G.1 g 12), .int a1] (Or.inl (by decide)) rfl (Nat.le_of_ble_eq_true rfl) (fun p e s m args below meth c ls hC hr hlk hR hS hl => ?_)
  have hx := hC.1
  have hb := hC.2.1
  have hl : lv_has ls 2 [(0, .ref (G.1 g 12)), (1, .int a1)] := hl
  obtain ⟨H, eH⟩ : ∃ H : Heap, H = s.heap := ⟨_, rfl⟩
  obtain ⟨locs, eL⟩ : ∃ locs : List Loc, locs = [] := ⟨_, rfl⟩
  rw [← eH] at hR
  replace hS : va_S (xA G) s.heap H locs := by rw [eH, eL]; exact hS
  suffices hh : W p l e rm_Gr_levelValue s m args below meth c H locs 0 0 (MQ below (xPi G post) args s 0 0 (xA G)) (F0 m 0 ls []) from by rw [eH, eL] at hh; exact hh
  unfold xw_Gr_levelValue at h
  refine lv_iload_n (pc := 0) hx hb xd_Gr_levelValue_0 rfl (lv_at hl 1 rfl) ?_
  refine lv_sipush (pc := 1) (v := (255 : Int32)) hx hb xd_Gr_levelValue_1 (by decide) ?_
  refine lv_imul (pc := 4) hx hb xd_Gr_levelValue_4 ?_
  refine lv_iconst (pc := 5) (v := (1 : Int32)) hx hb xd_Gr_levelValue_5 (by decide) ?_
  refine lv_aload_n (pc := 6) hx hb xd_Gr_levelValue_6 rfl (lv_at hl 0 rfl) ?_
  refine xr_get (pc := 7) (v := .int (M g 12 0)) hC hR (xo_K12 hg) xf_Gr_7 rfl xd_Gr_levelValue_7 ?_
  refine lv_iconst (pc := 10) (v := (1 : Int32)) hx hb xd_Gr_levelValue_10 (by decide) ?_
  refine lv_isub (pc := 11) hx hb xd_Gr_levelValue_11 ?_
  refine xr_max (pc := 12) hC xk_Gr_13 hl.1 (Nat.le_of_ble_eq_true rfl) (Nat.le_of_ble_eq_true rfl) xd_Gr_levelValue_12 ?_
  obtain ⟨hq, h⟩ := h
  refine lv_idiv (pc := 15) hx hb xd_Gr_levelValue_15 hq ?_
  exact xr_iret hC hr hlk hR hS h xd_Gr_levelValue_16

/-! ColoursApart$Rgb.joined(III)I -/
theorem xd_Rg_joined_0 : decode b_Rg_joined 0 = .ok (.iload_n 0, 1) := by decide +kernel
theorem xd_Rg_joined_1 : decode b_Rg_joined 1 = .ok (.bipush 16, 2) := by decide +kernel
theorem xd_Rg_joined_3 : decode b_Rg_joined 3 = .ok (.ishl, 1) := by decide +kernel
theorem xd_Rg_joined_4 : decode b_Rg_joined 4 = .ok (.iload_n 1, 1) := by decide +kernel
theorem xd_Rg_joined_5 : decode b_Rg_joined 5 = .ok (.bipush 8, 2) := by decide +kernel
theorem xd_Rg_joined_7 : decode b_Rg_joined 7 = .ok (.ishl, 1) := by decide +kernel
theorem xd_Rg_joined_8 : decode b_Rg_joined 8 = .ok (.ior, 1) := by decide +kernel
theorem xd_Rg_joined_9 : decode b_Rg_joined 9 = .ok (.iload_n 2, 1) := by decide +kernel
theorem xd_Rg_joined_10 : decode b_Rg_joined 10 = .ok (.ior, 1) := by decide +kernel
theorem xd_Rg_joined_11 : decode b_Rg_joined 11 = .ok (.ireturn, 1) := by decide +kernel
abbrev rm_Rg_joined : Room := { frames := 0, cells := 0, slots := 0, locals := 0 }
def xw_Rg_joined (a0 : Int32) (a1 : Int32) (a2 : Int32) (M : xM) (post : Int32 → xM → Prop) : Prop :=
  post (((a0 <<< ((16 : Int32) &&& 31)) ||| (a1 <<< ((8 : Int32) &&& 31))) ||| a2) M
set_option maxHeartbeats 4000000 in
set_option maxRecDepth 100000 in
theorem xc_Rg_joined (l : Launch) (G : xG) {a0 : Int32} {a1 : Int32} {a2 : Int32}  {M : xM} {post : Int32 → xM → Prop} (h : xw_Rg_joined a0 a1 a2 M post) : Met l y_Rg_joined (Cond.code y_Rg_joined b_Rg_joined 3 (some .int) :: xTG) rm_Rg_joined (xPre G M [.int a0, .int a1, .int a2]) (xPi G post) 0 0 (xA G) := by
  refine xMet (own := R_Rg) [.int a0, .int a1, .int a2] (Or.inl (by decide)) rfl (Nat.le_of_ble_eq_true rfl) (fun p e s m args below meth c ls hC hr hlk hR hS hl => ?_)
  have hx := hC.1
  have hb := hC.2.1
  have hl : lv_has ls 3 [(0, .int a0), (1, .int a1), (2, .int a2)] := hl
  obtain ⟨H, eH⟩ : ∃ H : Heap, H = s.heap := ⟨_, rfl⟩
  obtain ⟨locs, eL⟩ : ∃ locs : List Loc, locs = [] := ⟨_, rfl⟩
  rw [← eH] at hR
  replace hS : va_S (xA G) s.heap H locs := by rw [eH, eL]; exact hS
  suffices hh : W p l e rm_Rg_joined s m args below meth c H locs 0 0 (MQ below (xPi G post) args s 0 0 (xA G)) (F0 m 0 ls []) from by rw [eH, eL] at hh; exact hh
  unfold xw_Rg_joined at h
  refine lv_iload_n (pc := 0) hx hb xd_Rg_joined_0 rfl (lv_at hl 0 rfl) ?_
  refine lv_bipush (pc := 1) (v := (16 : Int32)) hx hb xd_Rg_joined_1 (by decide) ?_
  refine lv_ishl (pc := 3) hx hb xd_Rg_joined_3 ?_
  refine lv_iload_n (pc := 4) hx hb xd_Rg_joined_4 rfl (lv_at hl 1 rfl) ?_
  refine lv_bipush (pc := 5) (v := (8 : Int32)) hx hb xd_Rg_joined_5 (by decide) ?_
  refine lv_ishl (pc := 7) hx hb xd_Rg_joined_7 ?_
  refine lv_ior (pc := 8) hx hb xd_Rg_joined_8 ?_
  refine lv_iload_n (pc := 9) hx hb xd_Rg_joined_9 rfl (lv_at hl 2 rfl) ?_
  refine lv_ior (pc := 10) hx hb xd_Rg_joined_10 ?_
  exact xr_iret hC hr hlk hR hS h xd_Rg_joined_11

/-! ColoursApart$Grid.colourAt(I)I -/
theorem xd_Gr_colourAt_0 : decode b_Gr_colourAt 0 = .ok (.iconst 1, 1) := by decide +kernel
theorem xd_Gr_colourAt_1 : decode b_Gr_colourAt 1 = .ok (.aload_n 0, 1) := by decide +kernel
theorem xd_Gr_colourAt_2 : decode b_Gr_colourAt 2 = .ok (.getfield 7, 3) := by decide +kernel
theorem xd_Gr_colourAt_5 : decode b_Gr_colourAt 5 = .ok (.invokestatic 13, 3) := by decide +kernel
theorem xd_Gr_colourAt_8 : decode b_Gr_colourAt 8 = .ok (.istore_n 2, 1) := by decide +kernel
theorem xd_Gr_colourAt_9 : decode b_Gr_colourAt 9 = .ok (.aload_n 0, 1) := by decide +kernel
theorem xd_Gr_colourAt_10 : decode b_Gr_colourAt 10 = .ok (.iload_n 1, 1) := by decide +kernel
theorem xd_Gr_colourAt_11 : decode b_Gr_colourAt 11 = .ok (.iload_n 2, 1) := by decide +kernel
theorem xd_Gr_colourAt_12 : decode b_Gr_colourAt 12 = .ok (.iload_n 2, 1) := by decide +kernel
theorem xd_Gr_colourAt_13 : decode b_Gr_colourAt 13 = .ok (.imul, 1) := by decide +kernel
theorem xd_Gr_colourAt_14 : decode b_Gr_colourAt 14 = .ok (.idiv, 1) := by decide +kernel
theorem xd_Gr_colourAt_15 : decode b_Gr_colourAt 15 = .ok (.invokevirtual 19, 3) := by decide +kernel
theorem xd_Gr_colourAt_18 : decode b_Gr_colourAt 18 = .ok (.aload_n 0, 1) := by decide +kernel
theorem xd_Gr_colourAt_19 : decode b_Gr_colourAt 19 = .ok (.iload_n 1, 1) := by decide +kernel
theorem xd_Gr_colourAt_20 : decode b_Gr_colourAt 20 = .ok (.iload_n 2, 1) := by decide +kernel
theorem xd_Gr_colourAt_21 : decode b_Gr_colourAt 21 = .ok (.idiv, 1) := by decide +kernel
theorem xd_Gr_colourAt_22 : decode b_Gr_colourAt 22 = .ok (.iload_n 2, 1) := by decide +kernel
theorem xd_Gr_colourAt_23 : decode b_Gr_colourAt 23 = .ok (.irem, 1) := by decide +kernel
theorem xd_Gr_colourAt_24 : decode b_Gr_colourAt 24 = .ok (.invokevirtual 19, 3) := by decide +kernel
theorem xd_Gr_colourAt_27 : decode b_Gr_colourAt 27 = .ok (.aload_n 0, 1) := by decide +kernel
theorem xd_Gr_colourAt_28 : decode b_Gr_colourAt 28 = .ok (.iload_n 1, 1) := by decide +kernel
theorem xd_Gr_colourAt_29 : decode b_Gr_colourAt 29 = .ok (.iload_n 2, 1) := by decide +kernel
theorem xd_Gr_colourAt_30 : decode b_Gr_colourAt 30 = .ok (.irem, 1) := by decide +kernel
theorem xd_Gr_colourAt_31 : decode b_Gr_colourAt 31 = .ok (.invokevirtual 19, 3) := by decide +kernel
theorem xd_Gr_colourAt_34 : decode b_Gr_colourAt 34 = .ok (.invokestatic 23, 3) := by decide +kernel
theorem xd_Gr_colourAt_37 : decode b_Gr_colourAt 37 = .ok (.ireturn, 1) := by decide +kernel
abbrev rm_Gr_colourAt : Room := { frames := 2, cells := 0, slots := 0, locals := 45 }
def xw_Gr_colourAt (g : Nat) (a1 : Int32) (M : xM) (post : Int32 → xM → Prop) : Prop :=
  (¬ ((if (1 : Int32) < (M g 12 0) then (M g 12 0) else (1 : Int32)) * (if (1 : Int32) < (M g 12 0) then (M g 12 0) else (1 : Int32))) = 0) ∧ (xw_Gr_levelValue g (a1 / ((if (1 : Int32) < (M g 12 0) then (M g 12 0) else (1 : Int32)) * (if (1 : Int32) < (M g 12 0) then (M g 12 0) else (1 : Int32)))) M (fun (r2 : Int32) (M1 : xM) => (¬ (if (1 : Int32) < (M g 12 0) then (M g 12 0) else (1 : Int32)) = 0) ∧ ((¬ (if (1 : Int32) < (M g 12 0) then (M g 12 0) else (1 : Int32)) = 0) ∧ (xw_Gr_levelValue g ((a1 / (if (1 : Int32) < (M g 12 0) then (M g 12 0) else (1 : Int32))) - (a1 / (if (1 : Int32) < (M g 12 0) then (M g 12 0) else (1 : Int32))) / (if (1 : Int32) < (M g 12 0) then (M g 12 0) else (1 : Int32)) * (if (1 : Int32) < (M g 12 0) then (M g 12 0) else (1 : Int32))) M1 (fun (r4 : Int32) (M3 : xM) => (¬ (if (1 : Int32) < (M g 12 0) then (M g 12 0) else (1 : Int32)) = 0) ∧ (xw_Gr_levelValue g (a1 - a1 / (if (1 : Int32) < (M g 12 0) then (M g 12 0) else (1 : Int32)) * (if (1 : Int32) < (M g 12 0) then (M g 12 0) else (1 : Int32))) M3 (fun (r6 : Int32) (M5 : xM) => xw_Rg_joined r2 r4 r6 M5 (fun (r8 : Int32) (M7 : xM) => post r8 M7))))))))
set_option maxHeartbeats 4000000 in
set_option maxRecDepth 100000 in
theorem xc_Gr_colourAt (l : Launch) (G : xG) {g : Nat} {a1 : Int32} (hg : g < 4) {M : xM} {post : Int32 → xM → Prop} (h : xw_Gr_colourAt g a1 M post) : Met l y_Gr_colourAt (Cond.code y_Gr_colourAt b_Gr_colourAt 3 (some .int) :: xTG) rm_Gr_colourAt (xPre G M [.ref (G.1 g 12), .int a1]) (xPi G post) 0 0 (xA G) := by
  refine xMet (own := R_Gr) [.ref (G.1 g 12), .int a1] (Or.inl (by decide)) rfl (Nat.le_of_ble_eq_true rfl) (fun p e s m args below meth c ls hC hr hlk hR hS hl => ?_)
  have hx := hC.1
  have hb := hC.2.1
  have hl : lv_has ls 3 [(0, .ref (G.1 g 12)), (1, .int a1)] := hl
  obtain ⟨H, eH⟩ : ∃ H : Heap, H = s.heap := ⟨_, rfl⟩
  obtain ⟨locs, eL⟩ : ∃ locs : List Loc, locs = [] := ⟨_, rfl⟩
  rw [← eH] at hR
  replace hS : va_S (xA G) s.heap H locs := by rw [eH, eL]; exact hS
  suffices hh : W p l e rm_Gr_colourAt s m args below meth c H locs 0 0 (MQ below (xPi G post) args s 0 0 (xA G)) (F0 m 0 ls []) from by rw [eH, eL] at hh; exact hh
  unfold xw_Gr_colourAt at h
  refine lv_iconst (pc := 0) (v := (1 : Int32)) hx hb xd_Gr_colourAt_0 (by decide) ?_
  refine lv_aload_n (pc := 1) hx hb xd_Gr_colourAt_1 rfl (lv_at hl 0 rfl) ?_
  refine xr_get (pc := 2) (v := .int (M g 12 0)) hC hR (xo_K12 hg) xf_Gr_7 rfl xd_Gr_colourAt_2 ?_
  refine xr_max (pc := 5) hC xk_Gr_13 hl.1 (Nat.le_of_ble_eq_true rfl) (Nat.le_of_ble_eq_true rfl) xd_Gr_colourAt_5 ?_
  refine lv_istore_n (pc := 8) (lv' := [(2, .int (if (1 : Int32) < (M g 12 0) then (M g 12 0) else (1 : Int32))), (0, .ref (G.1 g 12)), (1, .int a1)]) hx hb xd_Gr_colourAt_8 rfl hl (by decide) rfl (fun ls hl => ?_)
  refine lv_aload_n (pc := 9) hx hb xd_Gr_colourAt_9 rfl (lv_at hl 1 rfl) ?_
  refine lv_iload_n (pc := 10) hx hb xd_Gr_colourAt_10 rfl (lv_at hl 2 rfl) ?_
  refine lv_iload_n (pc := 11) hx hb xd_Gr_colourAt_11 rfl (lv_at hl 0 rfl) ?_
  refine lv_iload_n (pc := 12) hx hb xd_Gr_colourAt_12 rfl (lv_at hl 0 rfl) ?_
  refine lv_imul (pc := 13) hx hb xd_Gr_colourAt_13 ?_
  obtain ⟨hq, h⟩ := h
  refine lv_idiv (pc := 14) hx hb xd_Gr_colourAt_14 hq ?_
  refine xr_callV (pc := 15) (As := [.int (a1 / ((if (1 : Int32) < (M g 12 0) then (M g 12 0) else (1 : Int32)) * (if (1 : Int32) < (M g 12 0) then (M g 12 0) else (1 : Int32))))]) (rest := []) hC hR hS (xc_Gr_levelValue l G hg h) (xo_K12 hg) xv_Gr_19 ⟨rfl, rfl, Nat.le_of_ble_eq_true rfl, Nat.le_of_ble_eq_true rfl⟩ rfl hl.1 rfl (Nat.le_of_ble_eq_true rfl) xd_Gr_colourAt_15 (fun r2 M1 H locs h hR hS => ?_)
  refine lv_aload_n (pc := 18) hx hb xd_Gr_colourAt_18 rfl (lv_at hl 1 rfl) ?_
  refine lv_iload_n (pc := 19) hx hb xd_Gr_colourAt_19 rfl (lv_at hl 2 rfl) ?_
  refine lv_iload_n (pc := 20) hx hb xd_Gr_colourAt_20 rfl (lv_at hl 0 rfl) ?_
  obtain ⟨hq, h⟩ := h
  refine lv_idiv (pc := 21) hx hb xd_Gr_colourAt_21 hq ?_
  refine lv_iload_n (pc := 22) hx hb xd_Gr_colourAt_22 rfl (lv_at hl 0 rfl) ?_
  obtain ⟨hq, h⟩ := h
  refine lv_irem (pc := 23) hx hb xd_Gr_colourAt_23 hq ?_
  refine xr_callV (pc := 24) (As := [.int ((a1 / (if (1 : Int32) < (M g 12 0) then (M g 12 0) else (1 : Int32))) - (a1 / (if (1 : Int32) < (M g 12 0) then (M g 12 0) else (1 : Int32))) / (if (1 : Int32) < (M g 12 0) then (M g 12 0) else (1 : Int32)) * (if (1 : Int32) < (M g 12 0) then (M g 12 0) else (1 : Int32)))]) (rest := [.int r2]) hC hR hS (xc_Gr_levelValue l G hg h) (xo_K12 hg) xv_Gr_19 ⟨rfl, rfl, Nat.le_of_ble_eq_true rfl, Nat.le_of_ble_eq_true rfl⟩ rfl hl.1 rfl (Nat.le_of_ble_eq_true rfl) xd_Gr_colourAt_24 (fun r4 M3 H locs h hR hS => ?_)
  refine lv_aload_n (pc := 27) hx hb xd_Gr_colourAt_27 rfl (lv_at hl 1 rfl) ?_
  refine lv_iload_n (pc := 28) hx hb xd_Gr_colourAt_28 rfl (lv_at hl 2 rfl) ?_
  refine lv_iload_n (pc := 29) hx hb xd_Gr_colourAt_29 rfl (lv_at hl 0 rfl) ?_
  obtain ⟨hq, h⟩ := h
  refine lv_irem (pc := 30) hx hb xd_Gr_colourAt_30 hq ?_
  refine xr_callV (pc := 31) (As := [.int (a1 - a1 / (if (1 : Int32) < (M g 12 0) then (M g 12 0) else (1 : Int32)) * (if (1 : Int32) < (M g 12 0) then (M g 12 0) else (1 : Int32)))]) (rest := [.int r4, .int r2]) hC hR hS (xc_Gr_levelValue l G hg h) (xo_K12 hg) xv_Gr_19 ⟨rfl, rfl, Nat.le_of_ble_eq_true rfl, Nat.le_of_ble_eq_true rfl⟩ rfl hl.1 rfl (Nat.le_of_ble_eq_true rfl) xd_Gr_colourAt_31 (fun r6 M5 H locs h hR hS => ?_)
  refine xr_callS (pc := 34) (As := [.int r2, .int r4, .int r6]) (rest := []) hC hR hS (xc_Rg_joined l G  h) xv_Gr_23 ⟨rfl, rfl, Nat.le_of_ble_eq_true rfl, Nat.le_of_ble_eq_true rfl⟩ rfl hl.1 rfl (Nat.le_of_ble_eq_true rfl) xd_Gr_colourAt_34 (fun r8 M7 H locs h hR hS => ?_)
  exact xr_iret hC hr hlk hR hS h xd_Gr_colourAt_37

/-! ColoursApart$Eyes.counts(I)Z -/
theorem xd_Ey_counts_0 : decode b_Ey_counts 0 = .ok (.aload_n 0, 1) := by decide +kernel
theorem xd_Ey_counts_1 : decode b_Ey_counts 1 = .ok (.getfield 28, 3) := by decide +kernel
theorem xd_Ey_counts_4 : decode b_Ey_counts 4 = .ok (.iload_n 1, 1) := by decide +kernel
theorem xd_Ey_counts_5 : decode b_Ey_counts 5 = .ok (.ishr, 1) := by decide +kernel
theorem xd_Ey_counts_6 : decode b_Ey_counts 6 = .ok (.iconst 1, 1) := by decide +kernel
theorem xd_Ey_counts_7 : decode b_Ey_counts 7 = .ok (.iand, 1) := by decide +kernel
theorem xd_Ey_counts_8 : decode b_Ey_counts 8 = .ok (.iconst 1, 1) := by decide +kernel
theorem xd_Ey_counts_9 : decode b_Ey_counts 9 = .ok (.if_icmp .ne 7, 3) := by decide +kernel
theorem xd_Ey_counts_12 : decode b_Ey_counts 12 = .ok (.iconst 1, 1) := by decide +kernel
theorem xd_Ey_counts_13 : decode b_Ey_counts 13 = .ok (.goto 4, 3) := by decide +kernel
theorem xd_Ey_counts_16 : decode b_Ey_counts 16 = .ok (.iconst 0, 1) := by decide +kernel
theorem xd_Ey_counts_17 : decode b_Ey_counts 17 = .ok (.ireturn, 1) := by decide +kernel
abbrev rm_Ey_counts : Room := { frames := 0, cells := 0, slots := 0, locals := 0 }
def xw_Ey_counts (g : Nat) (a1 : Int32) (M : xM) (post : Int32 → xM → Prop) : Prop :=
  ((¬ (((M g 1 5) >>> (a1 &&& 31)) &&& (1 : Int32)) = (1 : Int32)) → (post (0 : Int32) M)) ∧ (((((M g 1 5) >>> (a1 &&& 31)) &&& (1 : Int32)) = (1 : Int32)) → (post (1 : Int32) M))
set_option maxHeartbeats 4000000 in
set_option maxRecDepth 100000 in
theorem xc_Ey_counts (l : Launch) (G : xG) {g : Nat} {a1 : Int32} (hg : g < 4) {M : xM} {post : Int32 → xM → Prop} (h : xw_Ey_counts g a1 M post) : Met l y_Ey_counts (Cond.code y_Ey_counts b_Ey_counts 2 (some .boolean) :: xTG) rm_Ey_counts (xPre G M [.ref (G.1 g 1), .int a1]) (xPi G post) 0 0 (xA G) := by
  refine xMet (own := R_Ey) [.ref (G.1 g 1), .int a1] (Or.inl (by decide)) rfl (Nat.le_of_ble_eq_true rfl) (fun p e s m args below meth c ls hC hr hlk hR hS hl => ?_)
  have hx := hC.1
  have hb := hC.2.1
  have hl : lv_has ls 2 [(0, .ref (G.1 g 1)), (1, .int a1)] := hl
  obtain ⟨H, eH⟩ : ∃ H : Heap, H = s.heap := ⟨_, rfl⟩
  obtain ⟨locs, eL⟩ : ∃ locs : List Loc, locs = [] := ⟨_, rfl⟩
  rw [← eH] at hR
  replace hS : va_S (xA G) s.heap H locs := by rw [eH, eL]; exact hS
  suffices hh : W p l e rm_Ey_counts s m args below meth c H locs 0 0 (MQ below (xPi G post) args s 0 0 (xA G)) (F0 m 0 ls []) from by rw [eH, eL] at hh; exact hh
  unfold xw_Ey_counts at h
  refine lv_aload_n (pc := 0) hx hb xd_Ey_counts_0 rfl (lv_at hl 0 rfl) ?_
  refine xr_get (pc := 1) (v := .int (M g 1 5)) hC hR (xo_K1 hg) xf_Ey_28 rfl xd_Ey_counts_1 ?_
  refine lv_iload_n (pc := 4) hx hb xd_Ey_counts_4 rfl (lv_at hl 1 rfl) ?_
  refine lv_ishr (pc := 5) hx hb xd_Ey_counts_5 ?_
  refine lv_iconst (pc := 6) (v := (1 : Int32)) hx hb xd_Ey_counts_6 (by decide) ?_
  refine lv_iand (pc := 7) hx hb xd_Ey_counts_7 ?_
  refine lv_iconst (pc := 8) (v := (1 : Int32)) hx hb xd_Ey_counts_8 (by decide) ?_
  refine lv_icmp_ne (pc := 9) (tgt := 16) hx hb xd_Ey_counts_9 (by decide) (fun hq => ?_) (fun hq => ?_)
  · have h := h.1 hq
    refine lv_iconst (pc := 16) (v := (0 : Int32)) hx hb xd_Ey_counts_16 (by decide) ?_
    exact xr_zret hC hr hlk hR hS (by decide) h xd_Ey_counts_17
  · have h := h.2 hq
    refine lv_iconst (pc := 12) (v := (1 : Int32)) hx hb xd_Ey_counts_12 (by decide) ?_
    refine lv_goto (pc := 13) (tgt := 17) hx hb xd_Ey_counts_13 (by decide) ?_
    exact xr_zret hC hr hlk hR hS (by decide) h xd_Ey_counts_17

/-! ColoursApart$Rgb.red(I)I -/
theorem xd_Rg_red_0 : decode b_Rg_red 0 = .ok (.iload_n 0, 1) := by decide +kernel
theorem xd_Rg_red_1 : decode b_Rg_red 1 = .ok (.bipush 16, 2) := by decide +kernel
theorem xd_Rg_red_3 : decode b_Rg_red 3 = .ok (.ishr, 1) := by decide +kernel
theorem xd_Rg_red_4 : decode b_Rg_red 4 = .ok (.sipush 255, 3) := by decide +kernel
theorem xd_Rg_red_7 : decode b_Rg_red 7 = .ok (.iand, 1) := by decide +kernel
theorem xd_Rg_red_8 : decode b_Rg_red 8 = .ok (.ireturn, 1) := by decide +kernel
abbrev rm_Rg_red : Room := { frames := 0, cells := 0, slots := 0, locals := 0 }
def xw_Rg_red (a0 : Int32) (M : xM) (post : Int32 → xM → Prop) : Prop :=
  post ((a0 >>> ((16 : Int32) &&& 31)) &&& (255 : Int32)) M
set_option maxHeartbeats 4000000 in
set_option maxRecDepth 100000 in
theorem xc_Rg_red (l : Launch) (G : xG) {a0 : Int32}  {M : xM} {post : Int32 → xM → Prop} (h : xw_Rg_red a0 M post) : Met l y_Rg_red (Cond.code y_Rg_red b_Rg_red 1 (some .int) :: xTG) rm_Rg_red (xPre G M [.int a0]) (xPi G post) 0 0 (xA G) := by
  refine xMet (own := R_Rg) [.int a0] (Or.inl (by decide)) rfl (Nat.le_of_ble_eq_true rfl) (fun p e s m args below meth c ls hC hr hlk hR hS hl => ?_)
  have hx := hC.1
  have hb := hC.2.1
  have hl : lv_has ls 1 [(0, .int a0)] := hl
  obtain ⟨H, eH⟩ : ∃ H : Heap, H = s.heap := ⟨_, rfl⟩
  obtain ⟨locs, eL⟩ : ∃ locs : List Loc, locs = [] := ⟨_, rfl⟩
  rw [← eH] at hR
  replace hS : va_S (xA G) s.heap H locs := by rw [eH, eL]; exact hS
  suffices hh : W p l e rm_Rg_red s m args below meth c H locs 0 0 (MQ below (xPi G post) args s 0 0 (xA G)) (F0 m 0 ls []) from by rw [eH, eL] at hh; exact hh
  unfold xw_Rg_red at h
  refine lv_iload_n (pc := 0) hx hb xd_Rg_red_0 rfl (lv_at hl 0 rfl) ?_
  refine lv_bipush (pc := 1) (v := (16 : Int32)) hx hb xd_Rg_red_1 (by decide) ?_
  refine lv_ishr (pc := 3) hx hb xd_Rg_red_3 ?_
  refine lv_sipush (pc := 4) (v := (255 : Int32)) hx hb xd_Rg_red_4 (by decide) ?_
  refine lv_iand (pc := 7) hx hb xd_Rg_red_7 ?_
  exact xr_iret hC hr hlk hR hS h xd_Rg_red_8

/-! ColoursApart$Rgb.green(I)I -/
theorem xd_Rg_green_0 : decode b_Rg_green 0 = .ok (.iload_n 0, 1) := by decide +kernel
theorem xd_Rg_green_1 : decode b_Rg_green 1 = .ok (.bipush 8, 2) := by decide +kernel
theorem xd_Rg_green_3 : decode b_Rg_green 3 = .ok (.ishr, 1) := by decide +kernel
theorem xd_Rg_green_4 : decode b_Rg_green 4 = .ok (.sipush 255, 3) := by decide +kernel
theorem xd_Rg_green_7 : decode b_Rg_green 7 = .ok (.iand, 1) := by decide +kernel
theorem xd_Rg_green_8 : decode b_Rg_green 8 = .ok (.ireturn, 1) := by decide +kernel
abbrev rm_Rg_green : Room := { frames := 0, cells := 0, slots := 0, locals := 0 }
def xw_Rg_green (a0 : Int32) (M : xM) (post : Int32 → xM → Prop) : Prop :=
  post ((a0 >>> ((8 : Int32) &&& 31)) &&& (255 : Int32)) M
set_option maxHeartbeats 4000000 in
set_option maxRecDepth 100000 in
theorem xc_Rg_green (l : Launch) (G : xG) {a0 : Int32}  {M : xM} {post : Int32 → xM → Prop} (h : xw_Rg_green a0 M post) : Met l y_Rg_green (Cond.code y_Rg_green b_Rg_green 1 (some .int) :: xTG) rm_Rg_green (xPre G M [.int a0]) (xPi G post) 0 0 (xA G) := by
  refine xMet (own := R_Rg) [.int a0] (Or.inl (by decide)) rfl (Nat.le_of_ble_eq_true rfl) (fun p e s m args below meth c ls hC hr hlk hR hS hl => ?_)
  have hx := hC.1
  have hb := hC.2.1
  have hl : lv_has ls 1 [(0, .int a0)] := hl
  obtain ⟨H, eH⟩ : ∃ H : Heap, H = s.heap := ⟨_, rfl⟩
  obtain ⟨locs, eL⟩ : ∃ locs : List Loc, locs = [] := ⟨_, rfl⟩
  rw [← eH] at hR
  replace hS : va_S (xA G) s.heap H locs := by rw [eH, eL]; exact hS
  suffices hh : W p l e rm_Rg_green s m args below meth c H locs 0 0 (MQ below (xPi G post) args s 0 0 (xA G)) (F0 m 0 ls []) from by rw [eH, eL] at hh; exact hh
  unfold xw_Rg_green at h
  refine lv_iload_n (pc := 0) hx hb xd_Rg_green_0 rfl (lv_at hl 0 rfl) ?_
  refine lv_bipush (pc := 1) (v := (8 : Int32)) hx hb xd_Rg_green_1 (by decide) ?_
  refine lv_ishr (pc := 3) hx hb xd_Rg_green_3 ?_
  refine lv_sipush (pc := 4) (v := (255 : Int32)) hx hb xd_Rg_green_4 (by decide) ?_
  refine lv_iand (pc := 7) hx hb xd_Rg_green_7 ?_
  exact xr_iret hC hr hlk hR hS h xd_Rg_green_8

/-! ColoursApart$Rgb.blue(I)I -/
theorem xd_Rg_blue_0 : decode b_Rg_blue 0 = .ok (.iload_n 0, 1) := by decide +kernel
theorem xd_Rg_blue_1 : decode b_Rg_blue 1 = .ok (.sipush 255, 3) := by decide +kernel
theorem xd_Rg_blue_4 : decode b_Rg_blue 4 = .ok (.iand, 1) := by decide +kernel
theorem xd_Rg_blue_5 : decode b_Rg_blue 5 = .ok (.ireturn, 1) := by decide +kernel
abbrev rm_Rg_blue : Room := { frames := 0, cells := 0, slots := 0, locals := 0 }
def xw_Rg_blue (a0 : Int32) (M : xM) (post : Int32 → xM → Prop) : Prop :=
  post (a0 &&& (255 : Int32)) M
set_option maxHeartbeats 4000000 in
set_option maxRecDepth 100000 in
theorem xc_Rg_blue (l : Launch) (G : xG) {a0 : Int32}  {M : xM} {post : Int32 → xM → Prop} (h : xw_Rg_blue a0 M post) : Met l y_Rg_blue (Cond.code y_Rg_blue b_Rg_blue 1 (some .int) :: xTG) rm_Rg_blue (xPre G M [.int a0]) (xPi G post) 0 0 (xA G) := by
  refine xMet (own := R_Rg) [.int a0] (Or.inl (by decide)) rfl (Nat.le_of_ble_eq_true rfl) (fun p e s m args below meth c ls hC hr hlk hR hS hl => ?_)
  have hx := hC.1
  have hb := hC.2.1
  have hl : lv_has ls 1 [(0, .int a0)] := hl
  obtain ⟨H, eH⟩ : ∃ H : Heap, H = s.heap := ⟨_, rfl⟩
  obtain ⟨locs, eL⟩ : ∃ locs : List Loc, locs = [] := ⟨_, rfl⟩
  rw [← eH] at hR
  replace hS : va_S (xA G) s.heap H locs := by rw [eH, eL]; exact hS
  suffices hh : W p l e rm_Rg_blue s m args below meth c H locs 0 0 (MQ below (xPi G post) args s 0 0 (xA G)) (F0 m 0 ls []) from by rw [eH, eL] at hh; exact hh
  unfold xw_Rg_blue at h
  refine lv_iload_n (pc := 0) hx hb xd_Rg_blue_0 rfl (lv_at hl 0 rfl) ?_
  refine lv_sipush (pc := 1) (v := (255 : Int32)) hx hb xd_Rg_blue_1 (by decide) ?_
  refine lv_iand (pc := 4) hx hb xd_Rg_blue_4 ?_
  exact xr_iret hC hr hlk hR hS h xd_Rg_blue_5

/-! java/lang/Math.floorDiv(II)I -/
theorem xd_Ma_floorDiv_0 : decode b_Ma_floorDiv 0 = .ok (.iload_n 0, 1) := by decide +kernel
theorem xd_Ma_floorDiv_1 : decode b_Ma_floorDiv 1 = .ok (.iload_n 1, 1) := by decide +kernel
theorem xd_Ma_floorDiv_2 : decode b_Ma_floorDiv 2 = .ok (.idiv, 1) := by decide +kernel
theorem xd_Ma_floorDiv_3 : decode b_Ma_floorDiv 3 = .ok (.istore_n 2, 1) := by decide +kernel
theorem xd_Ma_floorDiv_4 : decode b_Ma_floorDiv 4 = .ok (.iload_n 0, 1) := by decide +kernel
theorem xd_Ma_floorDiv_5 : decode b_Ma_floorDiv 5 = .ok (.iload_n 1, 1) := by decide +kernel
theorem xd_Ma_floorDiv_6 : decode b_Ma_floorDiv 6 = .ok (.ixor, 1) := by decide +kernel
theorem xd_Ma_floorDiv_7 : decode b_Ma_floorDiv 7 = .ok (.ifCond .ge 14, 3) := by decide +kernel
theorem xd_Ma_floorDiv_10 : decode b_Ma_floorDiv 10 = .ok (.iload_n 2, 1) := by decide +kernel
theorem xd_Ma_floorDiv_11 : decode b_Ma_floorDiv 11 = .ok (.iload_n 1, 1) := by decide +kernel
theorem xd_Ma_floorDiv_12 : decode b_Ma_floorDiv 12 = .ok (.imul, 1) := by decide +kernel
theorem xd_Ma_floorDiv_13 : decode b_Ma_floorDiv 13 = .ok (.iload_n 0, 1) := by decide +kernel
theorem xd_Ma_floorDiv_14 : decode b_Ma_floorDiv 14 = .ok (.if_icmp .eq 7, 3) := by decide +kernel
theorem xd_Ma_floorDiv_17 : decode b_Ma_floorDiv 17 = .ok (.iload_n 2, 1) := by decide +kernel
theorem xd_Ma_floorDiv_18 : decode b_Ma_floorDiv 18 = .ok (.iconst 1, 1) := by decide +kernel
theorem xd_Ma_floorDiv_19 : decode b_Ma_floorDiv 19 = .ok (.isub, 1) := by decide +kernel
theorem xd_Ma_floorDiv_20 : decode b_Ma_floorDiv 20 = .ok (.ireturn, 1) := by decide +kernel
theorem xd_Ma_floorDiv_21 : decode b_Ma_floorDiv 21 = .ok (.iload_n 2, 1) := by decide +kernel
theorem xd_Ma_floorDiv_22 : decode b_Ma_floorDiv 22 = .ok (.ireturn, 1) := by decide +kernel
abbrev rm_Ma_floorDiv : Room := { frames := 0, cells := 0, slots := 0, locals := 0 }
def xw_Ma_floorDiv (a0 : Int32) (a1 : Int32) (M : xM) (post : Int32 → xM → Prop) : Prop :=
  (¬ a1 = 0) ∧ (((0 ≤ (a0 ^^^ a1)) → (post (a0 / a1) M)) ∧ ((¬ 0 ≤ (a0 ^^^ a1)) → (((((a0 / a1) * a1) = a0) → (post (a0 / a1) M)) ∧ ((¬ ((a0 / a1) * a1) = a0) → (post ((a0 / a1) - (1 : Int32)) M)))))
set_option maxHeartbeats 4000000 in
set_option maxRecDepth 100000 in
theorem xc_Ma_floorDiv (l : Launch) (G : xG) {a0 : Int32} {a1 : Int32}  {M : xM} {post : Int32 → xM → Prop} (h : xw_Ma_floorDiv a0 a1 M post) : Met l y_Ma_floorDiv (Cond.code y_Ma_floorDiv b_Ma_floorDiv 3 (some .int) :: xTG) rm_Ma_floorDiv (xPre G M [.int a0, .int a1]) (xPi G post) 0 0 (xA G) := by
  refine xMet (own := R_Ma) [.int a0, .int a1] (Or.inr (by decide +kernel)) rfl (Nat.le_of_ble_eq_true rfl) (fun p e s m args below meth c ls hC hr hlk hR hS hl => ?_)
  have hx := hC.1
  have hb := hC.2.1
  have hl : lv_has ls 3 [(0, .int a0), (1, .int a1)] := hl
  obtain ⟨H, eH⟩ : ∃ H : Heap, H = s.heap := ⟨_, rfl⟩
  obtain ⟨locs, eL⟩ : ∃ locs : List Loc, locs = [] := ⟨_, rfl⟩
  rw [← eH] at hR
  replace hS : va_S (xA G) s.heap H locs := by rw [eH, eL]; exact hS
  suffices hh : W p l e rm_Ma_floorDiv s m args below meth c H locs 0 0 (MQ below (xPi G post) args s 0 0 (xA G)) (F0 m 0 ls []) from by rw [eH, eL] at hh; exact hh
  unfold xw_Ma_floorDiv at h
  refine lv_iload_n (pc := 0) hx hb xd_Ma_floorDiv_0 rfl (lv_at hl 0 rfl) ?_
  refine lv_iload_n (pc := 1) hx hb xd_Ma_floorDiv_1 rfl (lv_at hl 1 rfl) ?_
  obtain ⟨hq, h⟩ := h
  refine lv_idiv (pc := 2) hx hb xd_Ma_floorDiv_2 hq ?_
  refine lv_istore_n (pc := 3) (lv' := [(2, .int (a0 / a1)), (0, .int a0), (1, .int a1)]) hx hb xd_Ma_floorDiv_3 rfl hl (by decide) rfl (fun ls hl => ?_)
  refine lv_iload_n (pc := 4) hx hb xd_Ma_floorDiv_4 rfl (lv_at hl 1 rfl) ?_
  refine lv_iload_n (pc := 5) hx hb xd_Ma_floorDiv_5 rfl (lv_at hl 2 rfl) ?_
  refine lv_ixor (pc := 6) hx hb xd_Ma_floorDiv_6 ?_
  refine lv_if_ge (pc := 7) (tgt := 21) hx hb xd_Ma_floorDiv_7 (by decide) (fun hq => ?_) (fun hq => ?_)
  · have h := h.1 hq
    refine lv_iload_n (pc := 21) hx hb xd_Ma_floorDiv_21 rfl (lv_at hl 0 rfl) ?_
    exact xr_iret hC hr hlk hR hS h xd_Ma_floorDiv_22
  · have h := h.2 hq
    refine lv_iload_n (pc := 10) hx hb xd_Ma_floorDiv_10 rfl (lv_at hl 0 rfl) ?_
    refine lv_iload_n (pc := 11) hx hb xd_Ma_floorDiv_11 rfl (lv_at hl 2 rfl) ?_
    refine lv_imul (pc := 12) hx hb xd_Ma_floorDiv_12 ?_
    refine lv_iload_n (pc := 13) hx hb xd_Ma_floorDiv_13 rfl (lv_at hl 1 rfl) ?_
    refine lv_icmp_eq (pc := 14) (tgt := 21) hx hb xd_Ma_floorDiv_14 (by decide) (fun hq => ?_) (fun hq => ?_)
    · have h := h.1 hq
      refine lv_iload_n (pc := 21) hx hb xd_Ma_floorDiv_21 rfl (lv_at hl 0 rfl) ?_
      exact xr_iret hC hr hlk hR hS h xd_Ma_floorDiv_22
    · have h := h.2 hq
      refine lv_iload_n (pc := 17) hx hb xd_Ma_floorDiv_17 rfl (lv_at hl 0 rfl) ?_
      refine lv_iconst (pc := 18) (v := (1 : Int32)) hx hb xd_Ma_floorDiv_18 (by decide) ?_
      refine lv_isub (pc := 19) hx hb xd_Ma_floorDiv_19 ?_
      exact xr_iret hC hr hlk hR hS h xd_Ma_floorDiv_20

/-! ColoursApart$Eyes.weakened(II)I -/
theorem xd_Ey_weakened_0 : decode b_Ey_weakened 0 = .ok (.aload_n 0, 1) := by decide +kernel
theorem xd_Ey_weakened_1 : decode b_Ey_weakened 1 = .ok (.getfield 11, 3) := by decide +kernel
theorem xd_Ey_weakened_4 : decode b_Ey_weakened 4 = .ok (.iload_n 1, 1) := by decide +kernel
theorem xd_Ey_weakened_5 : decode b_Ey_weakened 5 = .ok (.iaload, 1) := by decide +kernel
theorem xd_Ey_weakened_6 : decode b_Ey_weakened 6 = .ok (.iload_n 2, 1) := by decide +kernel
theorem xd_Ey_weakened_7 : decode b_Ey_weakened 7 = .ok (.invokestatic 56, 3) := by decide +kernel
theorem xd_Ey_weakened_10 : decode b_Ey_weakened 10 = .ok (.imul, 1) := by decide +kernel
theorem xd_Ey_weakened_11 : decode b_Ey_weakened 11 = .ok (.aload_n 0, 1) := by decide +kernel
theorem xd_Ey_weakened_12 : decode b_Ey_weakened 12 = .ok (.getfield 11, 3) := by decide +kernel
theorem xd_Ey_weakened_15 : decode b_Ey_weakened 15 = .ok (.iload_n 1, 1) := by decide +kernel
theorem xd_Ey_weakened_16 : decode b_Ey_weakened 16 = .ok (.iconst 1, 1) := by decide +kernel
theorem xd_Ey_weakened_17 : decode b_Ey_weakened 17 = .ok (.iadd, 1) := by decide +kernel
theorem xd_Ey_weakened_18 : decode b_Ey_weakened 18 = .ok (.iaload, 1) := by decide +kernel
theorem xd_Ey_weakened_19 : decode b_Ey_weakened 19 = .ok (.iload_n 2, 1) := by decide +kernel
theorem xd_Ey_weakened_20 : decode b_Ey_weakened 20 = .ok (.invokestatic 62, 3) := by decide +kernel
theorem xd_Ey_weakened_23 : decode b_Ey_weakened 23 = .ok (.imul, 1) := by decide +kernel
theorem xd_Ey_weakened_24 : decode b_Ey_weakened 24 = .ok (.iadd, 1) := by decide +kernel
theorem xd_Ey_weakened_25 : decode b_Ey_weakened 25 = .ok (.aload_n 0, 1) := by decide +kernel
theorem xd_Ey_weakened_26 : decode b_Ey_weakened 26 = .ok (.getfield 11, 3) := by decide +kernel
theorem xd_Ey_weakened_29 : decode b_Ey_weakened 29 = .ok (.iload_n 1, 1) := by decide +kernel
theorem xd_Ey_weakened_30 : decode b_Ey_weakened 30 = .ok (.iconst 2, 1) := by decide +kernel
theorem xd_Ey_weakened_31 : decode b_Ey_weakened 31 = .ok (.iadd, 1) := by decide +kernel
theorem xd_Ey_weakened_32 : decode b_Ey_weakened 32 = .ok (.iaload, 1) := by decide +kernel
theorem xd_Ey_weakened_33 : decode b_Ey_weakened 33 = .ok (.iload_n 2, 1) := by decide +kernel
theorem xd_Ey_weakened_34 : decode b_Ey_weakened 34 = .ok (.invokestatic 65, 3) := by decide +kernel
theorem xd_Ey_weakened_37 : decode b_Ey_weakened 37 = .ok (.imul, 1) := by decide +kernel
theorem xd_Ey_weakened_38 : decode b_Ey_weakened 38 = .ok (.iadd, 1) := by decide +kernel
theorem xd_Ey_weakened_39 : decode b_Ey_weakened 39 = .ok (.istore_n 3, 1) := by decide +kernel
theorem xd_Ey_weakened_40 : decode b_Ey_weakened 40 = .ok (.iconst 0, 1) := by decide +kernel
theorem xd_Ey_weakened_41 : decode b_Ey_weakened 41 = .ok (.sipush 255, 3) := by decide +kernel
theorem xd_Ey_weakened_44 : decode b_Ey_weakened 44 = .ok (.iload_n 3, 1) := by decide +kernel
theorem xd_Ey_weakened_45 : decode b_Ey_weakened 45 = .ok (.sipush 500, 3) := by decide +kernel
theorem xd_Ey_weakened_48 : decode b_Ey_weakened 48 = .ok (.iadd, 1) := by decide +kernel
theorem xd_Ey_weakened_49 : decode b_Ey_weakened 49 = .ok (.sipush 1000, 3) := by decide +kernel
theorem xd_Ey_weakened_52 : decode b_Ey_weakened 52 = .ok (.invokestatic 68, 3) := by decide +kernel
theorem xd_Ey_weakened_55 : decode b_Ey_weakened 55 = .ok (.invokestatic 73, 3) := by decide +kernel
theorem xd_Ey_weakened_58 : decode b_Ey_weakened 58 = .ok (.invokestatic 76, 3) := by decide +kernel
theorem xd_Ey_weakened_61 : decode b_Ey_weakened 61 = .ok (.ireturn, 1) := by decide +kernel
abbrev rm_Ey_weakened : Room := { frames := 1, cells := 0, slots := 0, locals := 24 }
def xw_Ey_weakened (g : Nat) (a1 : Int32) (a2 : Int32) (M : xM) (post : Int32 → xM → Prop) : Prop :=
  (vp_in a1 27) ∧ (xw_Rg_red a2 M (fun (r2 : Int32) (M1 : xM) => (vp_in (a1 + (1 : Int32)) 27) ∧ (xw_Rg_green a2 M1 (fun (r4 : Int32) (M3 : xM) => (vp_in (a1 + (2 : Int32)) 27) ∧ (xw_Rg_blue a2 M3 (fun (r6 : Int32) (M5 : xM) => xw_Ma_floorDiv (((((M g 2 a1.toNatClampNeg) * r2) + ((M1 g 2 (a1 + (1 : Int32)).toNatClampNeg) * r4)) + ((M3 g 2 (a1 + (2 : Int32)).toNatClampNeg) * r6)) + (500 : Int32)) (1000 : Int32) M5 (fun (r8 : Int32) (M7 : xM) => post (if (0 : Int32) < (if r8 < (255 : Int32) then r8 else (255 : Int32)) then (if r8 < (255 : Int32) then r8 else (255 : Int32)) else (0 : Int32)) M7)))))))
set_option maxHeartbeats 4000000 in
set_option maxRecDepth 100000 in
theorem xc_Ey_weakened (l : Launch) (G : xG) {g : Nat} {a1 : Int32} {a2 : Int32} (hg : g < 4) {M : xM} {post : Int32 → xM → Prop} (h : xw_Ey_weakened g a1 a2 M post) : Met l y_Ey_weakened (Cond.code y_Ey_weakened b_Ey_weakened 4 (some .int) :: xTG) rm_Ey_weakened (xPre G M [.ref (G.1 g 1), .int a1, .int a2]) (xPi G post) 0 0 (xA G) := by
  refine xMet (own := R_Ey) [.ref (G.1 g 1), .int a1, .int a2] (Or.inl (by decide)) rfl (Nat.le_of_ble_eq_true rfl) (fun p e s m args below meth c ls hC hr hlk hR hS hl => ?_)
  have hx := hC.1
  have hb := hC.2.1
  have hl : lv_has ls 4 [(0, .ref (G.1 g 1)), (1, .int a1), (2, .int a2)] := hl
  obtain ⟨H, eH⟩ : ∃ H : Heap, H = s.heap := ⟨_, rfl⟩
  obtain ⟨locs, eL⟩ : ∃ locs : List Loc, locs = [] := ⟨_, rfl⟩
  rw [← eH] at hR
  replace hS : va_S (xA G) s.heap H locs := by rw [eH, eL]; exact hS
  suffices hh : W p l e rm_Ey_weakened s m args below meth c H locs 0 0 (MQ below (xPi G post) args s 0 0 (xA G)) (F0 m 0 ls []) from by rw [eH, eL] at hh; exact hh
  unfold xw_Ey_weakened at h
  refine lv_aload_n (pc := 0) hx hb xd_Ey_weakened_0 rfl (lv_at hl 0 rfl) ?_
  refine xr_get (pc := 1) (v := .ref (G.1 g 2)) hC hR (xo_K1 hg) xf_Ey_11 rfl xd_Ey_weakened_1 ?_
  refine lv_iload_n (pc := 4) hx hb xd_Ey_weakened_4 rfl (lv_at hl 1 rfl) ?_
  obtain ⟨hq, h⟩ := h
  refine xr_iald (pc := 5) hC hR (xo_K2 hg) hq xd_Ey_weakened_5 ?_
  refine lv_iload_n (pc := 6) hx hb xd_Ey_weakened_6 rfl (lv_at hl 2 rfl) ?_
  refine xr_callS (pc := 7) (As := [.int a2]) (rest := [.int (M g 2 a1.toNatClampNeg)]) hC hR hS (xc_Rg_red l G  h) xv_Ey_56 ⟨rfl, rfl, Nat.le_of_ble_eq_true rfl, Nat.le_of_ble_eq_true rfl⟩ rfl hl.1 rfl (Nat.le_of_ble_eq_true rfl) xd_Ey_weakened_7 (fun r2 M1 H locs h hR hS => ?_)
  refine lv_imul (pc := 10) hx hb xd_Ey_weakened_10 ?_
  refine lv_aload_n (pc := 11) hx hb xd_Ey_weakened_11 rfl (lv_at hl 0 rfl) ?_
  refine xr_get (pc := 12) (v := .ref (G.1 g 2)) hC hR (xo_K1 hg) xf_Ey_11 rfl xd_Ey_weakened_12 ?_
  refine lv_iload_n (pc := 15) hx hb xd_Ey_weakened_15 rfl (lv_at hl 1 rfl) ?_
  refine lv_iconst (pc := 16) (v := (1 : Int32)) hx hb xd_Ey_weakened_16 (by decide) ?_
  refine lv_iadd (pc := 17) hx hb xd_Ey_weakened_17 ?_
  obtain ⟨hq, h⟩ := h
  refine xr_iald (pc := 18) hC hR (xo_K2 hg) hq xd_Ey_weakened_18 ?_
  refine lv_iload_n (pc := 19) hx hb xd_Ey_weakened_19 rfl (lv_at hl 2 rfl) ?_
  refine xr_callS (pc := 20) (As := [.int a2]) (rest := [.int (M1 g 2 (a1 + (1 : Int32)).toNatClampNeg), .int ((M g 2 a1.toNatClampNeg) * r2)]) hC hR hS (xc_Rg_green l G  h) xv_Ey_62 ⟨rfl, rfl, Nat.le_of_ble_eq_true rfl, Nat.le_of_ble_eq_true rfl⟩ rfl hl.1 rfl (Nat.le_of_ble_eq_true rfl) xd_Ey_weakened_20 (fun r4 M3 H locs h hR hS => ?_)
  refine lv_imul (pc := 23) hx hb xd_Ey_weakened_23 ?_
  refine lv_iadd (pc := 24) hx hb xd_Ey_weakened_24 ?_
  refine lv_aload_n (pc := 25) hx hb xd_Ey_weakened_25 rfl (lv_at hl 0 rfl) ?_
  refine xr_get (pc := 26) (v := .ref (G.1 g 2)) hC hR (xo_K1 hg) xf_Ey_11 rfl xd_Ey_weakened_26 ?_
  refine lv_iload_n (pc := 29) hx hb xd_Ey_weakened_29 rfl (lv_at hl 1 rfl) ?_
  refine lv_iconst (pc := 30) (v := (2 : Int32)) hx hb xd_Ey_weakened_30 (by decide) ?_
  refine lv_iadd (pc := 31) hx hb xd_Ey_weakened_31 ?_
  obtain ⟨hq, h⟩ := h
  refine xr_iald (pc := 32) hC hR (xo_K2 hg) hq xd_Ey_weakened_32 ?_
  refine lv_iload_n (pc := 33) hx hb xd_Ey_weakened_33 rfl (lv_at hl 2 rfl) ?_
  refine xr_callS (pc := 34) (As := [.int a2]) (rest := [.int (M3 g 2 (a1 + (2 : Int32)).toNatClampNeg), .int (((M g 2 a1.toNatClampNeg) * r2) + ((M1 g 2 (a1 + (1 : Int32)).toNatClampNeg) * r4))]) hC hR hS (xc_Rg_blue l G  h) xv_Ey_65 ⟨rfl, rfl, Nat.le_of_ble_eq_true rfl, Nat.le_of_ble_eq_true rfl⟩ rfl hl.1 rfl (Nat.le_of_ble_eq_true rfl) xd_Ey_weakened_34 (fun r6 M5 H locs h hR hS => ?_)
  refine lv_imul (pc := 37) hx hb xd_Ey_weakened_37 ?_
  refine lv_iadd (pc := 38) hx hb xd_Ey_weakened_38 ?_
  refine lv_istore_n (pc := 39) (lv' := [(3, .int ((((M g 2 a1.toNatClampNeg) * r2) + ((M1 g 2 (a1 + (1 : Int32)).toNatClampNeg) * r4)) + ((M3 g 2 (a1 + (2 : Int32)).toNatClampNeg) * r6))), (0, .ref (G.1 g 1)), (1, .int a1), (2, .int a2)]) hx hb xd_Ey_weakened_39 rfl hl (by decide) rfl (fun ls hl => ?_)
  refine lv_iconst (pc := 40) (v := (0 : Int32)) hx hb xd_Ey_weakened_40 (by decide) ?_
  refine lv_sipush (pc := 41) (v := (255 : Int32)) hx hb xd_Ey_weakened_41 (by decide) ?_
  refine lv_iload_n (pc := 44) hx hb xd_Ey_weakened_44 rfl (lv_at hl 0 rfl) ?_
  refine lv_sipush (pc := 45) (v := (500 : Int32)) hx hb xd_Ey_weakened_45 (by decide) ?_
  refine lv_iadd (pc := 48) hx hb xd_Ey_weakened_48 ?_
  refine lv_sipush (pc := 49) (v := (1000 : Int32)) hx hb xd_Ey_weakened_49 (by decide) ?_
  refine xr_callS (pc := 52) (As := [.int (((((M g 2 a1.toNatClampNeg) * r2) + ((M1 g 2 (a1 + (1 : Int32)).toNatClampNeg) * r4)) + ((M3 g 2 (a1 + (2 : Int32)).toNatClampNeg) * r6)) + (500 : Int32)), .int (1000 : Int32)]) (rest := [.int (255 : Int32), .int (0 : Int32)]) hC hR hS (xc_Ma_floorDiv l G  h) xv_Ey_68 ⟨rfl, rfl, Nat.le_of_ble_eq_true rfl, Nat.le_of_ble_eq_true rfl⟩ rfl hl.1 rfl (Nat.le_of_ble_eq_true rfl) xd_Ey_weakened_52 (fun r8 M7 H locs h hR hS => ?_)
  refine xr_min (pc := 55) hC xk_Ey_73 hl.1 (Nat.le_of_ble_eq_true rfl) (Nat.le_of_ble_eq_true rfl) xd_Ey_weakened_55 ?_
  refine xr_max (pc := 58) hC xk_Ey_76 hl.1 (Nat.le_of_ble_eq_true rfl) (Nat.le_of_ble_eq_true rfl) xd_Ey_weakened_58 ?_
  exact xr_iret hC hr hlk hR hS h xd_Ey_weakened_61

/-! ColoursApart$Rgb.lightOf(I)I -/
theorem xd_Rg_lightOf_0 : decode b_Rg_lightOf 0 = .ok (.sipush 299, 3) := by decide +kernel
theorem xd_Rg_lightOf_3 : decode b_Rg_lightOf 3 = .ok (.iload_n 0, 1) := by decide +kernel
theorem xd_Rg_lightOf_4 : decode b_Rg_lightOf 4 = .ok (.invokestatic 10, 3) := by decide +kernel
theorem xd_Rg_lightOf_7 : decode b_Rg_lightOf 7 = .ok (.imul, 1) := by decide +kernel
theorem xd_Rg_lightOf_8 : decode b_Rg_lightOf 8 = .ok (.sipush 587, 3) := by decide +kernel
theorem xd_Rg_lightOf_11 : decode b_Rg_lightOf 11 = .ok (.iload_n 0, 1) := by decide +kernel
theorem xd_Rg_lightOf_12 : decode b_Rg_lightOf 12 = .ok (.invokestatic 14, 3) := by decide +kernel
theorem xd_Rg_lightOf_15 : decode b_Rg_lightOf 15 = .ok (.imul, 1) := by decide +kernel
theorem xd_Rg_lightOf_16 : decode b_Rg_lightOf 16 = .ok (.iadd, 1) := by decide +kernel
theorem xd_Rg_lightOf_17 : decode b_Rg_lightOf 17 = .ok (.bipush 114, 2) := by decide +kernel
theorem xd_Rg_lightOf_19 : decode b_Rg_lightOf 19 = .ok (.iload_n 0, 1) := by decide +kernel
theorem xd_Rg_lightOf_20 : decode b_Rg_lightOf 20 = .ok (.invokestatic 17, 3) := by decide +kernel
theorem xd_Rg_lightOf_23 : decode b_Rg_lightOf 23 = .ok (.imul, 1) := by decide +kernel
theorem xd_Rg_lightOf_24 : decode b_Rg_lightOf 24 = .ok (.iadd, 1) := by decide +kernel
theorem xd_Rg_lightOf_25 : decode b_Rg_lightOf 25 = .ok (.sipush 1000, 3) := by decide +kernel
theorem xd_Rg_lightOf_28 : decode b_Rg_lightOf 28 = .ok (.idiv, 1) := by decide +kernel
theorem xd_Rg_lightOf_29 : decode b_Rg_lightOf 29 = .ok (.ireturn, 1) := by decide +kernel
abbrev rm_Rg_lightOf : Room := { frames := 1, cells := 0, slots := 0, locals := 20 }
def xw_Rg_lightOf (a0 : Int32) (M : xM) (post : Int32 → xM → Prop) : Prop :=
  xw_Rg_red a0 M (fun (r2 : Int32) (M1 : xM) => xw_Rg_green a0 M1 (fun (r4 : Int32) (M3 : xM) => xw_Rg_blue a0 M3 (fun (r6 : Int32) (M5 : xM) => post (((((299 : Int32) * r2) + ((587 : Int32) * r4)) + ((114 : Int32) * r6)) / (1000 : Int32)) M5)))
set_option maxHeartbeats 4000000 in
set_option maxRecDepth 100000 in
theorem xc_Rg_lightOf (l : Launch) (G : xG) {a0 : Int32}  {M : xM} {post : Int32 → xM → Prop} (h : xw_Rg_lightOf a0 M post) : Met l y_Rg_lightOf (Cond.code y_Rg_lightOf b_Rg_lightOf 1 (some .int) :: xTG) rm_Rg_lightOf (xPre G M [.int a0]) (xPi G post) 0 0 (xA G) := by
  refine xMet (own := R_Rg) [.int a0] (Or.inl (by decide)) rfl (Nat.le_of_ble_eq_true rfl) (fun p e s m args below meth c ls hC hr hlk hR hS hl => ?_)
  have hx := hC.1
  have hb := hC.2.1
  have hl : lv_has ls 1 [(0, .int a0)] := hl
  obtain ⟨H, eH⟩ : ∃ H : Heap, H = s.heap := ⟨_, rfl⟩
  obtain ⟨locs, eL⟩ : ∃ locs : List Loc, locs = [] := ⟨_, rfl⟩
  rw [← eH] at hR
  replace hS : va_S (xA G) s.heap H locs := by rw [eH, eL]; exact hS
  suffices hh : W p l e rm_Rg_lightOf s m args below meth c H locs 0 0 (MQ below (xPi G post) args s 0 0 (xA G)) (F0 m 0 ls []) from by rw [eH, eL] at hh; exact hh
  unfold xw_Rg_lightOf at h
  refine lv_sipush (pc := 0) (v := (299 : Int32)) hx hb xd_Rg_lightOf_0 (by decide) ?_
  refine lv_iload_n (pc := 3) hx hb xd_Rg_lightOf_3 rfl (lv_at hl 0 rfl) ?_
  refine xr_callS (pc := 4) (As := [.int a0]) (rest := [.int (299 : Int32)]) hC hR hS (xc_Rg_red l G  h) xv_Rg_10 ⟨rfl, rfl, Nat.le_of_ble_eq_true rfl, Nat.le_of_ble_eq_true rfl⟩ rfl hl.1 rfl (Nat.le_of_ble_eq_true rfl) xd_Rg_lightOf_4 (fun r2 M1 H locs h hR hS => ?_)
  refine lv_imul (pc := 7) hx hb xd_Rg_lightOf_7 ?_
  refine lv_sipush (pc := 8) (v := (587 : Int32)) hx hb xd_Rg_lightOf_8 (by decide) ?_
  refine lv_iload_n (pc := 11) hx hb xd_Rg_lightOf_11 rfl (lv_at hl 0 rfl) ?_
  refine xr_callS (pc := 12) (As := [.int a0]) (rest := [.int (587 : Int32), .int ((299 : Int32) * r2)]) hC hR hS (xc_Rg_green l G  h) xv_Rg_14 ⟨rfl, rfl, Nat.le_of_ble_eq_true rfl, Nat.le_of_ble_eq_true rfl⟩ rfl hl.1 rfl (Nat.le_of_ble_eq_true rfl) xd_Rg_lightOf_12 (fun r4 M3 H locs h hR hS => ?_)
  refine lv_imul (pc := 15) hx hb xd_Rg_lightOf_15 ?_
  refine lv_iadd (pc := 16) hx hb xd_Rg_lightOf_16 ?_
  refine lv_bipush (pc := 17) (v := (114 : Int32)) hx hb xd_Rg_lightOf_17 (by decide) ?_
  refine lv_iload_n (pc := 19) hx hb xd_Rg_lightOf_19 rfl (lv_at hl 0 rfl) ?_
  refine xr_callS (pc := 20) (As := [.int a0]) (rest := [.int (114 : Int32), .int (((299 : Int32) * r2) + ((587 : Int32) * r4))]) hC hR hS (xc_Rg_blue l G  h) xv_Rg_17 ⟨rfl, rfl, Nat.le_of_ble_eq_true rfl, Nat.le_of_ble_eq_true rfl⟩ rfl hl.1 rfl (Nat.le_of_ble_eq_true rfl) xd_Rg_lightOf_20 (fun r6 M5 H locs h hR hS => ?_)
  refine lv_imul (pc := 23) hx hb xd_Rg_lightOf_23 ?_
  refine lv_iadd (pc := 24) hx hb xd_Rg_lightOf_24 ?_
  refine lv_sipush (pc := 25) (v := (1000 : Int32)) hx hb xd_Rg_lightOf_25 (by decide) ?_
  refine lv_idiv (pc := 28) hx hb xd_Rg_lightOf_28 (by decide) ?_
  exact xr_iret hC hr hlk hR hS h xd_Rg_lightOf_29

/-! ColoursApart$Eyes.printed(I)I -/
theorem xd_Ey_printed_0 : decode b_Ey_printed 0 = .ok (.aload_n 0, 1) := by decide +kernel
theorem xd_Ey_printed_1 : decode b_Ey_printed 1 = .ok (.getfield 15, 3) := by decide +kernel
theorem xd_Ey_printed_4 : decode b_Ey_printed 4 = .ok (.iconst 1, 1) := by decide +kernel
theorem xd_Ey_printed_5 : decode b_Ey_printed 5 = .ok (.if_icmp .le 12, 3) := by decide +kernel
theorem xd_Ey_printed_8 : decode b_Ey_printed 8 = .ok (.aload_n 0, 1) := by decide +kernel
theorem xd_Ey_printed_9 : decode b_Ey_printed 9 = .ok (.getfield 15, 3) := by decide +kernel
theorem xd_Ey_printed_12 : decode b_Ey_printed 12 = .ok (.iconst 1, 1) := by decide +kernel
theorem xd_Ey_printed_13 : decode b_Ey_printed 13 = .ok (.isub, 1) := by decide +kernel
theorem xd_Ey_printed_14 : decode b_Ey_printed 14 = .ok (.goto 4, 3) := by decide +kernel
theorem xd_Ey_printed_17 : decode b_Ey_printed 17 = .ok (.iconst 1, 1) := by decide +kernel
theorem xd_Ey_printed_18 : decode b_Ey_printed 18 = .ok (.istore_n 2, 1) := by decide +kernel
theorem xd_Ey_printed_19 : decode b_Ey_printed 19 = .ok (.iload_n 1, 1) := by decide +kernel
theorem xd_Ey_printed_20 : decode b_Ey_printed 20 = .ok (.iload_n 2, 1) := by decide +kernel
theorem xd_Ey_printed_21 : decode b_Ey_printed 21 = .ok (.imul, 1) := by decide +kernel
theorem xd_Ey_printed_22 : decode b_Ey_printed 22 = .ok (.sipush 255, 3) := by decide +kernel
theorem xd_Ey_printed_25 : decode b_Ey_printed 25 = .ok (.idiv, 1) := by decide +kernel
theorem xd_Ey_printed_26 : decode b_Ey_printed 26 = .ok (.istore_n 3, 1) := by decide +kernel
theorem xd_Ey_printed_27 : decode b_Ey_printed 27 = .ok (.iload_n 3, 1) := by decide +kernel
theorem xd_Ey_printed_28 : decode b_Ey_printed 28 = .ok (.iload_n 2, 1) := by decide +kernel
theorem xd_Ey_printed_29 : decode b_Ey_printed 29 = .ok (.if_icmp .ge 9, 3) := by decide +kernel
theorem xd_Ey_printed_32 : decode b_Ey_printed 32 = .ok (.iload_n 3, 1) := by decide +kernel
theorem xd_Ey_printed_33 : decode b_Ey_printed 33 = .ok (.iconst 1, 1) := by decide +kernel
theorem xd_Ey_printed_34 : decode b_Ey_printed 34 = .ok (.iadd, 1) := by decide +kernel
theorem xd_Ey_printed_35 : decode b_Ey_printed 35 = .ok (.goto 4, 3) := by decide +kernel
theorem xd_Ey_printed_38 : decode b_Ey_printed 38 = .ok (.iload_n 2, 1) := by decide +kernel
theorem xd_Ey_printed_39 : decode b_Ey_printed 39 = .ok (.istore 4, 2) := by decide +kernel
theorem xd_Ey_printed_41 : decode b_Ey_printed 41 = .ok (.iload_n 3, 1) := by decide +kernel
theorem xd_Ey_printed_42 : decode b_Ey_printed 42 = .ok (.sipush 255, 3) := by decide +kernel
theorem xd_Ey_printed_45 : decode b_Ey_printed 45 = .ok (.imul, 1) := by decide +kernel
theorem xd_Ey_printed_46 : decode b_Ey_printed 46 = .ok (.iload_n 2, 1) := by decide +kernel
theorem xd_Ey_printed_47 : decode b_Ey_printed 47 = .ok (.iconst 2, 1) := by decide +kernel
theorem xd_Ey_printed_48 : decode b_Ey_printed 48 = .ok (.idiv, 1) := by decide +kernel
theorem xd_Ey_printed_49 : decode b_Ey_printed 49 = .ok (.iadd, 1) := by decide +kernel
theorem xd_Ey_printed_50 : decode b_Ey_printed 50 = .ok (.iload_n 2, 1) := by decide +kernel
theorem xd_Ey_printed_51 : decode b_Ey_printed 51 = .ok (.idiv, 1) := by decide +kernel
theorem xd_Ey_printed_52 : decode b_Ey_printed 52 = .ok (.istore 5, 2) := by decide +kernel
theorem xd_Ey_printed_54 : decode b_Ey_printed 54 = .ok (.iload 4, 2) := by decide +kernel
theorem xd_Ey_printed_56 : decode b_Ey_printed 56 = .ok (.sipush 255, 3) := by decide +kernel
theorem xd_Ey_printed_59 : decode b_Ey_printed 59 = .ok (.imul, 1) := by decide +kernel
theorem xd_Ey_printed_60 : decode b_Ey_printed 60 = .ok (.iload_n 2, 1) := by decide +kernel
theorem xd_Ey_printed_61 : decode b_Ey_printed 61 = .ok (.iconst 2, 1) := by decide +kernel
theorem xd_Ey_printed_62 : decode b_Ey_printed 62 = .ok (.idiv, 1) := by decide +kernel
theorem xd_Ey_printed_63 : decode b_Ey_printed 63 = .ok (.iadd, 1) := by decide +kernel
theorem xd_Ey_printed_64 : decode b_Ey_printed 64 = .ok (.iload_n 2, 1) := by decide +kernel
theorem xd_Ey_printed_65 : decode b_Ey_printed 65 = .ok (.idiv, 1) := by decide +kernel
theorem xd_Ey_printed_66 : decode b_Ey_printed 66 = .ok (.istore 6, 2) := by decide +kernel
theorem xd_Ey_printed_68 : decode b_Ey_printed 68 = .ok (.iload_n 1, 1) := by decide +kernel
theorem xd_Ey_printed_69 : decode b_Ey_printed 69 = .ok (.iload 5, 2) := by decide +kernel
theorem xd_Ey_printed_71 : decode b_Ey_printed 71 = .ok (.isub, 1) := by decide +kernel
theorem xd_Ey_printed_72 : decode b_Ey_printed 72 = .ok (.iload 6, 2) := by decide +kernel
theorem xd_Ey_printed_74 : decode b_Ey_printed 74 = .ok (.iload_n 1, 1) := by decide +kernel
theorem xd_Ey_printed_75 : decode b_Ey_printed 75 = .ok (.isub, 1) := by decide +kernel
theorem xd_Ey_printed_76 : decode b_Ey_printed 76 = .ok (.if_icmp .gt 8, 3) := by decide +kernel
theorem xd_Ey_printed_79 : decode b_Ey_printed 79 = .ok (.iload 5, 2) := by decide +kernel
theorem xd_Ey_printed_81 : decode b_Ey_printed 81 = .ok (.goto 5, 3) := by decide +kernel
theorem xd_Ey_printed_84 : decode b_Ey_printed 84 = .ok (.iload 6, 2) := by decide +kernel
theorem xd_Ey_printed_86 : decode b_Ey_printed 86 = .ok (.ireturn, 1) := by decide +kernel
abbrev rm_Ey_printed : Room := { frames := 0, cells := 0, slots := 0, locals := 0 }
def xw_Ey_printed (g : Nat) (a1 : Int32) (M : xM) (post : Int32 → xM → Prop) : Prop :=
  xj (fun (J18_0 : Int32 → xM → Prop) => (((M g 1 1) ≤ (1 : Int32)) → (J18_0 (1 : Int32) M)) ∧ ((¬ (M g 1 1) ≤ (1 : Int32)) → (J18_0 ((M g 1 1) - (1 : Int32)) M))) (fun (v2 : Int32) (M3 : xM) => xj (fun (J39_3 : Int32 → xM → Prop) => ((v2 ≤ ((a1 * v2) / (255 : Int32))) → (J39_3 v2 M3)) ∧ ((¬ v2 ≤ ((a1 * v2) / (255 : Int32))) → (J39_3 (((a1 * v2) / (255 : Int32)) + (1 : Int32)) M3))) (fun (v5 : Int32) (M6 : xM) => (¬ v2 = 0) ∧ ((¬ v2 = 0) ∧ (((((((v5 * (255 : Int32)) + (v2 / (2 : Int32))) / v2) - a1) < (a1 - (((((a1 * v2) / (255 : Int32)) * (255 : Int32)) + (v2 / (2 : Int32))) / v2))) → (post (((v5 * (255 : Int32)) + (v2 / (2 : Int32))) / v2) M6)) ∧ ((¬ ((((v5 * (255 : Int32)) + (v2 / (2 : Int32))) / v2) - a1) < (a1 - (((((a1 * v2) / (255 : Int32)) * (255 : Int32)) + (v2 / (2 : Int32))) / v2))) → (post (((((a1 * v2) / (255 : Int32)) * (255 : Int32)) + (v2 / (2 : Int32))) / v2) M6))))))
set_option maxHeartbeats 4000000 in
set_option maxRecDepth 100000 in
theorem xc_Ey_printed (l : Launch) (G : xG) {g : Nat} {a1 : Int32} (hg : g < 4) {M : xM} {post : Int32 → xM → Prop} (h : xw_Ey_printed g a1 M post) : Met l y_Ey_printed (Cond.code y_Ey_printed b_Ey_printed 7 (some .int) :: xTG) rm_Ey_printed (xPre G M [.ref (G.1 g 1), .int a1]) (xPi G post) 0 0 (xA G) := by
  refine xMet (own := R_Ey) [.ref (G.1 g 1), .int a1] (Or.inl (by decide)) rfl (Nat.le_of_ble_eq_true rfl) (fun p e s m args below meth c ls hC hr hlk hR hS hl => ?_)
  have hx := hC.1
  have hb := hC.2.1
  have hl : lv_has ls 7 [(0, .ref (G.1 g 1)), (1, .int a1)] := hl
  obtain ⟨H, eH⟩ : ∃ H : Heap, H = s.heap := ⟨_, rfl⟩
  obtain ⟨locs, eL⟩ : ∃ locs : List Loc, locs = [] := ⟨_, rfl⟩
  rw [← eH] at hR
  replace hS : va_S (xA G) s.heap H locs := by rw [eH, eL]; exact hS
  suffices hh : W p l e rm_Ey_printed s m args below meth c H locs 0 0 (MQ below (xPi G post) args s 0 0 (xA G)) (F0 m 0 ls []) from by rw [eH, eL] at hh; exact hh
  unfold xw_Ey_printed at h
  refine lv_aload_n (pc := 0) hx hb xd_Ey_printed_0 rfl (lv_at hl 0 rfl) ?_
  refine xr_get (pc := 1) (v := .int (M g 1 1)) hC hR (xo_K1 hg) xf_Ey_15 rfl xd_Ey_printed_1 ?_
  refine lv_iconst (pc := 4) (v := (1 : Int32)) hx hb xd_Ey_printed_4 (by decide) ?_
  obtain ⟨J18_0, eJ18_0, h⟩ := xj_open h
  have kJ18_0 : ∀ (v2 : Int32) (M3 : xM) (H : Heap) (locs : List Loc) (ls : Array Slot), J18_0 v2 M3 → xRp G M3 H → va_S (xA G) s.heap H locs → lv_has ls 7 [(1, .int a1)] → W p l e rm_Ey_printed s m args below meth c H locs 0 0 (MQ below (xPi G post) args s 0 0 (xA G)) (F0 m 18 ls [.int v2]) := by
    intro v2 M3 H locs ls h hR hS hl
    rw [eJ18_0] at h
    refine lv_istore_n (pc := 18) (lv' := [(2, .int v2), (1, .int a1)]) hx hb xd_Ey_printed_18 rfl hl (by decide) rfl (fun ls hl => ?_)
    refine lv_iload_n (pc := 19) hx hb xd_Ey_printed_19 rfl (lv_at hl 1 rfl) ?_
    refine lv_iload_n (pc := 20) hx hb xd_Ey_printed_20 rfl (lv_at hl 0 rfl) ?_
    refine lv_imul (pc := 21) hx hb xd_Ey_printed_21 ?_
    refine lv_sipush (pc := 22) (v := (255 : Int32)) hx hb xd_Ey_printed_22 (by decide) ?_
    refine lv_idiv (pc := 25) hx hb xd_Ey_printed_25 (by decide) ?_
    refine lv_istore_n (pc := 26) (lv' := [(3, .int ((a1 * v2) / (255 : Int32))), (2, .int v2), (1, .int a1)]) hx hb xd_Ey_printed_26 rfl hl (by decide) rfl (fun ls hl => ?_)
    refine lv_iload_n (pc := 27) hx hb xd_Ey_printed_27 rfl (lv_at hl 0 rfl) ?_
    refine lv_iload_n (pc := 28) hx hb xd_Ey_printed_28 rfl (lv_at hl 1 rfl) ?_
    obtain ⟨J39_3, eJ39_3, h⟩ := xj_open h
    have kJ39_3 : ∀ (v5 : Int32) (M6 : xM) (H : Heap) (locs : List Loc) (ls : Array Slot), J39_3 v5 M6 → xRp G M6 H → va_S (xA G) s.heap H locs → lv_has ls 7 [(1, .int a1), (2, .int v2), (3, .int ((a1 * v2) / (255 : Int32)))] → W p l e rm_Ey_printed s m args below meth c H locs 0 0 (MQ below (xPi G post) args s 0 0 (xA G)) (F0 m 39 ls [.int v5]) := by
      intro v5 M6 H locs ls h hR hS hl
      rw [eJ39_3] at h
      refine lv_istore (pc := 39) (lv' := [(4, .int v5), (1, .int a1), (2, .int v2), (3, .int ((a1 * v2) / (255 : Int32)))]) hx hb xd_Ey_printed_39 hl (by decide) rfl (fun ls hl => ?_)
      refine lv_iload_n (pc := 41) hx hb xd_Ey_printed_41 rfl (lv_at hl 3 rfl) ?_
      refine lv_sipush (pc := 42) (v := (255 : Int32)) hx hb xd_Ey_printed_42 (by decide) ?_
      refine lv_imul (pc := 45) hx hb xd_Ey_printed_45 ?_
      refine lv_iload_n (pc := 46) hx hb xd_Ey_printed_46 rfl (lv_at hl 2 rfl) ?_
      refine lv_iconst (pc := 47) (v := (2 : Int32)) hx hb xd_Ey_printed_47 (by decide) ?_
      refine lv_idiv (pc := 48) hx hb xd_Ey_printed_48 (by decide) ?_
      refine lv_iadd (pc := 49) hx hb xd_Ey_printed_49 ?_
      refine lv_iload_n (pc := 50) hx hb xd_Ey_printed_50 rfl (lv_at hl 2 rfl) ?_
      obtain ⟨hq, h⟩ := h
      refine lv_idiv (pc := 51) hx hb xd_Ey_printed_51 hq ?_
      refine lv_istore (pc := 52) (lv' := [(5, .int (((((a1 * v2) / (255 : Int32)) * (255 : Int32)) + (v2 / (2 : Int32))) / v2)), (4, .int v5), (1, .int a1), (2, .int v2), (3, .int ((a1 * v2) / (255 : Int32)))]) hx hb xd_Ey_printed_52 hl (by decide) rfl (fun ls hl => ?_)
      refine lv_iload (pc := 54) hx hb xd_Ey_printed_54 (lv_at hl 1 rfl) ?_
      refine lv_sipush (pc := 56) (v := (255 : Int32)) hx hb xd_Ey_printed_56 (by decide) ?_
      refine lv_imul (pc := 59) hx hb xd_Ey_printed_59 ?_
      refine lv_iload_n (pc := 60) hx hb xd_Ey_printed_60 rfl (lv_at hl 3 rfl) ?_
      refine lv_iconst (pc := 61) (v := (2 : Int32)) hx hb xd_Ey_printed_61 (by decide) ?_
      refine lv_idiv (pc := 62) hx hb xd_Ey_printed_62 (by decide) ?_
      refine lv_iadd (pc := 63) hx hb xd_Ey_printed_63 ?_
      refine lv_iload_n (pc := 64) hx hb xd_Ey_printed_64 rfl (lv_at hl 3 rfl) ?_
      obtain ⟨hq, h⟩ := h
      refine lv_idiv (pc := 65) hx hb xd_Ey_printed_65 hq ?_
      refine lv_istore (pc := 66) (lv' := [(6, .int (((v5 * (255 : Int32)) + (v2 / (2 : Int32))) / v2)), (5, .int (((((a1 * v2) / (255 : Int32)) * (255 : Int32)) + (v2 / (2 : Int32))) / v2)), (4, .int v5), (1, .int a1), (2, .int v2), (3, .int ((a1 * v2) / (255 : Int32)))]) hx hb xd_Ey_printed_66 hl (by decide) rfl (fun ls hl => ?_)
      refine lv_iload_n (pc := 68) hx hb xd_Ey_printed_68 rfl (lv_at hl 3 rfl) ?_
      refine lv_iload (pc := 69) hx hb xd_Ey_printed_69 (lv_at hl 1 rfl) ?_
      refine lv_isub (pc := 71) hx hb xd_Ey_printed_71 ?_
      refine lv_iload (pc := 72) hx hb xd_Ey_printed_72 (lv_at hl 0 rfl) ?_
      refine lv_iload_n (pc := 74) hx hb xd_Ey_printed_74 rfl (lv_at hl 3 rfl) ?_
      refine lv_isub (pc := 75) hx hb xd_Ey_printed_75 ?_
      refine lv_icmp_gt (pc := 76) (tgt := 84) hx hb xd_Ey_printed_76 (by decide) (fun hq => ?_) (fun hq => ?_)
      · have h := h.1 hq
        refine lv_iload (pc := 84) hx hb xd_Ey_printed_84 (lv_at hl 0 rfl) ?_
        exact xr_iret hC hr hlk hR hS h xd_Ey_printed_86
      · have h := h.2 hq
        refine lv_iload (pc := 79) hx hb xd_Ey_printed_79 (lv_at hl 1 rfl) ?_
        refine lv_goto (pc := 81) (tgt := 86) hx hb xd_Ey_printed_81 (by decide) ?_
        exact xr_iret hC hr hlk hR hS h xd_Ey_printed_86
    refine lv_icmp_ge (pc := 29) (tgt := 38) hx hb xd_Ey_printed_29 (by decide) (fun hq => ?_) (fun hq => ?_)
    · have h := h.1 hq
      refine lv_iload_n (pc := 38) hx hb xd_Ey_printed_38 rfl (lv_at hl 1 rfl) ?_
      exact kJ39_3 v2 M3 H locs ls h hR hS (lv_sub hl [2, 1, 0] rfl)
    · have h := h.2 hq
      refine lv_iload_n (pc := 32) hx hb xd_Ey_printed_32 rfl (lv_at hl 0 rfl) ?_
      refine lv_iconst (pc := 33) (v := (1 : Int32)) hx hb xd_Ey_printed_33 (by decide) ?_
      refine lv_iadd (pc := 34) hx hb xd_Ey_printed_34 ?_
      refine lv_goto (pc := 35) (tgt := 39) hx hb xd_Ey_printed_35 (by decide) ?_
      exact kJ39_3 (((a1 * v2) / (255 : Int32)) + (1 : Int32)) M3 H locs ls h hR hS (lv_sub hl [2, 1, 0] rfl)
  refine lv_icmp_le (pc := 5) (tgt := 17) hx hb xd_Ey_printed_5 (by decide) (fun hq => ?_) (fun hq => ?_)
  · have h := h.1 hq
    refine lv_iconst (pc := 17) (v := (1 : Int32)) hx hb xd_Ey_printed_17 (by decide) ?_
    exact kJ18_0 (1 : Int32) M H locs ls h hR hS (lv_sub hl [1] rfl)
  · have h := h.2 hq
    refine lv_aload_n (pc := 8) hx hb xd_Ey_printed_8 rfl (lv_at hl 0 rfl) ?_
    refine xr_get (pc := 9) (v := .int (M g 1 1)) hC hR (xo_K1 hg) xf_Ey_15 rfl xd_Ey_printed_9 ?_
    refine lv_iconst (pc := 12) (v := (1 : Int32)) hx hb xd_Ey_printed_12 (by decide) ?_
    refine lv_isub (pc := 13) hx hb xd_Ey_printed_13 ?_
    refine lv_goto (pc := 14) (tgt := 18) hx hb xd_Ey_printed_14 (by decide) ?_
    exact kJ18_0 ((M g 1 1) - (1 : Int32)) M H locs ls h hR hS (lv_sub hl [1] rfl)

/-! ColoursApart$Eyes.look(II)I -/
theorem xd_Ey_look_0 : decode b_Ey_look 0 = .ok (.iload_n 1, 1) := by decide +kernel
theorem xd_Ey_look_1 : decode b_Ey_look 1 = .ok (.iconst 1, 1) := by decide +kernel
theorem xd_Ey_look_2 : decode b_Ey_look 2 = .ok (.if_icmp .lt 42, 3) := by decide +kernel
theorem xd_Ey_look_5 : decode b_Ey_look 5 = .ok (.iload_n 1, 1) := by decide +kernel
theorem xd_Ey_look_6 : decode b_Ey_look 6 = .ok (.iconst 3, 1) := by decide +kernel
theorem xd_Ey_look_7 : decode b_Ey_look 7 = .ok (.if_icmp .gt 37, 3) := by decide +kernel
theorem xd_Ey_look_10 : decode b_Ey_look 10 = .ok (.iload_n 1, 1) := by decide +kernel
theorem xd_Ey_look_11 : decode b_Ey_look 11 = .ok (.iconst 1, 1) := by decide +kernel
theorem xd_Ey_look_12 : decode b_Ey_look 12 = .ok (.isub, 1) := by decide +kernel
theorem xd_Ey_look_13 : decode b_Ey_look 13 = .ok (.bipush 9, 2) := by decide +kernel
theorem xd_Ey_look_15 : decode b_Ey_look 15 = .ok (.imul, 1) := by decide +kernel
theorem xd_Ey_look_16 : decode b_Ey_look 16 = .ok (.istore_n 3, 1) := by decide +kernel
theorem xd_Ey_look_17 : decode b_Ey_look 17 = .ok (.aload_n 0, 1) := by decide +kernel
theorem xd_Ey_look_18 : decode b_Ey_look 18 = .ok (.iload_n 3, 1) := by decide +kernel
theorem xd_Ey_look_19 : decode b_Ey_look 19 = .ok (.iload_n 2, 1) := by decide +kernel
theorem xd_Ey_look_20 : decode b_Ey_look 20 = .ok (.invokevirtual 43, 3) := by decide +kernel
theorem xd_Ey_look_23 : decode b_Ey_look 23 = .ok (.aload_n 0, 1) := by decide +kernel
theorem xd_Ey_look_24 : decode b_Ey_look 24 = .ok (.iload_n 3, 1) := by decide +kernel
theorem xd_Ey_look_25 : decode b_Ey_look 25 = .ok (.iconst 3, 1) := by decide +kernel
theorem xd_Ey_look_26 : decode b_Ey_look 26 = .ok (.iadd, 1) := by decide +kernel
theorem xd_Ey_look_27 : decode b_Ey_look 27 = .ok (.iload_n 2, 1) := by decide +kernel
theorem xd_Ey_look_28 : decode b_Ey_look 28 = .ok (.invokevirtual 43, 3) := by decide +kernel
theorem xd_Ey_look_31 : decode b_Ey_look 31 = .ok (.aload_n 0, 1) := by decide +kernel
theorem xd_Ey_look_32 : decode b_Ey_look 32 = .ok (.iload_n 3, 1) := by decide +kernel
theorem xd_Ey_look_33 : decode b_Ey_look 33 = .ok (.bipush 6, 2) := by decide +kernel
theorem xd_Ey_look_35 : decode b_Ey_look 35 = .ok (.iadd, 1) := by decide +kernel
theorem xd_Ey_look_36 : decode b_Ey_look 36 = .ok (.iload_n 2, 1) := by decide +kernel
theorem xd_Ey_look_37 : decode b_Ey_look 37 = .ok (.invokevirtual 43, 3) := by decide +kernel
theorem xd_Ey_look_40 : decode b_Ey_look 40 = .ok (.invokestatic 47, 3) := by decide +kernel
theorem xd_Ey_look_43 : decode b_Ey_look 43 = .ok (.ireturn, 1) := by decide +kernel
theorem xd_Ey_look_44 : decode b_Ey_look 44 = .ok (.iload_n 1, 1) := by decide +kernel
theorem xd_Ey_look_45 : decode b_Ey_look 45 = .ok (.iconst 4, 1) := by decide +kernel
theorem xd_Ey_look_46 : decode b_Ey_look 46 = .ok (.if_icmp .ne 15, 3) := by decide +kernel
theorem xd_Ey_look_49 : decode b_Ey_look 49 = .ok (.iload_n 2, 1) := by decide +kernel
theorem xd_Ey_look_50 : decode b_Ey_look 50 = .ok (.invokestatic 53, 3) := by decide +kernel
theorem xd_Ey_look_53 : decode b_Ey_look 53 = .ok (.istore_n 3, 1) := by decide +kernel
theorem xd_Ey_look_54 : decode b_Ey_look 54 = .ok (.iload_n 3, 1) := by decide +kernel
theorem xd_Ey_look_55 : decode b_Ey_look 55 = .ok (.iload_n 3, 1) := by decide +kernel
theorem xd_Ey_look_56 : decode b_Ey_look 56 = .ok (.iload_n 3, 1) := by decide +kernel
theorem xd_Ey_look_57 : decode b_Ey_look 57 = .ok (.invokestatic 47, 3) := by decide +kernel
theorem xd_Ey_look_60 : decode b_Ey_look 60 = .ok (.ireturn, 1) := by decide +kernel
theorem xd_Ey_look_61 : decode b_Ey_look 61 = .ok (.iload_n 1, 1) := by decide +kernel
theorem xd_Ey_look_62 : decode b_Ey_look 62 = .ok (.iconst 5, 1) := by decide +kernel
theorem xd_Ey_look_63 : decode b_Ey_look 63 = .ok (.if_icmp .ne 31, 3) := by decide +kernel
theorem xd_Ey_look_66 : decode b_Ey_look 66 = .ok (.aload_n 0, 1) := by decide +kernel
theorem xd_Ey_look_67 : decode b_Ey_look 67 = .ok (.iload_n 2, 1) := by decide +kernel
theorem xd_Ey_look_68 : decode b_Ey_look 68 = .ok (.invokestatic 56, 3) := by decide +kernel
theorem xd_Ey_look_71 : decode b_Ey_look 71 = .ok (.invokevirtual 59, 3) := by decide +kernel
theorem xd_Ey_look_74 : decode b_Ey_look 74 = .ok (.aload_n 0, 1) := by decide +kernel
theorem xd_Ey_look_75 : decode b_Ey_look 75 = .ok (.iload_n 2, 1) := by decide +kernel
theorem xd_Ey_look_76 : decode b_Ey_look 76 = .ok (.invokestatic 62, 3) := by decide +kernel
theorem xd_Ey_look_79 : decode b_Ey_look 79 = .ok (.invokevirtual 59, 3) := by decide +kernel
theorem xd_Ey_look_82 : decode b_Ey_look 82 = .ok (.aload_n 0, 1) := by decide +kernel
theorem xd_Ey_look_83 : decode b_Ey_look 83 = .ok (.iload_n 2, 1) := by decide +kernel
theorem xd_Ey_look_84 : decode b_Ey_look 84 = .ok (.invokestatic 65, 3) := by decide +kernel
theorem xd_Ey_look_87 : decode b_Ey_look 87 = .ok (.invokevirtual 59, 3) := by decide +kernel
theorem xd_Ey_look_90 : decode b_Ey_look 90 = .ok (.invokestatic 47, 3) := by decide +kernel
theorem xd_Ey_look_93 : decode b_Ey_look 93 = .ok (.ireturn, 1) := by decide +kernel
theorem xd_Ey_look_94 : decode b_Ey_look 94 = .ok (.iload_n 2, 1) := by decide +kernel
theorem xd_Ey_look_95 : decode b_Ey_look 95 = .ok (.ireturn, 1) := by decide +kernel
abbrev rm_Ey_look : Room := { frames := 2, cells := 0, slots := 0, locals := 47 }
def xw_Ey_look (g : Nat) (a1 : Int32) (a2 : Int32) (M : xM) (post : Int32 → xM → Prop) : Prop :=
  xj (fun (J44_0 : xM → Prop) => ((a1 < (1 : Int32)) → (J44_0  M)) ∧ ((¬ a1 < (1 : Int32)) → ((((3 : Int32) < a1) → (J44_0  M)) ∧ ((¬ (3 : Int32) < a1) → (xw_Ey_weakened g ((a1 - (1 : Int32)) * (9 : Int32)) a2 M (fun (r22 : Int32) (M21 : xM) => xw_Ey_weakened g (((a1 - (1 : Int32)) * (9 : Int32)) + (3 : Int32)) a2 M21 (fun (r24 : Int32) (M23 : xM) => xw_Ey_weakened g (((a1 - (1 : Int32)) * (9 : Int32)) + (6 : Int32)) a2 M23 (fun (r26 : Int32) (M25 : xM) => xw_Rg_joined r22 r24 r26 M25 (fun (r28 : Int32) (M27 : xM) => post r28 M27))))))))) (fun (M2 : xM) => ((¬ a1 = (4 : Int32)) → (((¬ a1 = (5 : Int32)) → (post a2 M2)) ∧ ((a1 = (5 : Int32)) → (xw_Rg_red a2 M2 (fun (r4 : Int32) (M3 : xM) => xw_Ey_printed g r4 M3 (fun (r6 : Int32) (M5 : xM) => xw_Rg_green a2 M5 (fun (r8 : Int32) (M7 : xM) => xw_Ey_printed g r8 M7 (fun (r10 : Int32) (M9 : xM) => xw_Rg_blue a2 M9 (fun (r12 : Int32) (M11 : xM) => xw_Ey_printed g r12 M11 (fun (r14 : Int32) (M13 : xM) => xw_Rg_joined r6 r10 r14 M13 (fun (r16 : Int32) (M15 : xM) => post r16 M15))))))))))) ∧ ((a1 = (4 : Int32)) → (xw_Rg_lightOf a2 M2 (fun (r18 : Int32) (M17 : xM) => xw_Rg_joined r18 r18 r18 M17 (fun (r20 : Int32) (M19 : xM) => post r20 M19)))))
set_option maxHeartbeats 4000000 in
set_option maxRecDepth 100000 in
theorem xc_Ey_look (l : Launch) (G : xG) {g : Nat} {a1 : Int32} {a2 : Int32} (hg : g < 4) {M : xM} {post : Int32 → xM → Prop} (h : xw_Ey_look g a1 a2 M post) : Met l y_Ey_look (Cond.code y_Ey_look b_Ey_look 4 (some .int) :: xTG) rm_Ey_look (xPre G M [.ref (G.1 g 1), .int a1, .int a2]) (xPi G post) 0 0 (xA G) := by
  refine xMet (own := R_Ey) [.ref (G.1 g 1), .int a1, .int a2] (Or.inl (by decide)) rfl (Nat.le_of_ble_eq_true rfl) (fun p e s m args below meth c ls hC hr hlk hR hS hl => ?_)
  have hx := hC.1
  have hb := hC.2.1
  have hl : lv_has ls 4 [(0, .ref (G.1 g 1)), (1, .int a1), (2, .int a2)] := hl
  obtain ⟨H, eH⟩ : ∃ H : Heap, H = s.heap := ⟨_, rfl⟩
  obtain ⟨locs, eL⟩ : ∃ locs : List Loc, locs = [] := ⟨_, rfl⟩
  rw [← eH] at hR
  replace hS : va_S (xA G) s.heap H locs := by rw [eH, eL]; exact hS
  suffices hh : W p l e rm_Ey_look s m args below meth c H locs 0 0 (MQ below (xPi G post) args s 0 0 (xA G)) (F0 m 0 ls []) from by rw [eH, eL] at hh; exact hh
  unfold xw_Ey_look at h
  refine lv_iload_n (pc := 0) hx hb xd_Ey_look_0 rfl (lv_at hl 1 rfl) ?_
  refine lv_iconst (pc := 1) (v := (1 : Int32)) hx hb xd_Ey_look_1 (by decide) ?_
  obtain ⟨J44_0, eJ44_0, h⟩ := xj_open h
  have kJ44_0 : ∀ (M2 : xM) (H : Heap) (locs : List Loc) (ls : Array Slot), J44_0 M2 → xRp G M2 H → va_S (xA G) s.heap H locs → lv_has ls 4 [(0, .ref (G.1 g 1)), (1, .int a1), (2, .int a2)] → W p l e rm_Ey_look s m args below meth c H locs 0 0 (MQ below (xPi G post) args s 0 0 (xA G)) (F0 m 44 ls []) := by
    intro M2 H locs ls h hR hS hl
    rw [eJ44_0] at h
    refine lv_iload_n (pc := 44) hx hb xd_Ey_look_44 rfl (lv_at hl 1 rfl) ?_
    refine lv_iconst (pc := 45) (v := (4 : Int32)) hx hb xd_Ey_look_45 (by decide) ?_
    refine lv_icmp_ne (pc := 46) (tgt := 61) hx hb xd_Ey_look_46 (by decide) (fun hq => ?_) (fun hq => ?_)
    · have h := h.1 hq
      refine lv_iload_n (pc := 61) hx hb xd_Ey_look_61 rfl (lv_at hl 1 rfl) ?_
      refine lv_iconst (pc := 62) (v := (5 : Int32)) hx hb xd_Ey_look_62 (by decide) ?_
      refine lv_icmp_ne (pc := 63) (tgt := 94) hx hb xd_Ey_look_63 (by decide) (fun hq => ?_) (fun hq => ?_)
      · have h := h.1 hq
        refine lv_iload_n (pc := 94) hx hb xd_Ey_look_94 rfl (lv_at hl 2 rfl) ?_
        exact xr_iret hC hr hlk hR hS h xd_Ey_look_95
      · have h := h.2 hq
        refine lv_aload_n (pc := 66) hx hb xd_Ey_look_66 rfl (lv_at hl 0 rfl) ?_
        refine lv_iload_n (pc := 67) hx hb xd_Ey_look_67 rfl (lv_at hl 2 rfl) ?_
        refine xr_callS (pc := 68) (As := [.int a2]) (rest := [.ref (G.1 g 1)]) hC hR hS (xc_Rg_red l G  h) xv_Ey_56 ⟨rfl, rfl, Nat.le_of_ble_eq_true rfl, Nat.le_of_ble_eq_true rfl⟩ rfl hl.1 rfl (Nat.le_of_ble_eq_true rfl) xd_Ey_look_68 (fun r4 M3 H locs h hR hS => ?_)
        refine xr_callV (pc := 71) (As := [.int r4]) (rest := []) hC hR hS (xc_Ey_printed l G hg h) (xo_K1 hg) xv_Ey_59 ⟨rfl, rfl, Nat.le_of_ble_eq_true rfl, Nat.le_of_ble_eq_true rfl⟩ rfl hl.1 rfl (Nat.le_of_ble_eq_true rfl) xd_Ey_look_71 (fun r6 M5 H locs h hR hS => ?_)
        refine lv_aload_n (pc := 74) hx hb xd_Ey_look_74 rfl (lv_at hl 0 rfl) ?_
        refine lv_iload_n (pc := 75) hx hb xd_Ey_look_75 rfl (lv_at hl 2 rfl) ?_
        refine xr_callS (pc := 76) (As := [.int a2]) (rest := [.ref (G.1 g 1), .int r6]) hC hR hS (xc_Rg_green l G  h) xv_Ey_62 ⟨rfl, rfl, Nat.le_of_ble_eq_true rfl, Nat.le_of_ble_eq_true rfl⟩ rfl hl.1 rfl (Nat.le_of_ble_eq_true rfl) xd_Ey_look_76 (fun r8 M7 H locs h hR hS => ?_)
        refine xr_callV (pc := 79) (As := [.int r8]) (rest := [.int r6]) hC hR hS (xc_Ey_printed l G hg h) (xo_K1 hg) xv_Ey_59 ⟨rfl, rfl, Nat.le_of_ble_eq_true rfl, Nat.le_of_ble_eq_true rfl⟩ rfl hl.1 rfl (Nat.le_of_ble_eq_true rfl) xd_Ey_look_79 (fun r10 M9 H locs h hR hS => ?_)
        refine lv_aload_n (pc := 82) hx hb xd_Ey_look_82 rfl (lv_at hl 0 rfl) ?_
        refine lv_iload_n (pc := 83) hx hb xd_Ey_look_83 rfl (lv_at hl 2 rfl) ?_
        refine xr_callS (pc := 84) (As := [.int a2]) (rest := [.ref (G.1 g 1), .int r10, .int r6]) hC hR hS (xc_Rg_blue l G  h) xv_Ey_65 ⟨rfl, rfl, Nat.le_of_ble_eq_true rfl, Nat.le_of_ble_eq_true rfl⟩ rfl hl.1 rfl (Nat.le_of_ble_eq_true rfl) xd_Ey_look_84 (fun r12 M11 H locs h hR hS => ?_)
        refine xr_callV (pc := 87) (As := [.int r12]) (rest := [.int r10, .int r6]) hC hR hS (xc_Ey_printed l G hg h) (xo_K1 hg) xv_Ey_59 ⟨rfl, rfl, Nat.le_of_ble_eq_true rfl, Nat.le_of_ble_eq_true rfl⟩ rfl hl.1 rfl (Nat.le_of_ble_eq_true rfl) xd_Ey_look_87 (fun r14 M13 H locs h hR hS => ?_)
        refine xr_callS (pc := 90) (As := [.int r6, .int r10, .int r14]) (rest := []) hC hR hS (xc_Rg_joined l G  h) xv_Ey_47 ⟨rfl, rfl, Nat.le_of_ble_eq_true rfl, Nat.le_of_ble_eq_true rfl⟩ rfl hl.1 rfl (Nat.le_of_ble_eq_true rfl) xd_Ey_look_90 (fun r16 M15 H locs h hR hS => ?_)
        exact xr_iret hC hr hlk hR hS h xd_Ey_look_93
    · have h := h.2 hq
      refine lv_iload_n (pc := 49) hx hb xd_Ey_look_49 rfl (lv_at hl 2 rfl) ?_
      refine xr_callS (pc := 50) (As := [.int a2]) (rest := []) hC hR hS (xc_Rg_lightOf l G  h) xv_Ey_53 ⟨rfl, rfl, Nat.le_of_ble_eq_true rfl, Nat.le_of_ble_eq_true rfl⟩ rfl hl.1 rfl (Nat.le_of_ble_eq_true rfl) xd_Ey_look_50 (fun r18 M17 H locs h hR hS => ?_)
      refine lv_istore_n (pc := 53) (lv' := [(3, .int r18), (0, .ref (G.1 g 1)), (1, .int a1), (2, .int a2)]) hx hb xd_Ey_look_53 rfl hl (by decide) rfl (fun ls hl => ?_)
      refine lv_iload_n (pc := 54) hx hb xd_Ey_look_54 rfl (lv_at hl 0 rfl) ?_
      refine lv_iload_n (pc := 55) hx hb xd_Ey_look_55 rfl (lv_at hl 0 rfl) ?_
      refine lv_iload_n (pc := 56) hx hb xd_Ey_look_56 rfl (lv_at hl 0 rfl) ?_
      refine xr_callS (pc := 57) (As := [.int r18, .int r18, .int r18]) (rest := []) hC hR hS (xc_Rg_joined l G  h) xv_Ey_47 ⟨rfl, rfl, Nat.le_of_ble_eq_true rfl, Nat.le_of_ble_eq_true rfl⟩ rfl hl.1 rfl (Nat.le_of_ble_eq_true rfl) xd_Ey_look_57 (fun r20 M19 H locs h hR hS => ?_)
      exact xr_iret hC hr hlk hR hS h xd_Ey_look_60
  refine lv_icmp_lt (pc := 2) (tgt := 44) hx hb xd_Ey_look_2 (by decide) (fun hq => ?_) (fun hq => ?_)
  · have h := h.1 hq
    exact kJ44_0  M H locs ls h hR hS (lv_sub hl [0, 1, 2] rfl)
  · have h := h.2 hq
    refine lv_iload_n (pc := 5) hx hb xd_Ey_look_5 rfl (lv_at hl 1 rfl) ?_
    refine lv_iconst (pc := 6) (v := (3 : Int32)) hx hb xd_Ey_look_6 (by decide) ?_
    refine lv_icmp_gt (pc := 7) (tgt := 44) hx hb xd_Ey_look_7 (by decide) (fun hq => ?_) (fun hq => ?_)
    · have h := h.1 hq
      exact kJ44_0  M H locs ls h hR hS (lv_sub hl [0, 1, 2] rfl)
    · have h := h.2 hq
      refine lv_iload_n (pc := 10) hx hb xd_Ey_look_10 rfl (lv_at hl 1 rfl) ?_
      refine lv_iconst (pc := 11) (v := (1 : Int32)) hx hb xd_Ey_look_11 (by decide) ?_
      refine lv_isub (pc := 12) hx hb xd_Ey_look_12 ?_
      refine lv_bipush (pc := 13) (v := (9 : Int32)) hx hb xd_Ey_look_13 (by decide) ?_
      refine lv_imul (pc := 15) hx hb xd_Ey_look_15 ?_
      refine lv_istore_n (pc := 16) (lv' := [(3, .int ((a1 - (1 : Int32)) * (9 : Int32))), (0, .ref (G.1 g 1)), (1, .int a1), (2, .int a2)]) hx hb xd_Ey_look_16 rfl hl (by decide) rfl (fun ls hl => ?_)
      refine lv_aload_n (pc := 17) hx hb xd_Ey_look_17 rfl (lv_at hl 1 rfl) ?_
      refine lv_iload_n (pc := 18) hx hb xd_Ey_look_18 rfl (lv_at hl 0 rfl) ?_
      refine lv_iload_n (pc := 19) hx hb xd_Ey_look_19 rfl (lv_at hl 3 rfl) ?_
      refine xr_callV (pc := 20) (As := [.int ((a1 - (1 : Int32)) * (9 : Int32)), .int a2]) (rest := []) hC hR hS (xc_Ey_weakened l G hg h) (xo_K1 hg) xv_Ey_43 ⟨rfl, rfl, Nat.le_of_ble_eq_true rfl, Nat.le_of_ble_eq_true rfl⟩ rfl hl.1 rfl (Nat.le_of_ble_eq_true rfl) xd_Ey_look_20 (fun r22 M21 H locs h hR hS => ?_)
      refine lv_aload_n (pc := 23) hx hb xd_Ey_look_23 rfl (lv_at hl 1 rfl) ?_
      refine lv_iload_n (pc := 24) hx hb xd_Ey_look_24 rfl (lv_at hl 0 rfl) ?_
      refine lv_iconst (pc := 25) (v := (3 : Int32)) hx hb xd_Ey_look_25 (by decide) ?_
      refine lv_iadd (pc := 26) hx hb xd_Ey_look_26 ?_
      refine lv_iload_n (pc := 27) hx hb xd_Ey_look_27 rfl (lv_at hl 3 rfl) ?_
      refine xr_callV (pc := 28) (As := [.int (((a1 - (1 : Int32)) * (9 : Int32)) + (3 : Int32)), .int a2]) (rest := [.int r22]) hC hR hS (xc_Ey_weakened l G hg h) (xo_K1 hg) xv_Ey_43 ⟨rfl, rfl, Nat.le_of_ble_eq_true rfl, Nat.le_of_ble_eq_true rfl⟩ rfl hl.1 rfl (Nat.le_of_ble_eq_true rfl) xd_Ey_look_28 (fun r24 M23 H locs h hR hS => ?_)
      refine lv_aload_n (pc := 31) hx hb xd_Ey_look_31 rfl (lv_at hl 1 rfl) ?_
      refine lv_iload_n (pc := 32) hx hb xd_Ey_look_32 rfl (lv_at hl 0 rfl) ?_
      refine lv_bipush (pc := 33) (v := (6 : Int32)) hx hb xd_Ey_look_33 (by decide) ?_
      refine lv_iadd (pc := 35) hx hb xd_Ey_look_35 ?_
      refine lv_iload_n (pc := 36) hx hb xd_Ey_look_36 rfl (lv_at hl 3 rfl) ?_
      refine xr_callV (pc := 37) (As := [.int (((a1 - (1 : Int32)) * (9 : Int32)) + (6 : Int32)), .int a2]) (rest := [.int r24, .int r22]) hC hR hS (xc_Ey_weakened l G hg h) (xo_K1 hg) xv_Ey_43 ⟨rfl, rfl, Nat.le_of_ble_eq_true rfl, Nat.le_of_ble_eq_true rfl⟩ rfl hl.1 rfl (Nat.le_of_ble_eq_true rfl) xd_Ey_look_37 (fun r26 M25 H locs h hR hS => ?_)
      refine xr_callS (pc := 40) (As := [.int r22, .int r24, .int r26]) (rest := []) hC hR hS (xc_Rg_joined l G  h) xv_Ey_47 ⟨rfl, rfl, Nat.le_of_ble_eq_true rfl, Nat.le_of_ble_eq_true rfl⟩ rfl hl.1 rfl (Nat.le_of_ble_eq_true rfl) xd_Ey_look_40 (fun r28 M27 H locs h hR hS => ?_)
      exact xr_iret hC hr hlk hR hS h xd_Ey_look_43
