/-! ColoursApart$Eyes.leastDistance(II)I -/
theorem xd_Ey_leastDistance_0 : decode b_Ey_leastDistance 0 = .ok (.ldc 79, 2) := by decide +kernel
theorem xd_Ey_leastDistance_2 : decode b_Ey_leastDistance 2 = .ok (.istore_n 3, 1) := by decide +kernel
theorem xd_Ey_leastDistance_3 : decode b_Ey_leastDistance 3 = .ok (.iconst 0, 1) := by decide +kernel
theorem xd_Ey_leastDistance_4 : decode b_Ey_leastDistance 4 = .ok (.istore 4, 2) := by decide +kernel
theorem xd_Ey_leastDistance_6 : decode b_Ey_leastDistance 6 = .ok (.iload 4, 2) := by decide +kernel
theorem xd_Ey_leastDistance_8 : decode b_Ey_leastDistance 8 = .ok (.bipush 6, 2) := by decide +kernel
theorem xd_Ey_leastDistance_10 : decode b_Ey_leastDistance 10 = .ok (.if_icmp .ge 41, 3) := by decide +kernel
theorem xd_Ey_leastDistance_13 : decode b_Ey_leastDistance 13 = .ok (.aload_n 0, 1) := by decide +kernel
theorem xd_Ey_leastDistance_14 : decode b_Ey_leastDistance 14 = .ok (.iload 4, 2) := by decide +kernel
theorem xd_Ey_leastDistance_16 : decode b_Ey_leastDistance 16 = .ok (.invokevirtual 80, 3) := by decide +kernel
theorem xd_Ey_leastDistance_19 : decode b_Ey_leastDistance 19 = .ok (.ifCond .eq 26, 3) := by decide +kernel
theorem xd_Ey_leastDistance_22 : decode b_Ey_leastDistance 22 = .ok (.iload_n 3, 1) := by decide +kernel
theorem xd_Ey_leastDistance_23 : decode b_Ey_leastDistance 23 = .ok (.aload_n 0, 1) := by decide +kernel
theorem xd_Ey_leastDistance_24 : decode b_Ey_leastDistance 24 = .ok (.aload_n 0, 1) := by decide +kernel
theorem xd_Ey_leastDistance_25 : decode b_Ey_leastDistance 25 = .ok (.iload 4, 2) := by decide +kernel
theorem xd_Ey_leastDistance_27 : decode b_Ey_leastDistance 27 = .ok (.iload_n 1, 1) := by decide +kernel
theorem xd_Ey_leastDistance_28 : decode b_Ey_leastDistance 28 = .ok (.invokevirtual 84, 3) := by decide +kernel
theorem xd_Ey_leastDistance_31 : decode b_Ey_leastDistance 31 = .ok (.aload_n 0, 1) := by decide +kernel
theorem xd_Ey_leastDistance_32 : decode b_Ey_leastDistance 32 = .ok (.iload 4, 2) := by decide +kernel
theorem xd_Ey_leastDistance_34 : decode b_Ey_leastDistance 34 = .ok (.iload_n 2, 1) := by decide +kernel
theorem xd_Ey_leastDistance_35 : decode b_Ey_leastDistance 35 = .ok (.invokevirtual 84, 3) := by decide +kernel
theorem xd_Ey_leastDistance_38 : decode b_Ey_leastDistance 38 = .ok (.invokevirtual 87, 3) := by decide +kernel
theorem xd_Ey_leastDistance_41 : decode b_Ey_leastDistance 41 = .ok (.invokestatic 73, 3) := by decide +kernel
theorem xd_Ey_leastDistance_44 : decode b_Ey_leastDistance 44 = .ok (.istore_n 3, 1) := by decide +kernel
theorem xd_Ey_leastDistance_45 : decode b_Ey_leastDistance 45 = .ok (.iinc 4 1, 3) := by decide +kernel
theorem xd_Ey_leastDistance_48 : decode b_Ey_leastDistance 48 = .ok (.goto (-42), 3) := by decide +kernel
theorem xd_Ey_leastDistance_51 : decode b_Ey_leastDistance 51 = .ok (.iload_n 3, 1) := by decide +kernel
theorem xd_Ey_leastDistance_52 : decode b_Ey_leastDistance 52 = .ok (.ireturn, 1) := by decide +kernel
abbrev rm_Ey_leastDistance : Room := { frames := 3, cells := 0, slots := 0, locals := 70 }
def xw_Ey_leastDistance_6 (g : Nat) (x1 : Int32) (x2 : Int32) (post : Int32 → xM → Prop) (k51 : Int32 → Int32 → xM → Prop) : Nat → Int32 → Int32 → xM → Prop
  | 0, _, _, _ => False
  | n + 1, x3, x4, M => (((6 : Int32) ≤ x4) → (k51 x3 x4 M)) ∧ ((¬ (6 : Int32) ≤ x4) → (xw_Ey_counts g x4 M (fun (r2 : Int32) (M1 : xM) => ((r2 = 0) → (xw_Ey_leastDistance_6 g x1 x2 post k51 n x3 (x4 + (1 : Int32)) M1)) ∧ ((¬ r2 = 0) → (xw_Ey_look g x4 x1 M1 (fun (r4 : Int32) (M3 : xM) => xw_Ey_look g x4 x2 M3 (fun (r6 : Int32) (M5 : xM) => xw_Ey_weighed g r4 r6 M5 (fun (r8 : Int32) (M7 : xM) => xw_Ey_leastDistance_6 g x1 x2 post k51 n (if r8 < x3 then r8 else x3) (x4 + (1 : Int32)) M7))))))))
def xw_Ey_leastDistance (g : Nat) (a1 : Int32) (a2 : Int32) (M : xM) (post : Int32 → xM → Prop) : Prop :=
  ∃ n : Nat, xw_Ey_leastDistance_6 g a1 a2 post (fun (y9 : Int32) (y10 : Int32) (M11 : xM) => post y9 M11) n (2000000 : Int32) (0 : Int32) M
set_option maxHeartbeats 4000000 in
set_option maxRecDepth 100000 in
theorem xt_Ey_leastDistance_6 {p : Program} {l : Launch} {e : Env} {s : State} {m : MethodId} {args : Array Value} {below : List Frame} {meth : Method} {c : Code} {G : xG} (hC : xC p s m args c b_Ey_leastDistance R_Ey 5 G) (hr : meth.sig.returnType = (some .int)) (hlk : meth.locks = false) {g : Nat} (hg : g < 4) {x1 : Int32} {x2 : Int32} {post : Int32 → xM → Prop} {k51 : Int32 → Int32 → xM → Prop} (hk51 : ∀ (x3 : Int32) (x4 : Int32) (M : xM) (H : Heap) (locs : List Loc) (ls : Array Slot), k51 x3 x4 M → xRp G M H → va_S (xA G) s.heap H locs → lv_has ls 5 [(0, .ref (G.1 g 1)), (1, .int x1), (2, .int x2), (3, .int x3), (4, .int x4)] → W p l e rm_Ey_leastDistance s m args below meth c H locs 0 0 (MQ below (xPi G post) args s 0 0 (xA G)) (F0 m 51 ls [])) : ∀ (n : Nat) (x3 : Int32) (x4 : Int32) (M : xM) (H : Heap) (locs : List Loc) (ls : Array Slot), xw_Ey_leastDistance_6 g x1 x2 post k51 n x3 x4 M → xRp G M H → va_S (xA G) s.heap H locs → lv_has ls 5 [(0, .ref (G.1 g 1)), (1, .int x1), (2, .int x2), (3, .int x3), (4, .int x4)] → W p l e rm_Ey_leastDistance s m args below meth c H locs 0 0 (MQ below (xPi G post) args s 0 0 (xA G)) (F0 m 6 ls []) := by
  have hx := hC.1
  have hb := hC.2.1
  intro n
  induction n with
  | zero => intro x3 x4 M H locs ls; exact fun h => h.elim
  | succ n ih =>
    intro x3 x4 M H locs ls h hR hS hl
    refine lv_iload (pc := 6) hx hb xd_Ey_leastDistance_6 (lv_at hl 4 rfl) ?_
    refine lv_bipush (pc := 8) (v := (6 : Int32)) hx hb xd_Ey_leastDistance_8 (by decide) ?_
    refine lv_icmp_ge (pc := 10) (tgt := 51) hx hb xd_Ey_leastDistance_10 (by decide) (fun hq => ?_) (fun hq => ?_)
    · have h := h.1 hq
      exact hk51 x3 x4 M H locs ls h hR hS (lv_sub hl [0, 1, 2, 3, 4] rfl)
    · have h := h.2 hq
      refine lv_aload_n (pc := 13) hx hb xd_Ey_leastDistance_13 rfl (lv_at hl 0 rfl) ?_
      refine lv_iload (pc := 14) hx hb xd_Ey_leastDistance_14 (lv_at hl 4 rfl) ?_
      refine xr_callV (pc := 16) (As := [.int x4]) (rest := []) hC hR hS (xc_Ey_counts l G hg h) (xo_K1 hg) xv_Ey_80 ⟨rfl, rfl, Nat.le_of_ble_eq_true rfl, Nat.le_of_ble_eq_true rfl⟩ rfl hl.1 rfl (by decide) xd_Ey_leastDistance_16 (fun r2 M1 H locs h hR hS => ?_)
      refine lv_if_eq (pc := 19) (tgt := 45) hx hb xd_Ey_leastDistance_19 (by decide) (fun hq => ?_) (fun hq => ?_)
      · have h := h.1 hq
        refine lv_iinc (pc := 45) (v := (x4 + (1 : Int32))) (lv' := [(4, .int (x4 + (1 : Int32))), (0, .ref (G.1 g 1)), (1, .int x1), (2, .int x2), (3, .int x3)]) hx hb xd_Ey_leastDistance_45 hl (k := 4) rfl rfl (by decide) rfl (fun ls hl => ?_)
        refine lv_goto (pc := 48) (tgt := 6) hx hb xd_Ey_leastDistance_48 (by decide) ?_
        exact ih x3 (x4 + (1 : Int32)) M1 H locs ls h hR hS (lv_sub hl [1, 2, 3, 4, 0] rfl)
      · have h := h.2 hq
        refine lv_iload_n (pc := 22) hx hb xd_Ey_leastDistance_22 rfl (lv_at hl 3 rfl) ?_
        refine lv_aload_n (pc := 23) hx hb xd_Ey_leastDistance_23 rfl (lv_at hl 0 rfl) ?_
        refine lv_aload_n (pc := 24) hx hb xd_Ey_leastDistance_24 rfl (lv_at hl 0 rfl) ?_
        refine lv_iload (pc := 25) hx hb xd_Ey_leastDistance_25 (lv_at hl 4 rfl) ?_
        refine lv_iload_n (pc := 27) hx hb xd_Ey_leastDistance_27 rfl (lv_at hl 1 rfl) ?_
        refine xr_callV (pc := 28) (As := [.int x4, .int x1]) (rest := [.ref (G.1 g 1), .int x3]) hC hR hS (xc_Ey_look l G hg h) (xo_K1 hg) xv_Ey_84 ⟨rfl, rfl, Nat.le_of_ble_eq_true rfl, Nat.le_of_ble_eq_true rfl⟩ rfl hl.1 rfl (by decide) xd_Ey_leastDistance_28 (fun r4 M3 H locs h hR hS => ?_)
        refine lv_aload_n (pc := 31) hx hb xd_Ey_leastDistance_31 rfl (lv_at hl 0 rfl) ?_
        refine lv_iload (pc := 32) hx hb xd_Ey_leastDistance_32 (lv_at hl 4 rfl) ?_
        refine lv_iload_n (pc := 34) hx hb xd_Ey_leastDistance_34 rfl (lv_at hl 2 rfl) ?_
        refine xr_callV (pc := 35) (As := [.int x4, .int x2]) (rest := [.int r4, .ref (G.1 g 1), .int x3]) hC hR hS (xc_Ey_look l G hg h) (xo_K1 hg) xv_Ey_84 ⟨rfl, rfl, Nat.le_of_ble_eq_true rfl, Nat.le_of_ble_eq_true rfl⟩ rfl hl.1 rfl (by decide) xd_Ey_leastDistance_35 (fun r6 M5 H locs h hR hS => ?_)
        refine xr_callV (pc := 38) (As := [.int r4, .int r6]) (rest := [.int x3]) hC hR hS (xc_Ey_weighed l G hg h) (xo_K1 hg) xv_Ey_87 ⟨rfl, rfl, Nat.le_of_ble_eq_true rfl, Nat.le_of_ble_eq_true rfl⟩ rfl hl.1 rfl (by decide) xd_Ey_leastDistance_38 (fun r8 M7 H locs h hR hS => ?_)
        refine xr_min (pc := 41) hC xk_Ey_73 hl.1 (by decide) (by decide) xd_Ey_leastDistance_41 ?_
        refine lv_istore_n (pc := 44) (lv' := [(3, .int (if r8 < x3 then r8 else x3)), (0, .ref (G.1 g 1)), (1, .int x1), (2, .int x2), (4, .int x4)]) hx hb xd_Ey_leastDistance_44 rfl hl (by decide) rfl (fun ls hl => ?_)
        refine lv_iinc (pc := 45) (v := (x4 + (1 : Int32))) (lv' := [(4, .int (x4 + (1 : Int32))), (3, .int (if r8 < x3 then r8 else x3)), (0, .ref (G.1 g 1)), (1, .int x1), (2, .int x2)]) hx hb xd_Ey_leastDistance_45 hl (k := 4) rfl rfl (by decide) rfl (fun ls hl => ?_)
        refine lv_goto (pc := 48) (tgt := 6) hx hb xd_Ey_leastDistance_48 (by decide) ?_
        exact ih (if r8 < x3 then r8 else x3) (x4 + (1 : Int32)) M7 H locs ls h hR hS (lv_sub hl [2, 3, 4, 1, 0] rfl)
set_option maxHeartbeats 4000000 in
set_option maxRecDepth 100000 in
theorem xc_Ey_leastDistance (l : Launch) (G : xG) {g : Nat} {a1 : Int32} {a2 : Int32} (hg : g < 4) {M : xM} {post : Int32 → xM → Prop} (h : xw_Ey_leastDistance g a1 a2 M post) : Met l y_Ey_leastDistance (Cond.code y_Ey_leastDistance b_Ey_leastDistance 5 (some .int) :: xTG) rm_Ey_leastDistance (xPre G M [.ref (G.1 g 1), .int a1, .int a2]) (xPi G post) 0 0 (xA G) := by
  refine xMet (own := R_Ey) [.ref (G.1 g 1), .int a1, .int a2] (by decide) rfl (Nat.le_of_ble_eq_true rfl) (fun p e s m args below meth c ls hC hr hlk hR hS hl => ?_)
  have hx := hC.1
  have hb := hC.2.1
  have hl : lv_has ls 5 [(0, .ref (G.1 g 1)), (1, .int a1), (2, .int a2)] := hl
  obtain ⟨H, eH⟩ : ∃ H : Heap, H = s.heap := ⟨_, rfl⟩
  obtain ⟨locs, eL⟩ : ∃ locs : List Loc, locs = [] := ⟨_, rfl⟩
  rw [← eH] at hR
  replace hS : va_S (xA G) s.heap H locs := by rw [eH, eL]; exact hS
  suffices hh : W p l e rm_Ey_leastDistance s m args below meth c H locs 0 0 (MQ below (xPi G post) args s 0 0 (xA G)) (F0 m 0 ls []) from by rw [eH, eL] at hh; exact hh
  unfold xw_Ey_leastDistance at h
  refine lv_ldc (pc := 0) (v := (2000000 : Int32)) hx hb hC.2.2.2.1 (hC.2.2.2.2.1 _ xk_Ey_79) xd_Ey_leastDistance_0 ?_
  refine lv_istore_n (pc := 2) (lv' := [(3, .int (2000000 : Int32)), (0, .ref (G.1 g 1)), (1, .int a1), (2, .int a2)]) hx hb xd_Ey_leastDistance_2 rfl hl (by decide) rfl (fun ls hl => ?_)
  refine lv_iconst (pc := 3) (v := (0 : Int32)) hx hb xd_Ey_leastDistance_3 (by decide) ?_
  refine lv_istore (pc := 4) (lv' := [(4, .int (0 : Int32)), (3, .int (2000000 : Int32)), (0, .ref (G.1 g 1)), (1, .int a1), (2, .int a2)]) hx hb xd_Ey_leastDistance_4 hl (by decide) rfl (fun ls hl => ?_)
  obtain ⟨n, h⟩ := h
  refine xt_Ey_leastDistance_6 hC hr hlk hg (fun y9 y10 M11 H locs ls h hR hS hl => ?_) n (2000000 : Int32) (0 : Int32) M H locs ls h hR hS (lv_sub hl [2, 3, 4, 1, 0] rfl)
  refine lv_iload_n (pc := 51) hx hb xd_Ey_leastDistance_51 rfl (lv_at hl 3 rfl) ?_
  exact xr_iret hC hr hlk hR hS h xd_Ey_leastDistance_52

/-! ColoursApart$Rgb.isColour(I)Z -/
theorem xd_Rg_isColour_0 : decode b_Rg_isColour 0 = .ok (.iload_n 0, 1) := by decide +kernel
theorem xd_Rg_isColour_1 : decode b_Rg_isColour 1 = .ok (.ifCond .lt 13, 3) := by decide +kernel
theorem xd_Rg_isColour_4 : decode b_Rg_isColour 4 = .ok (.iload_n 0, 1) := by decide +kernel
theorem xd_Rg_isColour_5 : decode b_Rg_isColour 5 = .ok (.ldc 9, 2) := by decide +kernel
theorem xd_Rg_isColour_7 : decode b_Rg_isColour 7 = .ok (.if_icmp .gt 7, 3) := by decide +kernel
theorem xd_Rg_isColour_10 : decode b_Rg_isColour 10 = .ok (.iconst 1, 1) := by decide +kernel
theorem xd_Rg_isColour_11 : decode b_Rg_isColour 11 = .ok (.goto 4, 3) := by decide +kernel
theorem xd_Rg_isColour_14 : decode b_Rg_isColour 14 = .ok (.iconst 0, 1) := by decide +kernel
theorem xd_Rg_isColour_15 : decode b_Rg_isColour 15 = .ok (.ireturn, 1) := by decide +kernel
abbrev rm_Rg_isColour : Room := { frames := 0, cells := 0, slots := 0, locals := 0 }
def xw_Rg_isColour (a0 : Int32) (M : xM) (post : Int32 → xM → Prop) : Prop :=
  ((a0 < 0) → (post (0 : Int32) M)) ∧ ((¬ a0 < 0) → ((((16777215 : Int32) < a0) → (post (0 : Int32) M)) ∧ ((¬ (16777215 : Int32) < a0) → (post (1 : Int32) M))))
set_option maxHeartbeats 4000000 in
set_option maxRecDepth 100000 in
theorem xc_Rg_isColour (l : Launch) (G : xG) {a0 : Int32}  {M : xM} {post : Int32 → xM → Prop} (h : xw_Rg_isColour a0 M post) : Met l y_Rg_isColour (Cond.code y_Rg_isColour b_Rg_isColour 1 (some .boolean) :: xTG) rm_Rg_isColour (xPre G M [.int a0]) (xPi G post) 0 0 (xA G) := by
  refine xMet (own := R_Rg) [.int a0] (by decide) rfl (Nat.le_of_ble_eq_true rfl) (fun p e s m args below meth c ls hC hr hlk hR hS hl => ?_)
  have hx := hC.1
  have hb := hC.2.1
  have hl : lv_has ls 1 [(0, .int a0)] := hl
  obtain ⟨H, eH⟩ : ∃ H : Heap, H = s.heap := ⟨_, rfl⟩
  obtain ⟨locs, eL⟩ : ∃ locs : List Loc, locs = [] := ⟨_, rfl⟩
  rw [← eH] at hR
  replace hS : va_S (xA G) s.heap H locs := by rw [eH, eL]; exact hS
  suffices hh : W p l e rm_Rg_isColour s m args below meth c H locs 0 0 (MQ below (xPi G post) args s 0 0 (xA G)) (F0 m 0 ls []) from by rw [eH, eL] at hh; exact hh
  unfold xw_Rg_isColour at h
  refine lv_iload_n (pc := 0) hx hb xd_Rg_isColour_0 rfl (lv_at hl 0 rfl) ?_
  refine lv_if_lt (pc := 1) (tgt := 14) hx hb xd_Rg_isColour_1 (by decide) (fun hq => ?_) (fun hq => ?_)
  · have h := h.1 hq
    refine lv_iconst (pc := 14) (v := (0 : Int32)) hx hb xd_Rg_isColour_14 (by decide) ?_
    exact xr_zret hC hr hlk hR hS (by decide) h xd_Rg_isColour_15
  · have h := h.2 hq
    refine lv_iload_n (pc := 4) hx hb xd_Rg_isColour_4 rfl (lv_at hl 0 rfl) ?_
    refine lv_ldc (pc := 5) (v := (16777215 : Int32)) hx hb hC.2.2.2.1 (hC.2.2.2.2.1 _ xk_Rg_9) xd_Rg_isColour_5 ?_
    refine lv_icmp_gt (pc := 7) (tgt := 14) hx hb xd_Rg_isColour_7 (by decide) (fun hq => ?_) (fun hq => ?_)
    · have h := h.1 hq
      refine lv_iconst (pc := 14) (v := (0 : Int32)) hx hb xd_Rg_isColour_14 (by decide) ?_
      exact xr_zret hC hr hlk hR hS (by decide) h xd_Rg_isColour_15
    · have h := h.2 hq
      refine lv_iconst (pc := 10) (v := (1 : Int32)) hx hb xd_Rg_isColour_10 (by decide) ?_
      refine lv_goto (pc := 11) (tgt := 15) hx hb xd_Rg_isColour_11 (by decide) ?_
      exact xr_zret hC hr hlk hR hS (by decide) h xd_Rg_isColour_15
