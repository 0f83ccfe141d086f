/-! ColoursApart$Mover.moveOne(LColoursApart$Kept;II)I -/
theorem xd_Mv_moveOne_0 : decode b_Mv_moveOne 0 = .ok (.aload_n 0, 1) := by decide +kernel
theorem xd_Mv_moveOne_1 : decode b_Mv_moveOne 1 = .ok (.aload_n 1, 1) := by decide +kernel
theorem xd_Mv_moveOne_2 : decode b_Mv_moveOne 2 = .ok (.invokevirtual 22, 3) := by decide +kernel
theorem xd_Mv_moveOne_5 : decode b_Mv_moveOne 5 = .ok (.aload_n 0, 1) := by decide +kernel
theorem xd_Mv_moveOne_6 : decode b_Mv_moveOne 6 = .ok (.aload_n 1, 1) := by decide +kernel
theorem xd_Mv_moveOne_7 : decode b_Mv_moveOne 7 = .ok (.iload_n 2, 1) := by decide +kernel
theorem xd_Mv_moveOne_8 : decode b_Mv_moveOne 8 = .ok (.iload_n 3, 1) := by decide +kernel
theorem xd_Mv_moveOne_9 : decode b_Mv_moveOne 9 = .ok (.invokevirtual 26, 3) := by decide +kernel
theorem xd_Mv_moveOne_12 : decode b_Mv_moveOne 12 = .ok (.ireturn, 1) := by decide +kernel
abbrev rm_Mv_moveOne : Room := { frames := 6, cells := 0, slots := 0, locals := 148 }
def xw_Mv_moveOne (g1 : Nat) (a2 : Int32) (a3 : Int32) (M : xM) (post : Int32 → xM → Prop) : Prop :=
  xw_Mv_lookAtHouse g1 M (fun (M1 : xM) => xw_Mv_shift g1 a2 a3 M1 (fun (r3 : Int32) (M2 : xM) => post r3 M2))
set_option maxHeartbeats 4000000 in
set_option maxRecDepth 100000 in
theorem xc_Mv_moveOne (l : Launch) (G : xG) {g1 : Nat} {a2 : Int32} {a3 : Int32} (hg1 : g1 < 4) {M : xM} {post : Int32 → xM → Prop} (h : xw_Mv_moveOne g1 a2 a3 M post) : Met l y_Mv_moveOne (Cond.code y_Mv_moveOne b_Mv_moveOne 4 (some .int) :: xTG) rm_Mv_moveOne (xPre G M [.ref (G.1 8 11), .ref (G.1 g1 0), .int a2, .int a3]) (xPi G post) 0 0 (xA G) := by
  refine xMet (own := R_Mv) [.ref (G.1 8 11), .ref (G.1 g1 0), .int a2, .int a3] (Or.inl (by decide)) rfl (Nat.le_of_ble_eq_true rfl) (fun p e s m args below meth c ls hC hr hlk hR hS hl => ?_)
  have hx := hC.1
  have hb := hC.2.1
  have hl : lv_has ls 4 [(0, .ref (G.1 8 11)), (1, .ref (G.1 g1 0)), (2, .int a2), (3, .int a3)] := hl
  obtain ⟨H, eH⟩ : ∃ H : Heap, H = s.heap := ⟨_, rfl⟩
  obtain ⟨locs, eL⟩ : ∃ locs : List Loc, locs = [] := ⟨_, rfl⟩
  rw [← eH] at hR
  replace hS : va_S (xA G) s.heap H locs := by rw [eH, eL]; exact hS
  suffices hh : W p l e rm_Mv_moveOne s m args below meth c H locs 0 0 (MQ below (xPi G post) args s 0 0 (xA G)) (F0 m 0 ls []) from by rw [eH, eL] at hh; exact hh
  unfold xw_Mv_moveOne at h
  refine lv_aload_n (pc := 0) hx hb xd_Mv_moveOne_0 rfl (lv_at hl 0 rfl) ?_
  refine lv_aload_n (pc := 1) hx hb xd_Mv_moveOne_1 rfl (lv_at hl 1 rfl) ?_
  refine xr_callVv (pc := 2) (As := [.ref (G.1 g1 0)]) (rest := []) hC hR hS (xc_Mv_lookAtHouse l G hg1 h) xo_C11 xv_Mv_22 ⟨rfl, rfl, Nat.le_of_ble_eq_true rfl, Nat.le_of_ble_eq_true rfl⟩ rfl hl.1 rfl (Nat.le_of_ble_eq_true rfl) xd_Mv_moveOne_2 (fun M1 H locs h hR hS => ?_)
  refine lv_aload_n (pc := 5) hx hb xd_Mv_moveOne_5 rfl (lv_at hl 0 rfl) ?_
  refine lv_aload_n (pc := 6) hx hb xd_Mv_moveOne_6 rfl (lv_at hl 1 rfl) ?_
  refine lv_iload_n (pc := 7) hx hb xd_Mv_moveOne_7 rfl (lv_at hl 2 rfl) ?_
  refine lv_iload_n (pc := 8) hx hb xd_Mv_moveOne_8 rfl (lv_at hl 3 rfl) ?_
  refine xr_callV (pc := 9) (As := [.ref (G.1 g1 0), .int a2, .int a3]) (rest := []) hC hR hS (xc_Mv_shift l G hg1 h) xo_C11 xv_Mv_26 ⟨rfl, rfl, Nat.le_of_ble_eq_true rfl, Nat.le_of_ble_eq_true rfl⟩ rfl hl.1 rfl (Nat.le_of_ble_eq_true rfl) xd_Mv_moveOne_9 (fun r3 M2 H locs h hR hS => ?_)
  exact xr_iret hC hr hlk hR hS h xd_Mv_moveOne_12

/-! ColoursApart$Mover.nearestTwo(LColoursApart$Kept;I)I -/
theorem xd_Mv_nearestTwo_0 : decode b_Mv_nearestTwo 0 = .ok (.iconst (-1), 1) := by decide +kernel
theorem xd_Mv_nearestTwo_1 : decode b_Mv_nearestTwo 1 = .ok (.istore_n 3, 1) := by decide +kernel
theorem xd_Mv_nearestTwo_2 : decode b_Mv_nearestTwo 2 = .ok (.iload_n 2, 1) := by decide +kernel
theorem xd_Mv_nearestTwo_3 : decode b_Mv_nearestTwo 3 = .ok (.istore 4, 2) := by decide +kernel
theorem xd_Mv_nearestTwo_5 : decode b_Mv_nearestTwo 5 = .ok (.iconst 0, 1) := by decide +kernel
theorem xd_Mv_nearestTwo_6 : decode b_Mv_nearestTwo 6 = .ok (.istore 5, 2) := by decide +kernel
theorem xd_Mv_nearestTwo_8 : decode b_Mv_nearestTwo 8 = .ok (.iload 5, 2) := by decide +kernel
theorem xd_Mv_nearestTwo_10 : decode b_Mv_nearestTwo 10 = .ok (.aload_n 1, 1) := by decide +kernel
theorem xd_Mv_nearestTwo_11 : decode b_Mv_nearestTwo 11 = .ok (.getfield 34, 3) := by decide +kernel
theorem xd_Mv_nearestTwo_14 : decode b_Mv_nearestTwo 14 = .ok (.getfield 44, 3) := by decide +kernel
theorem xd_Mv_nearestTwo_17 : decode b_Mv_nearestTwo 17 = .ok (.if_icmp .ge 74, 3) := by decide +kernel
theorem xd_Mv_nearestTwo_20 : decode b_Mv_nearestTwo 20 = .ok (.iload 5, 2) := by decide +kernel
theorem xd_Mv_nearestTwo_22 : decode b_Mv_nearestTwo 22 = .ok (.iconst 1, 1) := by decide +kernel
theorem xd_Mv_nearestTwo_23 : decode b_Mv_nearestTwo 23 = .ok (.iadd, 1) := by decide +kernel
theorem xd_Mv_nearestTwo_24 : decode b_Mv_nearestTwo 24 = .ok (.istore 6, 2) := by decide +kernel
theorem xd_Mv_nearestTwo_26 : decode b_Mv_nearestTwo 26 = .ok (.iload 6, 2) := by decide +kernel
theorem xd_Mv_nearestTwo_28 : decode b_Mv_nearestTwo 28 = .ok (.aload_n 1, 1) := by decide +kernel
theorem xd_Mv_nearestTwo_29 : decode b_Mv_nearestTwo 29 = .ok (.getfield 34, 3) := by decide +kernel
theorem xd_Mv_nearestTwo_32 : decode b_Mv_nearestTwo 32 = .ok (.getfield 44, 3) := by decide +kernel
theorem xd_Mv_nearestTwo_35 : decode b_Mv_nearestTwo 35 = .ok (.if_icmp .ge 50, 3) := by decide +kernel
theorem xd_Mv_nearestTwo_38 : decode b_Mv_nearestTwo 38 = .ok (.aload_n 1, 1) := by decide +kernel
theorem xd_Mv_nearestTwo_39 : decode b_Mv_nearestTwo 39 = .ok (.getfield 50, 3) := by decide +kernel
theorem xd_Mv_nearestTwo_42 : decode b_Mv_nearestTwo 42 = .ok (.aload_n 0, 1) := by decide +kernel
theorem xd_Mv_nearestTwo_43 : decode b_Mv_nearestTwo 43 = .ok (.getfield 9, 3) := by decide +kernel
theorem xd_Mv_nearestTwo_46 : decode b_Mv_nearestTwo 46 = .ok (.iload 5, 2) := by decide +kernel
theorem xd_Mv_nearestTwo_48 : decode b_Mv_nearestTwo 48 = .ok (.aload_n 0, 1) := by decide +kernel
theorem xd_Mv_nearestTwo_49 : decode b_Mv_nearestTwo 49 = .ok (.getfield 9, 3) := by decide +kernel
theorem xd_Mv_nearestTwo_52 : decode b_Mv_nearestTwo 52 = .ok (.iload 6, 2) := by decide +kernel
theorem xd_Mv_nearestTwo_54 : decode b_Mv_nearestTwo 54 = .ok (.invokevirtual 63, 3) := by decide +kernel
theorem xd_Mv_nearestTwo_57 : decode b_Mv_nearestTwo 57 = .ok (.istore 7, 2) := by decide +kernel
theorem xd_Mv_nearestTwo_59 : decode b_Mv_nearestTwo 59 = .ok (.iload 7, 2) := by decide +kernel
theorem xd_Mv_nearestTwo_61 : decode b_Mv_nearestTwo 61 = .ok (.iload 4, 2) := by decide +kernel
theorem xd_Mv_nearestTwo_63 : decode b_Mv_nearestTwo 63 = .ok (.if_icmp .ge 16, 3) := by decide +kernel
theorem xd_Mv_nearestTwo_66 : decode b_Mv_nearestTwo 66 = .ok (.iload 7, 2) := by decide +kernel
theorem xd_Mv_nearestTwo_68 : decode b_Mv_nearestTwo 68 = .ok (.istore 4, 2) := by decide +kernel
theorem xd_Mv_nearestTwo_70 : decode b_Mv_nearestTwo 70 = .ok (.iload 5, 2) := by decide +kernel
theorem xd_Mv_nearestTwo_72 : decode b_Mv_nearestTwo 72 = .ok (.bipush 12, 2) := by decide +kernel
theorem xd_Mv_nearestTwo_74 : decode b_Mv_nearestTwo 74 = .ok (.imul, 1) := by decide +kernel
theorem xd_Mv_nearestTwo_75 : decode b_Mv_nearestTwo 75 = .ok (.iload 6, 2) := by decide +kernel
theorem xd_Mv_nearestTwo_77 : decode b_Mv_nearestTwo 77 = .ok (.iadd, 1) := by decide +kernel
theorem xd_Mv_nearestTwo_78 : decode b_Mv_nearestTwo 78 = .ok (.istore_n 3, 1) := by decide +kernel
theorem xd_Mv_nearestTwo_79 : decode b_Mv_nearestTwo 79 = .ok (.iinc 6 1, 3) := by decide +kernel
theorem xd_Mv_nearestTwo_82 : decode b_Mv_nearestTwo 82 = .ok (.goto (-56), 3) := by decide +kernel
theorem xd_Mv_nearestTwo_85 : decode b_Mv_nearestTwo 85 = .ok (.iinc 5 1, 3) := by decide +kernel
theorem xd_Mv_nearestTwo_88 : decode b_Mv_nearestTwo 88 = .ok (.goto (-80), 3) := by decide +kernel
theorem xd_Mv_nearestTwo_91 : decode b_Mv_nearestTwo 91 = .ok (.iload_n 3, 1) := by decide +kernel
theorem xd_Mv_nearestTwo_92 : decode b_Mv_nearestTwo 92 = .ok (.ireturn, 1) := by decide +kernel
abbrev rm_Mv_nearestTwo : Room := { frames := 3, cells := 0, slots := 0, locals := 72 }
def xw_Mv_nearestTwo_26 (g1 : Nat) (x5 : Int32) (post : Int32 → xM → Prop) (k85 : Int32 → Int32 → Int32 → xM → Prop) : Nat → Int32 → Int32 → Int32 → xM → Prop
  | 0, _, _, _, _ => False
  | n26 + 1, x3, x4, x6, M => (((M g1 3 0) ≤ x6) → (k85 x3 x4 x6 M)) ∧ ((¬ (M g1 3 0) ≤ x6) → (xw_Ey_leastOfViews g1 8 12 72 x5 8 12 72 x6 M (fun (r2 : Int32) (M1 : xM) => ((x4 ≤ r2) → (xw_Mv_nearestTwo_26 g1 x5 post k85 n26 x3 x4 (x6 + (1 : Int32)) M1)) ∧ ((¬ x4 ≤ r2) → (xw_Mv_nearestTwo_26 g1 x5 post k85 n26 ((x5 * (12 : Int32)) + x6) r2 (x6 + (1 : Int32)) M1)))))
def xw_Mv_nearestTwo_8 (g1 : Nat) (post : Int32 → xM → Prop) (k91 : Int32 → Int32 → Int32 → xM → Prop) : Nat → Int32 → Int32 → Int32 → xM → Prop
  | 0, _, _, _, _ => False
  | n8 + 1, x3, x4, x5, M => (((M g1 3 0) ≤ x5) → (k91 x3 x4 x5 M)) ∧ ((¬ (M g1 3 0) ≤ x5) → (∃ n26 : Nat, xw_Mv_nearestTwo_26 g1 x5 post (fun (y3 : Int32) (y4 : Int32) (y5 : Int32) (M6 : xM) => xw_Mv_nearestTwo_8 g1 post k91 n8 y3 y4 (x5 + (1 : Int32)) M6) n26 x3 x4 (x5 + (1 : Int32)) M))
def xw_Mv_nearestTwo (g1 : Nat) (a2 : Int32) (M : xM) (post : Int32 → xM → Prop) : Prop :=
  ∃ n8 : Nat, xw_Mv_nearestTwo_8 g1 post (fun (y7 : Int32) (y8 : Int32) (y9 : Int32) (M10 : xM) => post y7 M10) n8 (-1 : Int32) a2 (0 : Int32) M
set_option maxHeartbeats 4000000 in
set_option maxRecDepth 100000 in
theorem xt_Mv_nearestTwo_26 {p : Program} {l : Launch} {e : Env} {s : State} {m : MethodId} {args : Array Value} {below : List Frame} {meth : Method} {c : Code} {G : xG} (hC : xC p s m args c b_Mv_nearestTwo R_Mv 8 G) (hr : meth.sig.returnType = (some .int)) (hlk : meth.locks = false) {g1 : Nat} (hg1 : g1 < 4) {x5 : Int32} {post : Int32 → xM → Prop} {k85 : Int32 → Int32 → Int32 → xM → Prop} (hk85 : ∀ (x3 : Int32) (x4 : Int32) (x6 : Int32) (M : xM) (H : Heap) (locs : List Loc) (ls : Array Slot), k85 x3 x4 x6 M → xRp G M H → va_S (xA G) s.heap H locs → lv_has ls 8 [(0, .ref (G.1 8 11)), (1, .ref (G.1 g1 0)), (3, .int x3), (4, .int x4), (5, .int x5), (6, .int x6)] → W p l e rm_Mv_nearestTwo s m args below meth c H locs 0 0 (MQ below (xPi G post) args s 0 0 (xA G)) (F0 m 85 ls [])) : ∀ (n : Nat) (x3 : Int32) (x4 : Int32) (x6 : Int32) (M : xM) (H : Heap) (locs : List Loc) (ls : Array Slot), xw_Mv_nearestTwo_26 g1 x5 post k85 n x3 x4 x6 M → xRp G M H → va_S (xA G) s.heap H locs → lv_has ls 8 [(0, .ref (G.1 8 11)), (1, .ref (G.1 g1 0)), (3, .int x3), (4, .int x4), (5, .int x5), (6, .int x6)] → W p l e rm_Mv_nearestTwo s m args below meth c H locs 0 0 (MQ below (xPi G post) args s 0 0 (xA G)) (F0 m 26 ls []) := by
  have hx := hC.1
  have hb := hC.2.1
  intro n
  induction n with
  | zero => intro x3 x4 x6 M H locs ls; exact fun h => h.elim
  | succ n ih =>
    intro x3 x4 x6 M H locs ls h hR hS hl
    refine lv_iload (pc := 26) hx hb xd_Mv_nearestTwo_26 (lv_at hl 5 rfl) ?_
    refine lv_aload_n (pc := 28) hx hb xd_Mv_nearestTwo_28 rfl (lv_at hl 1 rfl) ?_
    refine xr_get (pc := 29) (v := .ref (G.1 g1 3)) hC hR (xo_K0 hg1) xf_Mv_34 rfl xd_Mv_nearestTwo_29 ?_
    refine xr_get (pc := 32) (v := .int (M g1 3 0)) hC hR (xo_K3 hg1) xf_Mv_44 rfl xd_Mv_nearestTwo_32 ?_
    refine lv_icmp_ge (pc := 35) (tgt := 85) hx hb xd_Mv_nearestTwo_35 (by decide) (fun hq => ?_) (fun hq => ?_)
    · have h := h.1 hq
      exact hk85 x3 x4 x6 M H locs ls h hR hS (lv_sub hl [0, 1, 2, 3, 4, 5] rfl)
    · have h := h.2 hq
      refine lv_aload_n (pc := 38) hx hb xd_Mv_nearestTwo_38 rfl (lv_at hl 1 rfl) ?_
      refine xr_get (pc := 39) (v := .ref (G.1 g1 1)) hC hR (xo_K0 hg1) xf_Mv_50 rfl xd_Mv_nearestTwo_39 ?_
      refine lv_aload_n (pc := 42) hx hb xd_Mv_nearestTwo_42 rfl (lv_at hl 0 rfl) ?_
      refine xr_get (pc := 43) (v := .ref (G.1 8 12)) hC hR xo_C11 xf_Mv_9 rfl xd_Mv_nearestTwo_43 ?_
      refine lv_iload (pc := 46) hx hb xd_Mv_nearestTwo_46 (lv_at hl 4 rfl) ?_
      refine lv_aload_n (pc := 48) hx hb xd_Mv_nearestTwo_48 rfl (lv_at hl 0 rfl) ?_
      refine xr_get (pc := 49) (v := .ref (G.1 8 12)) hC hR xo_C11 xf_Mv_9 rfl xd_Mv_nearestTwo_49 ?_
      refine lv_iload (pc := 52) hx hb xd_Mv_nearestTwo_52 (lv_at hl 5 rfl) ?_
      refine xr_callV (pc := 54) (As := [.ref (G.1 8 12), .int x5, .ref (G.1 8 12), .int x6]) (rest := []) hC hR hS (xc_Ey_leastOfViews l G hg1 xo_C12 xo_C12 h) (xo_K1 hg1) xv_Mv_63 ⟨rfl, rfl, Nat.le_of_ble_eq_true rfl, Nat.le_of_ble_eq_true rfl⟩ rfl hl.1 rfl (Nat.le_of_ble_eq_true rfl) xd_Mv_nearestTwo_54 (fun r2 M1 H locs h hR hS => ?_)
      refine lv_istore (pc := 57) (lv' := [(7, .int r2), (0, .ref (G.1 8 11)), (1, .ref (G.1 g1 0)), (3, .int x3), (4, .int x4), (5, .int x5), (6, .int x6)]) hx hb xd_Mv_nearestTwo_57 hl (by decide) rfl (fun ls hl => ?_)
      refine lv_iload (pc := 59) hx hb xd_Mv_nearestTwo_59 (lv_at hl 0 rfl) ?_
      refine lv_iload (pc := 61) hx hb xd_Mv_nearestTwo_61 (lv_at hl 4 rfl) ?_
      refine lv_icmp_ge (pc := 63) (tgt := 79) hx hb xd_Mv_nearestTwo_63 (by decide) (fun hq => ?_) (fun hq => ?_)
      · have h := h.1 hq
        refine lv_iinc (pc := 79) (v := (x6 + (1 : Int32))) (lv' := [(6, .int (x6 + (1 : Int32))), (7, .int r2), (0, .ref (G.1 8 11)), (1, .ref (G.1 g1 0)), (3, .int x3), (4, .int x4), (5, .int x5)]) hx hb xd_Mv_nearestTwo_79 hl (k := 6) rfl rfl (by decide) rfl (fun ls hl => ?_)
        refine lv_goto (pc := 82) (tgt := 26) hx hb xd_Mv_nearestTwo_82 (by decide) ?_
        exact ih x3 x4 (x6 + (1 : Int32)) M1 H locs ls h hR hS (lv_sub hl [2, 3, 4, 5, 6, 0] rfl)
      · have h := h.2 hq
        refine lv_iload (pc := 66) hx hb xd_Mv_nearestTwo_66 (lv_at hl 0 rfl) ?_
        refine lv_istore (pc := 68) (lv' := [(4, .int r2), (7, .int r2), (0, .ref (G.1 8 11)), (1, .ref (G.1 g1 0)), (3, .int x3), (5, .int x5), (6, .int x6)]) hx hb xd_Mv_nearestTwo_68 hl (by decide) rfl (fun ls hl => ?_)
        refine lv_iload (pc := 70) hx hb xd_Mv_nearestTwo_70 (lv_at hl 5 rfl) ?_
        refine lv_bipush (pc := 72) (v := (12 : Int32)) hx hb xd_Mv_nearestTwo_72 (by decide) ?_
        refine lv_imul (pc := 74) hx hb xd_Mv_nearestTwo_74 ?_
        refine lv_iload (pc := 75) hx hb xd_Mv_nearestTwo_75 (lv_at hl 6 rfl) ?_
        refine lv_iadd (pc := 77) hx hb xd_Mv_nearestTwo_77 ?_
        refine lv_istore_n (pc := 78) (lv' := [(3, .int ((x5 * (12 : Int32)) + x6)), (4, .int r2), (7, .int r2), (0, .ref (G.1 8 11)), (1, .ref (G.1 g1 0)), (5, .int x5), (6, .int x6)]) hx hb xd_Mv_nearestTwo_78 rfl hl (by decide) rfl (fun ls hl => ?_)
        refine lv_iinc (pc := 79) (v := (x6 + (1 : Int32))) (lv' := [(6, .int (x6 + (1 : Int32))), (3, .int ((x5 * (12 : Int32)) + x6)), (4, .int r2), (7, .int r2), (0, .ref (G.1 8 11)), (1, .ref (G.1 g1 0)), (5, .int x5)]) hx hb xd_Mv_nearestTwo_79 hl (k := 6) rfl rfl (by decide) rfl (fun ls hl => ?_)
        refine lv_goto (pc := 82) (tgt := 26) hx hb xd_Mv_nearestTwo_82 (by decide) ?_
        exact ih ((x5 * (12 : Int32)) + x6) r2 (x6 + (1 : Int32)) M1 H locs ls h hR hS (lv_sub hl [4, 5, 1, 2, 6, 0] rfl)
set_option maxHeartbeats 4000000 in
set_option maxRecDepth 100000 in
theorem xt_Mv_nearestTwo_8 {p : Program} {l : Launch} {e : Env} {s : State} {m : MethodId} {args : Array Value} {below : List Frame} {meth : Method} {c : Code} {G : xG} (hC : xC p s m args c b_Mv_nearestTwo R_Mv 8 G) (hr : meth.sig.returnType = (some .int)) (hlk : meth.locks = false) {g1 : Nat} (hg1 : g1 < 4) {post : Int32 → xM → Prop} {k91 : Int32 → Int32 → Int32 → xM → Prop} (hk91 : ∀ (x3 : Int32) (x4 : Int32) (x5 : Int32) (M : xM) (H : Heap) (locs : List Loc) (ls : Array Slot), k91 x3 x4 x5 M → xRp G M H → va_S (xA G) s.heap H locs → lv_has ls 8 [(0, .ref (G.1 8 11)), (1, .ref (G.1 g1 0)), (3, .int x3), (4, .int x4), (5, .int x5)] → W p l e rm_Mv_nearestTwo s m args below meth c H locs 0 0 (MQ below (xPi G post) args s 0 0 (xA G)) (F0 m 91 ls [])) : ∀ (n : Nat) (x3 : Int32) (x4 : Int32) (x5 : Int32) (M : xM) (H : Heap) (locs : List Loc) (ls : Array Slot), xw_Mv_nearestTwo_8 g1 post k91 n x3 x4 x5 M → xRp G M H → va_S (xA G) s.heap H locs → lv_has ls 8 [(0, .ref (G.1 8 11)), (1, .ref (G.1 g1 0)), (3, .int x3), (4, .int x4), (5, .int x5)] → W p l e rm_Mv_nearestTwo s m args below meth c H locs 0 0 (MQ below (xPi G post) args s 0 0 (xA G)) (F0 m 8 ls []) := by
  have hx := hC.1
  have hb := hC.2.1
  intro n
  induction n with
  | zero => intro x3 x4 x5 M H locs ls; exact fun h => h.elim
  | succ n ih =>
    intro x3 x4 x5 M H locs ls h hR hS hl
    refine lv_iload (pc := 8) hx hb xd_Mv_nearestTwo_8 (lv_at hl 4 rfl) ?_
    refine lv_aload_n (pc := 10) hx hb xd_Mv_nearestTwo_10 rfl (lv_at hl 1 rfl) ?_
    refine xr_get (pc := 11) (v := .ref (G.1 g1 3)) hC hR (xo_K0 hg1) xf_Mv_34 rfl xd_Mv_nearestTwo_11 ?_
    refine xr_get (pc := 14) (v := .int (M g1 3 0)) hC hR (xo_K3 hg1) xf_Mv_44 rfl xd_Mv_nearestTwo_14 ?_
    refine lv_icmp_ge (pc := 17) (tgt := 91) hx hb xd_Mv_nearestTwo_17 (by decide) (fun hq => ?_) (fun hq => ?_)
    · have h := h.1 hq
      exact hk91 x3 x4 x5 M H locs ls h hR hS (lv_sub hl [0, 1, 2, 3, 4] rfl)
    · have h := h.2 hq
      refine lv_iload (pc := 20) hx hb xd_Mv_nearestTwo_20 (lv_at hl 4 rfl) ?_
      refine lv_iconst (pc := 22) (v := (1 : Int32)) hx hb xd_Mv_nearestTwo_22 (by decide) ?_
      refine lv_iadd (pc := 23) hx hb xd_Mv_nearestTwo_23 ?_
      refine lv_istore (pc := 24) (lv' := [(6, .int (x5 + (1 : Int32))), (0, .ref (G.1 8 11)), (1, .ref (G.1 g1 0)), (3, .int x3), (4, .int x4), (5, .int x5)]) hx hb xd_Mv_nearestTwo_24 hl (by decide) rfl (fun ls hl => ?_)
      obtain ⟨n, h⟩ := h
      refine xt_Mv_nearestTwo_26 hC hr hlk hg1 (fun y3 y4 y5 M6 H locs ls h hR hS hl => ?_) n x3 x4 (x5 + (1 : Int32)) M H locs ls h hR hS (lv_sub hl [1, 2, 3, 4, 5, 0] rfl)
      refine lv_iinc (pc := 85) (v := (x5 + (1 : Int32))) (lv' := [(5, .int (x5 + (1 : Int32))), (0, .ref (G.1 8 11)), (1, .ref (G.1 g1 0)), (3, .int y3), (4, .int y4), (6, .int y5)]) hx hb xd_Mv_nearestTwo_85 hl (k := 4) rfl rfl (by decide) rfl (fun ls hl => ?_)
      refine lv_goto (pc := 88) (tgt := 8) hx hb xd_Mv_nearestTwo_88 (by decide) ?_
      exact ih y3 y4 (x5 + (1 : Int32)) M6 H locs ls h hR hS (lv_sub hl [1, 2, 3, 4, 0] rfl)
set_option maxHeartbeats 4000000 in
set_option maxRecDepth 100000 in
theorem xc_Mv_nearestTwo (l : Launch) (G : xG) {g1 : Nat} {a2 : Int32} (hg1 : g1 < 4) {M : xM} {post : Int32 → xM → Prop} (h : xw_Mv_nearestTwo g1 a2 M post) : Met l y_Mv_nearestTwo (Cond.code y_Mv_nearestTwo b_Mv_nearestTwo 8 (some .int) :: xTG) rm_Mv_nearestTwo (xPre G M [.ref (G.1 8 11), .ref (G.1 g1 0), .int a2]) (xPi G post) 0 0 (xA G) := by
  refine xMet (own := R_Mv) [.ref (G.1 8 11), .ref (G.1 g1 0), .int a2] (Or.inl (by decide)) rfl (Nat.le_of_ble_eq_true rfl) (fun p e s m args below meth c ls hC hr hlk hR hS hl => ?_)
  have hx := hC.1
  have hb := hC.2.1
  have hl : lv_has ls 8 [(0, .ref (G.1 8 11)), (1, .ref (G.1 g1 0)), (2, .int a2)] := hl
  obtain ⟨H, eH⟩ : ∃ H : Heap, H = s.heap := ⟨_, rfl⟩
  obtain ⟨locs, eL⟩ : ∃ locs : List Loc, locs = [] := ⟨_, rfl⟩
  rw [← eH] at hR
  replace hS : va_S (xA G) s.heap H locs := by rw [eH, eL]; exact hS
  suffices hh : W p l e rm_Mv_nearestTwo s m args below meth c H locs 0 0 (MQ below (xPi G post) args s 0 0 (xA G)) (F0 m 0 ls []) from by rw [eH, eL] at hh; exact hh
  unfold xw_Mv_nearestTwo at h
  refine lv_iconst (pc := 0) (v := (-1 : Int32)) hx hb xd_Mv_nearestTwo_0 (by decide) ?_
  refine lv_istore_n (pc := 1) (lv' := [(3, .int (-1 : Int32)), (0, .ref (G.1 8 11)), (1, .ref (G.1 g1 0)), (2, .int a2)]) hx hb xd_Mv_nearestTwo_1 rfl hl (by decide) rfl (fun ls hl => ?_)
  refine lv_iload_n (pc := 2) hx hb xd_Mv_nearestTwo_2 rfl (lv_at hl 3 rfl) ?_
  refine lv_istore (pc := 3) (lv' := [(4, .int a2), (3, .int (-1 : Int32)), (0, .ref (G.1 8 11)), (1, .ref (G.1 g1 0)), (2, .int a2)]) hx hb xd_Mv_nearestTwo_3 hl (by decide) rfl (fun ls hl => ?_)
  refine lv_iconst (pc := 5) (v := (0 : Int32)) hx hb xd_Mv_nearestTwo_5 (by decide) ?_
  refine lv_istore (pc := 6) (lv' := [(5, .int (0 : Int32)), (4, .int a2), (3, .int (-1 : Int32)), (0, .ref (G.1 8 11)), (1, .ref (G.1 g1 0)), (2, .int a2)]) hx hb xd_Mv_nearestTwo_6 hl (by decide) rfl (fun ls hl => ?_)
  obtain ⟨n, h⟩ := h
  refine xt_Mv_nearestTwo_8 hC hr hlk hg1 (fun y7 y8 y9 M10 H locs ls h hR hS hl => ?_) n (-1 : Int32) a2 (0 : Int32) M H locs ls h hR hS (lv_sub hl [3, 4, 2, 1, 0] rfl)
  refine lv_iload_n (pc := 91) hx hb xd_Mv_nearestTwo_91 rfl (lv_at hl 2 rfl) ?_
  exact xr_iret hC hr hlk hR hS h xd_Mv_nearestTwo_92

/-! ColoursApart$Mover.laterFree(LColoursApart$House;II)I -/
theorem xd_Mv_laterFree_0 : decode b_Mv_laterFree 0 = .ok (.aload_n 0, 1) := by decide +kernel
theorem xd_Mv_laterFree_1 : decode b_Mv_laterFree 1 = .ok (.getfield 67, 3) := by decide +kernel
theorem xd_Mv_laterFree_4 : decode b_Mv_laterFree 4 = .ok (.iload_n 2, 1) := by decide +kernel
theorem xd_Mv_laterFree_5 : decode b_Mv_laterFree 5 = .ok (.baload, 1) := by decide +kernel
theorem xd_Mv_laterFree_6 : decode b_Mv_laterFree 6 = .ok (.ifCond .ne 5, 3) := by decide +kernel
theorem xd_Mv_laterFree_9 : decode b_Mv_laterFree 9 = .ok (.iload_n 2, 1) := by decide +kernel
theorem xd_Mv_laterFree_10 : decode b_Mv_laterFree 10 = .ok (.ireturn, 1) := by decide +kernel
theorem xd_Mv_laterFree_11 : decode b_Mv_laterFree 11 = .ok (.aload_n 0, 1) := by decide +kernel
theorem xd_Mv_laterFree_12 : decode b_Mv_laterFree 12 = .ok (.getfield 67, 3) := by decide +kernel
theorem xd_Mv_laterFree_15 : decode b_Mv_laterFree 15 = .ok (.iload_n 1, 1) := by decide +kernel
theorem xd_Mv_laterFree_16 : decode b_Mv_laterFree 16 = .ok (.baload, 1) := by decide +kernel
theorem xd_Mv_laterFree_17 : decode b_Mv_laterFree 17 = .ok (.ifCond .eq 7, 3) := by decide +kernel
theorem xd_Mv_laterFree_20 : decode b_Mv_laterFree 20 = .ok (.iconst (-1), 1) := by decide +kernel
theorem xd_Mv_laterFree_21 : decode b_Mv_laterFree 21 = .ok (.goto 4, 3) := by decide +kernel
theorem xd_Mv_laterFree_24 : decode b_Mv_laterFree 24 = .ok (.iload_n 1, 1) := by decide +kernel
theorem xd_Mv_laterFree_25 : decode b_Mv_laterFree 25 = .ok (.ireturn, 1) := by decide +kernel
abbrev rm_Mv_laterFree : Room := { frames := 0, cells := 0, slots := 0, locals := 0 }
def xw_Mv_laterFree (g0 : Nat) (a1 : Int32) (a2 : Int32) (M : xM) (post : Int32 → xM → Prop) : Prop :=
  (vp_in a2 12) ∧ (((¬ (M g0 5 a2.toNatClampNeg) = 0) → ((vp_in a1 12) ∧ ((((M g0 5 a1.toNatClampNeg) = 0) → (post a1 M)) ∧ ((¬ (M g0 5 a1.toNatClampNeg) = 0) → (post (-1 : Int32) M))))) ∧ (((M g0 5 a2.toNatClampNeg) = 0) → (post a2 M)))
set_option maxHeartbeats 4000000 in
set_option maxRecDepth 100000 in
theorem xc_Mv_laterFree (l : Launch) (G : xG) {g0 : Nat} {a1 : Int32} {a2 : Int32} (hg0 : g0 < 4) {M : xM} {post : Int32 → xM → Prop} (h : xw_Mv_laterFree g0 a1 a2 M post) : Met l y_Mv_laterFree (Cond.code y_Mv_laterFree b_Mv_laterFree 3 (some .int) :: xTG) rm_Mv_laterFree (xPre G M [.ref (G.1 g0 3), .int a1, .int a2]) (xPi G post) 0 0 (xA G) := by
  refine xMet (own := R_Mv) [.ref (G.1 g0 3), .int a1, .int a2] (Or.inl (by decide)) rfl (Nat.le_of_ble_eq_true rfl) (fun p e s m args below meth c ls hC hr hlk hR hS hl => ?_)
  have hx := hC.1
  have hb := hC.2.1
  have hl : lv_has ls 3 [(0, .ref (G.1 g0 3)), (1, .int a1), (2, .int a2)] := hl
  obtain ⟨H, eH⟩ : ∃ H : Heap, H = s.heap := ⟨_, rfl⟩
  obtain ⟨locs, eL⟩ : ∃ locs : List Loc, locs = [] := ⟨_, rfl⟩
  rw [← eH] at hR
  replace hS : va_S (xA G) s.heap H locs := by rw [eH, eL]; exact hS
  suffices hh : W p l e rm_Mv_laterFree s m args below meth c H locs 0 0 (MQ below (xPi G post) args s 0 0 (xA G)) (F0 m 0 ls []) from by rw [eH, eL] at hh; exact hh
  unfold xw_Mv_laterFree at h
  refine lv_aload_n (pc := 0) hx hb xd_Mv_laterFree_0 rfl (lv_at hl 0 rfl) ?_
  refine xr_get (pc := 1) (v := .ref (G.1 g0 5)) hC hR (xo_K3 hg0) xf_Mv_67 rfl xd_Mv_laterFree_1 ?_
  refine lv_iload_n (pc := 4) hx hb xd_Mv_laterFree_4 rfl (lv_at hl 2 rfl) ?_
  obtain ⟨hq, h⟩ := h
  refine xr_zald (pc := 5) hC hR (xo_K5 hg0) hq xd_Mv_laterFree_5 ?_
  refine lv_if_ne (pc := 6) (tgt := 11) hx hb xd_Mv_laterFree_6 (by decide) (fun hq => ?_) (fun hq => ?_)
  · have h := h.1 hq
    refine lv_aload_n (pc := 11) hx hb xd_Mv_laterFree_11 rfl (lv_at hl 0 rfl) ?_
    refine xr_get (pc := 12) (v := .ref (G.1 g0 5)) hC hR (xo_K3 hg0) xf_Mv_67 rfl xd_Mv_laterFree_12 ?_
    refine lv_iload_n (pc := 15) hx hb xd_Mv_laterFree_15 rfl (lv_at hl 1 rfl) ?_
    obtain ⟨hq, h⟩ := h
    refine xr_zald (pc := 16) hC hR (xo_K5 hg0) hq xd_Mv_laterFree_16 ?_
    refine lv_if_eq (pc := 17) (tgt := 24) hx hb xd_Mv_laterFree_17 (by decide) (fun hq => ?_) (fun hq => ?_)
    · have h := h.1 hq
      refine lv_iload_n (pc := 24) hx hb xd_Mv_laterFree_24 rfl (lv_at hl 1 rfl) ?_
      exact xr_iret hC hr hlk hR hS h xd_Mv_laterFree_25
    · have h := h.2 hq
      refine lv_iconst (pc := 20) (v := (-1 : Int32)) hx hb xd_Mv_laterFree_20 (by decide) ?_
      refine lv_goto (pc := 21) (tgt := 25) hx hb xd_Mv_laterFree_21 (by decide) ?_
      exact xr_iret hC hr hlk hR hS h xd_Mv_laterFree_25
  · have h := h.2 hq
    refine lv_iload_n (pc := 9) hx hb xd_Mv_laterFree_9 rfl (lv_at hl 2 rfl) ?_
    exact xr_iret hC hr hlk hR hS h xd_Mv_laterFree_10

/-! ColoursApart$Mover.moveAll(LColoursApart$Kept;I)I -/
theorem xd_Mv_moveAll_0 : decode b_Mv_moveAll 0 = .ok (.aload_n 0, 1) := by decide +kernel
theorem xd_Mv_moveAll_1 : decode b_Mv_moveAll 1 = .ok (.iconst 0, 1) := by decide +kernel
theorem xd_Mv_moveAll_2 : decode b_Mv_moveAll 2 = .ok (.putfield 18, 3) := by decide +kernel
theorem xd_Mv_moveAll_5 : decode b_Mv_moveAll 5 = .ok (.aload_n 0, 1) := by decide +kernel
theorem xd_Mv_moveAll_6 : decode b_Mv_moveAll 6 = .ok (.aload_n 1, 1) := by decide +kernel
theorem xd_Mv_moveAll_7 : decode b_Mv_moveAll 7 = .ok (.invokevirtual 22, 3) := by decide +kernel
theorem xd_Mv_moveAll_10 : decode b_Mv_moveAll 10 = .ok (.iconst 0, 1) := by decide +kernel
theorem xd_Mv_moveAll_11 : decode b_Mv_moveAll 11 = .ok (.istore_n 3, 1) := by decide +kernel
theorem xd_Mv_moveAll_12 : decode b_Mv_moveAll 12 = .ok (.iload_n 3, 1) := by decide +kernel
theorem xd_Mv_moveAll_13 : decode b_Mv_moveAll 13 = .ok (.bipush 50, 2) := by decide +kernel
theorem xd_Mv_moveAll_15 : decode b_Mv_moveAll 15 = .ok (.if_icmp .ge 69, 3) := by decide +kernel
theorem xd_Mv_moveAll_18 : decode b_Mv_moveAll 18 = .ok (.aload_n 0, 1) := by decide +kernel
theorem xd_Mv_moveAll_19 : decode b_Mv_moveAll 19 = .ok (.aload_n 1, 1) := by decide +kernel
theorem xd_Mv_moveAll_20 : decode b_Mv_moveAll 20 = .ok (.iload_n 2, 1) := by decide +kernel
theorem xd_Mv_moveAll_21 : decode b_Mv_moveAll 21 = .ok (.invokevirtual 30, 3) := by decide +kernel
theorem xd_Mv_moveAll_24 : decode b_Mv_moveAll 24 = .ok (.istore 4, 2) := by decide +kernel
theorem xd_Mv_moveAll_26 : decode b_Mv_moveAll 26 = .ok (.iload 4, 2) := by decide +kernel
theorem xd_Mv_moveAll_28 : decode b_Mv_moveAll 28 = .ok (.iconst (-1), 1) := by decide +kernel
theorem xd_Mv_moveAll_29 : decode b_Mv_moveAll 29 = .ok (.if_icmp .ne 5, 3) := by decide +kernel
theorem xd_Mv_moveAll_32 : decode b_Mv_moveAll 32 = .ok (.iload_n 3, 1) := by decide +kernel
theorem xd_Mv_moveAll_33 : decode b_Mv_moveAll 33 = .ok (.ireturn, 1) := by decide +kernel
theorem xd_Mv_moveAll_34 : decode b_Mv_moveAll 34 = .ok (.aload_n 1, 1) := by decide +kernel
theorem xd_Mv_moveAll_35 : decode b_Mv_moveAll 35 = .ok (.getfield 34, 3) := by decide +kernel
theorem xd_Mv_moveAll_38 : decode b_Mv_moveAll 38 = .ok (.iload 4, 2) := by decide +kernel
theorem xd_Mv_moveAll_40 : decode b_Mv_moveAll 40 = .ok (.bipush 12, 2) := by decide +kernel
theorem xd_Mv_moveAll_42 : decode b_Mv_moveAll 42 = .ok (.idiv, 1) := by decide +kernel
theorem xd_Mv_moveAll_43 : decode b_Mv_moveAll 43 = .ok (.iload 4, 2) := by decide +kernel
theorem xd_Mv_moveAll_45 : decode b_Mv_moveAll 45 = .ok (.bipush 12, 2) := by decide +kernel
theorem xd_Mv_moveAll_47 : decode b_Mv_moveAll 47 = .ok (.irem, 1) := by decide +kernel
theorem xd_Mv_moveAll_48 : decode b_Mv_moveAll 48 = .ok (.invokestatic 40, 3) := by decide +kernel
theorem xd_Mv_moveAll_51 : decode b_Mv_moveAll 51 = .ok (.istore 5, 2) := by decide +kernel
theorem xd_Mv_moveAll_53 : decode b_Mv_moveAll 53 = .ok (.iload 5, 2) := by decide +kernel
theorem xd_Mv_moveAll_55 : decode b_Mv_moveAll 55 = .ok (.iconst (-1), 1) := by decide +kernel
theorem xd_Mv_moveAll_56 : decode b_Mv_moveAll 56 = .ok (.if_icmp .eq 15, 3) := by decide +kernel
theorem xd_Mv_moveAll_59 : decode b_Mv_moveAll 59 = .ok (.aload_n 0, 1) := by decide +kernel
theorem xd_Mv_moveAll_60 : decode b_Mv_moveAll 60 = .ok (.aload_n 1, 1) := by decide +kernel
theorem xd_Mv_moveAll_61 : decode b_Mv_moveAll 61 = .ok (.iload 5, 2) := by decide +kernel
theorem xd_Mv_moveAll_63 : decode b_Mv_moveAll 63 = .ok (.iload_n 2, 1) := by decide +kernel
theorem xd_Mv_moveAll_64 : decode b_Mv_moveAll 64 = .ok (.invokevirtual 26, 3) := by decide +kernel
theorem xd_Mv_moveAll_67 : decode b_Mv_moveAll 67 = .ok (.iconst (-1), 1) := by decide +kernel
theorem xd_Mv_moveAll_68 : decode b_Mv_moveAll 68 = .ok (.if_icmp .ne 10, 3) := by decide +kernel
theorem xd_Mv_moveAll_71 : decode b_Mv_moveAll 71 = .ok (.aload_n 0, 1) := by decide +kernel
theorem xd_Mv_moveAll_72 : decode b_Mv_moveAll 72 = .ok (.iconst 1, 1) := by decide +kernel
theorem xd_Mv_moveAll_73 : decode b_Mv_moveAll 73 = .ok (.putfield 18, 3) := by decide +kernel
theorem xd_Mv_moveAll_76 : decode b_Mv_moveAll 76 = .ok (.iload_n 3, 1) := by decide +kernel
theorem xd_Mv_moveAll_77 : decode b_Mv_moveAll 77 = .ok (.ireturn, 1) := by decide +kernel
theorem xd_Mv_moveAll_78 : decode b_Mv_moveAll 78 = .ok (.iinc 3 1, 3) := by decide +kernel
theorem xd_Mv_moveAll_81 : decode b_Mv_moveAll 81 = .ok (.goto (-69), 3) := by decide +kernel
theorem xd_Mv_moveAll_84 : decode b_Mv_moveAll 84 = .ok (.aload_n 0, 1) := by decide +kernel
theorem xd_Mv_moveAll_85 : decode b_Mv_moveAll 85 = .ok (.iconst 1, 1) := by decide +kernel
theorem xd_Mv_moveAll_86 : decode b_Mv_moveAll 86 = .ok (.putfield 18, 3) := by decide +kernel
theorem xd_Mv_moveAll_89 : decode b_Mv_moveAll 89 = .ok (.bipush 50, 2) := by decide +kernel
theorem xd_Mv_moveAll_91 : decode b_Mv_moveAll 91 = .ok (.ireturn, 1) := by decide +kernel
abbrev rm_Mv_moveAll : Room := { frames := 6, cells := 0, slots := 0, locals := 148 }
def xw_Mv_moveAll_12 (g1 : Nat) (x2 : Int32) (post : Int32 → xM → Prop) (k84 : Int32 → xM → Prop) : Nat → Int32 → xM → Prop
  | 0, _, _ => False
  | n12 + 1, x3, M => (((50 : Int32) ≤ x3) → (k84 x3 M)) ∧ ((¬ (50 : Int32) ≤ x3) → (xw_Mv_nearestTwo g1 x2 M (fun (r3 : Int32) (M2 : xM) => ((¬ r3 = (-1 : Int32)) → (xw_Mv_laterFree g1 (r3 / (12 : Int32)) (r3 - r3 / (12 : Int32) * (12 : Int32)) M2 (fun (r5 : Int32) (M4 : xM) => ((r5 = (-1 : Int32)) → (post x3 (us M4 8 11 2 (1 : Int32)))) ∧ ((¬ r5 = (-1 : Int32)) → (xw_Mv_shift g1 r5 x2 M4 (fun (r7 : Int32) (M6 : xM) => ((¬ r7 = (-1 : Int32)) → (xw_Mv_moveAll_12 g1 x2 post k84 n12 (x3 + (1 : Int32)) M6)) ∧ ((r7 = (-1 : Int32)) → (post x3 (us M6 8 11 2 (1 : Int32)))))))))) ∧ ((r3 = (-1 : Int32)) → (post x3 M2)))))
def xw_Mv_moveAll (g1 : Nat) (a2 : Int32) (M : xM) (post : Int32 → xM → Prop) : Prop :=
  xw_Mv_lookAtHouse g1 (us M 8 11 2 (0 : Int32)) (fun (M1 : xM) => ∃ n12 : Nat, xw_Mv_moveAll_12 g1 a2 post (fun (y8 : Int32) (M9 : xM) => post (50 : Int32) (us M9 8 11 2 (1 : Int32))) n12 (0 : Int32) M1)
set_option maxHeartbeats 4000000 in
set_option maxRecDepth 100000 in
theorem xt_Mv_moveAll_12 {p : Program} {l : Launch} {e : Env} {s : State} {m : MethodId} {args : Array Value} {below : List Frame} {meth : Method} {c : Code} {G : xG} (hC : xC p s m args c b_Mv_moveAll R_Mv 6 G) (hr : meth.sig.returnType = (some .int)) (hlk : meth.locks = false) {g1 : Nat} (hg1 : g1 < 4) {x2 : Int32} {post : Int32 → xM → Prop} {k84 : Int32 → xM → Prop} (hk84 : ∀ (x3 : Int32) (M : xM) (H : Heap) (locs : List Loc) (ls : Array Slot), k84 x3 M → xRp G M H → va_S (xA G) s.heap H locs → lv_has ls 6 [(0, .ref (G.1 8 11)), (1, .ref (G.1 g1 0)), (2, .int x2), (3, .int x3)] → W p l e rm_Mv_moveAll s m args below meth c H locs 0 0 (MQ below (xPi G post) args s 0 0 (xA G)) (F0 m 84 ls [])) : ∀ (n : Nat) (x3 : Int32) (M : xM) (H : Heap) (locs : List Loc) (ls : Array Slot), xw_Mv_moveAll_12 g1 x2 post k84 n x3 M → xRp G M H → va_S (xA G) s.heap H locs → lv_has ls 6 [(0, .ref (G.1 8 11)), (1, .ref (G.1 g1 0)), (2, .int x2), (3, .int x3)] → W p l e rm_Mv_moveAll s m args below meth c H locs 0 0 (MQ below (xPi G post) args s 0 0 (xA G)) (F0 m 12 ls []) := by
  have hx := hC.1
  have hb := hC.2.1
  intro n
  induction n with
  | zero => intro x3 M H locs ls; exact fun h => h.elim
  | succ n ih =>
    intro x3 M H locs ls h hR hS hl
    refine lv_iload_n (pc := 12) hx hb xd_Mv_moveAll_12 rfl (lv_at hl 3 rfl) ?_
    refine lv_bipush (pc := 13) (v := (50 : Int32)) hx hb xd_Mv_moveAll_13 (by decide) ?_
    refine lv_icmp_ge (pc := 15) (tgt := 84) hx hb xd_Mv_moveAll_15 (by decide) (fun hq => ?_) (fun hq => ?_)
    · have h := h.1 hq
      exact hk84 x3 M H locs ls h hR hS (lv_sub hl [0, 1, 2, 3] rfl)
    · have h := h.2 hq
      refine lv_aload_n (pc := 18) hx hb xd_Mv_moveAll_18 rfl (lv_at hl 0 rfl) ?_
      refine lv_aload_n (pc := 19) hx hb xd_Mv_moveAll_19 rfl (lv_at hl 1 rfl) ?_
      refine lv_iload_n (pc := 20) hx hb xd_Mv_moveAll_20 rfl (lv_at hl 2 rfl) ?_
      refine xr_callV (pc := 21) (As := [.ref (G.1 g1 0), .int x2]) (rest := []) hC hR hS (xc_Mv_nearestTwo l G hg1 h) xo_C11 xv_Mv_30 ⟨rfl, rfl, Nat.le_of_ble_eq_true rfl, Nat.le_of_ble_eq_true rfl⟩ rfl hl.1 rfl (Nat.le_of_ble_eq_true rfl) xd_Mv_moveAll_21 (fun r3 M2 H locs h hR hS => ?_)
      refine lv_istore (pc := 24) (lv' := [(4, .int r3), (0, .ref (G.1 8 11)), (1, .ref (G.1 g1 0)), (2, .int x2), (3, .int x3)]) hx hb xd_Mv_moveAll_24 hl (by decide) rfl (fun ls hl => ?_)
      refine lv_iload (pc := 26) hx hb xd_Mv_moveAll_26 (lv_at hl 0 rfl) ?_
      refine lv_iconst (pc := 28) (v := (-1 : Int32)) hx hb xd_Mv_moveAll_28 (by decide) ?_
      refine lv_icmp_ne (pc := 29) (tgt := 34) hx hb xd_Mv_moveAll_29 (by decide) (fun hq => ?_) (fun hq => ?_)
      · have h := h.1 hq
        refine lv_aload_n (pc := 34) hx hb xd_Mv_moveAll_34 rfl (lv_at hl 2 rfl) ?_
        refine xr_get (pc := 35) (v := .ref (G.1 g1 3)) hC hR (xo_K0 hg1) xf_Mv_34 rfl xd_Mv_moveAll_35 ?_
        refine lv_iload (pc := 38) hx hb xd_Mv_moveAll_38 (lv_at hl 0 rfl) ?_
        refine lv_bipush (pc := 40) (v := (12 : Int32)) hx hb xd_Mv_moveAll_40 (by decide) ?_
        refine lv_idiv (pc := 42) hx hb xd_Mv_moveAll_42 (by decide) ?_
        refine lv_iload (pc := 43) hx hb xd_Mv_moveAll_43 (lv_at hl 0 rfl) ?_
        refine lv_bipush (pc := 45) (v := (12 : Int32)) hx hb xd_Mv_moveAll_45 (by decide) ?_
        refine lv_irem (pc := 47) hx hb xd_Mv_moveAll_47 (by decide) ?_
        refine xr_callS (pc := 48) (As := [.ref (G.1 g1 3), .int (r3 / (12 : Int32)), .int (r3 - r3 / (12 : Int32) * (12 : Int32))]) (rest := []) hC hR hS (xc_Mv_laterFree l G hg1 h) xv_Mv_40 ⟨rfl, rfl, Nat.le_of_ble_eq_true rfl, Nat.le_of_ble_eq_true rfl⟩ rfl hl.1 rfl (Nat.le_of_ble_eq_true rfl) xd_Mv_moveAll_48 (fun r5 M4 H locs h hR hS => ?_)
        refine lv_istore (pc := 51) (lv' := [(5, .int r5), (4, .int r3), (0, .ref (G.1 8 11)), (1, .ref (G.1 g1 0)), (2, .int x2), (3, .int x3)]) hx hb xd_Mv_moveAll_51 hl (by decide) rfl (fun ls hl => ?_)
        refine lv_iload (pc := 53) hx hb xd_Mv_moveAll_53 (lv_at hl 0 rfl) ?_
        refine lv_iconst (pc := 55) (v := (-1 : Int32)) hx hb xd_Mv_moveAll_55 (by decide) ?_
        refine lv_icmp_eq (pc := 56) (tgt := 71) hx hb xd_Mv_moveAll_56 (by decide) (fun hq => ?_) (fun hq => ?_)
        · have h := h.1 hq
          refine lv_aload_n (pc := 71) hx hb xd_Mv_moveAll_71 rfl (lv_at hl 2 rfl) ?_
          refine lv_iconst (pc := 72) (v := (1 : Int32)) hx hb xd_Mv_moveAll_72 (by decide) ?_
          refine xr_put (pc := 73) hC hR hS xo_C11 xf_Mv_18 xp_6_2 rfl rfl rfl xd_Mv_moveAll_73 (fun H locs hR hS => ?_)
          refine lv_iload_n (pc := 76) hx hb xd_Mv_moveAll_76 rfl (lv_at hl 5 rfl) ?_
          exact xr_iret hC hr hlk hR hS h xd_Mv_moveAll_77
        · have h := h.2 hq
          refine lv_aload_n (pc := 59) hx hb xd_Mv_moveAll_59 rfl (lv_at hl 2 rfl) ?_
          refine lv_aload_n (pc := 60) hx hb xd_Mv_moveAll_60 rfl (lv_at hl 3 rfl) ?_
          refine lv_iload (pc := 61) hx hb xd_Mv_moveAll_61 (lv_at hl 0 rfl) ?_
          refine lv_iload_n (pc := 63) hx hb xd_Mv_moveAll_63 rfl (lv_at hl 4 rfl) ?_
          refine xr_callV (pc := 64) (As := [.ref (G.1 g1 0), .int r5, .int x2]) (rest := []) hC hR hS (xc_Mv_shift l G hg1 h) xo_C11 xv_Mv_26 ⟨rfl, rfl, Nat.le_of_ble_eq_true rfl, Nat.le_of_ble_eq_true rfl⟩ rfl hl.1 rfl (Nat.le_of_ble_eq_true rfl) xd_Mv_moveAll_64 (fun r7 M6 H locs h hR hS => ?_)
          refine lv_iconst (pc := 67) (v := (-1 : Int32)) hx hb xd_Mv_moveAll_67 (by decide) ?_
          refine lv_icmp_ne (pc := 68) (tgt := 78) hx hb xd_Mv_moveAll_68 (by decide) (fun hq => ?_) (fun hq => ?_)
          · have h := h.1 hq
            refine lv_iinc (pc := 78) (v := (x3 + (1 : Int32))) (lv' := [(3, .int (x3 + (1 : Int32))), (5, .int r5), (4, .int r3), (0, .ref (G.1 8 11)), (1, .ref (G.1 g1 0)), (2, .int x2)]) hx hb xd_Mv_moveAll_78 hl (k := 5) rfl rfl (by decide) rfl (fun ls hl => ?_)
            refine lv_goto (pc := 81) (tgt := 12) hx hb xd_Mv_moveAll_81 (by decide) ?_
            exact ih (x3 + (1 : Int32)) M6 H locs ls h hR hS (lv_sub hl [3, 4, 5, 0] rfl)
          · have h := h.2 hq
            refine lv_aload_n (pc := 71) hx hb xd_Mv_moveAll_71 rfl (lv_at hl 2 rfl) ?_
            refine lv_iconst (pc := 72) (v := (1 : Int32)) hx hb xd_Mv_moveAll_72 (by decide) ?_
            refine xr_put (pc := 73) hC hR hS xo_C11 xf_Mv_18 xp_6_2 rfl rfl rfl xd_Mv_moveAll_73 (fun H locs hR hS => ?_)
            refine lv_iload_n (pc := 76) hx hb xd_Mv_moveAll_76 rfl (lv_at hl 5 rfl) ?_
            exact xr_iret hC hr hlk hR hS h xd_Mv_moveAll_77
      · have h := h.2 hq
        refine lv_iload_n (pc := 32) hx hb xd_Mv_moveAll_32 rfl (lv_at hl 4 rfl) ?_
        exact xr_iret hC hr hlk hR hS h xd_Mv_moveAll_33
set_option maxHeartbeats 4000000 in
set_option maxRecDepth 100000 in
theorem xc_Mv_moveAll (l : Launch) (G : xG) {g1 : Nat} {a2 : Int32} (hg1 : g1 < 4) {M : xM} {post : Int32 → xM → Prop} (h : xw_Mv_moveAll g1 a2 M post) : Met l y_Mv_moveAll (Cond.code y_Mv_moveAll b_Mv_moveAll 6 (some .int) :: xTG) rm_Mv_moveAll (xPre G M [.ref (G.1 8 11), .ref (G.1 g1 0), .int a2]) (xPi G post) 0 0 (xA G) := by
  refine xMet (own := R_Mv) [.ref (G.1 8 11), .ref (G.1 g1 0), .int a2] (Or.inl (by decide)) rfl (Nat.le_of_ble_eq_true rfl) (fun p e s m args below meth c ls hC hr hlk hR hS hl => ?_)
  have hx := hC.1
  have hb := hC.2.1
  have hl : lv_has ls 6 [(0, .ref (G.1 8 11)), (1, .ref (G.1 g1 0)), (2, .int a2)] := hl
  obtain ⟨H, eH⟩ : ∃ H : Heap, H = s.heap := ⟨_, rfl⟩
  obtain ⟨locs, eL⟩ : ∃ locs : List Loc, locs = [] := ⟨_, rfl⟩
  rw [← eH] at hR
  replace hS : va_S (xA G) s.heap H locs := by rw [eH, eL]; exact hS
  suffices hh : W p l e rm_Mv_moveAll s m args below meth c H locs 0 0 (MQ below (xPi G post) args s 0 0 (xA G)) (F0 m 0 ls []) from by rw [eH, eL] at hh; exact hh
  unfold xw_Mv_moveAll at h
  refine lv_aload_n (pc := 0) hx hb xd_Mv_moveAll_0 rfl (lv_at hl 0 rfl) ?_
  refine lv_iconst (pc := 1) (v := (0 : Int32)) hx hb xd_Mv_moveAll_1 (by decide) ?_
  refine xr_put (pc := 2) hC hR hS xo_C11 xf_Mv_18 xp_6_2 rfl rfl rfl xd_Mv_moveAll_2 (fun H locs hR hS => ?_)
  refine lv_aload_n (pc := 5) hx hb xd_Mv_moveAll_5 rfl (lv_at hl 0 rfl) ?_
  refine lv_aload_n (pc := 6) hx hb xd_Mv_moveAll_6 rfl (lv_at hl 1 rfl) ?_
  refine xr_callVv (pc := 7) (As := [.ref (G.1 g1 0)]) (rest := []) hC hR hS (xc_Mv_lookAtHouse l G hg1 h) xo_C11 xv_Mv_22 ⟨rfl, rfl, Nat.le_of_ble_eq_true rfl, Nat.le_of_ble_eq_true rfl⟩ rfl hl.1 rfl (Nat.le_of_ble_eq_true rfl) xd_Mv_moveAll_7 (fun M1 H locs h hR hS => ?_)
  refine lv_iconst (pc := 10) (v := (0 : Int32)) hx hb xd_Mv_moveAll_10 (by decide) ?_
  refine lv_istore_n (pc := 11) (lv' := [(3, .int (0 : Int32)), (0, .ref (G.1 8 11)), (1, .ref (G.1 g1 0)), (2, .int a2)]) hx hb xd_Mv_moveAll_11 rfl hl (by decide) rfl (fun ls hl => ?_)
  obtain ⟨n, h⟩ := h
  refine xt_Mv_moveAll_12 hC hr hlk hg1 (fun y8 M9 H locs ls h hR hS hl => ?_) n (0 : Int32) M1 H locs ls h hR hS (lv_sub hl [1, 2, 3, 0] rfl)
  refine lv_aload_n (pc := 84) hx hb xd_Mv_moveAll_84 rfl (lv_at hl 0 rfl) ?_
  refine lv_iconst (pc := 85) (v := (1 : Int32)) hx hb xd_Mv_moveAll_85 (by decide) ?_
  refine xr_put (pc := 86) hC hR hS xo_C11 xf_Mv_18 xp_6_2 rfl rfl rfl xd_Mv_moveAll_86 (fun H locs hR hS => ?_)
  refine lv_bipush (pc := 89) (v := (50 : Int32)) hx hb xd_Mv_moveAll_89 (by decide) ?_
  exact xr_iret hC hr hlk hR hS h xd_Mv_moveAll_91

/-! ColoursApart$Ramp.mixed(III)I -/
theorem xd_Ra_mixed_0 : decode b_Ra_mixed 0 = .ok (.iload_n 0, 1) := by decide +kernel
theorem xd_Ra_mixed_1 : decode b_Ra_mixed 1 = .ok (.sipush 255, 3) := by decide +kernel
theorem xd_Ra_mixed_4 : decode b_Ra_mixed 4 = .ok (.iload_n 2, 1) := by decide +kernel
theorem xd_Ra_mixed_5 : decode b_Ra_mixed 5 = .ok (.isub, 1) := by decide +kernel
theorem xd_Ra_mixed_6 : decode b_Ra_mixed 6 = .ok (.imul, 1) := by decide +kernel
theorem xd_Ra_mixed_7 : decode b_Ra_mixed 7 = .ok (.iload_n 1, 1) := by decide +kernel
theorem xd_Ra_mixed_8 : decode b_Ra_mixed 8 = .ok (.iload_n 2, 1) := by decide +kernel
theorem xd_Ra_mixed_9 : decode b_Ra_mixed 9 = .ok (.imul, 1) := by decide +kernel
theorem xd_Ra_mixed_10 : decode b_Ra_mixed 10 = .ok (.iadd, 1) := by decide +kernel
theorem xd_Ra_mixed_11 : decode b_Ra_mixed 11 = .ok (.bipush 127, 2) := by decide +kernel
theorem xd_Ra_mixed_13 : decode b_Ra_mixed 13 = .ok (.iadd, 1) := by decide +kernel
theorem xd_Ra_mixed_14 : decode b_Ra_mixed 14 = .ok (.sipush 255, 3) := by decide +kernel
theorem xd_Ra_mixed_17 : decode b_Ra_mixed 17 = .ok (.idiv, 1) := by decide +kernel
theorem xd_Ra_mixed_18 : decode b_Ra_mixed 18 = .ok (.ireturn, 1) := by decide +kernel
abbrev rm_Ra_mixed : Room := { frames := 0, cells := 0, slots := 0, locals := 0 }
def xw_Ra_mixed (a0 : Int32) (a1 : Int32) (a2 : Int32) (M : xM) (post : Int32 → xM → Prop) : Prop :=
  post ((((a0 * ((255 : Int32) - a2)) + (a1 * a2)) + (127 : Int32)) / (255 : Int32)) M
set_option maxHeartbeats 4000000 in
set_option maxRecDepth 100000 in
theorem xc_Ra_mixed (l : Launch) (G : xG) {a0 : Int32} {a1 : Int32} {a2 : Int32}  {M : xM} {post : Int32 → xM → Prop} (h : xw_Ra_mixed a0 a1 a2 M post) : Met l y_Ra_mixed (Cond.code y_Ra_mixed b_Ra_mixed 3 (some .int) :: xTG) rm_Ra_mixed (xPre G M [.int a0, .int a1, .int a2]) (xPi G post) 0 0 (xA G) := by
  refine xMet (own := R_Ra) [.int a0, .int a1, .int a2] (Or.inl (by decide)) rfl (Nat.le_of_ble_eq_true rfl) (fun p e s m args below meth c ls hC hr hlk hR hS hl => ?_)
  have hx := hC.1
  have hb := hC.2.1
  have hl : lv_has ls 3 [(0, .int a0), (1, .int a1), (2, .int a2)] := hl
  obtain ⟨H, eH⟩ : ∃ H : Heap, H = s.heap := ⟨_, rfl⟩
  obtain ⟨locs, eL⟩ : ∃ locs : List Loc, locs = [] := ⟨_, rfl⟩
  rw [← eH] at hR
  replace hS : va_S (xA G) s.heap H locs := by rw [eH, eL]; exact hS
  suffices hh : W p l e rm_Ra_mixed s m args below meth c H locs 0 0 (MQ below (xPi G post) args s 0 0 (xA G)) (F0 m 0 ls []) from by rw [eH, eL] at hh; exact hh
  unfold xw_Ra_mixed at h
  refine lv_iload_n (pc := 0) hx hb xd_Ra_mixed_0 rfl (lv_at hl 0 rfl) ?_
  refine lv_sipush (pc := 1) (v := (255 : Int32)) hx hb xd_Ra_mixed_1 (by decide) ?_
  refine lv_iload_n (pc := 4) hx hb xd_Ra_mixed_4 rfl (lv_at hl 2 rfl) ?_
  refine lv_isub (pc := 5) hx hb xd_Ra_mixed_5 ?_
  refine lv_imul (pc := 6) hx hb xd_Ra_mixed_6 ?_
  refine lv_iload_n (pc := 7) hx hb xd_Ra_mixed_7 rfl (lv_at hl 1 rfl) ?_
  refine lv_iload_n (pc := 8) hx hb xd_Ra_mixed_8 rfl (lv_at hl 2 rfl) ?_
  refine lv_imul (pc := 9) hx hb xd_Ra_mixed_9 ?_
  refine lv_iadd (pc := 10) hx hb xd_Ra_mixed_10 ?_
  refine lv_bipush (pc := 11) (v := (127 : Int32)) hx hb xd_Ra_mixed_11 (by decide) ?_
  refine lv_iadd (pc := 13) hx hb xd_Ra_mixed_13 ?_
  refine lv_sipush (pc := 14) (v := (255 : Int32)) hx hb xd_Ra_mixed_14 (by decide) ?_
  refine lv_idiv (pc := 17) hx hb xd_Ra_mixed_17 (by decide) ?_
  exact xr_iret hC hr hlk hR hS h xd_Ra_mixed_18

/-! ColoursApart$Ramp.pointAt(III)I -/
theorem xd_Ra_pointAt_0 : decode b_Ra_pointAt 0 = .ok (.iload_n 0, 1) := by decide +kernel
theorem xd_Ra_pointAt_1 : decode b_Ra_pointAt 1 = .ok (.invokestatic 35, 3) := by decide +kernel
theorem xd_Ra_pointAt_4 : decode b_Ra_pointAt 4 = .ok (.iload_n 1, 1) := by decide +kernel
theorem xd_Ra_pointAt_5 : decode b_Ra_pointAt 5 = .ok (.invokestatic 35, 3) := by decide +kernel
theorem xd_Ra_pointAt_8 : decode b_Ra_pointAt 8 = .ok (.iload_n 2, 1) := by decide +kernel
theorem xd_Ra_pointAt_9 : decode b_Ra_pointAt 9 = .ok (.invokestatic 38, 3) := by decide +kernel
theorem xd_Ra_pointAt_12 : decode b_Ra_pointAt 12 = .ok (.iload_n 0, 1) := by decide +kernel
theorem xd_Ra_pointAt_13 : decode b_Ra_pointAt 13 = .ok (.invokestatic 41, 3) := by decide +kernel
theorem xd_Ra_pointAt_16 : decode b_Ra_pointAt 16 = .ok (.iload_n 1, 1) := by decide +kernel
theorem xd_Ra_pointAt_17 : decode b_Ra_pointAt 17 = .ok (.invokestatic 41, 3) := by decide +kernel
theorem xd_Ra_pointAt_20 : decode b_Ra_pointAt 20 = .ok (.iload_n 2, 1) := by decide +kernel
theorem xd_Ra_pointAt_21 : decode b_Ra_pointAt 21 = .ok (.invokestatic 38, 3) := by decide +kernel
theorem xd_Ra_pointAt_24 : decode b_Ra_pointAt 24 = .ok (.iload_n 0, 1) := by decide +kernel
theorem xd_Ra_pointAt_25 : decode b_Ra_pointAt 25 = .ok (.invokestatic 44, 3) := by decide +kernel
theorem xd_Ra_pointAt_28 : decode b_Ra_pointAt 28 = .ok (.iload_n 1, 1) := by decide +kernel
theorem xd_Ra_pointAt_29 : decode b_Ra_pointAt 29 = .ok (.invokestatic 44, 3) := by decide +kernel
theorem xd_Ra_pointAt_32 : decode b_Ra_pointAt 32 = .ok (.iload_n 2, 1) := by decide +kernel
theorem xd_Ra_pointAt_33 : decode b_Ra_pointAt 33 = .ok (.invokestatic 38, 3) := by decide +kernel
theorem xd_Ra_pointAt_36 : decode b_Ra_pointAt 36 = .ok (.invokestatic 47, 3) := by decide +kernel
theorem xd_Ra_pointAt_39 : decode b_Ra_pointAt 39 = .ok (.ireturn, 1) := by decide +kernel
abbrev rm_Ra_pointAt : Room := { frames := 1, cells := 0, slots := 0, locals := 22 }
def xw_Ra_pointAt (a0 : Int32) (a1 : Int32) (a2 : Int32) (M : xM) (post : Int32 → xM → Prop) : Prop :=
  xw_Rg_red a0 M (fun (r2 : Int32) (M1 : xM) => xw_Rg_red a1 M1 (fun (r4 : Int32) (M3 : xM) => xw_Ra_mixed r2 r4 a2 M3 (fun (r6 : Int32) (M5 : xM) => xw_Rg_green a0 M5 (fun (r8 : Int32) (M7 : xM) => xw_Rg_green a1 M7 (fun (r10 : Int32) (M9 : xM) => xw_Ra_mixed r8 r10 a2 M9 (fun (r12 : Int32) (M11 : xM) => xw_Rg_blue a0 M11 (fun (r14 : Int32) (M13 : xM) => xw_Rg_blue a1 M13 (fun (r16 : Int32) (M15 : xM) => xw_Ra_mixed r14 r16 a2 M15 (fun (r18 : Int32) (M17 : xM) => xw_Rg_joined r6 r12 r18 M17 (fun (r20 : Int32) (M19 : xM) => post r20 M19))))))))))
set_option maxHeartbeats 4000000 in
set_option maxRecDepth 100000 in
theorem xc_Ra_pointAt (l : Launch) (G : xG) {a0 : Int32} {a1 : Int32} {a2 : Int32}  {M : xM} {post : Int32 → xM → Prop} (h : xw_Ra_pointAt a0 a1 a2 M post) : Met l y_Ra_pointAt (Cond.code y_Ra_pointAt b_Ra_pointAt 3 (some .int) :: xTG) rm_Ra_pointAt (xPre G M [.int a0, .int a1, .int a2]) (xPi G post) 0 0 (xA G) := by
  refine xMet (own := R_Ra) [.int a0, .int a1, .int a2] (Or.inl (by decide)) rfl (Nat.le_of_ble_eq_true rfl) (fun p e s m args below meth c ls hC hr hlk hR hS hl => ?_)
  have hx := hC.1
  have hb := hC.2.1
  have hl : lv_has ls 3 [(0, .int a0), (1, .int a1), (2, .int a2)] := hl
  obtain ⟨H, eH⟩ : ∃ H : Heap, H = s.heap := ⟨_, rfl⟩
  obtain ⟨locs, eL⟩ : ∃ locs : List Loc, locs = [] := ⟨_, rfl⟩
  rw [← eH] at hR
  replace hS : va_S (xA G) s.heap H locs := by rw [eH, eL]; exact hS
  suffices hh : W p l e rm_Ra_pointAt s m args below meth c H locs 0 0 (MQ below (xPi G post) args s 0 0 (xA G)) (F0 m 0 ls []) from by rw [eH, eL] at hh; exact hh
  unfold xw_Ra_pointAt at h
  refine lv_iload_n (pc := 0) hx hb xd_Ra_pointAt_0 rfl (lv_at hl 0 rfl) ?_
  refine xr_callS (pc := 1) (As := [.int a0]) (rest := []) hC hR hS (xc_Rg_red l G  h) xv_Ra_35 ⟨rfl, rfl, Nat.le_of_ble_eq_true rfl, Nat.le_of_ble_eq_true rfl⟩ rfl hl.1 rfl (Nat.le_of_ble_eq_true rfl) xd_Ra_pointAt_1 (fun r2 M1 H locs h hR hS => ?_)
  refine lv_iload_n (pc := 4) hx hb xd_Ra_pointAt_4 rfl (lv_at hl 1 rfl) ?_
  refine xr_callS (pc := 5) (As := [.int a1]) (rest := [.int r2]) hC hR hS (xc_Rg_red l G  h) xv_Ra_35 ⟨rfl, rfl, Nat.le_of_ble_eq_true rfl, Nat.le_of_ble_eq_true rfl⟩ rfl hl.1 rfl (Nat.le_of_ble_eq_true rfl) xd_Ra_pointAt_5 (fun r4 M3 H locs h hR hS => ?_)
  refine lv_iload_n (pc := 8) hx hb xd_Ra_pointAt_8 rfl (lv_at hl 2 rfl) ?_
  refine xr_callS (pc := 9) (As := [.int r2, .int r4, .int a2]) (rest := []) hC hR hS (xc_Ra_mixed l G  h) xv_Ra_38 ⟨rfl, rfl, Nat.le_of_ble_eq_true rfl, Nat.le_of_ble_eq_true rfl⟩ rfl hl.1 rfl (Nat.le_of_ble_eq_true rfl) xd_Ra_pointAt_9 (fun r6 M5 H locs h hR hS => ?_)
  refine lv_iload_n (pc := 12) hx hb xd_Ra_pointAt_12 rfl (lv_at hl 0 rfl) ?_
  refine xr_callS (pc := 13) (As := [.int a0]) (rest := [.int r6]) hC hR hS (xc_Rg_green l G  h) xv_Ra_41 ⟨rfl, rfl, Nat.le_of_ble_eq_true rfl, Nat.le_of_ble_eq_true rfl⟩ rfl hl.1 rfl (Nat.le_of_ble_eq_true rfl) xd_Ra_pointAt_13 (fun r8 M7 H locs h hR hS => ?_)
  refine lv_iload_n (pc := 16) hx hb xd_Ra_pointAt_16 rfl (lv_at hl 1 rfl) ?_
  refine xr_callS (pc := 17) (As := [.int a1]) (rest := [.int r8, .int r6]) hC hR hS (xc_Rg_green l G  h) xv_Ra_41 ⟨rfl, rfl, Nat.le_of_ble_eq_true rfl, Nat.le_of_ble_eq_true rfl⟩ rfl hl.1 rfl (Nat.le_of_ble_eq_true rfl) xd_Ra_pointAt_17 (fun r10 M9 H locs h hR hS => ?_)
  refine lv_iload_n (pc := 20) hx hb xd_Ra_pointAt_20 rfl (lv_at hl 2 rfl) ?_
  refine xr_callS (pc := 21) (As := [.int r8, .int r10, .int a2]) (rest := [.int r6]) hC hR hS (xc_Ra_mixed l G  h) xv_Ra_38 ⟨rfl, rfl, Nat.le_of_ble_eq_true rfl, Nat.le_of_ble_eq_true rfl⟩ rfl hl.1 rfl (Nat.le_of_ble_eq_true rfl) xd_Ra_pointAt_21 (fun r12 M11 H locs h hR hS => ?_)
  refine lv_iload_n (pc := 24) hx hb xd_Ra_pointAt_24 rfl (lv_at hl 0 rfl) ?_
  refine xr_callS (pc := 25) (As := [.int a0]) (rest := [.int r12, .int r6]) hC hR hS (xc_Rg_blue l G  h) xv_Ra_44 ⟨rfl, rfl, Nat.le_of_ble_eq_true rfl, Nat.le_of_ble_eq_true rfl⟩ rfl hl.1 rfl (Nat.le_of_ble_eq_true rfl) xd_Ra_pointAt_25 (fun r14 M13 H locs h hR hS => ?_)
  refine lv_iload_n (pc := 28) hx hb xd_Ra_pointAt_28 rfl (lv_at hl 1 rfl) ?_
  refine xr_callS (pc := 29) (As := [.int a1]) (rest := [.int r14, .int r12, .int r6]) hC hR hS (xc_Rg_blue l G  h) xv_Ra_44 ⟨rfl, rfl, Nat.le_of_ble_eq_true rfl, Nat.le_of_ble_eq_true rfl⟩ rfl hl.1 rfl (Nat.le_of_ble_eq_true rfl) xd_Ra_pointAt_29 (fun r16 M15 H locs h hR hS => ?_)
  refine lv_iload_n (pc := 32) hx hb xd_Ra_pointAt_32 rfl (lv_at hl 2 rfl) ?_
  refine xr_callS (pc := 33) (As := [.int r14, .int r16, .int a2]) (rest := [.int r12, .int r6]) hC hR hS (xc_Ra_mixed l G  h) xv_Ra_38 ⟨rfl, rfl, Nat.le_of_ble_eq_true rfl, Nat.le_of_ble_eq_true rfl⟩ rfl hl.1 rfl (Nat.le_of_ble_eq_true rfl) xd_Ra_pointAt_33 (fun r18 M17 H locs h hR hS => ?_)
  refine xr_callS (pc := 36) (As := [.int r6, .int r12, .int r18]) (rest := []) hC hR hS (xc_Rg_joined l G  h) xv_Ra_47 ⟨rfl, rfl, Nat.le_of_ble_eq_true rfl, Nat.le_of_ble_eq_true rfl⟩ rfl hl.1 rfl (Nat.le_of_ble_eq_true rfl) xd_Ra_pointAt_36 (fun r20 M19 H locs h hR hS => ?_)
  exact xr_iret hC hr hlk hR hS h xd_Ra_pointAt_39

/-! ColoursApart$Ramp.climb(III)I -/
theorem xd_Ra_climb_0 : decode b_Ra_climb 0 = .ok (.iload_n 1, 1) := by decide +kernel
theorem xd_Ra_climb_1 : decode b_Ra_climb 1 = .ok (.invokestatic 19, 3) := by decide +kernel
theorem xd_Ra_climb_4 : decode b_Ra_climb 4 = .ok (.istore 4, 2) := by decide +kernel
theorem xd_Ra_climb_6 : decode b_Ra_climb 6 = .ok (.iload_n 2, 1) := by decide +kernel
theorem xd_Ra_climb_7 : decode b_Ra_climb 7 = .ok (.invokestatic 19, 3) := by decide +kernel
theorem xd_Ra_climb_10 : decode b_Ra_climb 10 = .ok (.iload 4, 2) := by decide +kernel
theorem xd_Ra_climb_12 : decode b_Ra_climb 12 = .ok (.isub, 1) := by decide +kernel
theorem xd_Ra_climb_13 : decode b_Ra_climb 13 = .ok (.istore 5, 2) := by decide +kernel
theorem xd_Ra_climb_15 : decode b_Ra_climb 15 = .ok (.iconst 1, 1) := by decide +kernel
theorem xd_Ra_climb_16 : decode b_Ra_climb 16 = .ok (.iload_n 3, 1) := by decide +kernel
theorem xd_Ra_climb_17 : decode b_Ra_climb 17 = .ok (.iconst 1, 1) := by decide +kernel
theorem xd_Ra_climb_18 : decode b_Ra_climb 18 = .ok (.isub, 1) := by decide +kernel
theorem xd_Ra_climb_19 : decode b_Ra_climb 19 = .ok (.invokestatic 25, 3) := by decide +kernel
theorem xd_Ra_climb_22 : decode b_Ra_climb 22 = .ok (.istore 6, 2) := by decide +kernel
theorem xd_Ra_climb_24 : decode b_Ra_climb 24 = .ok (.iconst 0, 1) := by decide +kernel
theorem xd_Ra_climb_25 : decode b_Ra_climb 25 = .ok (.istore 7, 2) := by decide +kernel
theorem xd_Ra_climb_27 : decode b_Ra_climb 27 = .ok (.iconst 0, 1) := by decide +kernel
theorem xd_Ra_climb_28 : decode b_Ra_climb 28 = .ok (.istore 8, 2) := by decide +kernel
theorem xd_Ra_climb_30 : decode b_Ra_climb 30 = .ok (.iconst 0, 1) := by decide +kernel
theorem xd_Ra_climb_31 : decode b_Ra_climb 31 = .ok (.istore 9, 2) := by decide +kernel
theorem xd_Ra_climb_33 : decode b_Ra_climb 33 = .ok (.iload 9, 2) := by decide +kernel
theorem xd_Ra_climb_35 : decode b_Ra_climb 35 = .ok (.sipush 255, 3) := by decide +kernel
theorem xd_Ra_climb_38 : decode b_Ra_climb 38 = .ok (.if_icmp .gt 72, 3) := by decide +kernel
theorem xd_Ra_climb_41 : decode b_Ra_climb 41 = .ok (.iload 7, 2) := by decide +kernel
theorem xd_Ra_climb_43 : decode b_Ra_climb 43 = .ok (.iload_n 3, 1) := by decide +kernel
theorem xd_Ra_climb_44 : decode b_Ra_climb 44 = .ok (.if_icmp .ge 66, 3) := by decide +kernel
theorem xd_Ra_climb_47 : decode b_Ra_climb 47 = .ok (.iload_n 1, 1) := by decide +kernel
theorem xd_Ra_climb_48 : decode b_Ra_climb 48 = .ok (.iload_n 2, 1) := by decide +kernel
theorem xd_Ra_climb_49 : decode b_Ra_climb 49 = .ok (.iload 9, 2) := by decide +kernel
theorem xd_Ra_climb_51 : decode b_Ra_climb 51 = .ok (.invokestatic 31, 3) := by decide +kernel
theorem xd_Ra_climb_54 : decode b_Ra_climb 54 = .ok (.istore 10, 2) := by decide +kernel
theorem xd_Ra_climb_56 : decode b_Ra_climb 56 = .ok (.iload 10, 2) := by decide +kernel
theorem xd_Ra_climb_58 : decode b_Ra_climb 58 = .ok (.invokestatic 19, 3) := by decide +kernel
theorem xd_Ra_climb_61 : decode b_Ra_climb 61 = .ok (.istore 11, 2) := by decide +kernel
theorem xd_Ra_climb_63 : decode b_Ra_climb 63 = .ok (.iload 7, 2) := by decide +kernel
theorem xd_Ra_climb_65 : decode b_Ra_climb 65 = .ok (.iload_n 3, 1) := by decide +kernel
theorem xd_Ra_climb_66 : decode b_Ra_climb 66 = .ok (.if_icmp .ge 38, 3) := by decide +kernel
theorem xd_Ra_climb_69 : decode b_Ra_climb 69 = .ok (.iload 11, 2) := by decide +kernel
theorem xd_Ra_climb_71 : decode b_Ra_climb 71 = .ok (.iload 4, 2) := by decide +kernel
theorem xd_Ra_climb_73 : decode b_Ra_climb 73 = .ok (.iload 5, 2) := by decide +kernel
theorem xd_Ra_climb_75 : decode b_Ra_climb 75 = .ok (.iload 7, 2) := by decide +kernel
theorem xd_Ra_climb_77 : decode b_Ra_climb 77 = .ok (.imul, 1) := by decide +kernel
theorem xd_Ra_climb_78 : decode b_Ra_climb 78 = .ok (.iload 6, 2) := by decide +kernel
theorem xd_Ra_climb_80 : decode b_Ra_climb 80 = .ok (.idiv, 1) := by decide +kernel
theorem xd_Ra_climb_81 : decode b_Ra_climb 81 = .ok (.iadd, 1) := by decide +kernel
theorem xd_Ra_climb_82 : decode b_Ra_climb 82 = .ok (.if_icmp .lt 22, 3) := by decide +kernel
theorem xd_Ra_climb_85 : decode b_Ra_climb 85 = .ok (.aload_n 0, 1) := by decide +kernel
theorem xd_Ra_climb_86 : decode b_Ra_climb 86 = .ok (.getfield 11, 3) := by decide +kernel
theorem xd_Ra_climb_89 : decode b_Ra_climb 89 = .ok (.iload 7, 2) := by decide +kernel
theorem xd_Ra_climb_91 : decode b_Ra_climb 91 = .ok (.iload 10, 2) := by decide +kernel
theorem xd_Ra_climb_93 : decode b_Ra_climb 93 = .ok (.iastore, 1) := by decide +kernel
theorem xd_Ra_climb_94 : decode b_Ra_climb 94 = .ok (.iload 9, 2) := by decide +kernel
theorem xd_Ra_climb_96 : decode b_Ra_climb 96 = .ok (.istore 8, 2) := by decide +kernel
theorem xd_Ra_climb_98 : decode b_Ra_climb 98 = .ok (.iinc 7 1, 3) := by decide +kernel
theorem xd_Ra_climb_101 : decode b_Ra_climb 101 = .ok (.goto (-38), 3) := by decide +kernel
theorem xd_Ra_climb_104 : decode b_Ra_climb 104 = .ok (.iinc 9 1, 3) := by decide +kernel
theorem xd_Ra_climb_107 : decode b_Ra_climb 107 = .ok (.goto (-74), 3) := by decide +kernel
theorem xd_Ra_climb_110 : decode b_Ra_climb 110 = .ok (.aload_n 0, 1) := by decide +kernel
theorem xd_Ra_climb_111 : decode b_Ra_climb 111 = .ok (.iload_n 3, 1) := by decide +kernel
theorem xd_Ra_climb_112 : decode b_Ra_climb 112 = .ok (.putfield 15, 3) := by decide +kernel
theorem xd_Ra_climb_115 : decode b_Ra_climb 115 = .ok (.iload 8, 2) := by decide +kernel
theorem xd_Ra_climb_117 : decode b_Ra_climb 117 = .ok (.ireturn, 1) := by decide +kernel
abbrev rm_Ra_climb : Room := { frames := 2, cells := 0, slots := 0, locals := 44 }
def xw_Ra_climb_63 (x1 : Int32) (x2 : Int32) (x3 : Int32) (x4 : Int32) (x5 : Int32) (x6 : Int32) (x9 : Int32) (x10 : Int32) (x11 : Int32) (post : Int32 → xM → Prop) (k104 : Int32 → Int32 → xM → Prop) : Nat → Int32 → Int32 → xM → Prop
  | 0, _, _, _ => False
  | n63 + 1, x7, x8, M => ((x3 ≤ x7) → (k104 x7 x8 M)) ∧ ((¬ x3 ≤ x7) → ((¬ x6 = 0) ∧ (((x11 < (x4 + ((x5 * x7) / x6))) → (k104 x7 x8 M)) ∧ ((¬ x11 < (x4 + ((x5 * x7) / x6))) → ((vp_in x7 12) ∧ (xw_Ra_climb_63 x1 x2 x3 x4 x5 x6 x9 x10 x11 post k104 n63 (x7 + (1 : Int32)) x9 (us M 8 15 x7.toNatClampNeg x10)))))))
def xw_Ra_climb_33 (x1 : Int32) (x2 : Int32) (x3 : Int32) (x4 : Int32) (x5 : Int32) (x6 : Int32) (post : Int32 → xM → Prop) (k110 : Int32 → Int32 → Int32 → xM → Prop) : Nat → Int32 → Int32 → Int32 → xM → Prop
  | 0, _, _, _, _ => False
  | n33 + 1, x7, x8, x9, M => (((255 : Int32) < x9) → (k110 x7 x8 x9 M)) ∧ ((¬ (255 : Int32) < x9) → (((x3 ≤ x7) → (k110 x7 x8 x9 M)) ∧ ((¬ x3 ≤ x7) → (xw_Ra_pointAt x1 x2 x9 M (fun (r6 : Int32) (M5 : xM) => xw_Rg_lightOf r6 M5 (fun (r8 : Int32) (M7 : xM) => ∃ n63 : Nat, xw_Ra_climb_63 x1 x2 x3 x4 x5 x6 x9 r6 r8 post (fun (y9 : Int32) (y10 : Int32) (M11 : xM) => xw_Ra_climb_33 x1 x2 x3 x4 x5 x6 post k110 n33 y9 y10 (x9 + (1 : Int32)) M11) n63 x7 x8 M7))))))
def xw_Ra_climb (a1 : Int32) (a2 : Int32) (a3 : Int32) (M : xM) (post : Int32 → xM → Prop) : Prop :=
  xw_Rg_lightOf a1 M (fun (r2 : Int32) (M1 : xM) => xw_Rg_lightOf a2 M1 (fun (r4 : Int32) (M3 : xM) => ∃ n33 : Nat, xw_Ra_climb_33 a1 a2 a3 r2 (r4 - r2) (if (1 : Int32) < (a3 - (1 : Int32)) then (a3 - (1 : Int32)) else (1 : Int32)) post (fun (y12 : Int32) (y13 : Int32) (y14 : Int32) (M15 : xM) => post y13 (us M15 8 14 1 a3)) n33 (0 : Int32) (0 : Int32) (0 : Int32) M3))
set_option maxHeartbeats 4000000 in
set_option maxRecDepth 100000 in
theorem xt_Ra_climb_63 {p : Program} {l : Launch} {e : Env} {s : State} {m : MethodId} {args : Array Value} {below : List Frame} {meth : Method} {c : Code} {G : xG} (hC : xC p s m args c b_Ra_climb R_Ra 12 G) (hr : meth.sig.returnType = (some .int)) (hlk : meth.locks = false) {x1 : Int32} {x2 : Int32} {x3 : Int32} {x4 : Int32} {x5 : Int32} {x6 : Int32} {x9 : Int32} {x10 : Int32} {x11 : Int32} {post : Int32 → xM → Prop} {k104 : Int32 → Int32 → xM → Prop} (hk104 : ∀ (x7 : Int32) (x8 : Int32) (M : xM) (H : Heap) (locs : List Loc) (ls : Array Slot), k104 x7 x8 M → xRp G M H → va_S (xA G) s.heap H locs → lv_has ls 12 [(0, .ref (G.1 8 14)), (1, .int x1), (2, .int x2), (3, .int x3), (4, .int x4), (5, .int x5), (6, .int x6), (7, .int x7), (8, .int x8), (9, .int x9), (10, .int x10), (11, .int x11)] → W p l e rm_Ra_climb s m args below meth c H locs 0 0 (MQ below (xPi G post) args s 0 0 (xA G)) (F0 m 104 ls [])) : ∀ (n : Nat) (x7 : Int32) (x8 : Int32) (M : xM) (H : Heap) (locs : List Loc) (ls : Array Slot), xw_Ra_climb_63 x1 x2 x3 x4 x5 x6 x9 x10 x11 post k104 n x7 x8 M → xRp G M H → va_S (xA G) s.heap H locs → lv_has ls 12 [(0, .ref (G.1 8 14)), (1, .int x1), (2, .int x2), (3, .int x3), (4, .int x4), (5, .int x5), (6, .int x6), (7, .int x7), (8, .int x8), (9, .int x9), (10, .int x10), (11, .int x11)] → W p l e rm_Ra_climb s m args below meth c H locs 0 0 (MQ below (xPi G post) args s 0 0 (xA G)) (F0 m 63 ls []) := by
  have hx := hC.1
  have hb := hC.2.1
  intro n
  induction n with
  | zero => intro x7 x8 M H locs ls; exact fun h => h.elim
  | succ n ih =>
    intro x7 x8 M H locs ls h hR hS hl
    refine lv_iload (pc := 63) hx hb xd_Ra_climb_63 (lv_at hl 7 rfl) ?_
    refine lv_iload_n (pc := 65) hx hb xd_Ra_climb_65 rfl (lv_at hl 3 rfl) ?_
    refine lv_icmp_ge (pc := 66) (tgt := 104) hx hb xd_Ra_climb_66 (by decide) (fun hq => ?_) (fun hq => ?_)
    · have h := h.1 hq
      exact hk104 x7 x8 M H locs ls h hR hS (lv_sub hl [0, 1, 2, 3, 4, 5, 6, 7, 8, 9, 10, 11] rfl)
    · have h := h.2 hq
      refine lv_iload (pc := 69) hx hb xd_Ra_climb_69 (lv_at hl 11 rfl) ?_
      refine lv_iload (pc := 71) hx hb xd_Ra_climb_71 (lv_at hl 4 rfl) ?_
      refine lv_iload (pc := 73) hx hb xd_Ra_climb_73 (lv_at hl 5 rfl) ?_
      refine lv_iload (pc := 75) hx hb xd_Ra_climb_75 (lv_at hl 7 rfl) ?_
      refine lv_imul (pc := 77) hx hb xd_Ra_climb_77 ?_
      refine lv_iload (pc := 78) hx hb xd_Ra_climb_78 (lv_at hl 6 rfl) ?_
      obtain ⟨hq, h⟩ := h
      refine lv_idiv (pc := 80) hx hb xd_Ra_climb_80 hq ?_
      refine lv_iadd (pc := 81) hx hb xd_Ra_climb_81 ?_
      refine lv_icmp_lt (pc := 82) (tgt := 104) hx hb xd_Ra_climb_82 (by decide) (fun hq => ?_) (fun hq => ?_)
      · have h := h.1 hq
        exact hk104 x7 x8 M H locs ls h hR hS (lv_sub hl [0, 1, 2, 3, 4, 5, 6, 7, 8, 9, 10, 11] rfl)
      · have h := h.2 hq
        refine lv_aload_n (pc := 85) hx hb xd_Ra_climb_85 rfl (lv_at hl 0 rfl) ?_
        refine xr_get (pc := 86) (v := .ref (G.1 8 15)) hC hR xo_C14 xf_Ra_11 rfl xd_Ra_climb_86 ?_
        refine lv_iload (pc := 89) hx hb xd_Ra_climb_89 (lv_at hl 7 rfl) ?_
        refine lv_iload (pc := 91) hx hb xd_Ra_climb_91 (lv_at hl 10 rfl) ?_
        obtain ⟨hq, h⟩ := h
        refine xr_iast (pc := 93) hC hR hS xo_C15 hq xd_Ra_climb_93 (fun H locs hR hS => ?_)
        refine lv_iload (pc := 94) hx hb xd_Ra_climb_94 (lv_at hl 9 rfl) ?_
        refine lv_istore (pc := 96) (lv' := [(8, .int x9), (0, .ref (G.1 8 14)), (1, .int x1), (2, .int x2), (3, .int x3), (4, .int x4), (5, .int x5), (6, .int x6), (7, .int x7), (9, .int x9), (10, .int x10), (11, .int x11)]) hx hb xd_Ra_climb_96 hl (by decide) rfl (fun ls hl => ?_)
        refine lv_iinc (pc := 98) (v := (x7 + (1 : Int32))) (lv' := [(7, .int (x7 + (1 : Int32))), (8, .int x9), (0, .ref (G.1 8 14)), (1, .int x1), (2, .int x2), (3, .int x3), (4, .int x4), (5, .int x5), (6, .int x6), (9, .int x9), (10, .int x10), (11, .int x11)]) hx hb xd_Ra_climb_98 hl (k := 8) rfl rfl (by decide) rfl (fun ls hl => ?_)
        refine lv_goto (pc := 101) (tgt := 63) hx hb xd_Ra_climb_101 (by decide) ?_
        exact ih (x7 + (1 : Int32)) x9 (us M 8 15 x7.toNatClampNeg x10) H locs ls h hR hS (lv_sub hl [2, 3, 4, 5, 6, 7, 8, 0, 1, 9, 10, 11] rfl)
set_option maxHeartbeats 4000000 in
set_option maxRecDepth 100000 in
theorem xt_Ra_climb_33 {p : Program} {l : Launch} {e : Env} {s : State} {m : MethodId} {args : Array Value} {below : List Frame} {meth : Method} {c : Code} {G : xG} (hC : xC p s m args c b_Ra_climb R_Ra 12 G) (hr : meth.sig.returnType = (some .int)) (hlk : meth.locks = false) {x1 : Int32} {x2 : Int32} {x3 : Int32} {x4 : Int32} {x5 : Int32} {x6 : Int32} {post : Int32 → xM → Prop} {k110 : Int32 → Int32 → Int32 → xM → Prop} (hk110 : ∀ (x7 : Int32) (x8 : Int32) (x9 : Int32) (M : xM) (H : Heap) (locs : List Loc) (ls : Array Slot), k110 x7 x8 x9 M → xRp G M H → va_S (xA G) s.heap H locs → lv_has ls 12 [(0, .ref (G.1 8 14)), (1, .int x1), (2, .int x2), (3, .int x3), (4, .int x4), (5, .int x5), (6, .int x6), (7, .int x7), (8, .int x8), (9, .int x9)] → W p l e rm_Ra_climb s m args below meth c H locs 0 0 (MQ below (xPi G post) args s 0 0 (xA G)) (F0 m 110 ls [])) : ∀ (n : Nat) (x7 : Int32) (x8 : Int32) (x9 : Int32) (M : xM) (H : Heap) (locs : List Loc) (ls : Array Slot), xw_Ra_climb_33 x1 x2 x3 x4 x5 x6 post k110 n x7 x8 x9 M → xRp G M H → va_S (xA G) s.heap H locs → lv_has ls 12 [(0, .ref (G.1 8 14)), (1, .int x1), (2, .int x2), (3, .int x3), (4, .int x4), (5, .int x5), (6, .int x6), (7, .int x7), (8, .int x8), (9, .int x9)] → W p l e rm_Ra_climb s m args below meth c H locs 0 0 (MQ below (xPi G post) args s 0 0 (xA G)) (F0 m 33 ls []) := by
  have hx := hC.1
  have hb := hC.2.1
  intro n
  induction n with
  | zero => intro x7 x8 x9 M H locs ls; exact fun h => h.elim
  | succ n ih =>
    intro x7 x8 x9 M H locs ls h hR hS hl
    refine lv_iload (pc := 33) hx hb xd_Ra_climb_33 (lv_at hl 9 rfl) ?_
    refine lv_sipush (pc := 35) (v := (255 : Int32)) hx hb xd_Ra_climb_35 (by decide) ?_
    refine lv_icmp_gt (pc := 38) (tgt := 110) hx hb xd_Ra_climb_38 (by decide) (fun hq => ?_) (fun hq => ?_)
    · have h := h.1 hq
      exact hk110 x7 x8 x9 M H locs ls h hR hS (lv_sub hl [0, 1, 2, 3, 4, 5, 6, 7, 8, 9] rfl)
    · have h := h.2 hq
      refine lv_iload (pc := 41) hx hb xd_Ra_climb_41 (lv_at hl 7 rfl) ?_
      refine lv_iload_n (pc := 43) hx hb xd_Ra_climb_43 rfl (lv_at hl 3 rfl) ?_
      refine lv_icmp_ge (pc := 44) (tgt := 110) hx hb xd_Ra_climb_44 (by decide) (fun hq => ?_) (fun hq => ?_)
      · have h := h.1 hq
        exact hk110 x7 x8 x9 M H locs ls h hR hS (lv_sub hl [0, 1, 2, 3, 4, 5, 6, 7, 8, 9] rfl)
      · have h := h.2 hq
        refine lv_iload_n (pc := 47) hx hb xd_Ra_climb_47 rfl (lv_at hl 1 rfl) ?_
        refine lv_iload_n (pc := 48) hx hb xd_Ra_climb_48 rfl (lv_at hl 2 rfl) ?_
        refine lv_iload (pc := 49) hx hb xd_Ra_climb_49 (lv_at hl 9 rfl) ?_
        refine xr_callS (pc := 51) (As := [.int x1, .int x2, .int x9]) (rest := []) hC hR hS (xc_Ra_pointAt l G  h) xv_Ra_31 ⟨rfl, rfl, Nat.le_of_ble_eq_true rfl, Nat.le_of_ble_eq_true rfl⟩ rfl hl.1 rfl (Nat.le_of_ble_eq_true rfl) xd_Ra_climb_51 (fun r6 M5 H locs h hR hS => ?_)
        refine lv_istore (pc := 54) (lv' := [(10, .int r6), (0, .ref (G.1 8 14)), (1, .int x1), (2, .int x2), (3, .int x3), (4, .int x4), (5, .int x5), (6, .int x6), (7, .int x7), (8, .int x8), (9, .int x9)]) hx hb xd_Ra_climb_54 hl (by decide) rfl (fun ls hl => ?_)
        refine lv_iload (pc := 56) hx hb xd_Ra_climb_56 (lv_at hl 0 rfl) ?_
        refine xr_callS (pc := 58) (As := [.int r6]) (rest := []) hC hR hS (xc_Rg_lightOf l G  h) xv_Ra_19 ⟨rfl, rfl, Nat.le_of_ble_eq_true rfl, Nat.le_of_ble_eq_true rfl⟩ rfl hl.1 rfl (Nat.le_of_ble_eq_true rfl) xd_Ra_climb_58 (fun r8 M7 H locs h hR hS => ?_)
        refine lv_istore (pc := 61) (lv' := [(11, .int r8), (10, .int r6), (0, .ref (G.1 8 14)), (1, .int x1), (2, .int x2), (3, .int x3), (4, .int x4), (5, .int x5), (6, .int x6), (7, .int x7), (8, .int x8), (9, .int x9)]) hx hb xd_Ra_climb_61 hl (by decide) rfl (fun ls hl => ?_)
        obtain ⟨n, h⟩ := h
        refine xt_Ra_climb_63 hC hr hlk  (fun y9 y10 M11 H locs ls h hR hS hl => ?_) n x7 x8 M7 H locs ls h hR hS (lv_sub hl [2, 3, 4, 5, 6, 7, 8, 9, 10, 11, 1, 0] rfl)
        refine lv_iinc (pc := 104) (v := (x9 + (1 : Int32))) (lv' := [(9, .int (x9 + (1 : Int32))), (0, .ref (G.1 8 14)), (1, .int x1), (2, .int x2), (3, .int x3), (4, .int x4), (5, .int x5), (6, .int x6), (7, .int y9), (8, .int y10), (10, .int r6), (11, .int r8)]) hx hb xd_Ra_climb_104 hl (k := 9) rfl rfl (by decide) rfl (fun ls hl => ?_)
        refine lv_goto (pc := 107) (tgt := 33) hx hb xd_Ra_climb_107 (by decide) ?_
        exact ih y9 y10 (x9 + (1 : Int32)) M11 H locs ls h hR hS (lv_sub hl [1, 2, 3, 4, 5, 6, 7, 8, 9, 0] rfl)
set_option maxHeartbeats 4000000 in
set_option maxRecDepth 100000 in
theorem xc_Ra_climb (l : Launch) (G : xG) {a1 : Int32} {a2 : Int32} {a3 : Int32}  {M : xM} {post : Int32 → xM → Prop} (h : xw_Ra_climb a1 a2 a3 M post) : Met l y_Ra_climb (Cond.code y_Ra_climb b_Ra_climb 12 (some .int) :: xTG) rm_Ra_climb (xPre G M [.ref (G.1 8 14), .int a1, .int a2, .int a3]) (xPi G post) 0 0 (xA G) := by
  refine xMet (own := R_Ra) [.ref (G.1 8 14), .int a1, .int a2, .int a3] (Or.inl (by decide)) rfl (Nat.le_of_ble_eq_true rfl) (fun p e s m args below meth c ls hC hr hlk hR hS hl => ?_)
  have hx := hC.1
  have hb := hC.2.1
  have hl : lv_has ls 12 [(0, .ref (G.1 8 14)), (1, .int a1), (2, .int a2), (3, .int a3)] := hl
  obtain ⟨H, eH⟩ : ∃ H : Heap, H = s.heap := ⟨_, rfl⟩
  obtain ⟨locs, eL⟩ : ∃ locs : List Loc, locs = [] := ⟨_, rfl⟩
  rw [← eH] at hR
  replace hS : va_S (xA G) s.heap H locs := by rw [eH, eL]; exact hS
  suffices hh : W p l e rm_Ra_climb s m args below meth c H locs 0 0 (MQ below (xPi G post) args s 0 0 (xA G)) (F0 m 0 ls []) from by rw [eH, eL] at hh; exact hh
  unfold xw_Ra_climb at h
  refine lv_iload_n (pc := 0) hx hb xd_Ra_climb_0 rfl (lv_at hl 1 rfl) ?_
  refine xr_callS (pc := 1) (As := [.int a1]) (rest := []) hC hR hS (xc_Rg_lightOf l G  h) xv_Ra_19 ⟨rfl, rfl, Nat.le_of_ble_eq_true rfl, Nat.le_of_ble_eq_true rfl⟩ rfl hl.1 rfl (Nat.le_of_ble_eq_true rfl) xd_Ra_climb_1 (fun r2 M1 H locs h hR hS => ?_)
  refine lv_istore (pc := 4) (lv' := [(4, .int r2), (0, .ref (G.1 8 14)), (1, .int a1), (2, .int a2), (3, .int a3)]) hx hb xd_Ra_climb_4 hl (by decide) rfl (fun ls hl => ?_)
  refine lv_iload_n (pc := 6) hx hb xd_Ra_climb_6 rfl (lv_at hl 3 rfl) ?_
  refine xr_callS (pc := 7) (As := [.int a2]) (rest := []) hC hR hS (xc_Rg_lightOf l G  h) xv_Ra_19 ⟨rfl, rfl, Nat.le_of_ble_eq_true rfl, Nat.le_of_ble_eq_true rfl⟩ rfl hl.1 rfl (Nat.le_of_ble_eq_true rfl) xd_Ra_climb_7 (fun r4 M3 H locs h hR hS => ?_)
  refine lv_iload (pc := 10) hx hb xd_Ra_climb_10 (lv_at hl 0 rfl) ?_
  refine lv_isub (pc := 12) hx hb xd_Ra_climb_12 ?_
  refine lv_istore (pc := 13) (lv' := [(5, .int (r4 - r2)), (4, .int r2), (0, .ref (G.1 8 14)), (1, .int a1), (2, .int a2), (3, .int a3)]) hx hb xd_Ra_climb_13 hl (by decide) rfl (fun ls hl => ?_)
  refine lv_iconst (pc := 15) (v := (1 : Int32)) hx hb xd_Ra_climb_15 (by decide) ?_
  refine lv_iload_n (pc := 16) hx hb xd_Ra_climb_16 rfl (lv_at hl 5 rfl) ?_
  refine lv_iconst (pc := 17) (v := (1 : Int32)) hx hb xd_Ra_climb_17 (by decide) ?_
  refine lv_isub (pc := 18) hx hb xd_Ra_climb_18 ?_
  refine xr_max (pc := 19) hC xk_Ra_25 hl.1 (Nat.le_of_ble_eq_true rfl) (Nat.le_of_ble_eq_true rfl) xd_Ra_climb_19 ?_
  refine lv_istore (pc := 22) (lv' := [(6, .int (if (1 : Int32) < (a3 - (1 : Int32)) then (a3 - (1 : Int32)) else (1 : Int32))), (5, .int (r4 - r2)), (4, .int r2), (0, .ref (G.1 8 14)), (1, .int a1), (2, .int a2), (3, .int a3)]) hx hb xd_Ra_climb_22 hl (by decide) rfl (fun ls hl => ?_)
  refine lv_iconst (pc := 24) (v := (0 : Int32)) hx hb xd_Ra_climb_24 (by decide) ?_
  refine lv_istore (pc := 25) (lv' := [(7, .int (0 : Int32)), (6, .int (if (1 : Int32) < (a3 - (1 : Int32)) then (a3 - (1 : Int32)) else (1 : Int32))), (5, .int (r4 - r2)), (4, .int r2), (0, .ref (G.1 8 14)), (1, .int a1), (2, .int a2), (3, .int a3)]) hx hb xd_Ra_climb_25 hl (by decide) rfl (fun ls hl => ?_)
  refine lv_iconst (pc := 27) (v := (0 : Int32)) hx hb xd_Ra_climb_27 (by decide) ?_
  refine lv_istore (pc := 28) (lv' := [(8, .int (0 : Int32)), (7, .int (0 : Int32)), (6, .int (if (1 : Int32) < (a3 - (1 : Int32)) then (a3 - (1 : Int32)) else (1 : Int32))), (5, .int (r4 - r2)), (4, .int r2), (0, .ref (G.1 8 14)), (1, .int a1), (2, .int a2), (3, .int a3)]) hx hb xd_Ra_climb_28 hl (by decide) rfl (fun ls hl => ?_)
  refine lv_iconst (pc := 30) (v := (0 : Int32)) hx hb xd_Ra_climb_30 (by decide) ?_
  refine lv_istore (pc := 31) (lv' := [(9, .int (0 : Int32)), (8, .int (0 : Int32)), (7, .int (0 : Int32)), (6, .int (if (1 : Int32) < (a3 - (1 : Int32)) then (a3 - (1 : Int32)) else (1 : Int32))), (5, .int (r4 - r2)), (4, .int r2), (0, .ref (G.1 8 14)), (1, .int a1), (2, .int a2), (3, .int a3)]) hx hb xd_Ra_climb_31 hl (by decide) rfl (fun ls hl => ?_)
  obtain ⟨n, h⟩ := h
  refine xt_Ra_climb_33 hC hr hlk  (fun y12 y13 y14 M15 H locs ls h hR hS hl => ?_) n (0 : Int32) (0 : Int32) (0 : Int32) M3 H locs ls h hR hS (lv_sub hl [6, 7, 8, 9, 5, 4, 3, 2, 1, 0] rfl)
  refine lv_aload_n (pc := 110) hx hb xd_Ra_climb_110 rfl (lv_at hl 0 rfl) ?_
  refine lv_iload_n (pc := 111) hx hb xd_Ra_climb_111 rfl (lv_at hl 3 rfl) ?_
  refine xr_put (pc := 112) hC hR hS xo_C14 xf_Ra_15 xp_7_1 rfl rfl rfl xd_Ra_climb_112 (fun H locs hR hS => ?_)
  refine lv_iload (pc := 115) hx hb xd_Ra_climb_115 (lv_at hl 8 rfl) ?_
  exact xr_iret hC hr hlk hR hS h xd_Ra_climb_117

/-! ColoursApart$Ramp.colourAt(I)I -/
theorem xd_Ra_colourAt_0 : decode b_Ra_colourAt 0 = .ok (.iload_n 1, 1) := by decide +kernel
theorem xd_Ra_colourAt_1 : decode b_Ra_colourAt 1 = .ok (.ifCond .lt 20, 3) := by decide +kernel
theorem xd_Ra_colourAt_4 : decode b_Ra_colourAt 4 = .ok (.iload_n 1, 1) := by decide +kernel
theorem xd_Ra_colourAt_5 : decode b_Ra_colourAt 5 = .ok (.aload_n 0, 1) := by decide +kernel
theorem xd_Ra_colourAt_6 : decode b_Ra_colourAt 6 = .ok (.getfield 15, 3) := by decide +kernel
theorem xd_Ra_colourAt_9 : decode b_Ra_colourAt 9 = .ok (.if_icmp .ge 12, 3) := by decide +kernel
theorem xd_Ra_colourAt_12 : decode b_Ra_colourAt 12 = .ok (.aload_n 0, 1) := by decide +kernel
theorem xd_Ra_colourAt_13 : decode b_Ra_colourAt 13 = .ok (.getfield 11, 3) := by decide +kernel
theorem xd_Ra_colourAt_16 : decode b_Ra_colourAt 16 = .ok (.iload_n 1, 1) := by decide +kernel
theorem xd_Ra_colourAt_17 : decode b_Ra_colourAt 17 = .ok (.iaload, 1) := by decide +kernel
theorem xd_Ra_colourAt_18 : decode b_Ra_colourAt 18 = .ok (.goto 4, 3) := by decide +kernel
theorem xd_Ra_colourAt_21 : decode b_Ra_colourAt 21 = .ok (.iconst (-1), 1) := by decide +kernel
theorem xd_Ra_colourAt_22 : decode b_Ra_colourAt 22 = .ok (.ireturn, 1) := by decide +kernel
abbrev rm_Ra_colourAt : Room := { frames := 0, cells := 0, slots := 0, locals := 0 }
def xw_Ra_colourAt (a1 : Int32) (M : xM) (post : Int32 → xM → Prop) : Prop :=
  ((a1 < 0) → (post (-1 : Int32) M)) ∧ ((¬ a1 < 0) → ((((M 8 14 1) ≤ a1) → (post (-1 : Int32) M)) ∧ ((¬ (M 8 14 1) ≤ a1) → ((vp_in a1 12) ∧ (post (M 8 15 a1.toNatClampNeg) M)))))
set_option maxHeartbeats 4000000 in
set_option maxRecDepth 100000 in
theorem xc_Ra_colourAt (l : Launch) (G : xG) {a1 : Int32}  {M : xM} {post : Int32 → xM → Prop} (h : xw_Ra_colourAt a1 M post) : Met l y_Ra_colourAt (Cond.code y_Ra_colourAt b_Ra_colourAt 2 (some .int) :: xTG) rm_Ra_colourAt (xPre G M [.ref (G.1 8 14), .int a1]) (xPi G post) 0 0 (xA G) := by
  refine xMet (own := R_Ra) [.ref (G.1 8 14), .int a1] (Or.inl (by decide)) rfl (Nat.le_of_ble_eq_true rfl) (fun p e s m args below meth c ls hC hr hlk hR hS hl => ?_)
  have hx := hC.1
  have hb := hC.2.1
  have hl : lv_has ls 2 [(0, .ref (G.1 8 14)), (1, .int a1)] := hl
  obtain ⟨H, eH⟩ : ∃ H : Heap, H = s.heap := ⟨_, rfl⟩
  obtain ⟨locs, eL⟩ : ∃ locs : List Loc, locs = [] := ⟨_, rfl⟩
  rw [← eH] at hR
  replace hS : va_S (xA G) s.heap H locs := by rw [eH, eL]; exact hS
  suffices hh : W p l e rm_Ra_colourAt s m args below meth c H locs 0 0 (MQ below (xPi G post) args s 0 0 (xA G)) (F0 m 0 ls []) from by rw [eH, eL] at hh; exact hh
  unfold xw_Ra_colourAt at h
  refine lv_iload_n (pc := 0) hx hb xd_Ra_colourAt_0 rfl (lv_at hl 1 rfl) ?_
  refine lv_if_lt (pc := 1) (tgt := 21) hx hb xd_Ra_colourAt_1 (by decide) (fun hq => ?_) (fun hq => ?_)
  · have h := h.1 hq
    refine lv_iconst (pc := 21) (v := (-1 : Int32)) hx hb xd_Ra_colourAt_21 (by decide) ?_
    exact xr_iret hC hr hlk hR hS h xd_Ra_colourAt_22
  · have h := h.2 hq
    refine lv_iload_n (pc := 4) hx hb xd_Ra_colourAt_4 rfl (lv_at hl 1 rfl) ?_
    refine lv_aload_n (pc := 5) hx hb xd_Ra_colourAt_5 rfl (lv_at hl 0 rfl) ?_
    refine xr_get (pc := 6) (v := .int (M 8 14 1)) hC hR xo_C14 xf_Ra_15 rfl xd_Ra_colourAt_6 ?_
    refine lv_icmp_ge (pc := 9) (tgt := 21) hx hb xd_Ra_colourAt_9 (by decide) (fun hq => ?_) (fun hq => ?_)
    · have h := h.1 hq
      refine lv_iconst (pc := 21) (v := (-1 : Int32)) hx hb xd_Ra_colourAt_21 (by decide) ?_
      exact xr_iret hC hr hlk hR hS h xd_Ra_colourAt_22
    · have h := h.2 hq
      refine lv_aload_n (pc := 12) hx hb xd_Ra_colourAt_12 rfl (lv_at hl 0 rfl) ?_
      refine xr_get (pc := 13) (v := .ref (G.1 8 15)) hC hR xo_C14 xf_Ra_11 rfl xd_Ra_colourAt_13 ?_
      refine lv_iload_n (pc := 16) hx hb xd_Ra_colourAt_16 rfl (lv_at hl 1 rfl) ?_
      obtain ⟨hq, h⟩ := h
      refine xr_iald (pc := 17) hC hR xo_C15 hq xd_Ra_colourAt_17 ?_
      refine lv_goto (pc := 18) (tgt := 22) hx hb xd_Ra_colourAt_18 (by decide) ?_
      exact xr_iret hC hr hlk hR hS h xd_Ra_colourAt_22

/-! ColoursApart$Ramp.growsFor(LColoursApart$Eyes;I)Z -/
theorem xd_Ra_growsFor_0 : decode b_Ra_growsFor 0 = .ok (.iconst (-1), 1) := by decide +kernel
theorem xd_Ra_growsFor_1 : decode b_Ra_growsFor 1 = .ok (.istore_n 3, 1) := by decide +kernel
theorem xd_Ra_growsFor_2 : decode b_Ra_growsFor 2 = .ok (.iconst 0, 1) := by decide +kernel
theorem xd_Ra_growsFor_3 : decode b_Ra_growsFor 3 = .ok (.istore 4, 2) := by decide +kernel
theorem xd_Ra_growsFor_5 : decode b_Ra_growsFor 5 = .ok (.iload 4, 2) := by decide +kernel
theorem xd_Ra_growsFor_7 : decode b_Ra_growsFor 7 = .ok (.aload_n 0, 1) := by decide +kernel
theorem xd_Ra_growsFor_8 : decode b_Ra_growsFor 8 = .ok (.getfield 15, 3) := by decide +kernel
theorem xd_Ra_growsFor_11 : decode b_Ra_growsFor 11 = .ok (.if_icmp .ge 37, 3) := by decide +kernel
theorem xd_Ra_growsFor_14 : decode b_Ra_growsFor 14 = .ok (.aload_n 1, 1) := by decide +kernel
theorem xd_Ra_growsFor_15 : decode b_Ra_growsFor 15 = .ok (.iload_n 2, 1) := by decide +kernel
theorem xd_Ra_growsFor_16 : decode b_Ra_growsFor 16 = .ok (.aload_n 0, 1) := by decide +kernel
theorem xd_Ra_growsFor_17 : decode b_Ra_growsFor 17 = .ok (.getfield 11, 3) := by decide +kernel
theorem xd_Ra_growsFor_20 : decode b_Ra_growsFor 20 = .ok (.iload 4, 2) := by decide +kernel
theorem xd_Ra_growsFor_22 : decode b_Ra_growsFor 22 = .ok (.iaload, 1) := by decide +kernel
theorem xd_Ra_growsFor_23 : decode b_Ra_growsFor 23 = .ok (.invokevirtual 50, 3) := by decide +kernel
theorem xd_Ra_growsFor_26 : decode b_Ra_growsFor 26 = .ok (.invokestatic 19, 3) := by decide +kernel
theorem xd_Ra_growsFor_29 : decode b_Ra_growsFor 29 = .ok (.istore 5, 2) := by decide +kernel
theorem xd_Ra_growsFor_31 : decode b_Ra_growsFor 31 = .ok (.iload 5, 2) := by decide +kernel
theorem xd_Ra_growsFor_33 : decode b_Ra_growsFor 33 = .ok (.iload_n 3, 1) := by decide +kernel
theorem xd_Ra_growsFor_34 : decode b_Ra_growsFor 34 = .ok (.if_icmp .gt 5, 3) := by decide +kernel
theorem xd_Ra_growsFor_37 : decode b_Ra_growsFor 37 = .ok (.iconst 0, 1) := by decide +kernel
theorem xd_Ra_growsFor_38 : decode b_Ra_growsFor 38 = .ok (.ireturn, 1) := by decide +kernel
theorem xd_Ra_growsFor_39 : decode b_Ra_growsFor 39 = .ok (.iload 5, 2) := by decide +kernel
theorem xd_Ra_growsFor_41 : decode b_Ra_growsFor 41 = .ok (.istore_n 3, 1) := by decide +kernel
theorem xd_Ra_growsFor_42 : decode b_Ra_growsFor 42 = .ok (.iinc 4 1, 3) := by decide +kernel
theorem xd_Ra_growsFor_45 : decode b_Ra_growsFor 45 = .ok (.goto (-40), 3) := by decide +kernel
theorem xd_Ra_growsFor_48 : decode b_Ra_growsFor 48 = .ok (.iconst 1, 1) := by decide +kernel
theorem xd_Ra_growsFor_49 : decode b_Ra_growsFor 49 = .ok (.ireturn, 1) := by decide +kernel
abbrev rm_Ra_growsFor : Room := { frames := 3, cells := 0, slots := 0, locals := 70 }
def xw_Ra_growsFor_5 (g1 : Nat) (x2 : Int32) (post : Int32 → xM → Prop) (k48 : Int32 → Int32 → xM → Prop) : Nat → Int32 → Int32 → xM → Prop
  | 0, _, _, _ => False
  | n5 + 1, x3, x4, M => (((M 8 14 1) ≤ x4) → (k48 x3 x4 M)) ∧ ((¬ (M 8 14 1) ≤ x4) → ((vp_in x4 12) ∧ (xw_Ey_look g1 x2 (M 8 15 x4.toNatClampNeg) M (fun (r2 : Int32) (M1 : xM) => xw_Rg_lightOf r2 M1 (fun (r4 : Int32) (M3 : xM) => ((x3 < r4) → (xw_Ra_growsFor_5 g1 x2 post k48 n5 r4 (x4 + (1 : Int32)) M3)) ∧ ((¬ x3 < r4) → (post (0 : Int32) M3)))))))
def xw_Ra_growsFor (g1 : Nat) (a2 : Int32) (M : xM) (post : Int32 → xM → Prop) : Prop :=
  ∃ n5 : Nat, xw_Ra_growsFor_5 g1 a2 post (fun (y5 : Int32) (y6 : Int32) (M7 : xM) => post (1 : Int32) M7) n5 (-1 : Int32) (0 : Int32) M
set_option maxHeartbeats 4000000 in
set_option maxRecDepth 100000 in
theorem xt_Ra_growsFor_5 {p : Program} {l : Launch} {e : Env} {s : State} {m : MethodId} {args : Array Value} {below : List Frame} {meth : Method} {c : Code} {G : xG} (hC : xC p s m args c b_Ra_growsFor R_Ra 6 G) (hr : meth.sig.returnType = (some .boolean)) (hlk : meth.locks = false) {g1 : Nat} (hg1 : g1 < 4) {x2 : Int32} {post : Int32 → xM → Prop} {k48 : Int32 → Int32 → xM → Prop} (hk48 : ∀ (x3 : Int32) (x4 : Int32) (M : xM) (H : Heap) (locs : List Loc) (ls : Array Slot), k48 x3 x4 M → xRp G M H → va_S (xA G) s.heap H locs → lv_has ls 6 [(0, .ref (G.1 8 14)), (1, .ref (G.1 g1 1)), (2, .int x2), (3, .int x3), (4, .int x4)] → W p l e rm_Ra_growsFor s m args below meth c H locs 0 0 (MQ below (xPi G post) args s 0 0 (xA G)) (F0 m 48 ls [])) : ∀ (n : Nat) (x3 : Int32) (x4 : Int32) (M : xM) (H : Heap) (locs : List Loc) (ls : Array Slot), xw_Ra_growsFor_5 g1 x2 post k48 n x3 x4 M → xRp G M H → va_S (xA G) s.heap H locs → lv_has ls 6 [(0, .ref (G.1 8 14)), (1, .ref (G.1 g1 1)), (2, .int x2), (3, .int x3), (4, .int x4)] → W p l e rm_Ra_growsFor s m args below meth c H locs 0 0 (MQ below (xPi G post) args s 0 0 (xA G)) (F0 m 5 ls []) := by
  have hx := hC.1
  have hb := hC.2.1
  intro n
  induction n with
  | zero => intro x3 x4 M H locs ls; exact fun h => h.elim
  | succ n ih =>
    intro x3 x4 M H locs ls h hR hS hl
    refine lv_iload (pc := 5) hx hb xd_Ra_growsFor_5 (lv_at hl 4 rfl) ?_
    refine lv_aload_n (pc := 7) hx hb xd_Ra_growsFor_7 rfl (lv_at hl 0 rfl) ?_
    refine xr_get (pc := 8) (v := .int (M 8 14 1)) hC hR xo_C14 xf_Ra_15 rfl xd_Ra_growsFor_8 ?_
    refine lv_icmp_ge (pc := 11) (tgt := 48) hx hb xd_Ra_growsFor_11 (by decide) (fun hq => ?_) (fun hq => ?_)
    · have h := h.1 hq
      exact hk48 x3 x4 M H locs ls h hR hS (lv_sub hl [0, 1, 2, 3, 4] rfl)
    · have h := h.2 hq
      refine lv_aload_n (pc := 14) hx hb xd_Ra_growsFor_14 rfl (lv_at hl 1 rfl) ?_
      refine lv_iload_n (pc := 15) hx hb xd_Ra_growsFor_15 rfl (lv_at hl 2 rfl) ?_
      refine lv_aload_n (pc := 16) hx hb xd_Ra_growsFor_16 rfl (lv_at hl 0 rfl) ?_
      refine xr_get (pc := 17) (v := .ref (G.1 8 15)) hC hR xo_C14 xf_Ra_11 rfl xd_Ra_growsFor_17 ?_
      refine lv_iload (pc := 20) hx hb xd_Ra_growsFor_20 (lv_at hl 4 rfl) ?_
      obtain ⟨hq, h⟩ := h
      refine xr_iald (pc := 22) hC hR xo_C15 hq xd_Ra_growsFor_22 ?_
      refine xr_callV (pc := 23) (As := [.int x2, .int (M 8 15 x4.toNatClampNeg)]) (rest := []) hC hR hS (xc_Ey_look l G hg1 h) (xo_K1 hg1) xv_Ra_50 ⟨rfl, rfl, Nat.le_of_ble_eq_true rfl, Nat.le_of_ble_eq_true rfl⟩ rfl hl.1 rfl (Nat.le_of_ble_eq_true rfl) xd_Ra_growsFor_23 (fun r2 M1 H locs h hR hS => ?_)
      refine xr_callS (pc := 26) (As := [.int r2]) (rest := []) hC hR hS (xc_Rg_lightOf l G  h) xv_Ra_19 ⟨rfl, rfl, Nat.le_of_ble_eq_true rfl, Nat.le_of_ble_eq_true rfl⟩ rfl hl.1 rfl (Nat.le_of_ble_eq_true rfl) xd_Ra_growsFor_26 (fun r4 M3 H locs h hR hS => ?_)
      refine lv_istore (pc := 29) (lv' := [(5, .int r4), (0, .ref (G.1 8 14)), (1, .ref (G.1 g1 1)), (2, .int x2), (3, .int x3), (4, .int x4)]) hx hb xd_Ra_growsFor_29 hl (by decide) rfl (fun ls hl => ?_)
      refine lv_iload (pc := 31) hx hb xd_Ra_growsFor_31 (lv_at hl 0 rfl) ?_
      refine lv_iload_n (pc := 33) hx hb xd_Ra_growsFor_33 rfl (lv_at hl 4 rfl) ?_
      refine lv_icmp_gt (pc := 34) (tgt := 39) hx hb xd_Ra_growsFor_34 (by decide) (fun hq => ?_) (fun hq => ?_)
      · have h := h.1 hq
        refine lv_iload (pc := 39) hx hb xd_Ra_growsFor_39 (lv_at hl 0 rfl) ?_
        refine lv_istore_n (pc := 41) (lv' := [(3, .int r4), (5, .int r4), (0, .ref (G.1 8 14)), (1, .ref (G.1 g1 1)), (2, .int x2), (4, .int x4)]) hx hb xd_Ra_growsFor_41 rfl hl (by decide) rfl (fun ls hl => ?_)
        refine lv_iinc (pc := 42) (v := (x4 + (1 : Int32))) (lv' := [(4, .int (x4 + (1 : Int32))), (3, .int r4), (5, .int r4), (0, .ref (G.1 8 14)), (1, .ref (G.1 g1 1)), (2, .int x2)]) hx hb xd_Ra_growsFor_42 hl (k := 5) rfl rfl (by decide) rfl (fun ls hl => ?_)
        refine lv_goto (pc := 45) (tgt := 5) hx hb xd_Ra_growsFor_45 (by decide) ?_
        exact ih r4 (x4 + (1 : Int32)) M3 H locs ls h hR hS (lv_sub hl [3, 4, 5, 1, 0] rfl)
      · have h := h.2 hq
        refine lv_iconst (pc := 37) (v := (0 : Int32)) hx hb xd_Ra_growsFor_37 (by decide) ?_
        exact xr_zret hC hr hlk hR hS (by decide) h xd_Ra_growsFor_38
set_option maxHeartbeats 4000000 in
set_option maxRecDepth 100000 in
theorem xc_Ra_growsFor (l : Launch) (G : xG) {g1 : Nat} {a2 : Int32} (hg1 : g1 < 4) {M : xM} {post : Int32 → xM → Prop} (h : xw_Ra_growsFor g1 a2 M post) : Met l y_Ra_growsFor (Cond.code y_Ra_growsFor b_Ra_growsFor 6 (some .boolean) :: xTG) rm_Ra_growsFor (xPre G M [.ref (G.1 8 14), .ref (G.1 g1 1), .int a2]) (xPi G post) 0 0 (xA G) := by
  refine xMet (own := R_Ra) [.ref (G.1 8 14), .ref (G.1 g1 1), .int a2] (Or.inl (by decide)) rfl (Nat.le_of_ble_eq_true rfl) (fun p e s m args below meth c ls hC hr hlk hR hS hl => ?_)
  have hx := hC.1
  have hb := hC.2.1
  have hl : lv_has ls 6 [(0, .ref (G.1 8 14)), (1, .ref (G.1 g1 1)), (2, .int a2)] := hl
  obtain ⟨H, eH⟩ : ∃ H : Heap, H = s.heap := ⟨_, rfl⟩
  obtain ⟨locs, eL⟩ : ∃ locs : List Loc, locs = [] := ⟨_, rfl⟩
  rw [← eH] at hR
  replace hS : va_S (xA G) s.heap H locs := by rw [eH, eL]; exact hS
  suffices hh : W p l e rm_Ra_growsFor s m args below meth c H locs 0 0 (MQ below (xPi G post) args s 0 0 (xA G)) (F0 m 0 ls []) from by rw [eH, eL] at hh; exact hh
  unfold xw_Ra_growsFor at h
  refine lv_iconst (pc := 0) (v := (-1 : Int32)) hx hb xd_Ra_growsFor_0 (by decide) ?_
  refine lv_istore_n (pc := 1) (lv' := [(3, .int (-1 : Int32)), (0, .ref (G.1 8 14)), (1, .ref (G.1 g1 1)), (2, .int a2)]) hx hb xd_Ra_growsFor_1 rfl hl (by decide) rfl (fun ls hl => ?_)
  refine lv_iconst (pc := 2) (v := (0 : Int32)) hx hb xd_Ra_growsFor_2 (by decide) ?_
  refine lv_istore (pc := 3) (lv' := [(4, .int (0 : Int32)), (3, .int (-1 : Int32)), (0, .ref (G.1 8 14)), (1, .ref (G.1 g1 1)), (2, .int a2)]) hx hb xd_Ra_growsFor_3 hl (by decide) rfl (fun ls hl => ?_)
  obtain ⟨n, h⟩ := h
  refine xt_Ra_growsFor_5 hC hr hlk hg1 (fun y5 y6 M7 H locs ls h hR hS hl => ?_) n (-1 : Int32) (0 : Int32) M H locs ls h hR hS (lv_sub hl [2, 3, 4, 1, 0] rfl)
  refine lv_iconst (pc := 48) (v := (1 : Int32)) hx hb xd_Ra_growsFor_48 (by decide) ?_
  exact xr_zret hC hr hlk hR hS (by decide) h xd_Ra_growsFor_49
