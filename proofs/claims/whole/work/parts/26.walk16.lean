/-! ColoursApartModel.moves(II)I -/
theorem xd_Mo_moves_0 : decode b_Mo_moves 0 = .ok (.iconst (-1), 1) := by decide +kernel
theorem xd_Mo_moves_1 : decode b_Mo_moves 1 = .ok (.istore_n 3, 1) := by decide +kernel
theorem xd_Mo_moves_2 : decode b_Mo_moves 2 = .ok (.iconst (-1), 1) := by decide +kernel
theorem xd_Mo_moves_3 : decode b_Mo_moves 3 = .ok (.istore 4, 2) := by decide +kernel
theorem xd_Mo_moves_5 : decode b_Mo_moves 5 = .ok (.aload_n 0, 1) := by decide +kernel
theorem xd_Mo_moves_6 : decode b_Mo_moves 6 = .ok (.iload_n 1, 1) := by decide +kernel
theorem xd_Mo_moves_7 : decode b_Mo_moves 7 = .ok (.aload_n 0, 1) := by decide +kernel
theorem xd_Mo_moves_8 : decode b_Mo_moves 8 = .ok (.getfield 35, 3) := by decide +kernel
theorem xd_Mo_moves_11 : decode b_Mo_moves 11 = .ok (.iload_n 1, 1) := by decide +kernel
theorem xd_Mo_moves_12 : decode b_Mo_moves 12 = .ok (.iaload, 1) := by decide +kernel
theorem xd_Mo_moves_13 : decode b_Mo_moves 13 = .ok (.iload_n 2, 1) := by decide +kernel
theorem xd_Mo_moves_14 : decode b_Mo_moves 14 = .ok (.invokevirtual 183, 3) := by decide +kernel
theorem xd_Mo_moves_17 : decode b_Mo_moves 17 = .ok (.ifCond .eq 13, 3) := by decide +kernel
theorem xd_Mo_moves_20 : decode b_Mo_moves 20 = .ok (.aload_n 0, 1) := by decide +kernel
theorem xd_Mo_moves_21 : decode b_Mo_moves 21 = .ok (.getfield 35, 3) := by decide +kernel
theorem xd_Mo_moves_24 : decode b_Mo_moves 24 = .ok (.iload_n 1, 1) := by decide +kernel
theorem xd_Mo_moves_25 : decode b_Mo_moves 25 = .ok (.iaload, 1) := by decide +kernel
theorem xd_Mo_moves_26 : decode b_Mo_moves 26 = .ok (.istore_n 3, 1) := by decide +kernel
theorem xd_Mo_moves_27 : decode b_Mo_moves 27 = .ok (.iconst 0, 1) := by decide +kernel
theorem xd_Mo_moves_28 : decode b_Mo_moves 28 = .ok (.istore 4, 2) := by decide +kernel
theorem xd_Mo_moves_30 : decode b_Mo_moves 30 = .ok (.iconst 0, 1) := by decide +kernel
theorem xd_Mo_moves_31 : decode b_Mo_moves 31 = .ok (.istore 5, 2) := by decide +kernel
theorem xd_Mo_moves_33 : decode b_Mo_moves 33 = .ok (.iload 5, 2) := by decide +kernel
theorem xd_Mo_moves_35 : decode b_Mo_moves 35 = .ok (.aload_n 0, 1) := by decide +kernel
theorem xd_Mo_moves_36 : decode b_Mo_moves 36 = .ok (.invokevirtual 107, 3) := by decide +kernel
theorem xd_Mo_moves_39 : decode b_Mo_moves 39 = .ok (.if_icmp .ge 65, 3) := by decide +kernel
theorem xd_Mo_moves_42 : decode b_Mo_moves 42 = .ok (.aload_n 0, 1) := by decide +kernel
theorem xd_Mo_moves_43 : decode b_Mo_moves 43 = .ok (.iload 5, 2) := by decide +kernel
theorem xd_Mo_moves_45 : decode b_Mo_moves 45 = .ok (.invokevirtual 111, 3) := by decide +kernel
theorem xd_Mo_moves_48 : decode b_Mo_moves 48 = .ok (.istore 6, 2) := by decide +kernel
theorem xd_Mo_moves_50 : decode b_Mo_moves 50 = .ok (.aload_n 0, 1) := by decide +kernel
theorem xd_Mo_moves_51 : decode b_Mo_moves 51 = .ok (.iconst 0, 1) := by decide +kernel
theorem xd_Mo_moves_52 : decode b_Mo_moves 52 = .ok (.aload_n 0, 1) := by decide +kernel
theorem xd_Mo_moves_53 : decode b_Mo_moves 53 = .ok (.getfield 35, 3) := by decide +kernel
theorem xd_Mo_moves_56 : decode b_Mo_moves 56 = .ok (.iload_n 1, 1) := by decide +kernel
theorem xd_Mo_moves_57 : decode b_Mo_moves 57 = .ok (.iaload, 1) := by decide +kernel
theorem xd_Mo_moves_58 : decode b_Mo_moves 58 = .ok (.iload 6, 2) := by decide +kernel
theorem xd_Mo_moves_60 : decode b_Mo_moves 60 = .ok (.invokevirtual 139, 3) := by decide +kernel
theorem xd_Mo_moves_63 : decode b_Mo_moves 63 = .ok (.istore 7, 2) := by decide +kernel
theorem xd_Mo_moves_65 : decode b_Mo_moves 65 = .ok (.iload_n 3, 1) := by decide +kernel
theorem xd_Mo_moves_66 : decode b_Mo_moves 66 = .ok (.iconst (-1), 1) := by decide +kernel
theorem xd_Mo_moves_67 : decode b_Mo_moves 67 = .ok (.if_icmp .eq 10, 3) := by decide +kernel
theorem xd_Mo_moves_70 : decode b_Mo_moves 70 = .ok (.iload 7, 2) := by decide +kernel
theorem xd_Mo_moves_72 : decode b_Mo_moves 72 = .ok (.iload 4, 2) := by decide +kernel
theorem xd_Mo_moves_74 : decode b_Mo_moves 74 = .ok (.if_icmp .ge 24, 3) := by decide +kernel
theorem xd_Mo_moves_77 : decode b_Mo_moves 77 = .ok (.aload_n 0, 1) := by decide +kernel
theorem xd_Mo_moves_78 : decode b_Mo_moves 78 = .ok (.iload_n 1, 1) := by decide +kernel
theorem xd_Mo_moves_79 : decode b_Mo_moves 79 = .ok (.iload 6, 2) := by decide +kernel
theorem xd_Mo_moves_81 : decode b_Mo_moves 81 = .ok (.iload_n 2, 1) := by decide +kernel
theorem xd_Mo_moves_82 : decode b_Mo_moves 82 = .ok (.invokevirtual 183, 3) := by decide +kernel
theorem xd_Mo_moves_85 : decode b_Mo_moves 85 = .ok (.ifCond .ne 6, 3) := by decide +kernel
theorem xd_Mo_moves_88 : decode b_Mo_moves 88 = .ok (.goto 10, 3) := by decide +kernel
theorem xd_Mo_moves_91 : decode b_Mo_moves 91 = .ok (.iload 6, 2) := by decide +kernel
theorem xd_Mo_moves_93 : decode b_Mo_moves 93 = .ok (.istore_n 3, 1) := by decide +kernel
theorem xd_Mo_moves_94 : decode b_Mo_moves 94 = .ok (.iload 7, 2) := by decide +kernel
theorem xd_Mo_moves_96 : decode b_Mo_moves 96 = .ok (.istore 4, 2) := by decide +kernel
theorem xd_Mo_moves_98 : decode b_Mo_moves 98 = .ok (.iinc 5 1, 3) := by decide +kernel
theorem xd_Mo_moves_101 : decode b_Mo_moves 101 = .ok (.goto (-68), 3) := by decide +kernel
theorem xd_Mo_moves_104 : decode b_Mo_moves 104 = .ok (.iload_n 3, 1) := by decide +kernel
theorem xd_Mo_moves_105 : decode b_Mo_moves 105 = .ok (.iconst (-1), 1) := by decide +kernel
theorem xd_Mo_moves_106 : decode b_Mo_moves 106 = .ok (.if_icmp .eq 10, 3) := by decide +kernel
theorem xd_Mo_moves_109 : decode b_Mo_moves 109 = .ok (.aload_n 0, 1) := by decide +kernel
theorem xd_Mo_moves_110 : decode b_Mo_moves 110 = .ok (.getfield 35, 3) := by decide +kernel
theorem xd_Mo_moves_113 : decode b_Mo_moves 113 = .ok (.iload_n 1, 1) := by decide +kernel
theorem xd_Mo_moves_114 : decode b_Mo_moves 114 = .ok (.iload_n 3, 1) := by decide +kernel
theorem xd_Mo_moves_115 : decode b_Mo_moves 115 = .ok (.iastore, 1) := by decide +kernel
theorem xd_Mo_moves_116 : decode b_Mo_moves 116 = .ok (.iload 4, 2) := by decide +kernel
theorem xd_Mo_moves_118 : decode b_Mo_moves 118 = .ok (.ireturn, 1) := by decide +kernel
abbrev rm_Mo_moves : Room := { frames := 6, cells := 0, slots := 0, locals := 145 }
def xw_Mo_moves_33 (x1 : Int32) (x2 : Int32) (post : Int32 → xM → Prop) (k104 : Int32 → Int32 → Int32 → xM → Prop) : Nat → Int32 → Int32 → Int32 → xM → Prop
  | 0, _, _, _, _ => False
  | n33 + 1, x3, x4, x5, M => xw_Mo_places M (fun (r4 : Int32) (M3 : xM) => ((r4 ≤ x5) → (k104 x3 x4 x5 M3)) ∧ ((¬ r4 ≤ x5) → (xw_Mo_placeOf x5 M3 (fun (r6 : Int32) (M5 : xM) => (vp_in x1 12) ∧ (xw_Mo_distanceOf (0 : Int32) (M5 9 6 x1.toNatClampNeg) r6 M5 (fun (r8 : Int32) (M7 : xM) => xj (fun (J77_8 : xM → Prop) => ((x3 = (-1 : Int32)) → (J77_8  M7)) ∧ ((¬ x3 = (-1 : Int32)) → (((x4 ≤ r8) → (xw_Mo_moves_33 x1 x2 post k104 n33 x3 x4 (x5 + (1 : Int32)) M7)) ∧ ((¬ x4 ≤ r8) → (J77_8  M7))))) (fun (M10 : xM) => xw_Mo_mayBe x1 r6 x2 M10 (fun (r12 : Int32) (M11 : xM) => ((¬ r12 = 0) → (xw_Mo_moves_33 x1 x2 post k104 n33 r6 r8 (x5 + (1 : Int32)) M11)) ∧ ((r12 = 0) → (xw_Mo_moves_33 x1 x2 post k104 n33 x3 x4 (x5 + (1 : Int32)) M11))))))))))
def xw_Mo_moves (a1 : Int32) (a2 : Int32) (M : xM) (post : Int32 → xM → Prop) : Prop :=
  (vp_in a1 12) ∧ (xw_Mo_mayBe a1 (M 9 6 a1.toNatClampNeg) a2 M (fun (r2 : Int32) (M1 : xM) => ((r2 = 0) → (∃ n33 : Nat, xw_Mo_moves_33 a1 a2 post (fun (y13 : Int32) (y14 : Int32) (y15 : Int32) (M16 : xM) => ((y13 = (-1 : Int32)) → (post y14 M16)) ∧ ((¬ y13 = (-1 : Int32)) → ((vp_in a1 12) ∧ (post y14 (us M16 9 6 a1.toNatClampNeg y13))))) n33 (-1 : Int32) (-1 : Int32) (0 : Int32) M1)) ∧ ((¬ r2 = 0) → ((vp_in a1 12) ∧ (∃ n33 : Nat, xw_Mo_moves_33 a1 a2 post (fun (y27 : Int32) (y28 : Int32) (y29 : Int32) (M30 : xM) => ((y27 = (-1 : Int32)) → (post y28 M30)) ∧ ((¬ y27 = (-1 : Int32)) → ((vp_in a1 12) ∧ (post y28 (us M30 9 6 a1.toNatClampNeg y27))))) n33 (M1 9 6 a1.toNatClampNeg) (0 : Int32) (0 : Int32) M1)))))
set_option maxHeartbeats 4000000 in
set_option maxRecDepth 100000 in
theorem xt_Mo_moves_33 {p : Program} {l : Launch} {e : Env} {s : State} {m : MethodId} {args : Array Value} {below : List Frame} {meth : Method} {c : Code} {G : xG} (hC : xC p s m args c b_Mo_moves R_Mo 8 G) (hr : meth.sig.returnType = (some .int)) (hlk : meth.locks = false) {x1 : Int32} {x2 : Int32} {post : Int32 → xM → Prop} {k104 : Int32 → Int32 → Int32 → xM → Prop} (hk104 : ∀ (x3 : Int32) (x4 : Int32) (x5 : Int32) (M : xM) (H : Heap) (locs : List Loc) (ls : Array Slot), k104 x3 x4 x5 M → xRp G M H → va_S (xA G) s.heap H locs → lv_has ls 8 [(0, .ref (G.1 9 0)), (1, .int x1), (2, .int x2), (3, .int x3), (4, .int x4), (5, .int x5)] → W p l e rm_Mo_moves s m args below meth c H locs 0 0 (MQ below (xPi G post) args s 0 0 (xA G)) (F0 m 104 ls [])) : ∀ (n : Nat) (x3 : Int32) (x4 : Int32) (x5 : Int32) (M : xM) (H : Heap) (locs : List Loc) (ls : Array Slot), xw_Mo_moves_33 x1 x2 post k104 n x3 x4 x5 M → xRp G M H → va_S (xA G) s.heap H locs → lv_has ls 8 [(0, .ref (G.1 9 0)), (1, .int x1), (2, .int x2), (3, .int x3), (4, .int x4), (5, .int x5)] → W p l e rm_Mo_moves s m args below meth c H locs 0 0 (MQ below (xPi G post) args s 0 0 (xA G)) (F0 m 33 ls []) := by
  have hx := hC.1
  have hb := hC.2.1
  intro n
  induction n with
  | zero => intro x3 x4 x5 M H locs ls; exact fun h => h.elim
  | succ n ih =>
    intro x3 x4 x5 M H locs ls h hR hS hl
    refine lv_iload (pc := 33) hx hb xd_Mo_moves_33 (lv_at hl 5 rfl) ?_
    refine lv_aload_n (pc := 35) hx hb xd_Mo_moves_35 rfl (lv_at hl 0 rfl) ?_
    refine xr_callV (pc := 36) (As := []) (rest := [.int x5]) hC hR hS (xc_Mo_places l G  h) xo_M0 xv_Mo_107 ⟨rfl, rfl, Nat.le_of_ble_eq_true rfl, Nat.le_of_ble_eq_true rfl⟩ rfl hl.1 rfl (Nat.le_of_ble_eq_true rfl) xd_Mo_moves_36 (fun r4 M3 H locs h hR hS => ?_)
    refine lv_icmp_ge (pc := 39) (tgt := 104) hx hb xd_Mo_moves_39 (by decide) (fun hq => ?_) (fun hq => ?_)
    · have h := h.1 hq
      exact hk104 x3 x4 x5 M3 H locs ls h hR hS (lv_sub hl [0, 1, 2, 3, 4, 5] rfl)
    · have h := h.2 hq
      refine lv_aload_n (pc := 42) hx hb xd_Mo_moves_42 rfl (lv_at hl 0 rfl) ?_
      refine lv_iload (pc := 43) hx hb xd_Mo_moves_43 (lv_at hl 5 rfl) ?_
      refine xr_callV (pc := 45) (As := [.int x5]) (rest := []) hC hR hS (xc_Mo_placeOf l G  h) xo_M0 xv_Mo_111 ⟨rfl, rfl, Nat.le_of_ble_eq_true rfl, Nat.le_of_ble_eq_true rfl⟩ rfl hl.1 rfl (Nat.le_of_ble_eq_true rfl) xd_Mo_moves_45 (fun r6 M5 H locs h hR hS => ?_)
      refine lv_istore (pc := 48) (lv' := [(6, .int r6), (0, .ref (G.1 9 0)), (1, .int x1), (2, .int x2), (3, .int x3), (4, .int x4), (5, .int x5)]) hx hb xd_Mo_moves_48 hl (by decide) rfl (fun ls hl => ?_)
      refine lv_aload_n (pc := 50) hx hb xd_Mo_moves_50 rfl (lv_at hl 1 rfl) ?_
      refine lv_iconst (pc := 51) (v := (0 : Int32)) hx hb xd_Mo_moves_51 (by decide) ?_
      refine lv_aload_n (pc := 52) hx hb xd_Mo_moves_52 rfl (lv_at hl 1 rfl) ?_
      refine xr_get (pc := 53) (v := .ref (G.1 9 6)) hC hR xo_M0 xf_Mo_35 rfl xd_Mo_moves_53 ?_
      refine lv_iload_n (pc := 56) hx hb xd_Mo_moves_56 rfl (lv_at hl 2 rfl) ?_
      obtain ⟨hq, h⟩ := h
      refine xr_iald (pc := 57) hC hR xo_M6 hq xd_Mo_moves_57 ?_
      refine lv_iload (pc := 58) hx hb xd_Mo_moves_58 (lv_at hl 0 rfl) ?_
      refine xr_callV (pc := 60) (As := [.int (0 : Int32), .int (M5 9 6 x1.toNatClampNeg), .int r6]) (rest := []) hC hR hS (xc_Mo_distanceOf l G  h) xo_M0 xv_Mo_139 ⟨rfl, rfl, Nat.le_of_ble_eq_true rfl, Nat.le_of_ble_eq_true rfl⟩ rfl hl.1 rfl (Nat.le_of_ble_eq_true rfl) xd_Mo_moves_60 (fun r8 M7 H locs h hR hS => ?_)
      refine lv_istore (pc := 63) (lv' := [(7, .int r8), (6, .int r6), (0, .ref (G.1 9 0)), (1, .int x1), (2, .int x2), (3, .int x3), (4, .int x4), (5, .int x5)]) hx hb xd_Mo_moves_63 hl (by decide) rfl (fun ls hl => ?_)
      refine lv_iload_n (pc := 65) hx hb xd_Mo_moves_65 rfl (lv_at hl 5 rfl) ?_
      refine lv_iconst (pc := 66) (v := (-1 : Int32)) hx hb xd_Mo_moves_66 (by decide) ?_
      obtain ⟨J77_8, eJ77_8, h⟩ := xj_open h
      have kJ77_8 : ∀ (M10 : xM) (H : Heap) (locs : List Loc) (ls : Array Slot), J77_8 M10 → xRp G M10 H → va_S (xA G) s.heap H locs → lv_has ls 8 [(0, .ref (G.1 9 0)), (1, .int x1), (2, .int x2), (3, .int x3), (4, .int x4), (5, .int x5), (6, .int r6), (7, .int r8)] → W p l e rm_Mo_moves s m args below meth c H locs 0 0 (MQ below (xPi G post) args s 0 0 (xA G)) (F0 m 77 ls []) := by
        intro M10 H locs ls h hR hS hl
        rw [eJ77_8] at h
        refine lv_aload_n (pc := 77) hx hb xd_Mo_moves_77 rfl (lv_at hl 0 rfl) ?_
        refine lv_iload_n (pc := 78) hx hb xd_Mo_moves_78 rfl (lv_at hl 1 rfl) ?_
        refine lv_iload (pc := 79) hx hb xd_Mo_moves_79 (lv_at hl 6 rfl) ?_
        refine lv_iload_n (pc := 81) hx hb xd_Mo_moves_81 rfl (lv_at hl 2 rfl) ?_
        refine xr_callV (pc := 82) (As := [.int x1, .int r6, .int x2]) (rest := []) hC hR hS (xc_Mo_mayBe l G  h) xo_M0 xv_Mo_183 ⟨rfl, rfl, Nat.le_of_ble_eq_true rfl, Nat.le_of_ble_eq_true rfl⟩ rfl hl.1 rfl (Nat.le_of_ble_eq_true rfl) xd_Mo_moves_82 (fun r12 M11 H locs h hR hS => ?_)
        refine lv_if_ne (pc := 85) (tgt := 91) hx hb xd_Mo_moves_85 (by decide) (fun hq => ?_) (fun hq => ?_)
        · have h := h.1 hq
          refine lv_iload (pc := 91) hx hb xd_Mo_moves_91 (lv_at hl 6 rfl) ?_
          refine lv_istore_n (pc := 93) (lv' := [(3, .int r6), (0, .ref (G.1 9 0)), (1, .int x1), (2, .int x2), (4, .int x4), (5, .int x5), (6, .int r6), (7, .int r8)]) hx hb xd_Mo_moves_93 rfl hl (by decide) rfl (fun ls hl => ?_)
          refine lv_iload (pc := 94) hx hb xd_Mo_moves_94 (lv_at hl 7 rfl) ?_
          refine lv_istore (pc := 96) (lv' := [(4, .int r8), (3, .int r6), (0, .ref (G.1 9 0)), (1, .int x1), (2, .int x2), (5, .int x5), (6, .int r6), (7, .int r8)]) hx hb xd_Mo_moves_96 hl (by decide) rfl (fun ls hl => ?_)
          refine lv_iinc (pc := 98) (v := (x5 + (1 : Int32))) (lv' := [(5, .int (x5 + (1 : Int32))), (4, .int r8), (3, .int r6), (0, .ref (G.1 9 0)), (1, .int x1), (2, .int x2), (6, .int r6), (7, .int r8)]) hx hb xd_Mo_moves_98 hl (k := 5) rfl rfl (by decide) rfl (fun ls hl => ?_)
          refine lv_goto (pc := 101) (tgt := 33) hx hb xd_Mo_moves_101 (by decide) ?_
          exact ih r6 r8 (x5 + (1 : Int32)) M11 H locs ls h hR hS (lv_sub hl [3, 4, 5, 2, 1, 0] rfl)
        · have h := h.2 hq
          refine lv_goto (pc := 88) (tgt := 98) hx hb xd_Mo_moves_88 (by decide) ?_
          refine lv_iinc (pc := 98) (v := (x5 + (1 : Int32))) (lv' := [(5, .int (x5 + (1 : Int32))), (0, .ref (G.1 9 0)), (1, .int x1), (2, .int x2), (3, .int x3), (4, .int x4), (6, .int r6), (7, .int r8)]) hx hb xd_Mo_moves_98 hl (k := 5) rfl rfl (by decide) rfl (fun ls hl => ?_)
          refine lv_goto (pc := 101) (tgt := 33) hx hb xd_Mo_moves_101 (by decide) ?_
          exact ih x3 x4 (x5 + (1 : Int32)) M11 H locs ls h hR hS (lv_sub hl [1, 2, 3, 4, 5, 0] rfl)
      refine lv_icmp_eq (pc := 67) (tgt := 77) hx hb xd_Mo_moves_67 (by decide) (fun hq => ?_) (fun hq => ?_)
      · have h := h.1 hq
        exact kJ77_8  M7 H locs ls h hR hS (lv_sub hl [2, 3, 4, 5, 6, 7, 1, 0] rfl)
      · have h := h.2 hq
        refine lv_iload (pc := 70) hx hb xd_Mo_moves_70 (lv_at hl 0 rfl) ?_
        refine lv_iload (pc := 72) hx hb xd_Mo_moves_72 (lv_at hl 6 rfl) ?_
        refine lv_icmp_ge (pc := 74) (tgt := 98) hx hb xd_Mo_moves_74 (by decide) (fun hq => ?_) (fun hq => ?_)
        · have h := h.1 hq
          refine lv_iinc (pc := 98) (v := (x5 + (1 : Int32))) (lv' := [(5, .int (x5 + (1 : Int32))), (7, .int r8), (6, .int r6), (0, .ref (G.1 9 0)), (1, .int x1), (2, .int x2), (3, .int x3), (4, .int x4)]) hx hb xd_Mo_moves_98 hl (k := 7) rfl rfl (by decide) rfl (fun ls hl => ?_)
          refine lv_goto (pc := 101) (tgt := 33) hx hb xd_Mo_moves_101 (by decide) ?_
          exact ih x3 x4 (x5 + (1 : Int32)) M7 H locs ls h hR hS (lv_sub hl [3, 4, 5, 6, 7, 0] rfl)
        · have h := h.2 hq
          exact kJ77_8  M7 H locs ls h hR hS (lv_sub hl [2, 3, 4, 5, 6, 7, 1, 0] rfl)
set_option maxHeartbeats 4000000 in
set_option maxRecDepth 100000 in
theorem xc_Mo_moves (l : Launch) (G : xG) {a1 : Int32} {a2 : Int32}  {M : xM} {post : Int32 → xM → Prop} (h : xw_Mo_moves a1 a2 M post) : Met l y_Mo_moves (Cond.code y_Mo_moves b_Mo_moves 8 (some .int) :: xTG) rm_Mo_moves (xPre G M [.ref (G.1 9 0), .int a1, .int a2]) (xPi G post) 0 0 (xA G) := by
  refine xMet (own := R_Mo) [.ref (G.1 9 0), .int a1, .int a2] (Or.inl (by decide)) rfl (Nat.le_of_ble_eq_true rfl) (fun p e s m args below meth c ls hC hr hlk hR hS hl => ?_)
  have hx := hC.1
  have hb := hC.2.1
  have hl : lv_has ls 8 [(0, .ref (G.1 9 0)), (1, .int a1), (2, .int a2)] := hl
  obtain ⟨H, eH⟩ : ∃ H : Heap, H = s.heap := ⟨_, rfl⟩
  obtain ⟨locs, eL⟩ : ∃ locs : List Loc, locs = [] := ⟨_, rfl⟩
  rw [← eH] at hR
  replace hS : va_S (xA G) s.heap H locs := by rw [eH, eL]; exact hS
  suffices hh : W p l e rm_Mo_moves s m args below meth c H locs 0 0 (MQ below (xPi G post) args s 0 0 (xA G)) (F0 m 0 ls []) from by rw [eH, eL] at hh; exact hh
  unfold xw_Mo_moves at h
  refine lv_iconst (pc := 0) (v := (-1 : Int32)) hx hb xd_Mo_moves_0 (by decide) ?_
  refine lv_istore_n (pc := 1) (lv' := [(3, .int (-1 : Int32)), (0, .ref (G.1 9 0)), (1, .int a1), (2, .int a2)]) hx hb xd_Mo_moves_1 rfl hl (by decide) rfl (fun ls hl => ?_)
  refine lv_iconst (pc := 2) (v := (-1 : Int32)) hx hb xd_Mo_moves_2 (by decide) ?_
  refine lv_istore (pc := 3) (lv' := [(4, .int (-1 : Int32)), (3, .int (-1 : Int32)), (0, .ref (G.1 9 0)), (1, .int a1), (2, .int a2)]) hx hb xd_Mo_moves_3 hl (by decide) rfl (fun ls hl => ?_)
  refine lv_aload_n (pc := 5) hx hb xd_Mo_moves_5 rfl (lv_at hl 2 rfl) ?_
  refine lv_iload_n (pc := 6) hx hb xd_Mo_moves_6 rfl (lv_at hl 3 rfl) ?_
  refine lv_aload_n (pc := 7) hx hb xd_Mo_moves_7 rfl (lv_at hl 2 rfl) ?_
  refine xr_get (pc := 8) (v := .ref (G.1 9 6)) hC hR xo_M0 xf_Mo_35 rfl xd_Mo_moves_8 ?_
  refine lv_iload_n (pc := 11) hx hb xd_Mo_moves_11 rfl (lv_at hl 3 rfl) ?_
  obtain ⟨hq, h⟩ := h
  refine xr_iald (pc := 12) hC hR xo_M6 hq xd_Mo_moves_12 ?_
  refine lv_iload_n (pc := 13) hx hb xd_Mo_moves_13 rfl (lv_at hl 4 rfl) ?_
  refine xr_callV (pc := 14) (As := [.int a1, .int (M 9 6 a1.toNatClampNeg), .int a2]) (rest := []) hC hR hS (xc_Mo_mayBe l G  h) xo_M0 xv_Mo_183 ⟨rfl, rfl, Nat.le_of_ble_eq_true rfl, Nat.le_of_ble_eq_true rfl⟩ rfl hl.1 rfl (Nat.le_of_ble_eq_true rfl) xd_Mo_moves_14 (fun r2 M1 H locs h hR hS => ?_)
  refine lv_if_eq (pc := 17) (tgt := 30) hx hb xd_Mo_moves_17 (by decide) (fun hq => ?_) (fun hq => ?_)
  · have h := h.1 hq
    refine lv_iconst (pc := 30) (v := (0 : Int32)) hx hb xd_Mo_moves_30 (by decide) ?_
    refine lv_istore (pc := 31) (lv' := [(5, .int (0 : Int32)), (4, .int (-1 : Int32)), (3, .int (-1 : Int32)), (0, .ref (G.1 9 0)), (1, .int a1), (2, .int a2)]) hx hb xd_Mo_moves_31 hl (by decide) rfl (fun ls hl => ?_)
    obtain ⟨n, h⟩ := h
    refine xt_Mo_moves_33 hC hr hlk  (fun y13 y14 y15 M16 H locs ls h hR hS hl => ?_) n (-1 : Int32) (-1 : Int32) (0 : Int32) M1 H locs ls h hR hS (lv_sub hl [3, 4, 5, 2, 1, 0] rfl)
    refine lv_iload_n (pc := 104) hx hb xd_Mo_moves_104 rfl (lv_at hl 3 rfl) ?_
    refine lv_iconst (pc := 105) (v := (-1 : Int32)) hx hb xd_Mo_moves_105 (by decide) ?_
    refine lv_icmp_eq (pc := 106) (tgt := 116) hx hb xd_Mo_moves_106 (by decide) (fun hq => ?_) (fun hq => ?_)
    · have h := h.1 hq
      refine lv_iload (pc := 116) hx hb xd_Mo_moves_116 (lv_at hl 4 rfl) ?_
      exact xr_iret hC hr hlk hR hS h xd_Mo_moves_118
    · have h := h.2 hq
      refine lv_aload_n (pc := 109) hx hb xd_Mo_moves_109 rfl (lv_at hl 0 rfl) ?_
      refine xr_get (pc := 110) (v := .ref (G.1 9 6)) hC hR xo_M0 xf_Mo_35 rfl xd_Mo_moves_110 ?_
      refine lv_iload_n (pc := 113) hx hb xd_Mo_moves_113 rfl (lv_at hl 1 rfl) ?_
      refine lv_iload_n (pc := 114) hx hb xd_Mo_moves_114 rfl (lv_at hl 3 rfl) ?_
      obtain ⟨hq, h⟩ := h
      refine xr_iast (pc := 115) hC hR hS xo_M6 hq xd_Mo_moves_115 (fun H locs hR hS => ?_)
      refine lv_iload (pc := 116) hx hb xd_Mo_moves_116 (lv_at hl 4 rfl) ?_
      exact xr_iret hC hr hlk hR hS h xd_Mo_moves_118
  · have h := h.2 hq
    refine lv_aload_n (pc := 20) hx hb xd_Mo_moves_20 rfl (lv_at hl 2 rfl) ?_
    refine xr_get (pc := 21) (v := .ref (G.1 9 6)) hC hR xo_M0 xf_Mo_35 rfl xd_Mo_moves_21 ?_
    refine lv_iload_n (pc := 24) hx hb xd_Mo_moves_24 rfl (lv_at hl 3 rfl) ?_
    obtain ⟨hq, h⟩ := h
    refine xr_iald (pc := 25) hC hR xo_M6 hq xd_Mo_moves_25 ?_
    refine lv_istore_n (pc := 26) (lv' := [(3, .int (M1 9 6 a1.toNatClampNeg)), (4, .int (-1 : Int32)), (0, .ref (G.1 9 0)), (1, .int a1), (2, .int a2)]) hx hb xd_Mo_moves_26 rfl hl (by decide) rfl (fun ls hl => ?_)
    refine lv_iconst (pc := 27) (v := (0 : Int32)) hx hb xd_Mo_moves_27 (by decide) ?_
    refine lv_istore (pc := 28) (lv' := [(4, .int (0 : Int32)), (3, .int (M1 9 6 a1.toNatClampNeg)), (0, .ref (G.1 9 0)), (1, .int a1), (2, .int a2)]) hx hb xd_Mo_moves_28 hl (by decide) rfl (fun ls hl => ?_)
    refine lv_iconst (pc := 30) (v := (0 : Int32)) hx hb xd_Mo_moves_30 (by decide) ?_
    refine lv_istore (pc := 31) (lv' := [(5, .int (0 : Int32)), (4, .int (0 : Int32)), (3, .int (M1 9 6 a1.toNatClampNeg)), (0, .ref (G.1 9 0)), (1, .int a1), (2, .int a2)]) hx hb xd_Mo_moves_31 hl (by decide) rfl (fun ls hl => ?_)
    obtain ⟨n, h⟩ := h
    refine xt_Mo_moves_33 hC hr hlk  (fun y27 y28 y29 M30 H locs ls h hR hS hl => ?_) n (M1 9 6 a1.toNatClampNeg) (0 : Int32) (0 : Int32) M1 H locs ls h hR hS (lv_sub hl [3, 4, 5, 2, 1, 0] rfl)
    refine lv_iload_n (pc := 104) hx hb xd_Mo_moves_104 rfl (lv_at hl 3 rfl) ?_
    refine lv_iconst (pc := 105) (v := (-1 : Int32)) hx hb xd_Mo_moves_105 (by decide) ?_
    refine lv_icmp_eq (pc := 106) (tgt := 116) hx hb xd_Mo_moves_106 (by decide) (fun hq => ?_) (fun hq => ?_)
    · have h := h.1 hq
      refine lv_iload (pc := 116) hx hb xd_Mo_moves_116 (lv_at hl 4 rfl) ?_
      exact xr_iret hC hr hlk hR hS h xd_Mo_moves_118
    · have h := h.2 hq
      refine lv_aload_n (pc := 109) hx hb xd_Mo_moves_109 rfl (lv_at hl 0 rfl) ?_
      refine xr_get (pc := 110) (v := .ref (G.1 9 6)) hC hR xo_M0 xf_Mo_35 rfl xd_Mo_moves_110 ?_
      refine lv_iload_n (pc := 113) hx hb xd_Mo_moves_113 rfl (lv_at hl 1 rfl) ?_
      refine lv_iload_n (pc := 114) hx hb xd_Mo_moves_114 rfl (lv_at hl 3 rfl) ?_
      obtain ⟨hq, h⟩ := h
      refine xr_iast (pc := 115) hC hR hS xo_M6 hq xd_Mo_moves_115 (fun H locs hR hS => ?_)
      refine lv_iload (pc := 116) hx hb xd_Mo_moves_116 (lv_at hl 4 rfl) ?_
      exact xr_iret hC hr hlk hR hS h xd_Mo_moves_118

/-! ColoursApartModel.move(II)I -/
theorem xd_Mo_move_0 : decode b_Mo_move 0 = .ok (.iload_n 2, 1) := by decide +kernel
theorem xd_Mo_move_1 : decode b_Mo_move 1 = .ok (.iconst 1, 1) := by decide +kernel
theorem xd_Mo_move_2 : decode b_Mo_move 2 = .ok (.ldc 170, 2) := by decide +kernel
theorem xd_Mo_move_4 : decode b_Mo_move 4 = .ok (.invokestatic 85, 3) := by decide +kernel
theorem xd_Mo_move_7 : decode b_Mo_move 7 = .ok (.ifCond .ne 9, 3) := by decide +kernel
theorem xd_Mo_move_10 : decode b_Mo_move 10 = .ok (.aload_n 0, 1) := by decide +kernel
theorem xd_Mo_move_11 : decode b_Mo_move 11 = .ok (.iconst (-1), 1) := by decide +kernel
theorem xd_Mo_move_12 : decode b_Mo_move 12 = .ok (.invokevirtual 89, 3) := by decide +kernel
theorem xd_Mo_move_15 : decode b_Mo_move 15 = .ok (.ireturn, 1) := by decide +kernel
theorem xd_Mo_move_16 : decode b_Mo_move 16 = .ok (.aload_n 0, 1) := by decide +kernel
theorem xd_Mo_move_17 : decode b_Mo_move 17 = .ok (.iload_n 1, 1) := by decide +kernel
theorem xd_Mo_move_18 : decode b_Mo_move 18 = .ok (.invokevirtual 151, 3) := by decide +kernel
theorem xd_Mo_move_21 : decode b_Mo_move 21 = .ok (.ifCond .ne 10, 3) := by decide +kernel
theorem xd_Mo_move_24 : decode b_Mo_move 24 = .ok (.aload_n 0, 1) := by decide +kernel
theorem xd_Mo_move_25 : decode b_Mo_move 25 = .ok (.bipush (-2), 2) := by decide +kernel
theorem xd_Mo_move_27 : decode b_Mo_move 27 = .ok (.invokevirtual 89, 3) := by decide +kernel
theorem xd_Mo_move_30 : decode b_Mo_move 30 = .ok (.ireturn, 1) := by decide +kernel
theorem xd_Mo_move_31 : decode b_Mo_move 31 = .ok (.aload_n 0, 1) := by decide +kernel
theorem xd_Mo_move_32 : decode b_Mo_move 32 = .ok (.getfield 38, 3) := by decide +kernel
theorem xd_Mo_move_35 : decode b_Mo_move 35 = .ok (.iload_n 1, 1) := by decide +kernel
theorem xd_Mo_move_36 : decode b_Mo_move 36 = .ok (.baload, 1) := by decide +kernel
theorem xd_Mo_move_37 : decode b_Mo_move 37 = .ok (.ifCond .eq 10, 3) := by decide +kernel
theorem xd_Mo_move_40 : decode b_Mo_move 40 = .ok (.aload_n 0, 1) := by decide +kernel
theorem xd_Mo_move_41 : decode b_Mo_move 41 = .ok (.bipush (-6), 2) := by decide +kernel
theorem xd_Mo_move_43 : decode b_Mo_move 43 = .ok (.invokevirtual 89, 3) := by decide +kernel
theorem xd_Mo_move_46 : decode b_Mo_move 46 = .ok (.ireturn, 1) := by decide +kernel
theorem xd_Mo_move_47 : decode b_Mo_move 47 = .ok (.aload_n 0, 1) := by decide +kernel
theorem xd_Mo_move_48 : decode b_Mo_move 48 = .ok (.iload_n 1, 1) := by decide +kernel
theorem xd_Mo_move_49 : decode b_Mo_move 49 = .ok (.iload_n 2, 1) := by decide +kernel
theorem xd_Mo_move_50 : decode b_Mo_move 50 = .ok (.invokevirtual 186, 3) := by decide +kernel
theorem xd_Mo_move_53 : decode b_Mo_move 53 = .ok (.istore_n 3, 1) := by decide +kernel
theorem xd_Mo_move_54 : decode b_Mo_move 54 = .ok (.aload_n 0, 1) := by decide +kernel
theorem xd_Mo_move_55 : decode b_Mo_move 55 = .ok (.iload_n 3, 1) := by decide +kernel
theorem xd_Mo_move_56 : decode b_Mo_move 56 = .ok (.iconst (-1), 1) := by decide +kernel
theorem xd_Mo_move_57 : decode b_Mo_move 57 = .ok (.if_icmp .ne 8, 3) := by decide +kernel
theorem xd_Mo_move_60 : decode b_Mo_move 60 = .ok (.bipush (-6), 2) := by decide +kernel
theorem xd_Mo_move_62 : decode b_Mo_move 62 = .ok (.goto 4, 3) := by decide +kernel
theorem xd_Mo_move_65 : decode b_Mo_move 65 = .ok (.iload_n 3, 1) := by decide +kernel
theorem xd_Mo_move_66 : decode b_Mo_move 66 = .ok (.invokevirtual 89, 3) := by decide +kernel
theorem xd_Mo_move_69 : decode b_Mo_move 69 = .ok (.ireturn, 1) := by decide +kernel
abbrev rm_Mo_move : Room := { frames := 7, cells := 0, slots := 0, locals := 172 }
def xw_Mo_move (a1 : Int32) (a2 : Int32) (M : xM) (post : Int32 → xM → Prop) : Prop :=
  xw_Mo_in a2 (1 : Int32) (2000000 : Int32) M (fun (r2 : Int32) (M1 : xM) => ((¬ r2 = 0) → (xw_Mo_isIn a1 M1 (fun (r4 : Int32) (M3 : xM) => ((¬ r4 = 0) → ((vp_in a1 12) ∧ ((((M3 9 7 a1.toNatClampNeg) = 0) → (xw_Mo_moves a1 a2 M3 (fun (r6 : Int32) (M5 : xM) => xj (fun (J66_6 : Int32 → xM → Prop) => ((¬ r6 = (-1 : Int32)) → (J66_6 r6 M5)) ∧ ((r6 = (-1 : Int32)) → (J66_6 (-6 : Int32) M5))) (fun (v8 : Int32) (M9 : xM) => xw_Mo_ends v8 M9 (fun (r11 : Int32) (M10 : xM) => post r11 M10))))) ∧ ((¬ (M3 9 7 a1.toNatClampNeg) = 0) → (xw_Mo_ends (-6 : Int32) M3 (fun (r13 : Int32) (M12 : xM) => post r13 M12)))))) ∧ ((r4 = 0) → (xw_Mo_ends (-2 : Int32) M3 (fun (r15 : Int32) (M14 : xM) => post r15 M14)))))) ∧ ((r2 = 0) → (xw_Mo_ends (-1 : Int32) M1 (fun (r17 : Int32) (M16 : xM) => post r17 M16))))
set_option maxHeartbeats 4000000 in
set_option maxRecDepth 100000 in
theorem xc_Mo_move (l : Launch) (G : xG) {a1 : Int32} {a2 : Int32}  {M : xM} {post : Int32 → xM → Prop} (h : xw_Mo_move a1 a2 M post) : Met l y_Mo_move (Cond.code y_Mo_move b_Mo_move 4 (some .int) :: xTG) rm_Mo_move (xPre G M [.ref (G.1 9 0), .int a1, .int a2]) (xPi G post) 0 0 (xA G) := by
  refine xMet (own := R_Mo) [.ref (G.1 9 0), .int a1, .int a2] (Or.inl (by decide)) rfl (Nat.le_of_ble_eq_true rfl) (fun p e s m args below meth c ls hC hr hlk hR hS hl => ?_)
  have hx := hC.1
  have hb := hC.2.1
  have hl : lv_has ls 4 [(0, .ref (G.1 9 0)), (1, .int a1), (2, .int a2)] := hl
  obtain ⟨H, eH⟩ : ∃ H : Heap, H = s.heap := ⟨_, rfl⟩
  obtain ⟨locs, eL⟩ : ∃ locs : List Loc, locs = [] := ⟨_, rfl⟩
  rw [← eH] at hR
  replace hS : va_S (xA G) s.heap H locs := by rw [eH, eL]; exact hS
  suffices hh : W p l e rm_Mo_move s m args below meth c H locs 0 0 (MQ below (xPi G post) args s 0 0 (xA G)) (F0 m 0 ls []) from by rw [eH, eL] at hh; exact hh
  unfold xw_Mo_move at h
  refine lv_iload_n (pc := 0) hx hb xd_Mo_move_0 rfl (lv_at hl 2 rfl) ?_
  refine lv_iconst (pc := 1) (v := (1 : Int32)) hx hb xd_Mo_move_1 (by decide) ?_
  refine lv_ldc (pc := 2) (v := (2000000 : Int32)) hx hb hC.2.2.2.1 (hC.2.2.2.2.1 _ xk_Mo_170) xd_Mo_move_2 ?_
  refine xr_callS (pc := 4) (As := [.int a2, .int (1 : Int32), .int (2000000 : Int32)]) (rest := []) hC hR hS (xc_Mo_in l G  h) xv_Mo_85 ⟨rfl, rfl, Nat.le_of_ble_eq_true rfl, Nat.le_of_ble_eq_true rfl⟩ rfl hl.1 rfl (Nat.le_of_ble_eq_true rfl) xd_Mo_move_4 (fun r2 M1 H locs h hR hS => ?_)
  refine lv_if_ne (pc := 7) (tgt := 16) hx hb xd_Mo_move_7 (by decide) (fun hq => ?_) (fun hq => ?_)
  · have h := h.1 hq
    refine lv_aload_n (pc := 16) hx hb xd_Mo_move_16 rfl (lv_at hl 0 rfl) ?_
    refine lv_iload_n (pc := 17) hx hb xd_Mo_move_17 rfl (lv_at hl 1 rfl) ?_
    refine xr_callV (pc := 18) (As := [.int a1]) (rest := []) hC hR hS (xc_Mo_isIn l G  h) xo_M0 xv_Mo_151 ⟨rfl, rfl, Nat.le_of_ble_eq_true rfl, Nat.le_of_ble_eq_true rfl⟩ rfl hl.1 rfl (Nat.le_of_ble_eq_true rfl) xd_Mo_move_18 (fun r4 M3 H locs h hR hS => ?_)
    refine lv_if_ne (pc := 21) (tgt := 31) hx hb xd_Mo_move_21 (by decide) (fun hq => ?_) (fun hq => ?_)
    · have h := h.1 hq
      refine lv_aload_n (pc := 31) hx hb xd_Mo_move_31 rfl (lv_at hl 0 rfl) ?_
      refine xr_get (pc := 32) (v := .ref (G.1 9 7)) hC hR xo_M0 xf_Mo_38 rfl xd_Mo_move_32 ?_
      refine lv_iload_n (pc := 35) hx hb xd_Mo_move_35 rfl (lv_at hl 1 rfl) ?_
      obtain ⟨hq, h⟩ := h
      refine xr_zald (pc := 36) hC hR xo_M7 hq xd_Mo_move_36 ?_
      refine lv_if_eq (pc := 37) (tgt := 47) hx hb xd_Mo_move_37 (by decide) (fun hq => ?_) (fun hq => ?_)
      · have h := h.1 hq
        refine lv_aload_n (pc := 47) hx hb xd_Mo_move_47 rfl (lv_at hl 0 rfl) ?_
        refine lv_iload_n (pc := 48) hx hb xd_Mo_move_48 rfl (lv_at hl 1 rfl) ?_
        refine lv_iload_n (pc := 49) hx hb xd_Mo_move_49 rfl (lv_at hl 2 rfl) ?_
        refine xr_callV (pc := 50) (As := [.int a1, .int a2]) (rest := []) hC hR hS (xc_Mo_moves l G  h) xo_M0 xv_Mo_186 ⟨rfl, rfl, Nat.le_of_ble_eq_true rfl, Nat.le_of_ble_eq_true rfl⟩ rfl hl.1 rfl (Nat.le_of_ble_eq_true rfl) xd_Mo_move_50 (fun r6 M5 H locs h hR hS => ?_)
        refine lv_istore_n (pc := 53) (lv' := [(3, .int r6), (0, .ref (G.1 9 0)), (1, .int a1), (2, .int a2)]) hx hb xd_Mo_move_53 rfl hl (by decide) rfl (fun ls hl => ?_)
        refine lv_aload_n (pc := 54) hx hb xd_Mo_move_54 rfl (lv_at hl 1 rfl) ?_
        refine lv_iload_n (pc := 55) hx hb xd_Mo_move_55 rfl (lv_at hl 0 rfl) ?_
        refine lv_iconst (pc := 56) (v := (-1 : Int32)) hx hb xd_Mo_move_56 (by decide) ?_
        obtain ⟨J66_6, eJ66_6, h⟩ := xj_open h
        have kJ66_6 : ∀ (v8 : Int32) (M9 : xM) (H : Heap) (locs : List Loc) (ls : Array Slot), J66_6 v8 M9 → xRp G M9 H → va_S (xA G) s.heap H locs → lv_has ls 4 [] → W p l e rm_Mo_move s m args below meth c H locs 0 0 (MQ below (xPi G post) args s 0 0 (xA G)) (F0 m 66 ls [.int v8, .ref (G.1 9 0)]) := by
          intro v8 M9 H locs ls h hR hS hl
          rw [eJ66_6] at h
          refine xr_callV (pc := 66) (As := [.int v8]) (rest := []) hC hR hS (xc_Mo_ends l G  h) xo_M0 xv_Mo_89 ⟨rfl, rfl, Nat.le_of_ble_eq_true rfl, Nat.le_of_ble_eq_true rfl⟩ rfl hl.1 rfl (Nat.le_of_ble_eq_true rfl) xd_Mo_move_66 (fun r11 M10 H locs h hR hS => ?_)
          exact xr_iret hC hr hlk hR hS h xd_Mo_move_69
        refine lv_icmp_ne (pc := 57) (tgt := 65) hx hb xd_Mo_move_57 (by decide) (fun hq => ?_) (fun hq => ?_)
        · have h := h.1 hq
          refine lv_iload_n (pc := 65) hx hb xd_Mo_move_65 rfl (lv_at hl 0 rfl) ?_
          exact kJ66_6 r6 M5 H locs ls h hR hS (lv_sub hl [] rfl)
        · have h := h.2 hq
          refine lv_bipush (pc := 60) (v := (-6 : Int32)) hx hb xd_Mo_move_60 (by decide) ?_
          refine lv_goto (pc := 62) (tgt := 66) hx hb xd_Mo_move_62 (by decide) ?_
          exact kJ66_6 (-6 : Int32) M5 H locs ls h hR hS (lv_sub hl [] rfl)
      · have h := h.2 hq
        refine lv_aload_n (pc := 40) hx hb xd_Mo_move_40 rfl (lv_at hl 0 rfl) ?_
        refine lv_bipush (pc := 41) (v := (-6 : Int32)) hx hb xd_Mo_move_41 (by decide) ?_
        refine xr_callV (pc := 43) (As := [.int (-6 : Int32)]) (rest := []) hC hR hS (xc_Mo_ends l G  h) xo_M0 xv_Mo_89 ⟨rfl, rfl, Nat.le_of_ble_eq_true rfl, Nat.le_of_ble_eq_true rfl⟩ rfl hl.1 rfl (Nat.le_of_ble_eq_true rfl) xd_Mo_move_43 (fun r13 M12 H locs h hR hS => ?_)
        exact xr_iret hC hr hlk hR hS h xd_Mo_move_46
    · have h := h.2 hq
      refine lv_aload_n (pc := 24) hx hb xd_Mo_move_24 rfl (lv_at hl 0 rfl) ?_
      refine lv_bipush (pc := 25) (v := (-2 : Int32)) hx hb xd_Mo_move_25 (by decide) ?_
      refine xr_callV (pc := 27) (As := [.int (-2 : Int32)]) (rest := []) hC hR hS (xc_Mo_ends l G  h) xo_M0 xv_Mo_89 ⟨rfl, rfl, Nat.le_of_ble_eq_true rfl, Nat.le_of_ble_eq_true rfl⟩ rfl hl.1 rfl (Nat.le_of_ble_eq_true rfl) xd_Mo_move_27 (fun r15 M14 H locs h hR hS => ?_)
      exact xr_iret hC hr hlk hR hS h xd_Mo_move_30
  · have h := h.2 hq
    refine lv_aload_n (pc := 10) hx hb xd_Mo_move_10 rfl (lv_at hl 0 rfl) ?_
    refine lv_iconst (pc := 11) (v := (-1 : Int32)) hx hb xd_Mo_move_11 (by decide) ?_
    refine xr_callV (pc := 12) (As := [.int (-1 : Int32)]) (rest := []) hC hR hS (xc_Mo_ends l G  h) xo_M0 xv_Mo_89 ⟨rfl, rfl, Nat.le_of_ble_eq_true rfl, Nat.le_of_ble_eq_true rfl⟩ rfl hl.1 rfl (Nat.le_of_ble_eq_true rfl) xd_Mo_move_12 (fun r17 M16 H locs h hR hS => ?_)
    exact xr_iret hC hr hlk hR hS h xd_Mo_move_15

/-! ColoursApartModel.nearest(I)I -/
theorem xd_Mo_nearest_0 : decode b_Mo_nearest 0 = .ok (.iconst (-1), 1) := by decide +kernel
theorem xd_Mo_nearest_1 : decode b_Mo_nearest 1 = .ok (.istore_n 2, 1) := by decide +kernel
theorem xd_Mo_nearest_2 : decode b_Mo_nearest 2 = .ok (.iload_n 1, 1) := by decide +kernel
theorem xd_Mo_nearest_3 : decode b_Mo_nearest 3 = .ok (.istore_n 3, 1) := by decide +kernel
theorem xd_Mo_nearest_4 : decode b_Mo_nearest 4 = .ok (.iconst 0, 1) := by decide +kernel
theorem xd_Mo_nearest_5 : decode b_Mo_nearest 5 = .ok (.istore 4, 2) := by decide +kernel
theorem xd_Mo_nearest_7 : decode b_Mo_nearest 7 = .ok (.iload 4, 2) := by decide +kernel
theorem xd_Mo_nearest_9 : decode b_Mo_nearest 9 = .ok (.aload_n 0, 1) := by decide +kernel
theorem xd_Mo_nearest_10 : decode b_Mo_nearest 10 = .ok (.getfield 145, 3) := by decide +kernel
theorem xd_Mo_nearest_13 : decode b_Mo_nearest 13 = .ok (.if_icmp .ge 71, 3) := by decide +kernel
theorem xd_Mo_nearest_16 : decode b_Mo_nearest 16 = .ok (.iload 4, 2) := by decide +kernel
theorem xd_Mo_nearest_18 : decode b_Mo_nearest 18 = .ok (.iconst 1, 1) := by decide +kernel
theorem xd_Mo_nearest_19 : decode b_Mo_nearest 19 = .ok (.iadd, 1) := by decide +kernel
theorem xd_Mo_nearest_20 : decode b_Mo_nearest 20 = .ok (.istore 5, 2) := by decide +kernel
theorem xd_Mo_nearest_22 : decode b_Mo_nearest 22 = .ok (.iload 5, 2) := by decide +kernel
theorem xd_Mo_nearest_24 : decode b_Mo_nearest 24 = .ok (.aload_n 0, 1) := by decide +kernel
theorem xd_Mo_nearest_25 : decode b_Mo_nearest 25 = .ok (.getfield 145, 3) := by decide +kernel
theorem xd_Mo_nearest_28 : decode b_Mo_nearest 28 = .ok (.if_icmp .ge 50, 3) := by decide +kernel
theorem xd_Mo_nearest_31 : decode b_Mo_nearest 31 = .ok (.aload_n 0, 1) := by decide +kernel
theorem xd_Mo_nearest_32 : decode b_Mo_nearest 32 = .ok (.aload_n 0, 1) := by decide +kernel
theorem xd_Mo_nearest_33 : decode b_Mo_nearest 33 = .ok (.getfield 35, 3) := by decide +kernel
theorem xd_Mo_nearest_36 : decode b_Mo_nearest 36 = .ok (.iload 4, 2) := by decide +kernel
theorem xd_Mo_nearest_38 : decode b_Mo_nearest 38 = .ok (.iaload, 1) := by decide +kernel
theorem xd_Mo_nearest_39 : decode b_Mo_nearest 39 = .ok (.aload_n 0, 1) := by decide +kernel
theorem xd_Mo_nearest_40 : decode b_Mo_nearest 40 = .ok (.getfield 35, 3) := by decide +kernel
theorem xd_Mo_nearest_43 : decode b_Mo_nearest 43 = .ok (.iload 5, 2) := by decide +kernel
theorem xd_Mo_nearest_45 : decode b_Mo_nearest 45 = .ok (.iaload, 1) := by decide +kernel
theorem xd_Mo_nearest_46 : decode b_Mo_nearest 46 = .ok (.invokevirtual 142, 3) := by decide +kernel
theorem xd_Mo_nearest_49 : decode b_Mo_nearest 49 = .ok (.istore 6, 2) := by decide +kernel
theorem xd_Mo_nearest_51 : decode b_Mo_nearest 51 = .ok (.iload 6, 2) := by decide +kernel
theorem xd_Mo_nearest_53 : decode b_Mo_nearest 53 = .ok (.iload_n 3, 1) := by decide +kernel
theorem xd_Mo_nearest_54 : decode b_Mo_nearest 54 = .ok (.if_icmp .lt 6, 3) := by decide +kernel
theorem xd_Mo_nearest_57 : decode b_Mo_nearest 57 = .ok (.goto 15, 3) := by decide +kernel
theorem xd_Mo_nearest_60 : decode b_Mo_nearest 60 = .ok (.iload 6, 2) := by decide +kernel
theorem xd_Mo_nearest_62 : decode b_Mo_nearest 62 = .ok (.istore_n 3, 1) := by decide +kernel
theorem xd_Mo_nearest_63 : decode b_Mo_nearest 63 = .ok (.bipush 12, 2) := by decide +kernel
theorem xd_Mo_nearest_65 : decode b_Mo_nearest 65 = .ok (.iload 4, 2) := by decide +kernel
theorem xd_Mo_nearest_67 : decode b_Mo_nearest 67 = .ok (.imul, 1) := by decide +kernel
theorem xd_Mo_nearest_68 : decode b_Mo_nearest 68 = .ok (.iload 5, 2) := by decide +kernel
theorem xd_Mo_nearest_70 : decode b_Mo_nearest 70 = .ok (.iadd, 1) := by decide +kernel
theorem xd_Mo_nearest_71 : decode b_Mo_nearest 71 = .ok (.istore_n 2, 1) := by decide +kernel
theorem xd_Mo_nearest_72 : decode b_Mo_nearest 72 = .ok (.iinc 5 1, 3) := by decide +kernel
theorem xd_Mo_nearest_75 : decode b_Mo_nearest 75 = .ok (.goto (-53), 3) := by decide +kernel
theorem xd_Mo_nearest_78 : decode b_Mo_nearest 78 = .ok (.iinc 4 1, 3) := by decide +kernel
theorem xd_Mo_nearest_81 : decode b_Mo_nearest 81 = .ok (.goto (-74), 3) := by decide +kernel
theorem xd_Mo_nearest_84 : decode b_Mo_nearest 84 = .ok (.iload_n 2, 1) := by decide +kernel
theorem xd_Mo_nearest_85 : decode b_Mo_nearest 85 = .ok (.ireturn, 1) := by decide +kernel
abbrev rm_Mo_nearest : Room := { frames := 5, cells := 0, slots := 0, locals := 120 }
def xw_Mo_nearest_22 (x4 : Int32) (post : Int32 → xM → Prop) (k78 : Int32 → Int32 → Int32 → xM → Prop) : Nat → Int32 → Int32 → Int32 → xM → Prop
  | 0, _, _, _, _ => False
  | n22 + 1, x2, x3, x5, M => (((M 9 0 9) ≤ x5) → (k78 x2 x3 x5 M)) ∧ ((¬ (M 9 0 9) ≤ x5) → ((vp_in x4 12) ∧ ((vp_in x5 12) ∧ (xw_Mo_apartOf (M 9 6 x4.toNatClampNeg) (M 9 6 x5.toNatClampNeg) M (fun (r2 : Int32) (M1 : xM) => ((r2 < x3) → (xw_Mo_nearest_22 x4 post k78 n22 (((12 : Int32) * x4) + x5) r2 (x5 + (1 : Int32)) M1)) ∧ ((¬ r2 < x3) → (xw_Mo_nearest_22 x4 post k78 n22 x2 x3 (x5 + (1 : Int32)) M1)))))))
def xw_Mo_nearest_7 (post : Int32 → xM → Prop) (k84 : Int32 → Int32 → Int32 → xM → Prop) : Nat → Int32 → Int32 → Int32 → xM → Prop
  | 0, _, _, _, _ => False
  | n7 + 1, x2, x3, x4, M => (((M 9 0 9) ≤ x4) → (k84 x2 x3 x4 M)) ∧ ((¬ (M 9 0 9) ≤ x4) → (∃ n22 : Nat, xw_Mo_nearest_22 x4 post (fun (y3 : Int32) (y4 : Int32) (y5 : Int32) (M6 : xM) => xw_Mo_nearest_7 post k84 n7 y3 y4 (x4 + (1 : Int32)) M6) n22 x2 x3 (x4 + (1 : Int32)) M))
def xw_Mo_nearest (a1 : Int32) (M : xM) (post : Int32 → xM → Prop) : Prop :=
  ∃ n7 : Nat, xw_Mo_nearest_7 post (fun (y7 : Int32) (y8 : Int32) (y9 : Int32) (M10 : xM) => post y7 M10) n7 (-1 : Int32) a1 (0 : Int32) M
set_option maxHeartbeats 4000000 in
set_option maxRecDepth 100000 in
theorem xt_Mo_nearest_22 {p : Program} {l : Launch} {e : Env} {s : State} {m : MethodId} {args : Array Value} {below : List Frame} {meth : Method} {c : Code} {G : xG} (hC : xC p s m args c b_Mo_nearest R_Mo 7 G) (hr : meth.sig.returnType = (some .int)) (hlk : meth.locks = false) {x4 : Int32} {post : Int32 → xM → Prop} {k78 : Int32 → Int32 → Int32 → xM → Prop} (hk78 : ∀ (x2 : Int32) (x3 : Int32) (x5 : Int32) (M : xM) (H : Heap) (locs : List Loc) (ls : Array Slot), k78 x2 x3 x5 M → xRp G M H → va_S (xA G) s.heap H locs → lv_has ls 7 [(0, .ref (G.1 9 0)), (2, .int x2), (3, .int x3), (4, .int x4), (5, .int x5)] → W p l e rm_Mo_nearest s m args below meth c H locs 0 0 (MQ below (xPi G post) args s 0 0 (xA G)) (F0 m 78 ls [])) : ∀ (n : Nat) (x2 : Int32) (x3 : Int32) (x5 : Int32) (M : xM) (H : Heap) (locs : List Loc) (ls : Array Slot), xw_Mo_nearest_22 x4 post k78 n x2 x3 x5 M → xRp G M H → va_S (xA G) s.heap H locs → lv_has ls 7 [(0, .ref (G.1 9 0)), (2, .int x2), (3, .int x3), (4, .int x4), (5, .int x5)] → W p l e rm_Mo_nearest s m args below meth c H locs 0 0 (MQ below (xPi G post) args s 0 0 (xA G)) (F0 m 22 ls []) := by
  have hx := hC.1
  have hb := hC.2.1
  intro n
  induction n with
  | zero => intro x2 x3 x5 M H locs ls; exact fun h => h.elim
  | succ n ih =>
    intro x2 x3 x5 M H locs ls h hR hS hl
    refine lv_iload (pc := 22) hx hb xd_Mo_nearest_22 (lv_at hl 4 rfl) ?_
    refine lv_aload_n (pc := 24) hx hb xd_Mo_nearest_24 rfl (lv_at hl 0 rfl) ?_
    refine xr_get (pc := 25) (v := .int (M 9 0 9)) hC hR xo_M0 xf_Mo_145 rfl xd_Mo_nearest_25 ?_
    refine lv_icmp_ge (pc := 28) (tgt := 78) hx hb xd_Mo_nearest_28 (by decide) (fun hq => ?_) (fun hq => ?_)
    · have h := h.1 hq
      exact hk78 x2 x3 x5 M H locs ls h hR hS (lv_sub hl [0, 1, 2, 3, 4] rfl)
    · have h := h.2 hq
      refine lv_aload_n (pc := 31) hx hb xd_Mo_nearest_31 rfl (lv_at hl 0 rfl) ?_
      refine lv_aload_n (pc := 32) hx hb xd_Mo_nearest_32 rfl (lv_at hl 0 rfl) ?_
      refine xr_get (pc := 33) (v := .ref (G.1 9 6)) hC hR xo_M0 xf_Mo_35 rfl xd_Mo_nearest_33 ?_
      refine lv_iload (pc := 36) hx hb xd_Mo_nearest_36 (lv_at hl 3 rfl) ?_
      obtain ⟨hq, h⟩ := h
      refine xr_iald (pc := 38) hC hR xo_M6 hq xd_Mo_nearest_38 ?_
      refine lv_aload_n (pc := 39) hx hb xd_Mo_nearest_39 rfl (lv_at hl 0 rfl) ?_
      refine xr_get (pc := 40) (v := .ref (G.1 9 6)) hC hR xo_M0 xf_Mo_35 rfl xd_Mo_nearest_40 ?_
      refine lv_iload (pc := 43) hx hb xd_Mo_nearest_43 (lv_at hl 4 rfl) ?_
      obtain ⟨hq, h⟩ := h
      refine xr_iald (pc := 45) hC hR xo_M6 hq xd_Mo_nearest_45 ?_
      refine xr_callV (pc := 46) (As := [.int (M 9 6 x4.toNatClampNeg), .int (M 9 6 x5.toNatClampNeg)]) (rest := []) hC hR hS (xc_Mo_apartOf l G  h) xo_M0 xv_Mo_142 ⟨rfl, rfl, Nat.le_of_ble_eq_true rfl, Nat.le_of_ble_eq_true rfl⟩ rfl hl.1 rfl (Nat.le_of_ble_eq_true rfl) xd_Mo_nearest_46 (fun r2 M1 H locs h hR hS => ?_)
      refine lv_istore (pc := 49) (lv' := [(6, .int r2), (0, .ref (G.1 9 0)), (2, .int x2), (3, .int x3), (4, .int x4), (5, .int x5)]) hx hb xd_Mo_nearest_49 hl (by decide) rfl (fun ls hl => ?_)
      refine lv_iload (pc := 51) hx hb xd_Mo_nearest_51 (lv_at hl 0 rfl) ?_
      refine lv_iload_n (pc := 53) hx hb xd_Mo_nearest_53 rfl (lv_at hl 3 rfl) ?_
      refine lv_icmp_lt (pc := 54) (tgt := 60) hx hb xd_Mo_nearest_54 (by decide) (fun hq => ?_) (fun hq => ?_)
      · have h := h.1 hq
        refine lv_iload (pc := 60) hx hb xd_Mo_nearest_60 (lv_at hl 0 rfl) ?_
        refine lv_istore_n (pc := 62) (lv' := [(3, .int r2), (6, .int r2), (0, .ref (G.1 9 0)), (2, .int x2), (4, .int x4), (5, .int x5)]) hx hb xd_Mo_nearest_62 rfl hl (by decide) rfl (fun ls hl => ?_)
        refine lv_bipush (pc := 63) (v := (12 : Int32)) hx hb xd_Mo_nearest_63 (by decide) ?_
        refine lv_iload (pc := 65) hx hb xd_Mo_nearest_65 (lv_at hl 4 rfl) ?_
        refine lv_imul (pc := 67) hx hb xd_Mo_nearest_67 ?_
        refine lv_iload (pc := 68) hx hb xd_Mo_nearest_68 (lv_at hl 5 rfl) ?_
        refine lv_iadd (pc := 70) hx hb xd_Mo_nearest_70 ?_
        refine lv_istore_n (pc := 71) (lv' := [(2, .int (((12 : Int32) * x4) + x5)), (3, .int r2), (6, .int r2), (0, .ref (G.1 9 0)), (4, .int x4), (5, .int x5)]) hx hb xd_Mo_nearest_71 rfl hl (by decide) rfl (fun ls hl => ?_)
        refine lv_iinc (pc := 72) (v := (x5 + (1 : Int32))) (lv' := [(5, .int (x5 + (1 : Int32))), (2, .int (((12 : Int32) * x4) + x5)), (3, .int r2), (6, .int r2), (0, .ref (G.1 9 0)), (4, .int x4)]) hx hb xd_Mo_nearest_72 hl (k := 5) rfl rfl (by decide) rfl (fun ls hl => ?_)
        refine lv_goto (pc := 75) (tgt := 22) hx hb xd_Mo_nearest_75 (by decide) ?_
        exact ih (((12 : Int32) * x4) + x5) r2 (x5 + (1 : Int32)) M1 H locs ls h hR hS (lv_sub hl [4, 1, 2, 5, 0] rfl)
      · have h := h.2 hq
        refine lv_goto (pc := 57) (tgt := 72) hx hb xd_Mo_nearest_57 (by decide) ?_
        refine lv_iinc (pc := 72) (v := (x5 + (1 : Int32))) (lv' := [(5, .int (x5 + (1 : Int32))), (6, .int r2), (0, .ref (G.1 9 0)), (2, .int x2), (3, .int x3), (4, .int x4)]) hx hb xd_Mo_nearest_72 hl (k := 5) rfl rfl (by decide) rfl (fun ls hl => ?_)
        refine lv_goto (pc := 75) (tgt := 22) hx hb xd_Mo_nearest_75 (by decide) ?_
        exact ih x2 x3 (x5 + (1 : Int32)) M1 H locs ls h hR hS (lv_sub hl [2, 3, 4, 5, 0] rfl)
set_option maxHeartbeats 4000000 in
set_option maxRecDepth 100000 in
theorem xt_Mo_nearest_7 {p : Program} {l : Launch} {e : Env} {s : State} {m : MethodId} {args : Array Value} {below : List Frame} {meth : Method} {c : Code} {G : xG} (hC : xC p s m args c b_Mo_nearest R_Mo 7 G) (hr : meth.sig.returnType = (some .int)) (hlk : meth.locks = false)  {post : Int32 → xM → Prop} {k84 : Int32 → Int32 → Int32 → xM → Prop} (hk84 : ∀ (x2 : Int32) (x3 : Int32) (x4 : Int32) (M : xM) (H : Heap) (locs : List Loc) (ls : Array Slot), k84 x2 x3 x4 M → xRp G M H → va_S (xA G) s.heap H locs → lv_has ls 7 [(0, .ref (G.1 9 0)), (2, .int x2), (3, .int x3), (4, .int x4)] → W p l e rm_Mo_nearest s m args below meth c H locs 0 0 (MQ below (xPi G post) args s 0 0 (xA G)) (F0 m 84 ls [])) : ∀ (n : Nat) (x2 : Int32) (x3 : Int32) (x4 : Int32) (M : xM) (H : Heap) (locs : List Loc) (ls : Array Slot), xw_Mo_nearest_7 post k84 n x2 x3 x4 M → xRp G M H → va_S (xA G) s.heap H locs → lv_has ls 7 [(0, .ref (G.1 9 0)), (2, .int x2), (3, .int x3), (4, .int x4)] → W p l e rm_Mo_nearest s m args below meth c H locs 0 0 (MQ below (xPi G post) args s 0 0 (xA G)) (F0 m 7 ls []) := by
  have hx := hC.1
  have hb := hC.2.1
  intro n
  induction n with
  | zero => intro x2 x3 x4 M H locs ls; exact fun h => h.elim
  | succ n ih =>
    intro x2 x3 x4 M H locs ls h hR hS hl
    refine lv_iload (pc := 7) hx hb xd_Mo_nearest_7 (lv_at hl 3 rfl) ?_
    refine lv_aload_n (pc := 9) hx hb xd_Mo_nearest_9 rfl (lv_at hl 0 rfl) ?_
    refine xr_get (pc := 10) (v := .int (M 9 0 9)) hC hR xo_M0 xf_Mo_145 rfl xd_Mo_nearest_10 ?_
    refine lv_icmp_ge (pc := 13) (tgt := 84) hx hb xd_Mo_nearest_13 (by decide) (fun hq => ?_) (fun hq => ?_)
    · have h := h.1 hq
      exact hk84 x2 x3 x4 M H locs ls h hR hS (lv_sub hl [0, 1, 2, 3] rfl)
    · have h := h.2 hq
      refine lv_iload (pc := 16) hx hb xd_Mo_nearest_16 (lv_at hl 3 rfl) ?_
      refine lv_iconst (pc := 18) (v := (1 : Int32)) hx hb xd_Mo_nearest_18 (by decide) ?_
      refine lv_iadd (pc := 19) hx hb xd_Mo_nearest_19 ?_
      refine lv_istore (pc := 20) (lv' := [(5, .int (x4 + (1 : Int32))), (0, .ref (G.1 9 0)), (2, .int x2), (3, .int x3), (4, .int x4)]) hx hb xd_Mo_nearest_20 hl (by decide) rfl (fun ls hl => ?_)
      obtain ⟨n, h⟩ := h
      refine xt_Mo_nearest_22 hC hr hlk  (fun y3 y4 y5 M6 H locs ls h hR hS hl => ?_) n x2 x3 (x4 + (1 : Int32)) M H locs ls h hR hS (lv_sub hl [1, 2, 3, 4, 0] rfl)
      refine lv_iinc (pc := 78) (v := (x4 + (1 : Int32))) (lv' := [(4, .int (x4 + (1 : Int32))), (0, .ref (G.1 9 0)), (2, .int y3), (3, .int y4), (5, .int y5)]) hx hb xd_Mo_nearest_78 hl (k := 3) rfl rfl (by decide) rfl (fun ls hl => ?_)
      refine lv_goto (pc := 81) (tgt := 7) hx hb xd_Mo_nearest_81 (by decide) ?_
      exact ih y3 y4 (x4 + (1 : Int32)) M6 H locs ls h hR hS (lv_sub hl [1, 2, 3, 0] rfl)
set_option maxHeartbeats 4000000 in
set_option maxRecDepth 100000 in
theorem xc_Mo_nearest (l : Launch) (G : xG) {a1 : Int32}  {M : xM} {post : Int32 → xM → Prop} (h : xw_Mo_nearest a1 M post) : Met l y_Mo_nearest (Cond.code y_Mo_nearest b_Mo_nearest 7 (some .int) :: xTG) rm_Mo_nearest (xPre G M [.ref (G.1 9 0), .int a1]) (xPi G post) 0 0 (xA G) := by
  refine xMet (own := R_Mo) [.ref (G.1 9 0), .int a1] (Or.inl (by decide)) rfl (Nat.le_of_ble_eq_true rfl) (fun p e s m args below meth c ls hC hr hlk hR hS hl => ?_)
  have hx := hC.1
  have hb := hC.2.1
  have hl : lv_has ls 7 [(0, .ref (G.1 9 0)), (1, .int a1)] := hl
  obtain ⟨H, eH⟩ : ∃ H : Heap, H = s.heap := ⟨_, rfl⟩
  obtain ⟨locs, eL⟩ : ∃ locs : List Loc, locs = [] := ⟨_, rfl⟩
  rw [← eH] at hR
  replace hS : va_S (xA G) s.heap H locs := by rw [eH, eL]; exact hS
  suffices hh : W p l e rm_Mo_nearest s m args below meth c H locs 0 0 (MQ below (xPi G post) args s 0 0 (xA G)) (F0 m 0 ls []) from by rw [eH, eL] at hh; exact hh
  unfold xw_Mo_nearest at h
  refine lv_iconst (pc := 0) (v := (-1 : Int32)) hx hb xd_Mo_nearest_0 (by decide) ?_
  refine lv_istore_n (pc := 1) (lv' := [(2, .int (-1 : Int32)), (0, .ref (G.1 9 0)), (1, .int a1)]) hx hb xd_Mo_nearest_1 rfl hl (by decide) rfl (fun ls hl => ?_)
  refine lv_iload_n (pc := 2) hx hb xd_Mo_nearest_2 rfl (lv_at hl 2 rfl) ?_
  refine lv_istore_n (pc := 3) (lv' := [(3, .int a1), (2, .int (-1 : Int32)), (0, .ref (G.1 9 0)), (1, .int a1)]) hx hb xd_Mo_nearest_3 rfl hl (by decide) rfl (fun ls hl => ?_)
  refine lv_iconst (pc := 4) (v := (0 : Int32)) hx hb xd_Mo_nearest_4 (by decide) ?_
  refine lv_istore (pc := 5) (lv' := [(4, .int (0 : Int32)), (3, .int a1), (2, .int (-1 : Int32)), (0, .ref (G.1 9 0)), (1, .int a1)]) hx hb xd_Mo_nearest_5 hl (by decide) rfl (fun ls hl => ?_)
  obtain ⟨n, h⟩ := h
  refine xt_Mo_nearest_7 hC hr hlk  (fun y7 y8 y9 M10 H locs ls h hR hS hl => ?_) n (-1 : Int32) a1 (0 : Int32) M H locs ls h hR hS (lv_sub hl [3, 2, 1, 0] rfl)
  refine lv_iload_n (pc := 84) hx hb xd_Mo_nearest_84 rfl (lv_at hl 1 rfl) ?_
  exact xr_iret hC hr hlk hR hS h xd_Mo_nearest_85

/-! ColoursApartModel.settle(I)I -/
theorem xd_Mo_settle_0 : decode b_Mo_settle 0 = .ok (.iload_n 1, 1) := by decide +kernel
theorem xd_Mo_settle_1 : decode b_Mo_settle 1 = .ok (.iconst 1, 1) := by decide +kernel
theorem xd_Mo_settle_2 : decode b_Mo_settle 2 = .ok (.ldc 170, 2) := by decide +kernel
theorem xd_Mo_settle_4 : decode b_Mo_settle 4 = .ok (.invokestatic 85, 3) := by decide +kernel
theorem xd_Mo_settle_7 : decode b_Mo_settle 7 = .ok (.ifCond .ne 9, 3) := by decide +kernel
theorem xd_Mo_settle_10 : decode b_Mo_settle 10 = .ok (.aload_n 0, 1) := by decide +kernel
theorem xd_Mo_settle_11 : decode b_Mo_settle 11 = .ok (.iconst (-1), 1) := by decide +kernel
theorem xd_Mo_settle_12 : decode b_Mo_settle 12 = .ok (.invokevirtual 89, 3) := by decide +kernel
theorem xd_Mo_settle_15 : decode b_Mo_settle 15 = .ok (.ireturn, 1) := by decide +kernel
theorem xd_Mo_settle_16 : decode b_Mo_settle 16 = .ok (.iconst 0, 1) := by decide +kernel
theorem xd_Mo_settle_17 : decode b_Mo_settle 17 = .ok (.istore_n 2, 1) := by decide +kernel
theorem xd_Mo_settle_18 : decode b_Mo_settle 18 = .ok (.aload_n 0, 1) := by decide +kernel
theorem xd_Mo_settle_19 : decode b_Mo_settle 19 = .ok (.iconst 0, 1) := by decide +kernel
theorem xd_Mo_settle_20 : decode b_Mo_settle 20 = .ok (.putfield 189, 3) := by decide +kernel
theorem xd_Mo_settle_23 : decode b_Mo_settle 23 = .ok (.aload_n 0, 1) := by decide +kernel
theorem xd_Mo_settle_24 : decode b_Mo_settle 24 = .ok (.iload_n 1, 1) := by decide +kernel
theorem xd_Mo_settle_25 : decode b_Mo_settle 25 = .ok (.invokevirtual 193, 3) := by decide +kernel
theorem xd_Mo_settle_28 : decode b_Mo_settle 28 = .ok (.istore_n 3, 1) := by decide +kernel
theorem xd_Mo_settle_29 : decode b_Mo_settle 29 = .ok (.iload_n 3, 1) := by decide +kernel
theorem xd_Mo_settle_30 : decode b_Mo_settle 30 = .ok (.iconst (-1), 1) := by decide +kernel
theorem xd_Mo_settle_31 : decode b_Mo_settle 31 = .ok (.if_icmp .eq 93, 3) := by decide +kernel
theorem xd_Mo_settle_34 : decode b_Mo_settle 34 = .ok (.aload_n 0, 1) := by decide +kernel
theorem xd_Mo_settle_35 : decode b_Mo_settle 35 = .ok (.getfield 189, 3) := by decide +kernel
theorem xd_Mo_settle_38 : decode b_Mo_settle 38 = .ok (.ifCond .ne 86, 3) := by decide +kernel
theorem xd_Mo_settle_41 : decode b_Mo_settle 41 = .ok (.aload_n 0, 1) := by decide +kernel
theorem xd_Mo_settle_42 : decode b_Mo_settle 42 = .ok (.getfield 38, 3) := by decide +kernel
theorem xd_Mo_settle_45 : decode b_Mo_settle 45 = .ok (.iload_n 3, 1) := by decide +kernel
theorem xd_Mo_settle_46 : decode b_Mo_settle 46 = .ok (.bipush 12, 2) := by decide +kernel
theorem xd_Mo_settle_48 : decode b_Mo_settle 48 = .ok (.irem, 1) := by decide +kernel
theorem xd_Mo_settle_49 : decode b_Mo_settle 49 = .ok (.baload, 1) := by decide +kernel
theorem xd_Mo_settle_50 : decode b_Mo_settle 50 = .ok (.ifCond .eq 10, 3) := by decide +kernel
theorem xd_Mo_settle_53 : decode b_Mo_settle 53 = .ok (.iload_n 3, 1) := by decide +kernel
theorem xd_Mo_settle_54 : decode b_Mo_settle 54 = .ok (.bipush 12, 2) := by decide +kernel
theorem xd_Mo_settle_56 : decode b_Mo_settle 56 = .ok (.idiv, 1) := by decide +kernel
theorem xd_Mo_settle_57 : decode b_Mo_settle 57 = .ok (.goto 7, 3) := by decide +kernel
theorem xd_Mo_settle_60 : decode b_Mo_settle 60 = .ok (.iload_n 3, 1) := by decide +kernel
theorem xd_Mo_settle_61 : decode b_Mo_settle 61 = .ok (.bipush 12, 2) := by decide +kernel
theorem xd_Mo_settle_63 : decode b_Mo_settle 63 = .ok (.irem, 1) := by decide +kernel
theorem xd_Mo_settle_64 : decode b_Mo_settle 64 = .ok (.istore 4, 2) := by decide +kernel
theorem xd_Mo_settle_66 : decode b_Mo_settle 66 = .ok (.aload_n 0, 1) := by decide +kernel
theorem xd_Mo_settle_67 : decode b_Mo_settle 67 = .ok (.iload_n 2, 1) := by decide +kernel
theorem xd_Mo_settle_68 : decode b_Mo_settle 68 = .ok (.bipush 50, 2) := by decide +kernel
theorem xd_Mo_settle_70 : decode b_Mo_settle 70 = .ok (.if_icmp .eq 24, 3) := by decide +kernel
theorem xd_Mo_settle_73 : decode b_Mo_settle 73 = .ok (.aload_n 0, 1) := by decide +kernel
theorem xd_Mo_settle_74 : decode b_Mo_settle 74 = .ok (.getfield 38, 3) := by decide +kernel
theorem xd_Mo_settle_77 : decode b_Mo_settle 77 = .ok (.iload 4, 2) := by decide +kernel
theorem xd_Mo_settle_79 : decode b_Mo_settle 79 = .ok (.baload, 1) := by decide +kernel
theorem xd_Mo_settle_80 : decode b_Mo_settle 80 = .ok (.ifCond .ne 14, 3) := by decide +kernel
theorem xd_Mo_settle_83 : decode b_Mo_settle 83 = .ok (.aload_n 0, 1) := by decide +kernel
theorem xd_Mo_settle_84 : decode b_Mo_settle 84 = .ok (.iload 4, 2) := by decide +kernel
theorem xd_Mo_settle_86 : decode b_Mo_settle 86 = .ok (.iload_n 1, 1) := by decide +kernel
theorem xd_Mo_settle_87 : decode b_Mo_settle 87 = .ok (.invokevirtual 186, 3) := by decide +kernel
theorem xd_Mo_settle_90 : decode b_Mo_settle 90 = .ok (.iconst (-1), 1) := by decide +kernel
theorem xd_Mo_settle_91 : decode b_Mo_settle 91 = .ok (.if_icmp .ne 7, 3) := by decide +kernel
theorem xd_Mo_settle_94 : decode b_Mo_settle 94 = .ok (.iconst 1, 1) := by decide +kernel
theorem xd_Mo_settle_95 : decode b_Mo_settle 95 = .ok (.goto 4, 3) := by decide +kernel
theorem xd_Mo_settle_98 : decode b_Mo_settle 98 = .ok (.iconst 0, 1) := by decide +kernel
theorem xd_Mo_settle_99 : decode b_Mo_settle 99 = .ok (.putfield 189, 3) := by decide +kernel
theorem xd_Mo_settle_102 : decode b_Mo_settle 102 = .ok (.aload_n 0, 1) := by decide +kernel
theorem xd_Mo_settle_103 : decode b_Mo_settle 103 = .ok (.getfield 189, 3) := by decide +kernel
theorem xd_Mo_settle_106 : decode b_Mo_settle 106 = .ok (.ifCond .eq 6, 3) := by decide +kernel
theorem xd_Mo_settle_109 : decode b_Mo_settle 109 = .ok (.goto (-80), 3) := by decide +kernel
theorem xd_Mo_settle_112 : decode b_Mo_settle 112 = .ok (.iinc 2 1, 3) := by decide +kernel
theorem xd_Mo_settle_115 : decode b_Mo_settle 115 = .ok (.aload_n 0, 1) := by decide +kernel
theorem xd_Mo_settle_116 : decode b_Mo_settle 116 = .ok (.iload_n 1, 1) := by decide +kernel
theorem xd_Mo_settle_117 : decode b_Mo_settle 117 = .ok (.invokevirtual 193, 3) := by decide +kernel
theorem xd_Mo_settle_120 : decode b_Mo_settle 120 = .ok (.istore_n 3, 1) := by decide +kernel
theorem xd_Mo_settle_121 : decode b_Mo_settle 121 = .ok (.goto (-92), 3) := by decide +kernel
theorem xd_Mo_settle_124 : decode b_Mo_settle 124 = .ok (.aload_n 0, 1) := by decide +kernel
theorem xd_Mo_settle_125 : decode b_Mo_settle 125 = .ok (.iload_n 2, 1) := by decide +kernel
theorem xd_Mo_settle_126 : decode b_Mo_settle 126 = .ok (.invokevirtual 89, 3) := by decide +kernel
theorem xd_Mo_settle_129 : decode b_Mo_settle 129 = .ok (.ireturn, 1) := by decide +kernel
abbrev rm_Mo_settle : Room := { frames := 7, cells := 0, slots := 0, locals := 172 }
def xw_Mo_settle_29 (x1 : Int32) (post : Int32 → xM → Prop) (k124 : Int32 → Int32 → xM → Prop) : Nat → Int32 → Int32 → xM → Prop
  | 0, _, _, _ => False
  | n29 + 1, x2, x3, M => ((x3 = (-1 : Int32)) → (k124 x2 x3 M)) ∧ ((¬ x3 = (-1 : Int32)) → (((¬ (M 9 0 24) = 0) → (k124 x2 x3 M)) ∧ (((M 9 0 24) = 0) → ((vp_in (x3 - x3 / (12 : Int32) * (12 : Int32)) 12) ∧ (xj (fun (J64_4 : Int32 → xM → Prop) => (((M 9 7 (x3 - x3 / (12 : Int32) * (12 : Int32)).toNatClampNeg) = 0) → (J64_4 (x3 - x3 / (12 : Int32) * (12 : Int32)) M)) ∧ ((¬ (M 9 7 (x3 - x3 / (12 : Int32) * (12 : Int32)).toNatClampNeg) = 0) → (J64_4 (x3 / (12 : Int32)) M))) (fun (v6 : Int32) (M7 : xM) => xj (fun (J99_8 : Int32 → xM → Prop) => xj (fun (J94_7 : xM → Prop) => ((x2 = (50 : Int32)) → (J94_7  M7)) ∧ ((¬ x2 = (50 : Int32)) → ((vp_in v6 12) ∧ (((¬ (M7 9 7 v6.toNatClampNeg) = 0) → (J94_7  M7)) ∧ (((M7 9 7 v6.toNatClampNeg) = 0) → (xw_Mo_moves v6 x1 M7 (fun (r16 : Int32) (M15 : xM) => ((¬ r16 = (-1 : Int32)) → (J99_8 (0 : Int32) M15)) ∧ ((r16 = (-1 : Int32)) → (J94_7  M15))))))))) (fun (M14 : xM) => J99_8 (1 : Int32) M14)) (fun (v10 : Int32) (M11 : xM) => (v10 &&& 1 = v10) ∧ (((((us M11 9 0 24 v10) 9 0 24) = 0) → (xw_Mo_nearest x1 (us M11 9 0 24 v10) (fun (r13 : Int32) (M12 : xM) => xw_Mo_settle_29 x1 post k124 n29 (x2 + (1 : Int32)) r13 M12))) ∧ ((¬ ((us M11 9 0 24 v10) 9 0 24) = 0) → (xw_Mo_settle_29 x1 post k124 n29 x2 x3 (us M11 9 0 24 v10)))))))))))
def xw_Mo_settle (a1 : Int32) (M : xM) (post : Int32 → xM → Prop) : Prop :=
  xw_Mo_in a1 (1 : Int32) (2000000 : Int32) M (fun (r2 : Int32) (M1 : xM) => ((¬ r2 = 0) → (xw_Mo_nearest a1 (us M1 9 0 24 (0 : Int32)) (fun (r4 : Int32) (M3 : xM) => ∃ n29 : Nat, xw_Mo_settle_29 a1 post (fun (y17 : Int32) (y18 : Int32) (M19 : xM) => xw_Mo_ends y17 M19 (fun (r21 : Int32) (M20 : xM) => post r21 M20)) n29 (0 : Int32) r4 M3))) ∧ ((r2 = 0) → (xw_Mo_ends (-1 : Int32) M1 (fun (r23 : Int32) (M22 : xM) => post r23 M22))))
set_option maxHeartbeats 4000000 in
set_option maxRecDepth 100000 in
theorem xt_Mo_settle_29 {p : Program} {l : Launch} {e : Env} {s : State} {m : MethodId} {args : Array Value} {below : List Frame} {meth : Method} {c : Code} {G : xG} (hC : xC p s m args c b_Mo_settle R_Mo 5 G) (hr : meth.sig.returnType = (some .int)) (hlk : meth.locks = false) {x1 : Int32} {post : Int32 → xM → Prop} {k124 : Int32 → Int32 → xM → Prop} (hk124 : ∀ (x2 : Int32) (x3 : Int32) (M : xM) (H : Heap) (locs : List Loc) (ls : Array Slot), k124 x2 x3 M → xRp G M H → va_S (xA G) s.heap H locs → lv_has ls 5 [(0, .ref (G.1 9 0)), (1, .int x1), (2, .int x2), (3, .int x3)] → W p l e rm_Mo_settle s m args below meth c H locs 0 0 (MQ below (xPi G post) args s 0 0 (xA G)) (F0 m 124 ls [])) : ∀ (n : Nat) (x2 : Int32) (x3 : Int32) (M : xM) (H : Heap) (locs : List Loc) (ls : Array Slot), xw_Mo_settle_29 x1 post k124 n x2 x3 M → xRp G M H → va_S (xA G) s.heap H locs → lv_has ls 5 [(0, .ref (G.1 9 0)), (1, .int x1), (2, .int x2), (3, .int x3)] → W p l e rm_Mo_settle s m args below meth c H locs 0 0 (MQ below (xPi G post) args s 0 0 (xA G)) (F0 m 29 ls []) := by
  have hx := hC.1
  have hb := hC.2.1
  intro n
  induction n with
  | zero => intro x2 x3 M H locs ls; exact fun h => h.elim
  | succ n ih =>
    intro x2 x3 M H locs ls h hR hS hl
    refine lv_iload_n (pc := 29) hx hb xd_Mo_settle_29 rfl (lv_at hl 3 rfl) ?_
    refine lv_iconst (pc := 30) (v := (-1 : Int32)) hx hb xd_Mo_settle_30 (by decide) ?_
    refine lv_icmp_eq (pc := 31) (tgt := 124) hx hb xd_Mo_settle_31 (by decide) (fun hq => ?_) (fun hq => ?_)
    · have h := h.1 hq
      exact hk124 x2 x3 M H locs ls h hR hS (lv_sub hl [0, 1, 2, 3] rfl)
    · have h := h.2 hq
      refine lv_aload_n (pc := 34) hx hb xd_Mo_settle_34 rfl (lv_at hl 0 rfl) ?_
      refine xr_get (pc := 35) (v := .int (M 9 0 24)) hC hR xo_M0 xf_Mo_189 rfl xd_Mo_settle_35 ?_
      refine lv_if_ne (pc := 38) (tgt := 124) hx hb xd_Mo_settle_38 (by decide) (fun hq => ?_) (fun hq => ?_)
      · have h := h.1 hq
        exact hk124 x2 x3 M H locs ls h hR hS (lv_sub hl [0, 1, 2, 3] rfl)
      · have h := h.2 hq
        refine lv_aload_n (pc := 41) hx hb xd_Mo_settle_41 rfl (lv_at hl 0 rfl) ?_
        refine xr_get (pc := 42) (v := .ref (G.1 9 7)) hC hR xo_M0 xf_Mo_38 rfl xd_Mo_settle_42 ?_
        refine lv_iload_n (pc := 45) hx hb xd_Mo_settle_45 rfl (lv_at hl 3 rfl) ?_
        refine lv_bipush (pc := 46) (v := (12 : Int32)) hx hb xd_Mo_settle_46 (by decide) ?_
        refine lv_irem (pc := 48) hx hb xd_Mo_settle_48 (by decide) ?_
        obtain ⟨hq, h⟩ := h
        refine xr_zald (pc := 49) hC hR xo_M7 hq xd_Mo_settle_49 ?_
        obtain ⟨J64_4, eJ64_4, h⟩ := xj_open h
        have kJ64_4 : ∀ (v6 : Int32) (M7 : xM) (H : Heap) (locs : List Loc) (ls : Array Slot), J64_4 v6 M7 → xRp G M7 H → va_S (xA G) s.heap H locs → lv_has ls 5 [(0, .ref (G.1 9 0)), (1, .int x1), (2, .int x2), (3, .int x3)] → W p l e rm_Mo_settle s m args below meth c H locs 0 0 (MQ below (xPi G post) args s 0 0 (xA G)) (F0 m 64 ls [.int v6]) := by
          intro v6 M7 H locs ls h hR hS hl
          rw [eJ64_4] at h
          refine lv_istore (pc := 64) (lv' := [(4, .int v6), (0, .ref (G.1 9 0)), (1, .int x1), (2, .int x2), (3, .int x3)]) hx hb xd_Mo_settle_64 hl (by decide) rfl (fun ls hl => ?_)
          refine lv_aload_n (pc := 66) hx hb xd_Mo_settle_66 rfl (lv_at hl 1 rfl) ?_
          refine lv_iload_n (pc := 67) hx hb xd_Mo_settle_67 rfl (lv_at hl 3 rfl) ?_
          refine lv_bipush (pc := 68) (v := (50 : Int32)) hx hb xd_Mo_settle_68 (by decide) ?_
          obtain ⟨J99_8, eJ99_8, h⟩ := xj_open h
          have kJ99_8 : ∀ (v10 : Int32) (M11 : xM) (H : Heap) (locs : List Loc) (ls : Array Slot), J99_8 v10 M11 → xRp G M11 H → va_S (xA G) s.heap H locs → lv_has ls 5 [(0, .ref (G.1 9 0)), (1, .int x1), (2, .int x2), (3, .int x3)] → W p l e rm_Mo_settle s m args below meth c H locs 0 0 (MQ below (xPi G post) args s 0 0 (xA G)) (F0 m 99 ls [.int v10, .ref (G.1 9 0)]) := by
            intro v10 M11 H locs ls h hR hS hl
            rw [eJ99_8] at h
            obtain ⟨hq, h⟩ := h
            refine xr_put (pc := 99) hC hR hS xo_M0 xf_Mo_189 xp_10_24 rfl (xnb hq) (xfb hq) xd_Mo_settle_99 (fun H locs hR hS => ?_)
            refine lv_aload_n (pc := 102) hx hb xd_Mo_settle_102 rfl (lv_at hl 0 rfl) ?_
            refine xr_get (pc := 103) (v := .int ((us M11 9 0 24 v10) 9 0 24)) hC hR xo_M0 xf_Mo_189 rfl xd_Mo_settle_103 ?_
            refine lv_if_eq (pc := 106) (tgt := 112) hx hb xd_Mo_settle_106 (by decide) (fun hq => ?_) (fun hq => ?_)
            · have h := h.1 hq
              refine lv_iinc (pc := 112) (v := (x2 + (1 : Int32))) (lv' := [(2, .int (x2 + (1 : Int32))), (0, .ref (G.1 9 0)), (1, .int x1), (3, .int x3)]) hx hb xd_Mo_settle_112 hl (k := 2) rfl rfl (by decide) rfl (fun ls hl => ?_)
              refine lv_aload_n (pc := 115) hx hb xd_Mo_settle_115 rfl (lv_at hl 1 rfl) ?_
              refine lv_iload_n (pc := 116) hx hb xd_Mo_settle_116 rfl (lv_at hl 2 rfl) ?_
              refine xr_callV (pc := 117) (As := [.int x1]) (rest := []) hC hR hS (xc_Mo_nearest l G  h) xo_M0 xv_Mo_193 ⟨rfl, rfl, Nat.le_of_ble_eq_true rfl, Nat.le_of_ble_eq_true rfl⟩ rfl hl.1 rfl (Nat.le_of_ble_eq_true rfl) xd_Mo_settle_117 (fun r13 M12 H locs h hR hS => ?_)
              refine lv_istore_n (pc := 120) (lv' := [(3, .int r13), (2, .int (x2 + (1 : Int32))), (0, .ref (G.1 9 0)), (1, .int x1)]) hx hb xd_Mo_settle_120 rfl hl (by decide) rfl (fun ls hl => ?_)
              refine lv_goto (pc := 121) (tgt := 29) hx hb xd_Mo_settle_121 (by decide) ?_
              exact ih (x2 + (1 : Int32)) r13 M12 H locs ls h hR hS (lv_sub hl [2, 3, 1, 0] rfl)
            · have h := h.2 hq
              refine lv_goto (pc := 109) (tgt := 29) hx hb xd_Mo_settle_109 (by decide) ?_
              exact ih x2 x3 (us M11 9 0 24 v10) H locs ls h hR hS (lv_sub hl [0, 1, 2, 3] rfl)
          obtain ⟨J94_7, eJ94_7, h⟩ := xj_open h
          have kJ94_7 : ∀ (M14 : xM) (H : Heap) (locs : List Loc) (ls : Array Slot), J94_7 M14 → xRp G M14 H → va_S (xA G) s.heap H locs → lv_has ls 5 [(0, .ref (G.1 9 0)), (1, .int x1), (2, .int x2), (3, .int x3)] → W p l e rm_Mo_settle s m args below meth c H locs 0 0 (MQ below (xPi G post) args s 0 0 (xA G)) (F0 m 94 ls [.ref (G.1 9 0)]) := by
            intro M14 H locs ls h hR hS hl
            rw [eJ94_7] at h
            refine lv_iconst (pc := 94) (v := (1 : Int32)) hx hb xd_Mo_settle_94 (by decide) ?_
            refine lv_goto (pc := 95) (tgt := 99) hx hb xd_Mo_settle_95 (by decide) ?_
            exact kJ99_8 (1 : Int32) M14 H locs ls h hR hS (lv_sub hl [0, 1, 2, 3] rfl)
          refine lv_icmp_eq (pc := 70) (tgt := 94) hx hb xd_Mo_settle_70 (by decide) (fun hq => ?_) (fun hq => ?_)
          · have h := h.1 hq
            exact kJ94_7  M7 H locs ls h hR hS (lv_sub hl [1, 2, 3, 4] rfl)
          · have h := h.2 hq
            refine lv_aload_n (pc := 73) hx hb xd_Mo_settle_73 rfl (lv_at hl 1 rfl) ?_
            refine xr_get (pc := 74) (v := .ref (G.1 9 7)) hC hR xo_M0 xf_Mo_38 rfl xd_Mo_settle_74 ?_
            refine lv_iload (pc := 77) hx hb xd_Mo_settle_77 (lv_at hl 0 rfl) ?_
            obtain ⟨hq, h⟩ := h
            refine xr_zald (pc := 79) hC hR xo_M7 hq xd_Mo_settle_79 ?_
            refine lv_if_ne (pc := 80) (tgt := 94) hx hb xd_Mo_settle_80 (by decide) (fun hq => ?_) (fun hq => ?_)
            · have h := h.1 hq
              exact kJ94_7  M7 H locs ls h hR hS (lv_sub hl [1, 2, 3, 4] rfl)
            · have h := h.2 hq
              refine lv_aload_n (pc := 83) hx hb xd_Mo_settle_83 rfl (lv_at hl 1 rfl) ?_
              refine lv_iload (pc := 84) hx hb xd_Mo_settle_84 (lv_at hl 0 rfl) ?_
              refine lv_iload_n (pc := 86) hx hb xd_Mo_settle_86 rfl (lv_at hl 2 rfl) ?_
              refine xr_callV (pc := 87) (As := [.int v6, .int x1]) (rest := [.ref (G.1 9 0)]) hC hR hS (xc_Mo_moves l G  h) xo_M0 xv_Mo_186 ⟨rfl, rfl, Nat.le_of_ble_eq_true rfl, Nat.le_of_ble_eq_true rfl⟩ rfl hl.1 rfl (Nat.le_of_ble_eq_true rfl) xd_Mo_settle_87 (fun r16 M15 H locs h hR hS => ?_)
              refine lv_iconst (pc := 90) (v := (-1 : Int32)) hx hb xd_Mo_settle_90 (by decide) ?_
              refine lv_icmp_ne (pc := 91) (tgt := 98) hx hb xd_Mo_settle_91 (by decide) (fun hq => ?_) (fun hq => ?_)
              · have h := h.1 hq
                refine lv_iconst (pc := 98) (v := (0 : Int32)) hx hb xd_Mo_settle_98 (by decide) ?_
                exact kJ99_8 (0 : Int32) M15 H locs ls h hR hS (lv_sub hl [1, 2, 3, 4] rfl)
              · have h := h.2 hq
                exact kJ94_7  M15 H locs ls h hR hS (lv_sub hl [1, 2, 3, 4] rfl)
        refine lv_if_eq (pc := 50) (tgt := 60) hx hb xd_Mo_settle_50 (by decide) (fun hq => ?_) (fun hq => ?_)
        · have h := h.1 hq
          refine lv_iload_n (pc := 60) hx hb xd_Mo_settle_60 rfl (lv_at hl 3 rfl) ?_
          refine lv_bipush (pc := 61) (v := (12 : Int32)) hx hb xd_Mo_settle_61 (by decide) ?_
          refine lv_irem (pc := 63) hx hb xd_Mo_settle_63 (by decide) ?_
          exact kJ64_4 (x3 - x3 / (12 : Int32) * (12 : Int32)) M H locs ls h hR hS (lv_sub hl [0, 1, 2, 3] rfl)
        · have h := h.2 hq
          refine lv_iload_n (pc := 53) hx hb xd_Mo_settle_53 rfl (lv_at hl 3 rfl) ?_
          refine lv_bipush (pc := 54) (v := (12 : Int32)) hx hb xd_Mo_settle_54 (by decide) ?_
          refine lv_idiv (pc := 56) hx hb xd_Mo_settle_56 (by decide) ?_
          refine lv_goto (pc := 57) (tgt := 64) hx hb xd_Mo_settle_57 (by decide) ?_
          exact kJ64_4 (x3 / (12 : Int32)) M H locs ls h hR hS (lv_sub hl [0, 1, 2, 3] rfl)
set_option maxHeartbeats 4000000 in
set_option maxRecDepth 100000 in
theorem xc_Mo_settle (l : Launch) (G : xG) {a1 : Int32}  {M : xM} {post : Int32 → xM → Prop} (h : xw_Mo_settle a1 M post) : Met l y_Mo_settle (Cond.code y_Mo_settle b_Mo_settle 5 (some .int) :: xTG) rm_Mo_settle (xPre G M [.ref (G.1 9 0), .int a1]) (xPi G post) 0 0 (xA G) := by
  refine xMet (own := R_Mo) [.ref (G.1 9 0), .int a1] (Or.inl (by decide)) rfl (Nat.le_of_ble_eq_true rfl) (fun p e s m args below meth c ls hC hr hlk hR hS hl => ?_)
  have hx := hC.1
  have hb := hC.2.1
  have hl : lv_has ls 5 [(0, .ref (G.1 9 0)), (1, .int a1)] := hl
  obtain ⟨H, eH⟩ : ∃ H : Heap, H = s.heap := ⟨_, rfl⟩
  obtain ⟨locs, eL⟩ : ∃ locs : List Loc, locs = [] := ⟨_, rfl⟩
  rw [← eH] at hR
  replace hS : va_S (xA G) s.heap H locs := by rw [eH, eL]; exact hS
  suffices hh : W p l e rm_Mo_settle s m args below meth c H locs 0 0 (MQ below (xPi G post) args s 0 0 (xA G)) (F0 m 0 ls []) from by rw [eH, eL] at hh; exact hh
  unfold xw_Mo_settle at h
  refine lv_iload_n (pc := 0) hx hb xd_Mo_settle_0 rfl (lv_at hl 1 rfl) ?_
  refine lv_iconst (pc := 1) (v := (1 : Int32)) hx hb xd_Mo_settle_1 (by decide) ?_
  refine lv_ldc (pc := 2) (v := (2000000 : Int32)) hx hb hC.2.2.2.1 (hC.2.2.2.2.1 _ xk_Mo_170) xd_Mo_settle_2 ?_
  refine xr_callS (pc := 4) (As := [.int a1, .int (1 : Int32), .int (2000000 : Int32)]) (rest := []) hC hR hS (xc_Mo_in l G  h) xv_Mo_85 ⟨rfl, rfl, Nat.le_of_ble_eq_true rfl, Nat.le_of_ble_eq_true rfl⟩ rfl hl.1 rfl (Nat.le_of_ble_eq_true rfl) xd_Mo_settle_4 (fun r2 M1 H locs h hR hS => ?_)
  refine lv_if_ne (pc := 7) (tgt := 16) hx hb xd_Mo_settle_7 (by decide) (fun hq => ?_) (fun hq => ?_)
  · have h := h.1 hq
    refine lv_iconst (pc := 16) (v := (0 : Int32)) hx hb xd_Mo_settle_16 (by decide) ?_
    refine lv_istore_n (pc := 17) (lv' := [(2, .int (0 : Int32)), (0, .ref (G.1 9 0)), (1, .int a1)]) hx hb xd_Mo_settle_17 rfl hl (by decide) rfl (fun ls hl => ?_)
    refine lv_aload_n (pc := 18) hx hb xd_Mo_settle_18 rfl (lv_at hl 1 rfl) ?_
    refine lv_iconst (pc := 19) (v := (0 : Int32)) hx hb xd_Mo_settle_19 (by decide) ?_
    refine xr_put (pc := 20) hC hR hS xo_M0 xf_Mo_189 xp_10_24 rfl rfl rfl xd_Mo_settle_20 (fun H locs hR hS => ?_)
    refine lv_aload_n (pc := 23) hx hb xd_Mo_settle_23 rfl (lv_at hl 1 rfl) ?_
    refine lv_iload_n (pc := 24) hx hb xd_Mo_settle_24 rfl (lv_at hl 2 rfl) ?_
    refine xr_callV (pc := 25) (As := [.int a1]) (rest := []) hC hR hS (xc_Mo_nearest l G  h) xo_M0 xv_Mo_193 ⟨rfl, rfl, Nat.le_of_ble_eq_true rfl, Nat.le_of_ble_eq_true rfl⟩ rfl hl.1 rfl (Nat.le_of_ble_eq_true rfl) xd_Mo_settle_25 (fun r4 M3 H locs h hR hS => ?_)
    refine lv_istore_n (pc := 28) (lv' := [(3, .int r4), (2, .int (0 : Int32)), (0, .ref (G.1 9 0)), (1, .int a1)]) hx hb xd_Mo_settle_28 rfl hl (by decide) rfl (fun ls hl => ?_)
    obtain ⟨n, h⟩ := h
    refine xt_Mo_settle_29 hC hr hlk  (fun y17 y18 M19 H locs ls h hR hS hl => ?_) n (0 : Int32) r4 M3 H locs ls h hR hS (lv_sub hl [2, 3, 1, 0] rfl)
    refine lv_aload_n (pc := 124) hx hb xd_Mo_settle_124 rfl (lv_at hl 0 rfl) ?_
    refine lv_iload_n (pc := 125) hx hb xd_Mo_settle_125 rfl (lv_at hl 2 rfl) ?_
    refine xr_callV (pc := 126) (As := [.int y17]) (rest := []) hC hR hS (xc_Mo_ends l G  h) xo_M0 xv_Mo_89 ⟨rfl, rfl, Nat.le_of_ble_eq_true rfl, Nat.le_of_ble_eq_true rfl⟩ rfl hl.1 rfl (Nat.le_of_ble_eq_true rfl) xd_Mo_settle_126 (fun r21 M20 H locs h hR hS => ?_)
    exact xr_iret hC hr hlk hR hS h xd_Mo_settle_129
  · have h := h.2 hq
    refine lv_aload_n (pc := 10) hx hb xd_Mo_settle_10 rfl (lv_at hl 0 rfl) ?_
    refine lv_iconst (pc := 11) (v := (-1 : Int32)) hx hb xd_Mo_settle_11 (by decide) ?_
    refine xr_callV (pc := 12) (As := [.int (-1 : Int32)]) (rest := []) hC hR hS (xc_Mo_ends l G  h) xo_M0 xv_Mo_89 ⟨rfl, rfl, Nat.le_of_ble_eq_true rfl, Nat.le_of_ble_eq_true rfl⟩ rfl hl.1 rfl (Nat.le_of_ble_eq_true rfl) xd_Mo_settle_12 (fun r23 M22 H locs h hR hS => ?_)
    exact xr_iret hC hr hlk hR hS h xd_Mo_settle_15

/-! ColoursApartModel.stuck()I -/
theorem xd_Mo_stuck_0 : decode b_Mo_stuck 0 = .ok (.aload_n 0, 1) := by decide +kernel
theorem xd_Mo_stuck_1 : decode b_Mo_stuck 1 = .ok (.getfield 189, 3) := by decide +kernel
theorem xd_Mo_stuck_4 : decode b_Mo_stuck 4 = .ok (.ifCond .eq 7, 3) := by decide +kernel
theorem xd_Mo_stuck_7 : decode b_Mo_stuck 7 = .ok (.iconst 1, 1) := by decide +kernel
theorem xd_Mo_stuck_8 : decode b_Mo_stuck 8 = .ok (.goto 4, 3) := by decide +kernel
theorem xd_Mo_stuck_11 : decode b_Mo_stuck 11 = .ok (.iconst 0, 1) := by decide +kernel
theorem xd_Mo_stuck_12 : decode b_Mo_stuck 12 = .ok (.ireturn, 1) := by decide +kernel
abbrev rm_Mo_stuck : Room := { frames := 0, cells := 0, slots := 0, locals := 0 }
def xw_Mo_stuck  (M : xM) (post : Int32 → xM → Prop) : Prop :=
  (((M 9 0 24) = 0) → (post (0 : Int32) M)) ∧ ((¬ (M 9 0 24) = 0) → (post (1 : Int32) M))
set_option maxHeartbeats 4000000 in
set_option maxRecDepth 100000 in
theorem xc_Mo_stuck (l : Launch) (G : xG)   {M : xM} {post : Int32 → xM → Prop} (h : xw_Mo_stuck  M post) : Met l y_Mo_stuck (Cond.code y_Mo_stuck b_Mo_stuck 1 (some .int) :: xTG) rm_Mo_stuck (xPre G M [.ref (G.1 9 0)]) (xPi G post) 0 0 (xA G) := by
  refine xMet (own := R_Mo) [.ref (G.1 9 0)] (Or.inl (by decide)) rfl (Nat.le_of_ble_eq_true rfl) (fun p e s m args below meth c ls hC hr hlk hR hS hl => ?_)
  have hx := hC.1
  have hb := hC.2.1
  have hl : lv_has ls 1 [(0, .ref (G.1 9 0))] := hl
  obtain ⟨H, eH⟩ : ∃ H : Heap, H = s.heap := ⟨_, rfl⟩
  obtain ⟨locs, eL⟩ : ∃ locs : List Loc, locs = [] := ⟨_, rfl⟩
  rw [← eH] at hR
  replace hS : va_S (xA G) s.heap H locs := by rw [eH, eL]; exact hS
  suffices hh : W p l e rm_Mo_stuck s m args below meth c H locs 0 0 (MQ below (xPi G post) args s 0 0 (xA G)) (F0 m 0 ls []) from by rw [eH, eL] at hh; exact hh
  unfold xw_Mo_stuck at h
  refine lv_aload_n (pc := 0) hx hb xd_Mo_stuck_0 rfl (lv_at hl 0 rfl) ?_
  refine xr_get (pc := 1) (v := .int (M 9 0 24)) hC hR xo_M0 xf_Mo_189 rfl xd_Mo_stuck_1 ?_
  refine lv_if_eq (pc := 4) (tgt := 11) hx hb xd_Mo_stuck_4 (by decide) (fun hq => ?_) (fun hq => ?_)
  · have h := h.1 hq
    refine lv_iconst (pc := 11) (v := (0 : Int32)) hx hb xd_Mo_stuck_11 (by decide) ?_
    exact xr_iret hC hr hlk hR hS h xd_Mo_stuck_12
  · have h := h.2 hq
    refine lv_iconst (pc := 7) (v := (1 : Int32)) hx hb xd_Mo_stuck_7 (by decide) ?_
    refine lv_goto (pc := 8) (tgt := 12) hx hb xd_Mo_stuck_8 (by decide) ?_
    exact xr_iret hC hr hlk hR hS h xd_Mo_stuck_12

/-! ColoursApartModel.point(III)I -/
theorem xd_Mo_point_0 : decode b_Mo_point 0 = .ok (.iload_n 0, 1) := by decide +kernel
theorem xd_Mo_point_1 : decode b_Mo_point 1 = .ok (.iconst 0, 1) := by decide +kernel
theorem xd_Mo_point_2 : decode b_Mo_point 2 = .ok (.invokestatic 97, 3) := by decide +kernel
theorem xd_Mo_point_5 : decode b_Mo_point 5 = .ok (.sipush 255, 3) := by decide +kernel
theorem xd_Mo_point_8 : decode b_Mo_point 8 = .ok (.iload_n 2, 1) := by decide +kernel
theorem xd_Mo_point_9 : decode b_Mo_point 9 = .ok (.isub, 1) := by decide +kernel
theorem xd_Mo_point_10 : decode b_Mo_point 10 = .ok (.imul, 1) := by decide +kernel
theorem xd_Mo_point_11 : decode b_Mo_point 11 = .ok (.iload_n 1, 1) := by decide +kernel
theorem xd_Mo_point_12 : decode b_Mo_point 12 = .ok (.iconst 0, 1) := by decide +kernel
theorem xd_Mo_point_13 : decode b_Mo_point 13 = .ok (.invokestatic 97, 3) := by decide +kernel
theorem xd_Mo_point_16 : decode b_Mo_point 16 = .ok (.iload_n 2, 1) := by decide +kernel
theorem xd_Mo_point_17 : decode b_Mo_point 17 = .ok (.imul, 1) := by decide +kernel
theorem xd_Mo_point_18 : decode b_Mo_point 18 = .ok (.iadd, 1) := by decide +kernel
theorem xd_Mo_point_19 : decode b_Mo_point 19 = .ok (.bipush 127, 2) := by decide +kernel
theorem xd_Mo_point_21 : decode b_Mo_point 21 = .ok (.iadd, 1) := by decide +kernel
theorem xd_Mo_point_22 : decode b_Mo_point 22 = .ok (.sipush 255, 3) := by decide +kernel
theorem xd_Mo_point_25 : decode b_Mo_point 25 = .ok (.idiv, 1) := by decide +kernel
theorem xd_Mo_point_26 : decode b_Mo_point 26 = .ok (.istore_n 3, 1) := by decide +kernel
theorem xd_Mo_point_27 : decode b_Mo_point 27 = .ok (.iload_n 0, 1) := by decide +kernel
theorem xd_Mo_point_28 : decode b_Mo_point 28 = .ok (.iconst 1, 1) := by decide +kernel
theorem xd_Mo_point_29 : decode b_Mo_point 29 = .ok (.invokestatic 97, 3) := by decide +kernel
theorem xd_Mo_point_32 : decode b_Mo_point 32 = .ok (.sipush 255, 3) := by decide +kernel
theorem xd_Mo_point_35 : decode b_Mo_point 35 = .ok (.iload_n 2, 1) := by decide +kernel
theorem xd_Mo_point_36 : decode b_Mo_point 36 = .ok (.isub, 1) := by decide +kernel
theorem xd_Mo_point_37 : decode b_Mo_point 37 = .ok (.imul, 1) := by decide +kernel
theorem xd_Mo_point_38 : decode b_Mo_point 38 = .ok (.iload_n 1, 1) := by decide +kernel
theorem xd_Mo_point_39 : decode b_Mo_point 39 = .ok (.iconst 1, 1) := by decide +kernel
theorem xd_Mo_point_40 : decode b_Mo_point 40 = .ok (.invokestatic 97, 3) := by decide +kernel
theorem xd_Mo_point_43 : decode b_Mo_point 43 = .ok (.iload_n 2, 1) := by decide +kernel
theorem xd_Mo_point_44 : decode b_Mo_point 44 = .ok (.imul, 1) := by decide +kernel
theorem xd_Mo_point_45 : decode b_Mo_point 45 = .ok (.iadd, 1) := by decide +kernel
theorem xd_Mo_point_46 : decode b_Mo_point 46 = .ok (.bipush 127, 2) := by decide +kernel
theorem xd_Mo_point_48 : decode b_Mo_point 48 = .ok (.iadd, 1) := by decide +kernel
theorem xd_Mo_point_49 : decode b_Mo_point 49 = .ok (.sipush 255, 3) := by decide +kernel
theorem xd_Mo_point_52 : decode b_Mo_point 52 = .ok (.idiv, 1) := by decide +kernel
theorem xd_Mo_point_53 : decode b_Mo_point 53 = .ok (.istore 4, 2) := by decide +kernel
theorem xd_Mo_point_55 : decode b_Mo_point 55 = .ok (.iload_n 3, 1) := by decide +kernel
theorem xd_Mo_point_56 : decode b_Mo_point 56 = .ok (.iload 4, 2) := by decide +kernel
theorem xd_Mo_point_58 : decode b_Mo_point 58 = .ok (.iload_n 0, 1) := by decide +kernel
theorem xd_Mo_point_59 : decode b_Mo_point 59 = .ok (.iconst 2, 1) := by decide +kernel
theorem xd_Mo_point_60 : decode b_Mo_point 60 = .ok (.invokestatic 97, 3) := by decide +kernel
theorem xd_Mo_point_63 : decode b_Mo_point 63 = .ok (.sipush 255, 3) := by decide +kernel
theorem xd_Mo_point_66 : decode b_Mo_point 66 = .ok (.iload_n 2, 1) := by decide +kernel
theorem xd_Mo_point_67 : decode b_Mo_point 67 = .ok (.isub, 1) := by decide +kernel
theorem xd_Mo_point_68 : decode b_Mo_point 68 = .ok (.imul, 1) := by decide +kernel
theorem xd_Mo_point_69 : decode b_Mo_point 69 = .ok (.iload_n 1, 1) := by decide +kernel
theorem xd_Mo_point_70 : decode b_Mo_point 70 = .ok (.iconst 2, 1) := by decide +kernel
theorem xd_Mo_point_71 : decode b_Mo_point 71 = .ok (.invokestatic 97, 3) := by decide +kernel
theorem xd_Mo_point_74 : decode b_Mo_point 74 = .ok (.iload_n 2, 1) := by decide +kernel
theorem xd_Mo_point_75 : decode b_Mo_point 75 = .ok (.imul, 1) := by decide +kernel
theorem xd_Mo_point_76 : decode b_Mo_point 76 = .ok (.iadd, 1) := by decide +kernel
theorem xd_Mo_point_77 : decode b_Mo_point 77 = .ok (.bipush 127, 2) := by decide +kernel
theorem xd_Mo_point_79 : decode b_Mo_point 79 = .ok (.iadd, 1) := by decide +kernel
theorem xd_Mo_point_80 : decode b_Mo_point 80 = .ok (.sipush 255, 3) := by decide +kernel
theorem xd_Mo_point_83 : decode b_Mo_point 83 = .ok (.idiv, 1) := by decide +kernel
theorem xd_Mo_point_84 : decode b_Mo_point 84 = .ok (.invokestatic 104, 3) := by decide +kernel
theorem xd_Mo_point_87 : decode b_Mo_point 87 = .ok (.ireturn, 1) := by decide +kernel
abbrev rm_Mo_point : Room := { frames := 1, cells := 0, slots := 0, locals := 22 }
def xw_Mo_point (a0 : Int32) (a1 : Int32) (a2 : Int32) (M : xM) (post : Int32 → xM → Prop) : Prop :=
  xw_Mo_third a0 (0 : Int32) M (fun (r2 : Int32) (M1 : xM) => xw_Mo_third a1 (0 : Int32) M1 (fun (r4 : Int32) (M3 : xM) => xw_Mo_third a0 (1 : Int32) M3 (fun (r6 : Int32) (M5 : xM) => xw_Mo_third a1 (1 : Int32) M5 (fun (r8 : Int32) (M7 : xM) => xw_Mo_third a0 (2 : Int32) M7 (fun (r10 : Int32) (M9 : xM) => xw_Mo_third a1 (2 : Int32) M9 (fun (r12 : Int32) (M11 : xM) => xw_Mo_made ((((r2 * ((255 : Int32) - a2)) + (r4 * a2)) + (127 : Int32)) / (255 : Int32)) ((((r6 * ((255 : Int32) - a2)) + (r8 * a2)) + (127 : Int32)) / (255 : Int32)) ((((r10 * ((255 : Int32) - a2)) + (r12 * a2)) + (127 : Int32)) / (255 : Int32)) M11 (fun (r14 : Int32) (M13 : xM) => post r14 M13)))))))
set_option maxHeartbeats 4000000 in
set_option maxRecDepth 100000 in
theorem xc_Mo_point (l : Launch) (G : xG) {a0 : Int32} {a1 : Int32} {a2 : Int32}  {M : xM} {post : Int32 → xM → Prop} (h : xw_Mo_point a0 a1 a2 M post) : Met l y_Mo_point (Cond.code y_Mo_point b_Mo_point 5 (some .int) :: xTG) rm_Mo_point (xPre G M [.int a0, .int a1, .int a2]) (xPi G post) 0 0 (xA G) := by
  refine xMet (own := R_Mo) [.int a0, .int a1, .int a2] (Or.inl (by decide)) rfl (Nat.le_of_ble_eq_true rfl) (fun p e s m args below meth c ls hC hr hlk hR hS hl => ?_)
  have hx := hC.1
  have hb := hC.2.1
  have hl : lv_has ls 5 [(0, .int a0), (1, .int a1), (2, .int a2)] := hl
  obtain ⟨H, eH⟩ : ∃ H : Heap, H = s.heap := ⟨_, rfl⟩
  obtain ⟨locs, eL⟩ : ∃ locs : List Loc, locs = [] := ⟨_, rfl⟩
  rw [← eH] at hR
  replace hS : va_S (xA G) s.heap H locs := by rw [eH, eL]; exact hS
  suffices hh : W p l e rm_Mo_point s m args below meth c H locs 0 0 (MQ below (xPi G post) args s 0 0 (xA G)) (F0 m 0 ls []) from by rw [eH, eL] at hh; exact hh
  unfold xw_Mo_point at h
  refine lv_iload_n (pc := 0) hx hb xd_Mo_point_0 rfl (lv_at hl 0 rfl) ?_
  refine lv_iconst (pc := 1) (v := (0 : Int32)) hx hb xd_Mo_point_1 (by decide) ?_
  refine xr_callS (pc := 2) (As := [.int a0, .int (0 : Int32)]) (rest := []) hC hR hS (xc_Mo_third l G  h) xv_Mo_97 ⟨rfl, rfl, Nat.le_of_ble_eq_true rfl, Nat.le_of_ble_eq_true rfl⟩ rfl hl.1 rfl (Nat.le_of_ble_eq_true rfl) xd_Mo_point_2 (fun r2 M1 H locs h hR hS => ?_)
  refine lv_sipush (pc := 5) (v := (255 : Int32)) hx hb xd_Mo_point_5 (by decide) ?_
  refine lv_iload_n (pc := 8) hx hb xd_Mo_point_8 rfl (lv_at hl 2 rfl) ?_
  refine lv_isub (pc := 9) hx hb xd_Mo_point_9 ?_
  refine lv_imul (pc := 10) hx hb xd_Mo_point_10 ?_
  refine lv_iload_n (pc := 11) hx hb xd_Mo_point_11 rfl (lv_at hl 1 rfl) ?_
  refine lv_iconst (pc := 12) (v := (0 : Int32)) hx hb xd_Mo_point_12 (by decide) ?_
  refine xr_callS (pc := 13) (As := [.int a1, .int (0 : Int32)]) (rest := [.int (r2 * ((255 : Int32) - a2))]) hC hR hS (xc_Mo_third l G  h) xv_Mo_97 ⟨rfl, rfl, Nat.le_of_ble_eq_true rfl, Nat.le_of_ble_eq_true rfl⟩ rfl hl.1 rfl (Nat.le_of_ble_eq_true rfl) xd_Mo_point_13 (fun r4 M3 H locs h hR hS => ?_)
  refine lv_iload_n (pc := 16) hx hb xd_Mo_point_16 rfl (lv_at hl 2 rfl) ?_
  refine lv_imul (pc := 17) hx hb xd_Mo_point_17 ?_
  refine lv_iadd (pc := 18) hx hb xd_Mo_point_18 ?_
  refine lv_bipush (pc := 19) (v := (127 : Int32)) hx hb xd_Mo_point_19 (by decide) ?_
  refine lv_iadd (pc := 21) hx hb xd_Mo_point_21 ?_
  refine lv_sipush (pc := 22) (v := (255 : Int32)) hx hb xd_Mo_point_22 (by decide) ?_
  refine lv_idiv (pc := 25) hx hb xd_Mo_point_25 (by decide) ?_
  refine lv_istore_n (pc := 26) (lv' := [(3, .int ((((r2 * ((255 : Int32) - a2)) + (r4 * a2)) + (127 : Int32)) / (255 : Int32))), (0, .int a0), (1, .int a1), (2, .int a2)]) hx hb xd_Mo_point_26 rfl hl (by decide) rfl (fun ls hl => ?_)
  refine lv_iload_n (pc := 27) hx hb xd_Mo_point_27 rfl (lv_at hl 1 rfl) ?_
  refine lv_iconst (pc := 28) (v := (1 : Int32)) hx hb xd_Mo_point_28 (by decide) ?_
  refine xr_callS (pc := 29) (As := [.int a0, .int (1 : Int32)]) (rest := []) hC hR hS (xc_Mo_third l G  h) xv_Mo_97 ⟨rfl, rfl, Nat.le_of_ble_eq_true rfl, Nat.le_of_ble_eq_true rfl⟩ rfl hl.1 rfl (Nat.le_of_ble_eq_true rfl) xd_Mo_point_29 (fun r6 M5 H locs h hR hS => ?_)
  refine lv_sipush (pc := 32) (v := (255 : Int32)) hx hb xd_Mo_point_32 (by decide) ?_
  refine lv_iload_n (pc := 35) hx hb xd_Mo_point_35 rfl (lv_at hl 3 rfl) ?_
  refine lv_isub (pc := 36) hx hb xd_Mo_point_36 ?_
  refine lv_imul (pc := 37) hx hb xd_Mo_point_37 ?_
  refine lv_iload_n (pc := 38) hx hb xd_Mo_point_38 rfl (lv_at hl 2 rfl) ?_
  refine lv_iconst (pc := 39) (v := (1 : Int32)) hx hb xd_Mo_point_39 (by decide) ?_
  refine xr_callS (pc := 40) (As := [.int a1, .int (1 : Int32)]) (rest := [.int (r6 * ((255 : Int32) - a2))]) hC hR hS (xc_Mo_third l G  h) xv_Mo_97 ⟨rfl, rfl, Nat.le_of_ble_eq_true rfl, Nat.le_of_ble_eq_true rfl⟩ rfl hl.1 rfl (Nat.le_of_ble_eq_true rfl) xd_Mo_point_40 (fun r8 M7 H locs h hR hS => ?_)
  refine lv_iload_n (pc := 43) hx hb xd_Mo_point_43 rfl (lv_at hl 3 rfl) ?_
  refine lv_imul (pc := 44) hx hb xd_Mo_point_44 ?_
  refine lv_iadd (pc := 45) hx hb xd_Mo_point_45 ?_
  refine lv_bipush (pc := 46) (v := (127 : Int32)) hx hb xd_Mo_point_46 (by decide) ?_
  refine lv_iadd (pc := 48) hx hb xd_Mo_point_48 ?_
  refine lv_sipush (pc := 49) (v := (255 : Int32)) hx hb xd_Mo_point_49 (by decide) ?_
  refine lv_idiv (pc := 52) hx hb xd_Mo_point_52 (by decide) ?_
  refine lv_istore (pc := 53) (lv' := [(4, .int ((((r6 * ((255 : Int32) - a2)) + (r8 * a2)) + (127 : Int32)) / (255 : Int32))), (3, .int ((((r2 * ((255 : Int32) - a2)) + (r4 * a2)) + (127 : Int32)) / (255 : Int32))), (0, .int a0), (1, .int a1), (2, .int a2)]) hx hb xd_Mo_point_53 hl (by decide) rfl (fun ls hl => ?_)
  refine lv_iload_n (pc := 55) hx hb xd_Mo_point_55 rfl (lv_at hl 1 rfl) ?_
  refine lv_iload (pc := 56) hx hb xd_Mo_point_56 (lv_at hl 0 rfl) ?_
  refine lv_iload_n (pc := 58) hx hb xd_Mo_point_58 rfl (lv_at hl 2 rfl) ?_
  refine lv_iconst (pc := 59) (v := (2 : Int32)) hx hb xd_Mo_point_59 (by decide) ?_
  refine xr_callS (pc := 60) (As := [.int a0, .int (2 : Int32)]) (rest := [.int ((((r6 * ((255 : Int32) - a2)) + (r8 * a2)) + (127 : Int32)) / (255 : Int32)), .int ((((r2 * ((255 : Int32) - a2)) + (r4 * a2)) + (127 : Int32)) / (255 : Int32))]) hC hR hS (xc_Mo_third l G  h) xv_Mo_97 ⟨rfl, rfl, Nat.le_of_ble_eq_true rfl, Nat.le_of_ble_eq_true rfl⟩ rfl hl.1 rfl (Nat.le_of_ble_eq_true rfl) xd_Mo_point_60 (fun r10 M9 H locs h hR hS => ?_)
  refine lv_sipush (pc := 63) (v := (255 : Int32)) hx hb xd_Mo_point_63 (by decide) ?_
  refine lv_iload_n (pc := 66) hx hb xd_Mo_point_66 rfl (lv_at hl 4 rfl) ?_
  refine lv_isub (pc := 67) hx hb xd_Mo_point_67 ?_
  refine lv_imul (pc := 68) hx hb xd_Mo_point_68 ?_
  refine lv_iload_n (pc := 69) hx hb xd_Mo_point_69 rfl (lv_at hl 3 rfl) ?_
  refine lv_iconst (pc := 70) (v := (2 : Int32)) hx hb xd_Mo_point_70 (by decide) ?_
  refine xr_callS (pc := 71) (As := [.int a1, .int (2 : Int32)]) (rest := [.int (r10 * ((255 : Int32) - a2)), .int ((((r6 * ((255 : Int32) - a2)) + (r8 * a2)) + (127 : Int32)) / (255 : Int32)), .int ((((r2 * ((255 : Int32) - a2)) + (r4 * a2)) + (127 : Int32)) / (255 : Int32))]) hC hR hS (xc_Mo_third l G  h) xv_Mo_97 ⟨rfl, rfl, Nat.le_of_ble_eq_true rfl, Nat.le_of_ble_eq_true rfl⟩ rfl hl.1 rfl (Nat.le_of_ble_eq_true rfl) xd_Mo_point_71 (fun r12 M11 H locs h hR hS => ?_)
  refine lv_iload_n (pc := 74) hx hb xd_Mo_point_74 rfl (lv_at hl 4 rfl) ?_
  refine lv_imul (pc := 75) hx hb xd_Mo_point_75 ?_
  refine lv_iadd (pc := 76) hx hb xd_Mo_point_76 ?_
  refine lv_bipush (pc := 77) (v := (127 : Int32)) hx hb xd_Mo_point_77 (by decide) ?_
  refine lv_iadd (pc := 79) hx hb xd_Mo_point_79 ?_
  refine lv_sipush (pc := 80) (v := (255 : Int32)) hx hb xd_Mo_point_80 (by decide) ?_
  refine lv_idiv (pc := 83) hx hb xd_Mo_point_83 (by decide) ?_
  refine xr_callS (pc := 84) (As := [.int ((((r2 * ((255 : Int32) - a2)) + (r4 * a2)) + (127 : Int32)) / (255 : Int32)), .int ((((r6 * ((255 : Int32) - a2)) + (r8 * a2)) + (127 : Int32)) / (255 : Int32)), .int ((((r10 * ((255 : Int32) - a2)) + (r12 * a2)) + (127 : Int32)) / (255 : Int32))]) (rest := []) hC hR hS (xc_Mo_made l G  h) xv_Mo_104 ⟨rfl, rfl, Nat.le_of_ble_eq_true rfl, Nat.le_of_ble_eq_true rfl⟩ rfl hl.1 rfl (Nat.le_of_ble_eq_true rfl) xd_Mo_point_84 (fun r14 M13 H locs h hR hS => ?_)
  exact xr_iret hC hr hlk hR hS h xd_Mo_point_87
