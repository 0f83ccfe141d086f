/-! ColoursApartModel.ramp(III)I -/
theorem xd_Mo_ramp_0 : decode b_Mo_ramp 0 = .ok (.iload_n 1, 1) := by decide +kernel
theorem xd_Mo_ramp_1 : decode b_Mo_ramp 1 = .ok (.invokestatic 133, 3) := by decide +kernel
theorem xd_Mo_ramp_4 : decode b_Mo_ramp 4 = .ok (.ifCond .eq 20, 3) := by decide +kernel
theorem xd_Mo_ramp_7 : decode b_Mo_ramp 7 = .ok (.iload_n 2, 1) := by decide +kernel
theorem xd_Mo_ramp_8 : decode b_Mo_ramp 8 = .ok (.invokestatic 133, 3) := by decide +kernel
theorem xd_Mo_ramp_11 : decode b_Mo_ramp 11 = .ok (.ifCond .eq 13, 3) := by decide +kernel
theorem xd_Mo_ramp_14 : decode b_Mo_ramp 14 = .ok (.iload_n 3, 1) := by decide +kernel
theorem xd_Mo_ramp_15 : decode b_Mo_ramp 15 = .ok (.iconst 2, 1) := by decide +kernel
theorem xd_Mo_ramp_16 : decode b_Mo_ramp 16 = .ok (.bipush 12, 2) := by decide +kernel
theorem xd_Mo_ramp_18 : decode b_Mo_ramp 18 = .ok (.invokestatic 85, 3) := by decide +kernel
theorem xd_Mo_ramp_21 : decode b_Mo_ramp 21 = .ok (.ifCond .ne 9, 3) := by decide +kernel
theorem xd_Mo_ramp_24 : decode b_Mo_ramp 24 = .ok (.aload_n 0, 1) := by decide +kernel
theorem xd_Mo_ramp_25 : decode b_Mo_ramp 25 = .ok (.iconst (-1), 1) := by decide +kernel
theorem xd_Mo_ramp_26 : decode b_Mo_ramp 26 = .ok (.invokevirtual 89, 3) := by decide +kernel
theorem xd_Mo_ramp_29 : decode b_Mo_ramp 29 = .ok (.ireturn, 1) := by decide +kernel
theorem xd_Mo_ramp_30 : decode b_Mo_ramp 30 = .ok (.iload_n 1, 1) := by decide +kernel
theorem xd_Mo_ramp_31 : decode b_Mo_ramp 31 = .ok (.invokestatic 120, 3) := by decide +kernel
theorem xd_Mo_ramp_34 : decode b_Mo_ramp 34 = .ok (.iload_n 2, 1) := by decide +kernel
theorem xd_Mo_ramp_35 : decode b_Mo_ramp 35 = .ok (.invokestatic 120, 3) := by decide +kernel
theorem xd_Mo_ramp_38 : decode b_Mo_ramp 38 = .ok (.if_icmp .lt 10, 3) := by decide +kernel
theorem xd_Mo_ramp_41 : decode b_Mo_ramp 41 = .ok (.aload_n 0, 1) := by decide +kernel
theorem xd_Mo_ramp_42 : decode b_Mo_ramp 42 = .ok (.bipush (-6), 2) := by decide +kernel
theorem xd_Mo_ramp_44 : decode b_Mo_ramp 44 = .ok (.invokevirtual 89, 3) := by decide +kernel
theorem xd_Mo_ramp_47 : decode b_Mo_ramp 47 = .ok (.ireturn, 1) := by decide +kernel
theorem xd_Mo_ramp_48 : decode b_Mo_ramp 48 = .ok (.iconst 0, 1) := by decide +kernel
theorem xd_Mo_ramp_49 : decode b_Mo_ramp 49 = .ok (.istore 4, 2) := by decide +kernel
theorem xd_Mo_ramp_51 : decode b_Mo_ramp 51 = .ok (.iconst 0, 1) := by decide +kernel
theorem xd_Mo_ramp_52 : decode b_Mo_ramp 52 = .ok (.istore 5, 2) := by decide +kernel
theorem xd_Mo_ramp_54 : decode b_Mo_ramp 54 = .ok (.iload 5, 2) := by decide +kernel
theorem xd_Mo_ramp_56 : decode b_Mo_ramp 56 = .ok (.iload_n 3, 1) := by decide +kernel
theorem xd_Mo_ramp_57 : decode b_Mo_ramp 57 = .ok (.if_icmp .ge 78, 3) := by decide +kernel
theorem xd_Mo_ramp_60 : decode b_Mo_ramp 60 = .ok (.iload_n 1, 1) := by decide +kernel
theorem xd_Mo_ramp_61 : decode b_Mo_ramp 61 = .ok (.invokestatic 120, 3) := by decide +kernel
theorem xd_Mo_ramp_64 : decode b_Mo_ramp 64 = .ok (.iload_n 2, 1) := by decide +kernel
theorem xd_Mo_ramp_65 : decode b_Mo_ramp 65 = .ok (.invokestatic 120, 3) := by decide +kernel
theorem xd_Mo_ramp_68 : decode b_Mo_ramp 68 = .ok (.iload_n 1, 1) := by decide +kernel
theorem xd_Mo_ramp_69 : decode b_Mo_ramp 69 = .ok (.invokestatic 120, 3) := by decide +kernel
theorem xd_Mo_ramp_72 : decode b_Mo_ramp 72 = .ok (.isub, 1) := by decide +kernel
theorem xd_Mo_ramp_73 : decode b_Mo_ramp 73 = .ok (.iload 5, 2) := by decide +kernel
theorem xd_Mo_ramp_75 : decode b_Mo_ramp 75 = .ok (.imul, 1) := by decide +kernel
theorem xd_Mo_ramp_76 : decode b_Mo_ramp 76 = .ok (.iload_n 3, 1) := by decide +kernel
theorem xd_Mo_ramp_77 : decode b_Mo_ramp 77 = .ok (.iconst 1, 1) := by decide +kernel
theorem xd_Mo_ramp_78 : decode b_Mo_ramp 78 = .ok (.isub, 1) := by decide +kernel
theorem xd_Mo_ramp_79 : decode b_Mo_ramp 79 = .ok (.idiv, 1) := by decide +kernel
theorem xd_Mo_ramp_80 : decode b_Mo_ramp 80 = .ok (.iadd, 1) := by decide +kernel
theorem xd_Mo_ramp_81 : decode b_Mo_ramp 81 = .ok (.istore 6, 2) := by decide +kernel
theorem xd_Mo_ramp_83 : decode b_Mo_ramp 83 = .ok (.iconst 0, 1) := by decide +kernel
theorem xd_Mo_ramp_84 : decode b_Mo_ramp 84 = .ok (.istore 4, 2) := by decide +kernel
theorem xd_Mo_ramp_86 : decode b_Mo_ramp 86 = .ok (.iload 4, 2) := by decide +kernel
theorem xd_Mo_ramp_88 : decode b_Mo_ramp 88 = .ok (.sipush 255, 3) := by decide +kernel
theorem xd_Mo_ramp_91 : decode b_Mo_ramp 91 = .ok (.if_icmp .ge 24, 3) := by decide +kernel
theorem xd_Mo_ramp_94 : decode b_Mo_ramp 94 = .ok (.iload_n 1, 1) := by decide +kernel
theorem xd_Mo_ramp_95 : decode b_Mo_ramp 95 = .ok (.iload_n 2, 1) := by decide +kernel
theorem xd_Mo_ramp_96 : decode b_Mo_ramp 96 = .ok (.iload 4, 2) := by decide +kernel
theorem xd_Mo_ramp_98 : decode b_Mo_ramp 98 = .ok (.invokestatic 196, 3) := by decide +kernel
theorem xd_Mo_ramp_101 : decode b_Mo_ramp 101 = .ok (.invokestatic 120, 3) := by decide +kernel
theorem xd_Mo_ramp_104 : decode b_Mo_ramp 104 = .ok (.iload 6, 2) := by decide +kernel
theorem xd_Mo_ramp_106 : decode b_Mo_ramp 106 = .ok (.if_icmp .ge 9, 3) := by decide +kernel
theorem xd_Mo_ramp_109 : decode b_Mo_ramp 109 = .ok (.iinc 4 1, 3) := by decide +kernel
theorem xd_Mo_ramp_112 : decode b_Mo_ramp 112 = .ok (.goto (-26), 3) := by decide +kernel
theorem xd_Mo_ramp_115 : decode b_Mo_ramp 115 = .ok (.aload_n 0, 1) := by decide +kernel
theorem xd_Mo_ramp_116 : decode b_Mo_ramp 116 = .ok (.getfield 73, 3) := by decide +kernel
theorem xd_Mo_ramp_119 : decode b_Mo_ramp 119 = .ok (.iload 5, 2) := by decide +kernel
theorem xd_Mo_ramp_121 : decode b_Mo_ramp 121 = .ok (.iload_n 1, 1) := by decide +kernel
theorem xd_Mo_ramp_122 : decode b_Mo_ramp 122 = .ok (.iload_n 2, 1) := by decide +kernel
theorem xd_Mo_ramp_123 : decode b_Mo_ramp 123 = .ok (.iload 4, 2) := by decide +kernel
theorem xd_Mo_ramp_125 : decode b_Mo_ramp 125 = .ok (.invokestatic 196, 3) := by decide +kernel
theorem xd_Mo_ramp_128 : decode b_Mo_ramp 128 = .ok (.iastore, 1) := by decide +kernel
theorem xd_Mo_ramp_129 : decode b_Mo_ramp 129 = .ok (.iinc 5 1, 3) := by decide +kernel
theorem xd_Mo_ramp_132 : decode b_Mo_ramp 132 = .ok (.goto (-78), 3) := by decide +kernel
theorem xd_Mo_ramp_135 : decode b_Mo_ramp 135 = .ok (.aload_n 0, 1) := by decide +kernel
theorem xd_Mo_ramp_136 : decode b_Mo_ramp 136 = .ok (.iload_n 3, 1) := by decide +kernel
theorem xd_Mo_ramp_137 : decode b_Mo_ramp 137 = .ok (.putfield 199, 3) := by decide +kernel
theorem xd_Mo_ramp_140 : decode b_Mo_ramp 140 = .ok (.aload_n 0, 1) := by decide +kernel
theorem xd_Mo_ramp_141 : decode b_Mo_ramp 141 = .ok (.iload 4, 2) := by decide +kernel
theorem xd_Mo_ramp_143 : decode b_Mo_ramp 143 = .ok (.invokevirtual 89, 3) := by decide +kernel
theorem xd_Mo_ramp_146 : decode b_Mo_ramp 146 = .ok (.ireturn, 1) := by decide +kernel
abbrev rm_Mo_ramp : Room := { frames := 2, cells := 0, slots := 0, locals := 46 }
def xw_Mo_ramp_86 (x1 : Int32) (x2 : Int32) (x3 : Int32) (x5 : Int32) (x6 : Int32) (post : Int32 → xM → Prop) (k115 : Int32 → xM → Prop) : Nat → Int32 → xM → Prop
  | 0, _, _ => False
  | n86 + 1, x4, M => (((255 : Int32) ≤ x4) → (k115 x4 M)) ∧ ((¬ (255 : Int32) ≤ x4) → (xw_Mo_point x1 x2 x4 M (fun (r22 : Int32) (M21 : xM) => xw_Mo_lightOf r22 M21 (fun (r24 : Int32) (M23 : xM) => ((x6 ≤ r24) → (k115 x4 M23)) ∧ ((¬ x6 ≤ r24) → (xw_Mo_ramp_86 x1 x2 x3 x5 x6 post k115 n86 (x4 + (1 : Int32)) M23))))))
def xw_Mo_ramp_54 (x1 : Int32) (x2 : Int32) (x3 : Int32) (post : Int32 → xM → Prop) (k135 : Int32 → Int32 → xM → Prop) : Nat → Int32 → Int32 → xM → Prop
  | 0, _, _, _ => False
  | n54 + 1, x4, x5, M => ((x3 ≤ x5) → (k135 x4 x5 M)) ∧ ((¬ x3 ≤ x5) → (xw_Mo_lightOf x1 M (fun (r16 : Int32) (M15 : xM) => xw_Mo_lightOf x2 M15 (fun (r18 : Int32) (M17 : xM) => xw_Mo_lightOf x1 M17 (fun (r20 : Int32) (M19 : xM) => (¬ (x3 - (1 : Int32)) = 0) ∧ (∃ n86 : Nat, xw_Mo_ramp_86 x1 x2 x3 x5 (r16 + (((r18 - r20) * x5) / (x3 - (1 : Int32)))) post (fun (y25 : Int32) (M26 : xM) => xw_Mo_point x1 x2 y25 M26 (fun (r28 : Int32) (M27 : xM) => (vp_in x5 12) ∧ (xw_Mo_ramp_54 x1 x2 x3 post k135 n54 y25 (x5 + (1 : Int32)) (us M27 9 18 x5.toNatClampNeg r28)))) n86 (0 : Int32) M19))))))
def xw_Mo_ramp (a1 : Int32) (a2 : Int32) (a3 : Int32) (M : xM) (post : Int32 → xM → Prop) : Prop :=
  xw_Mo_isColour a1 M (fun (r2 : Int32) (M1 : xM) => xj (fun (J24_2 : xM → Prop) => ((r2 = 0) → (J24_2  M1)) ∧ ((¬ r2 = 0) → (xw_Mo_isColour a2 M1 (fun (r8 : Int32) (M7 : xM) => ((r8 = 0) → (J24_2  M7)) ∧ ((¬ r8 = 0) → (xw_Mo_in a3 (2 : Int32) (12 : Int32) M7 (fun (r10 : Int32) (M9 : xM) => ((¬ r10 = 0) → (xw_Mo_lightOf a1 M9 (fun (r12 : Int32) (M11 : xM) => xw_Mo_lightOf a2 M11 (fun (r14 : Int32) (M13 : xM) => ((r12 < r14) → (∃ n54 : Nat, xw_Mo_ramp_54 a1 a2 a3 post (fun (y29 : Int32) (y30 : Int32) (M31 : xM) => xw_Mo_ends y29 (us M31 9 0 25 a3) (fun (r33 : Int32) (M32 : xM) => post r33 M32)) n54 (0 : Int32) (0 : Int32) M13)) ∧ ((¬ r12 < r14) → (xw_Mo_ends (-6 : Int32) M13 (fun (r35 : Int32) (M34 : xM) => post r35 M34))))))) ∧ ((r10 = 0) → (J24_2  M9))))))))) (fun (M4 : xM) => xw_Mo_ends (-1 : Int32) M4 (fun (r6 : Int32) (M5 : xM) => post r6 M5)))
set_option maxHeartbeats 4000000 in
set_option maxRecDepth 100000 in
theorem xt_Mo_ramp_86 {p : Program} {l : Launch} {e : Env} {s : State} {m : MethodId} {args : Array Value} {below : List Frame} {meth : Method} {c : Code} {G : xG} (hC : xC p s m args c b_Mo_ramp R_Mo 7 G) (hr : meth.sig.returnType = (some .int)) (hlk : meth.locks = false) {x1 : Int32} {x2 : Int32} {x3 : Int32} {x5 : Int32} {x6 : Int32} {post : Int32 → xM → Prop} {k115 : Int32 → xM → Prop} (hk115 : ∀ (x4 : Int32) (M : xM) (H : Heap) (locs : List Loc) (ls : Array Slot), k115 x4 M → xRp G M H → va_S (xA G) s.heap H locs → lv_has ls 7 [(0, .ref (G.1 9 0)), (1, .int x1), (2, .int x2), (3, .int x3), (4, .int x4), (5, .int x5), (6, .int x6)] → W p l e rm_Mo_ramp s m args below meth c H locs 0 0 (MQ below (xPi G post) args s 0 0 (xA G)) (F0 m 115 ls [])) : ∀ (n : Nat) (x4 : Int32) (M : xM) (H : Heap) (locs : List Loc) (ls : Array Slot), xw_Mo_ramp_86 x1 x2 x3 x5 x6 post k115 n x4 M → xRp G M H → va_S (xA G) s.heap H locs → lv_has ls 7 [(0, .ref (G.1 9 0)), (1, .int x1), (2, .int x2), (3, .int x3), (4, .int x4), (5, .int x5), (6, .int x6)] → W p l e rm_Mo_ramp s m args below meth c H locs 0 0 (MQ below (xPi G post) args s 0 0 (xA G)) (F0 m 86 ls []) := by
  have hx := hC.1
  have hb := hC.2.1
  intro n
  induction n with
  | zero => intro x4 M H locs ls; exact fun h => h.elim
  | succ n ih =>
    intro x4 M H locs ls h hR hS hl
    refine lv_iload (pc := 86) hx hb xd_Mo_ramp_86 (lv_at hl 4 rfl) ?_
    refine lv_sipush (pc := 88) (v := (255 : Int32)) hx hb xd_Mo_ramp_88 (by decide) ?_
    refine lv_icmp_ge (pc := 91) (tgt := 115) hx hb xd_Mo_ramp_91 (by decide) (fun hq => ?_) (fun hq => ?_)
    · have h := h.1 hq
      exact hk115 x4 M H locs ls h hR hS (lv_sub hl [0, 1, 2, 3, 4, 5, 6] rfl)
    · have h := h.2 hq
      refine lv_iload_n (pc := 94) hx hb xd_Mo_ramp_94 rfl (lv_at hl 1 rfl) ?_
      refine lv_iload_n (pc := 95) hx hb xd_Mo_ramp_95 rfl (lv_at hl 2 rfl) ?_
      refine lv_iload (pc := 96) hx hb xd_Mo_ramp_96 (lv_at hl 4 rfl) ?_
      refine xr_callS (pc := 98) (As := [.int x1, .int x2, .int x4]) (rest := []) hC hR hS (xc_Mo_point l G  h) xv_Mo_196 ⟨rfl, rfl, Nat.le_of_ble_eq_true rfl, Nat.le_of_ble_eq_true rfl⟩ rfl hl.1 rfl (Nat.le_of_ble_eq_true rfl) xd_Mo_ramp_98 (fun r22 M21 H locs h hR hS => ?_)
      refine xr_callS (pc := 101) (As := [.int r22]) (rest := []) hC hR hS (xc_Mo_lightOf l G  h) xv_Mo_120 ⟨rfl, rfl, Nat.le_of_ble_eq_true rfl, Nat.le_of_ble_eq_true rfl⟩ rfl hl.1 rfl (Nat.le_of_ble_eq_true rfl) xd_Mo_ramp_101 (fun r24 M23 H locs h hR hS => ?_)
      refine lv_iload (pc := 104) hx hb xd_Mo_ramp_104 (lv_at hl 6 rfl) ?_
      refine lv_icmp_ge (pc := 106) (tgt := 115) hx hb xd_Mo_ramp_106 (by decide) (fun hq => ?_) (fun hq => ?_)
      · have h := h.1 hq
        exact hk115 x4 M23 H locs ls h hR hS (lv_sub hl [0, 1, 2, 3, 4, 5, 6] rfl)
      · have h := h.2 hq
        refine lv_iinc (pc := 109) (v := (x4 + (1 : Int32))) (lv' := [(4, .int (x4 + (1 : Int32))), (0, .ref (G.1 9 0)), (1, .int x1), (2, .int x2), (3, .int x3), (5, .int x5), (6, .int x6)]) hx hb xd_Mo_ramp_109 hl (k := 4) rfl rfl (by decide) rfl (fun ls hl => ?_)
        refine lv_goto (pc := 112) (tgt := 86) hx hb xd_Mo_ramp_112 (by decide) ?_
        exact ih (x4 + (1 : Int32)) M23 H locs ls h hR hS (lv_sub hl [1, 2, 3, 4, 0, 5, 6] rfl)
set_option maxHeartbeats 4000000 in
set_option maxRecDepth 100000 in
theorem xt_Mo_ramp_54 {p : Program} {l : Launch} {e : Env} {s : State} {m : MethodId} {args : Array Value} {below : List Frame} {meth : Method} {c : Code} {G : xG} (hC : xC p s m args c b_Mo_ramp R_Mo 7 G) (hr : meth.sig.returnType = (some .int)) (hlk : meth.locks = false) {x1 : Int32} {x2 : Int32} {x3 : Int32} {post : Int32 → xM → Prop} {k135 : Int32 → Int32 → xM → Prop} (hk135 : ∀ (x4 : Int32) (x5 : Int32) (M : xM) (H : Heap) (locs : List Loc) (ls : Array Slot), k135 x4 x5 M → xRp G M H → va_S (xA G) s.heap H locs → lv_has ls 7 [(0, .ref (G.1 9 0)), (1, .int x1), (2, .int x2), (3, .int x3), (4, .int x4), (5, .int x5)] → W p l e rm_Mo_ramp s m args below meth c H locs 0 0 (MQ below (xPi G post) args s 0 0 (xA G)) (F0 m 135 ls [])) : ∀ (n : Nat) (x4 : Int32) (x5 : Int32) (M : xM) (H : Heap) (locs : List Loc) (ls : Array Slot), xw_Mo_ramp_54 x1 x2 x3 post k135 n x4 x5 M → xRp G M H → va_S (xA G) s.heap H locs → lv_has ls 7 [(0, .ref (G.1 9 0)), (1, .int x1), (2, .int x2), (3, .int x3), (4, .int x4), (5, .int x5)] → W p l e rm_Mo_ramp s m args below meth c H locs 0 0 (MQ below (xPi G post) args s 0 0 (xA G)) (F0 m 54 ls []) := by
  have hx := hC.1
  have hb := hC.2.1
  intro n
  induction n with
  | zero => intro x4 x5 M H locs ls; exact fun h => h.elim
  | succ n ih =>
    intro x4 x5 M H locs ls h hR hS hl
    refine lv_iload (pc := 54) hx hb xd_Mo_ramp_54 (lv_at hl 5 rfl) ?_
    refine lv_iload_n (pc := 56) hx hb xd_Mo_ramp_56 rfl (lv_at hl 3 rfl) ?_
    refine lv_icmp_ge (pc := 57) (tgt := 135) hx hb xd_Mo_ramp_57 (by decide) (fun hq => ?_) (fun hq => ?_)
    · have h := h.1 hq
      exact hk135 x4 x5 M H locs ls h hR hS (lv_sub hl [0, 1, 2, 3, 4, 5] rfl)
    · have h := h.2 hq
      refine lv_iload_n (pc := 60) hx hb xd_Mo_ramp_60 rfl (lv_at hl 1 rfl) ?_
      refine xr_callS (pc := 61) (As := [.int x1]) (rest := []) hC hR hS (xc_Mo_lightOf l G  h) xv_Mo_120 ⟨rfl, rfl, Nat.le_of_ble_eq_true rfl, Nat.le_of_ble_eq_true rfl⟩ rfl hl.1 rfl (Nat.le_of_ble_eq_true rfl) xd_Mo_ramp_61 (fun r16 M15 H locs h hR hS => ?_)
      refine lv_iload_n (pc := 64) hx hb xd_Mo_ramp_64 rfl (lv_at hl 2 rfl) ?_
      refine xr_callS (pc := 65) (As := [.int x2]) (rest := [.int r16]) hC hR hS (xc_Mo_lightOf l G  h) xv_Mo_120 ⟨rfl, rfl, Nat.le_of_ble_eq_true rfl, Nat.le_of_ble_eq_true rfl⟩ rfl hl.1 rfl (Nat.le_of_ble_eq_true rfl) xd_Mo_ramp_65 (fun r18 M17 H locs h hR hS => ?_)
      refine lv_iload_n (pc := 68) hx hb xd_Mo_ramp_68 rfl (lv_at hl 1 rfl) ?_
      refine xr_callS (pc := 69) (As := [.int x1]) (rest := [.int r18, .int r16]) hC hR hS (xc_Mo_lightOf l G  h) xv_Mo_120 ⟨rfl, rfl, Nat.le_of_ble_eq_true rfl, Nat.le_of_ble_eq_true rfl⟩ rfl hl.1 rfl (Nat.le_of_ble_eq_true rfl) xd_Mo_ramp_69 (fun r20 M19 H locs h hR hS => ?_)
      refine lv_isub (pc := 72) hx hb xd_Mo_ramp_72 ?_
      refine lv_iload (pc := 73) hx hb xd_Mo_ramp_73 (lv_at hl 5 rfl) ?_
      refine lv_imul (pc := 75) hx hb xd_Mo_ramp_75 ?_
      refine lv_iload_n (pc := 76) hx hb xd_Mo_ramp_76 rfl (lv_at hl 3 rfl) ?_
      refine lv_iconst (pc := 77) (v := (1 : Int32)) hx hb xd_Mo_ramp_77 (by decide) ?_
      refine lv_isub (pc := 78) hx hb xd_Mo_ramp_78 ?_
      obtain ⟨hq, h⟩ := h
      refine lv_idiv (pc := 79) hx hb xd_Mo_ramp_79 hq ?_
      refine lv_iadd (pc := 80) hx hb xd_Mo_ramp_80 ?_
      refine lv_istore (pc := 81) (lv' := [(6, .int (r16 + (((r18 - r20) * x5) / (x3 - (1 : Int32))))), (0, .ref (G.1 9 0)), (1, .int x1), (2, .int x2), (3, .int x3), (4, .int x4), (5, .int x5)]) hx hb xd_Mo_ramp_81 hl (by decide) rfl (fun ls hl => ?_)
      refine lv_iconst (pc := 83) (v := (0 : Int32)) hx hb xd_Mo_ramp_83 (by decide) ?_
      refine lv_istore (pc := 84) (lv' := [(4, .int (0 : Int32)), (6, .int (r16 + (((r18 - r20) * x5) / (x3 - (1 : Int32))))), (0, .ref (G.1 9 0)), (1, .int x1), (2, .int x2), (3, .int x3), (5, .int x5)]) hx hb xd_Mo_ramp_84 hl (by decide) rfl (fun ls hl => ?_)
      obtain ⟨n, h⟩ := h
      refine xt_Mo_ramp_86 hC hr hlk  (fun y25 M26 H locs ls h hR hS hl => ?_) n (0 : Int32) M19 H locs ls h hR hS (lv_sub hl [2, 3, 4, 5, 0, 6, 1] rfl)
      refine lv_aload_n (pc := 115) hx hb xd_Mo_ramp_115 rfl (lv_at hl 0 rfl) ?_
      refine xr_get (pc := 116) (v := .ref (G.1 9 18)) hC hR xo_M0 xf_Mo_73 rfl xd_Mo_ramp_116 ?_
      refine lv_iload (pc := 119) hx hb xd_Mo_ramp_119 (lv_at hl 5 rfl) ?_
      refine lv_iload_n (pc := 121) hx hb xd_Mo_ramp_121 rfl (lv_at hl 1 rfl) ?_
      refine lv_iload_n (pc := 122) hx hb xd_Mo_ramp_122 rfl (lv_at hl 2 rfl) ?_
      refine lv_iload (pc := 123) hx hb xd_Mo_ramp_123 (lv_at hl 4 rfl) ?_
      refine xr_callS (pc := 125) (As := [.int x1, .int x2, .int y25]) (rest := [.int x5, .ref (G.1 9 18)]) hC hR hS (xc_Mo_point l G  h) xv_Mo_196 ⟨rfl, rfl, Nat.le_of_ble_eq_true rfl, Nat.le_of_ble_eq_true rfl⟩ rfl hl.1 rfl (Nat.le_of_ble_eq_true rfl) xd_Mo_ramp_125 (fun r28 M27 H locs h hR hS => ?_)
      obtain ⟨hq, h⟩ := h
      refine xr_iast (pc := 128) hC hR hS xo_M18 hq xd_Mo_ramp_128 (fun H locs hR hS => ?_)
      refine lv_iinc (pc := 129) (v := (x5 + (1 : Int32))) (lv' := [(5, .int (x5 + (1 : Int32))), (0, .ref (G.1 9 0)), (1, .int x1), (2, .int x2), (3, .int x3), (4, .int y25), (6, .int (r16 + (((r18 - r20) * x5) / (x3 - (1 : Int32)))))]) hx hb xd_Mo_ramp_129 hl (k := 5) rfl rfl (by decide) rfl (fun ls hl => ?_)
      refine lv_goto (pc := 132) (tgt := 54) hx hb xd_Mo_ramp_132 (by decide) ?_
      exact ih y25 (x5 + (1 : Int32)) (us M27 9 18 x5.toNatClampNeg r28) H locs ls h hR hS (lv_sub hl [1, 2, 3, 4, 5, 0] rfl)
set_option maxHeartbeats 4000000 in
set_option maxRecDepth 100000 in
theorem xc_Mo_ramp (l : Launch) (G : xG) {a1 : Int32} {a2 : Int32} {a3 : Int32}  {M : xM} {post : Int32 → xM → Prop} (h : xw_Mo_ramp a1 a2 a3 M post) : Met l y_Mo_ramp (Cond.code y_Mo_ramp b_Mo_ramp 7 (some .int) :: xTG) rm_Mo_ramp (xPre G M [.ref (G.1 9 0), .int a1, .int a2, .int a3]) (xPi G post) 0 0 (xA G) := by
  refine xMet (own := R_Mo) [.ref (G.1 9 0), .int a1, .int a2, .int a3] (Or.inl (by decide)) rfl (Nat.le_of_ble_eq_true rfl) (fun p e s m args below meth c ls hC hr hlk hR hS hl => ?_)
  have hx := hC.1
  have hb := hC.2.1
  have hl : lv_has ls 7 [(0, .ref (G.1 9 0)), (1, .int a1), (2, .int a2), (3, .int a3)] := hl
  obtain ⟨H, eH⟩ : ∃ H : Heap, H = s.heap := ⟨_, rfl⟩
  obtain ⟨locs, eL⟩ : ∃ locs : List Loc, locs = [] := ⟨_, rfl⟩
  rw [← eH] at hR
  replace hS : va_S (xA G) s.heap H locs := by rw [eH, eL]; exact hS
  suffices hh : W p l e rm_Mo_ramp s m args below meth c H locs 0 0 (MQ below (xPi G post) args s 0 0 (xA G)) (F0 m 0 ls []) from by rw [eH, eL] at hh; exact hh
  unfold xw_Mo_ramp at h
  refine lv_iload_n (pc := 0) hx hb xd_Mo_ramp_0 rfl (lv_at hl 1 rfl) ?_
  refine xr_callS (pc := 1) (As := [.int a1]) (rest := []) hC hR hS (xc_Mo_isColour l G  h) xv_Mo_133 ⟨rfl, rfl, Nat.le_of_ble_eq_true rfl, Nat.le_of_ble_eq_true rfl⟩ rfl hl.1 rfl (Nat.le_of_ble_eq_true rfl) xd_Mo_ramp_1 (fun r2 M1 H locs h hR hS => ?_)
  obtain ⟨J24_2, eJ24_2, h⟩ := xj_open h
  have kJ24_2 : ∀ (M4 : xM) (H : Heap) (locs : List Loc) (ls : Array Slot), J24_2 M4 → xRp G M4 H → va_S (xA G) s.heap H locs → lv_has ls 7 [(0, .ref (G.1 9 0))] → W p l e rm_Mo_ramp s m args below meth c H locs 0 0 (MQ below (xPi G post) args s 0 0 (xA G)) (F0 m 24 ls []) := by
    intro M4 H locs ls h hR hS hl
    rw [eJ24_2] at h
    refine lv_aload_n (pc := 24) hx hb xd_Mo_ramp_24 rfl (lv_at hl 0 rfl) ?_
    refine lv_iconst (pc := 25) (v := (-1 : Int32)) hx hb xd_Mo_ramp_25 (by decide) ?_
    refine xr_callV (pc := 26) (As := [.int (-1 : Int32)]) (rest := []) hC hR hS (xc_Mo_ends l G  h) xo_M0 xv_Mo_89 ⟨rfl, rfl, Nat.le_of_ble_eq_true rfl, Nat.le_of_ble_eq_true rfl⟩ rfl hl.1 rfl (Nat.le_of_ble_eq_true rfl) xd_Mo_ramp_26 (fun r6 M5 H locs h hR hS => ?_)
    exact xr_iret hC hr hlk hR hS h xd_Mo_ramp_29
  refine lv_if_eq (pc := 4) (tgt := 24) hx hb xd_Mo_ramp_4 (by decide) (fun hq => ?_) (fun hq => ?_)
  · have h := h.1 hq
    exact kJ24_2  M1 H locs ls h hR hS (lv_sub hl [0] rfl)
  · have h := h.2 hq
    refine lv_iload_n (pc := 7) hx hb xd_Mo_ramp_7 rfl (lv_at hl 2 rfl) ?_
    refine xr_callS (pc := 8) (As := [.int a2]) (rest := []) hC hR hS (xc_Mo_isColour l G  h) xv_Mo_133 ⟨rfl, rfl, Nat.le_of_ble_eq_true rfl, Nat.le_of_ble_eq_true rfl⟩ rfl hl.1 rfl (Nat.le_of_ble_eq_true rfl) xd_Mo_ramp_8 (fun r8 M7 H locs h hR hS => ?_)
    refine lv_if_eq (pc := 11) (tgt := 24) hx hb xd_Mo_ramp_11 (by decide) (fun hq => ?_) (fun hq => ?_)
    · have h := h.1 hq
      exact kJ24_2  M7 H locs ls h hR hS (lv_sub hl [0] rfl)
    · have h := h.2 hq
      refine lv_iload_n (pc := 14) hx hb xd_Mo_ramp_14 rfl (lv_at hl 3 rfl) ?_
      refine lv_iconst (pc := 15) (v := (2 : Int32)) hx hb xd_Mo_ramp_15 (by decide) ?_
      refine lv_bipush (pc := 16) (v := (12 : Int32)) hx hb xd_Mo_ramp_16 (by decide) ?_
      refine xr_callS (pc := 18) (As := [.int a3, .int (2 : Int32), .int (12 : Int32)]) (rest := []) hC hR hS (xc_Mo_in l G  h) xv_Mo_85 ⟨rfl, rfl, Nat.le_of_ble_eq_true rfl, Nat.le_of_ble_eq_true rfl⟩ rfl hl.1 rfl (Nat.le_of_ble_eq_true rfl) xd_Mo_ramp_18 (fun r10 M9 H locs h hR hS => ?_)
      refine lv_if_ne (pc := 21) (tgt := 30) hx hb xd_Mo_ramp_21 (by decide) (fun hq => ?_) (fun hq => ?_)
      · have h := h.1 hq
        refine lv_iload_n (pc := 30) hx hb xd_Mo_ramp_30 rfl (lv_at hl 1 rfl) ?_
        refine xr_callS (pc := 31) (As := [.int a1]) (rest := []) hC hR hS (xc_Mo_lightOf l G  h) xv_Mo_120 ⟨rfl, rfl, Nat.le_of_ble_eq_true rfl, Nat.le_of_ble_eq_true rfl⟩ rfl hl.1 rfl (Nat.le_of_ble_eq_true rfl) xd_Mo_ramp_31 (fun r12 M11 H locs h hR hS => ?_)
        refine lv_iload_n (pc := 34) hx hb xd_Mo_ramp_34 rfl (lv_at hl 2 rfl) ?_
        refine xr_callS (pc := 35) (As := [.int a2]) (rest := [.int r12]) hC hR hS (xc_Mo_lightOf l G  h) xv_Mo_120 ⟨rfl, rfl, Nat.le_of_ble_eq_true rfl, Nat.le_of_ble_eq_true rfl⟩ rfl hl.1 rfl (Nat.le_of_ble_eq_true rfl) xd_Mo_ramp_35 (fun r14 M13 H locs h hR hS => ?_)
        refine lv_icmp_lt (pc := 38) (tgt := 48) hx hb xd_Mo_ramp_38 (by decide) (fun hq => ?_) (fun hq => ?_)
        · have h := h.1 hq
          refine lv_iconst (pc := 48) (v := (0 : Int32)) hx hb xd_Mo_ramp_48 (by decide) ?_
          refine lv_istore (pc := 49) (lv' := [(4, .int (0 : Int32)), (0, .ref (G.1 9 0)), (1, .int a1), (2, .int a2), (3, .int a3)]) hx hb xd_Mo_ramp_49 hl (by decide) rfl (fun ls hl => ?_)
          refine lv_iconst (pc := 51) (v := (0 : Int32)) hx hb xd_Mo_ramp_51 (by decide) ?_
          refine lv_istore (pc := 52) (lv' := [(5, .int (0 : Int32)), (4, .int (0 : Int32)), (0, .ref (G.1 9 0)), (1, .int a1), (2, .int a2), (3, .int a3)]) hx hb xd_Mo_ramp_52 hl (by decide) rfl (fun ls hl => ?_)
          obtain ⟨n, h⟩ := h
          refine xt_Mo_ramp_54 hC hr hlk  (fun y29 y30 M31 H locs ls h hR hS hl => ?_) n (0 : Int32) (0 : Int32) M13 H locs ls h hR hS (lv_sub hl [2, 3, 4, 5, 1, 0] rfl)
          refine lv_aload_n (pc := 135) hx hb xd_Mo_ramp_135 rfl (lv_at hl 0 rfl) ?_
          refine lv_iload_n (pc := 136) hx hb xd_Mo_ramp_136 rfl (lv_at hl 3 rfl) ?_
          refine xr_put (pc := 137) hC hR hS xo_M0 xf_Mo_199 xp_10_25 rfl rfl rfl xd_Mo_ramp_137 (fun H locs hR hS => ?_)
          refine lv_aload_n (pc := 140) hx hb xd_Mo_ramp_140 rfl (lv_at hl 0 rfl) ?_
          refine lv_iload (pc := 141) hx hb xd_Mo_ramp_141 (lv_at hl 4 rfl) ?_
          refine xr_callV (pc := 143) (As := [.int y29]) (rest := []) hC hR hS (xc_Mo_ends l G  h) xo_M0 xv_Mo_89 ⟨rfl, rfl, Nat.le_of_ble_eq_true rfl, Nat.le_of_ble_eq_true rfl⟩ rfl hl.1 rfl (Nat.le_of_ble_eq_true rfl) xd_Mo_ramp_143 (fun r33 M32 H locs h hR hS => ?_)
          exact xr_iret hC hr hlk hR hS h xd_Mo_ramp_146
        · have h := h.2 hq
          refine lv_aload_n (pc := 41) hx hb xd_Mo_ramp_41 rfl (lv_at hl 0 rfl) ?_
          refine lv_bipush (pc := 42) (v := (-6 : Int32)) hx hb xd_Mo_ramp_42 (by decide) ?_
          refine xr_callV (pc := 44) (As := [.int (-6 : Int32)]) (rest := []) hC hR hS (xc_Mo_ends l G  h) xo_M0 xv_Mo_89 ⟨rfl, rfl, Nat.le_of_ble_eq_true rfl, Nat.le_of_ble_eq_true rfl⟩ rfl hl.1 rfl (Nat.le_of_ble_eq_true rfl) xd_Mo_ramp_44 (fun r35 M34 H locs h hR hS => ?_)
          exact xr_iret hC hr hlk hR hS h xd_Mo_ramp_47
      · have h := h.2 hq
        exact kJ24_2  M9 H locs ls h hR hS (lv_sub hl [0] rfl)

/-! ColoursApartModel.step(I)I -/
theorem xd_Mo_step_0 : decode b_Mo_step 0 = .ok (.iload_n 1, 1) := by decide +kernel
theorem xd_Mo_step_1 : decode b_Mo_step 1 = .ok (.iconst 0, 1) := by decide +kernel
theorem xd_Mo_step_2 : decode b_Mo_step 2 = .ok (.aload_n 0, 1) := by decide +kernel
theorem xd_Mo_step_3 : decode b_Mo_step 3 = .ok (.getfield 199, 3) := by decide +kernel
theorem xd_Mo_step_6 : decode b_Mo_step 6 = .ok (.iconst 1, 1) := by decide +kernel
theorem xd_Mo_step_7 : decode b_Mo_step 7 = .ok (.isub, 1) := by decide +kernel
theorem xd_Mo_step_8 : decode b_Mo_step 8 = .ok (.invokestatic 85, 3) := by decide +kernel
theorem xd_Mo_step_11 : decode b_Mo_step 11 = .ok (.ifCond .eq 12, 3) := by decide +kernel
theorem xd_Mo_step_14 : decode b_Mo_step 14 = .ok (.aload_n 0, 1) := by decide +kernel
theorem xd_Mo_step_15 : decode b_Mo_step 15 = .ok (.getfield 73, 3) := by decide +kernel
theorem xd_Mo_step_18 : decode b_Mo_step 18 = .ok (.iload_n 1, 1) := by decide +kernel
theorem xd_Mo_step_19 : decode b_Mo_step 19 = .ok (.iaload, 1) := by decide +kernel
theorem xd_Mo_step_20 : decode b_Mo_step 20 = .ok (.goto 4, 3) := by decide +kernel
theorem xd_Mo_step_23 : decode b_Mo_step 23 = .ok (.iconst (-1), 1) := by decide +kernel
theorem xd_Mo_step_24 : decode b_Mo_step 24 = .ok (.ireturn, 1) := by decide +kernel
abbrev rm_Mo_step : Room := { frames := 1, cells := 0, slots := 0, locals := 22 }
def xw_Mo_step (a1 : Int32) (M : xM) (post : Int32 → xM → Prop) : Prop :=
  xw_Mo_in a1 (0 : Int32) ((M 9 0 25) - (1 : Int32)) M (fun (r2 : Int32) (M1 : xM) => ((r2 = 0) → (post (-1 : Int32) M1)) ∧ ((¬ r2 = 0) → ((vp_in a1 12) ∧ (post (M1 9 18 a1.toNatClampNeg) M1))))
set_option maxHeartbeats 4000000 in
set_option maxRecDepth 100000 in
theorem xc_Mo_step (l : Launch) (G : xG) {a1 : Int32}  {M : xM} {post : Int32 → xM → Prop} (h : xw_Mo_step a1 M post) : Met l y_Mo_step (Cond.code y_Mo_step b_Mo_step 2 (some .int) :: xTG) rm_Mo_step (xPre G M [.ref (G.1 9 0), .int a1]) (xPi G post) 0 0 (xA G) := by
  refine xMet (own := R_Mo) [.ref (G.1 9 0), .int a1] (Or.inl (by decide)) rfl (Nat.le_of_ble_eq_true rfl) (fun p e s m args below meth c ls hC hr hlk hR hS hl => ?_)
  have hx := hC.1
  have hb := hC.2.1
  have hl : lv_has ls 2 [(0, .ref (G.1 9 0)), (1, .int a1)] := hl
  obtain ⟨H, eH⟩ : ∃ H : Heap, H = s.heap := ⟨_, rfl⟩
  obtain ⟨locs, eL⟩ : ∃ locs : List Loc, locs = [] := ⟨_, rfl⟩
  rw [← eH] at hR
  replace hS : va_S (xA G) s.heap H locs := by rw [eH, eL]; exact hS
  suffices hh : W p l e rm_Mo_step s m args below meth c H locs 0 0 (MQ below (xPi G post) args s 0 0 (xA G)) (F0 m 0 ls []) from by rw [eH, eL] at hh; exact hh
  unfold xw_Mo_step at h
  refine lv_iload_n (pc := 0) hx hb xd_Mo_step_0 rfl (lv_at hl 1 rfl) ?_
  refine lv_iconst (pc := 1) (v := (0 : Int32)) hx hb xd_Mo_step_1 (by decide) ?_
  refine lv_aload_n (pc := 2) hx hb xd_Mo_step_2 rfl (lv_at hl 0 rfl) ?_
  refine xr_get (pc := 3) (v := .int (M 9 0 25)) hC hR xo_M0 xf_Mo_199 rfl xd_Mo_step_3 ?_
  refine lv_iconst (pc := 6) (v := (1 : Int32)) hx hb xd_Mo_step_6 (by decide) ?_
  refine lv_isub (pc := 7) hx hb xd_Mo_step_7 ?_
  refine xr_callS (pc := 8) (As := [.int a1, .int (0 : Int32), .int ((M 9 0 25) - (1 : Int32))]) (rest := []) hC hR hS (xc_Mo_in l G  h) xv_Mo_85 ⟨rfl, rfl, Nat.le_of_ble_eq_true rfl, Nat.le_of_ble_eq_true rfl⟩ rfl hl.1 rfl (Nat.le_of_ble_eq_true rfl) xd_Mo_step_8 (fun r2 M1 H locs h hR hS => ?_)
  refine lv_if_eq (pc := 11) (tgt := 23) hx hb xd_Mo_step_11 (by decide) (fun hq => ?_) (fun hq => ?_)
  · have h := h.1 hq
    refine lv_iconst (pc := 23) (v := (-1 : Int32)) hx hb xd_Mo_step_23 (by decide) ?_
    exact xr_iret hC hr hlk hR hS h xd_Mo_step_24
  · have h := h.2 hq
    refine lv_aload_n (pc := 14) hx hb xd_Mo_step_14 rfl (lv_at hl 0 rfl) ?_
    refine xr_get (pc := 15) (v := .ref (G.1 9 18)) hC hR xo_M0 xf_Mo_73 rfl xd_Mo_step_15 ?_
    refine lv_iload_n (pc := 18) hx hb xd_Mo_step_18 rfl (lv_at hl 1 rfl) ?_
    obtain ⟨hq, h⟩ := h
    refine xr_iald (pc := 19) hC hR xo_M18 hq xd_Mo_step_19 ?_
    refine lv_goto (pc := 20) (tgt := 24) hx hb xd_Mo_step_20 (by decide) ?_
    exact xr_iret hC hr hlk hR hS h xd_Mo_step_24

/-! ColoursApartModel.rising(I)I -/
theorem xd_Mo_rising_0 : decode b_Mo_rising 0 = .ok (.iload_n 1, 1) := by decide +kernel
theorem xd_Mo_rising_1 : decode b_Mo_rising 1 = .ok (.invokestatic 129, 3) := by decide +kernel
theorem xd_Mo_rising_4 : decode b_Mo_rising 4 = .ok (.ifCond .eq 10, 3) := by decide +kernel
theorem xd_Mo_rising_7 : decode b_Mo_rising 7 = .ok (.aload_n 0, 1) := by decide +kernel
theorem xd_Mo_rising_8 : decode b_Mo_rising 8 = .ok (.getfield 199, 3) := by decide +kernel
theorem xd_Mo_rising_11 : decode b_Mo_rising 11 = .ok (.ifCond .ne 5, 3) := by decide +kernel
theorem xd_Mo_rising_14 : decode b_Mo_rising 14 = .ok (.iconst (-1), 1) := by decide +kernel
theorem xd_Mo_rising_15 : decode b_Mo_rising 15 = .ok (.ireturn, 1) := by decide +kernel
theorem xd_Mo_rising_16 : decode b_Mo_rising 16 = .ok (.iconst 1, 1) := by decide +kernel
theorem xd_Mo_rising_17 : decode b_Mo_rising 17 = .ok (.istore_n 2, 1) := by decide +kernel
theorem xd_Mo_rising_18 : decode b_Mo_rising 18 = .ok (.iload_n 2, 1) := by decide +kernel
theorem xd_Mo_rising_19 : decode b_Mo_rising 19 = .ok (.aload_n 0, 1) := by decide +kernel
theorem xd_Mo_rising_20 : decode b_Mo_rising 20 = .ok (.getfield 199, 3) := by decide +kernel
theorem xd_Mo_rising_23 : decode b_Mo_rising 23 = .ok (.if_icmp .ge 44, 3) := by decide +kernel
theorem xd_Mo_rising_26 : decode b_Mo_rising 26 = .ok (.aload_n 0, 1) := by decide +kernel
theorem xd_Mo_rising_27 : decode b_Mo_rising 27 = .ok (.iload_n 1, 1) := by decide +kernel
theorem xd_Mo_rising_28 : decode b_Mo_rising 28 = .ok (.aload_n 0, 1) := by decide +kernel
theorem xd_Mo_rising_29 : decode b_Mo_rising 29 = .ok (.getfield 73, 3) := by decide +kernel
theorem xd_Mo_rising_32 : decode b_Mo_rising 32 = .ok (.iload_n 2, 1) := by decide +kernel
theorem xd_Mo_rising_33 : decode b_Mo_rising 33 = .ok (.iaload, 1) := by decide +kernel
theorem xd_Mo_rising_34 : decode b_Mo_rising 34 = .ok (.invokevirtual 136, 3) := by decide +kernel
theorem xd_Mo_rising_37 : decode b_Mo_rising 37 = .ok (.invokestatic 120, 3) := by decide +kernel
theorem xd_Mo_rising_40 : decode b_Mo_rising 40 = .ok (.aload_n 0, 1) := by decide +kernel
theorem xd_Mo_rising_41 : decode b_Mo_rising 41 = .ok (.iload_n 1, 1) := by decide +kernel
theorem xd_Mo_rising_42 : decode b_Mo_rising 42 = .ok (.aload_n 0, 1) := by decide +kernel
theorem xd_Mo_rising_43 : decode b_Mo_rising 43 = .ok (.getfield 73, 3) := by decide +kernel
theorem xd_Mo_rising_46 : decode b_Mo_rising 46 = .ok (.iload_n 2, 1) := by decide +kernel
theorem xd_Mo_rising_47 : decode b_Mo_rising 47 = .ok (.iconst 1, 1) := by decide +kernel
theorem xd_Mo_rising_48 : decode b_Mo_rising 48 = .ok (.isub, 1) := by decide +kernel
theorem xd_Mo_rising_49 : decode b_Mo_rising 49 = .ok (.iaload, 1) := by decide +kernel
theorem xd_Mo_rising_50 : decode b_Mo_rising 50 = .ok (.invokevirtual 136, 3) := by decide +kernel
theorem xd_Mo_rising_53 : decode b_Mo_rising 53 = .ok (.invokestatic 120, 3) := by decide +kernel
theorem xd_Mo_rising_56 : decode b_Mo_rising 56 = .ok (.if_icmp .gt 5, 3) := by decide +kernel
theorem xd_Mo_rising_59 : decode b_Mo_rising 59 = .ok (.iconst 0, 1) := by decide +kernel
theorem xd_Mo_rising_60 : decode b_Mo_rising 60 = .ok (.ireturn, 1) := by decide +kernel
theorem xd_Mo_rising_61 : decode b_Mo_rising 61 = .ok (.iinc 2 1, 3) := by decide +kernel
theorem xd_Mo_rising_64 : decode b_Mo_rising 64 = .ok (.goto (-46), 3) := by decide +kernel
theorem xd_Mo_rising_67 : decode b_Mo_rising 67 = .ok (.iconst 1, 1) := by decide +kernel
theorem xd_Mo_rising_68 : decode b_Mo_rising 68 = .ok (.ireturn, 1) := by decide +kernel
abbrev rm_Mo_rising : Room := { frames := 4, cells := 0, slots := 0, locals := 91 }
def xw_Mo_rising_18 (x1 : Int32) (post : Int32 → xM → Prop) (k67 : Int32 → xM → Prop) : Nat → Int32 → xM → Prop
  | 0, _, _ => False
  | n18 + 1, x2, M => (((M 9 0 25) ≤ x2) → (k67 x2 M)) ∧ ((¬ (M 9 0 25) ≤ x2) → ((vp_in x2 12) ∧ (xw_Mo_seenOf x1 (M 9 18 x2.toNatClampNeg) M (fun (r4 : Int32) (M3 : xM) => xw_Mo_lightOf r4 M3 (fun (r6 : Int32) (M5 : xM) => (vp_in (x2 - (1 : Int32)) 12) ∧ (xw_Mo_seenOf x1 (M5 9 18 (x2 - (1 : Int32)).toNatClampNeg) M5 (fun (r8 : Int32) (M7 : xM) => xw_Mo_lightOf r8 M7 (fun (r10 : Int32) (M9 : xM) => ((r10 < r6) → (xw_Mo_rising_18 x1 post k67 n18 (x2 + (1 : Int32)) M9)) ∧ ((¬ r10 < r6) → (post (0 : Int32) M9))))))))))
def xw_Mo_rising (a1 : Int32) (M : xM) (post : Int32 → xM → Prop) : Prop :=
  xw_Mo_isSight a1 M (fun (r2 : Int32) (M1 : xM) => ((r2 = 0) → (post (-1 : Int32) M1)) ∧ ((¬ r2 = 0) → (((¬ (M1 9 0 25) = 0) → (∃ n18 : Nat, xw_Mo_rising_18 a1 post (fun (y11 : Int32) (M12 : xM) => post (1 : Int32) M12) n18 (1 : Int32) M1)) ∧ (((M1 9 0 25) = 0) → (post (-1 : Int32) M1)))))
set_option maxHeartbeats 4000000 in
set_option maxRecDepth 100000 in
theorem xt_Mo_rising_18 {p : Program} {l : Launch} {e : Env} {s : State} {m : MethodId} {args : Array Value} {below : List Frame} {meth : Method} {c : Code} {G : xG} (hC : xC p s m args c b_Mo_rising R_Mo 3 G) (hr : meth.sig.returnType = (some .int)) (hlk : meth.locks = false) {x1 : Int32} {post : Int32 → xM → Prop} {k67 : Int32 → xM → Prop} (hk67 : ∀ (x2 : Int32) (M : xM) (H : Heap) (locs : List Loc) (ls : Array Slot), k67 x2 M → xRp G M H → va_S (xA G) s.heap H locs → lv_has ls 3 [(0, .ref (G.1 9 0)), (1, .int x1), (2, .int x2)] → W p l e rm_Mo_rising s m args below meth c H locs 0 0 (MQ below (xPi G post) args s 0 0 (xA G)) (F0 m 67 ls [])) : ∀ (n : Nat) (x2 : Int32) (M : xM) (H : Heap) (locs : List Loc) (ls : Array Slot), xw_Mo_rising_18 x1 post k67 n x2 M → xRp G M H → va_S (xA G) s.heap H locs → lv_has ls 3 [(0, .ref (G.1 9 0)), (1, .int x1), (2, .int x2)] → W p l e rm_Mo_rising s m args below meth c H locs 0 0 (MQ below (xPi G post) args s 0 0 (xA G)) (F0 m 18 ls []) := by
  have hx := hC.1
  have hb := hC.2.1
  intro n
  induction n with
  | zero => intro x2 M H locs ls; exact fun h => h.elim
  | succ n ih =>
    intro x2 M H locs ls h hR hS hl
    refine lv_iload_n (pc := 18) hx hb xd_Mo_rising_18 rfl (lv_at hl 2 rfl) ?_
    refine lv_aload_n (pc := 19) hx hb xd_Mo_rising_19 rfl (lv_at hl 0 rfl) ?_
    refine xr_get (pc := 20) (v := .int (M 9 0 25)) hC hR xo_M0 xf_Mo_199 rfl xd_Mo_rising_20 ?_
    refine lv_icmp_ge (pc := 23) (tgt := 67) hx hb xd_Mo_rising_23 (by decide) (fun hq => ?_) (fun hq => ?_)
    · have h := h.1 hq
      exact hk67 x2 M H locs ls h hR hS (lv_sub hl [0, 1, 2] rfl)
    · have h := h.2 hq
      refine lv_aload_n (pc := 26) hx hb xd_Mo_rising_26 rfl (lv_at hl 0 rfl) ?_
      refine lv_iload_n (pc := 27) hx hb xd_Mo_rising_27 rfl (lv_at hl 1 rfl) ?_
      refine lv_aload_n (pc := 28) hx hb xd_Mo_rising_28 rfl (lv_at hl 0 rfl) ?_
      refine xr_get (pc := 29) (v := .ref (G.1 9 18)) hC hR xo_M0 xf_Mo_73 rfl xd_Mo_rising_29 ?_
      refine lv_iload_n (pc := 32) hx hb xd_Mo_rising_32 rfl (lv_at hl 2 rfl) ?_
      obtain ⟨hq, h⟩ := h
      refine xr_iald (pc := 33) hC hR xo_M18 hq xd_Mo_rising_33 ?_
      refine xr_callV (pc := 34) (As := [.int x1, .int (M 9 18 x2.toNatClampNeg)]) (rest := []) hC hR hS (xc_Mo_seenOf l G  h) xo_M0 xv_Mo_136 ⟨rfl, rfl, Nat.le_of_ble_eq_true rfl, Nat.le_of_ble_eq_true rfl⟩ rfl hl.1 rfl (Nat.le_of_ble_eq_true rfl) xd_Mo_rising_34 (fun r4 M3 H locs h hR hS => ?_)
      refine xr_callS (pc := 37) (As := [.int r4]) (rest := []) hC hR hS (xc_Mo_lightOf l G  h) xv_Mo_120 ⟨rfl, rfl, Nat.le_of_ble_eq_true rfl, Nat.le_of_ble_eq_true rfl⟩ rfl hl.1 rfl (Nat.le_of_ble_eq_true rfl) xd_Mo_rising_37 (fun r6 M5 H locs h hR hS => ?_)
      refine lv_aload_n (pc := 40) hx hb xd_Mo_rising_40 rfl (lv_at hl 0 rfl) ?_
      refine lv_iload_n (pc := 41) hx hb xd_Mo_rising_41 rfl (lv_at hl 1 rfl) ?_
      refine lv_aload_n (pc := 42) hx hb xd_Mo_rising_42 rfl (lv_at hl 0 rfl) ?_
      refine xr_get (pc := 43) (v := .ref (G.1 9 18)) hC hR xo_M0 xf_Mo_73 rfl xd_Mo_rising_43 ?_
      refine lv_iload_n (pc := 46) hx hb xd_Mo_rising_46 rfl (lv_at hl 2 rfl) ?_
      refine lv_iconst (pc := 47) (v := (1 : Int32)) hx hb xd_Mo_rising_47 (by decide) ?_
      refine lv_isub (pc := 48) hx hb xd_Mo_rising_48 ?_
      obtain ⟨hq, h⟩ := h
      refine xr_iald (pc := 49) hC hR xo_M18 hq xd_Mo_rising_49 ?_
      refine xr_callV (pc := 50) (As := [.int x1, .int (M5 9 18 (x2 - (1 : Int32)).toNatClampNeg)]) (rest := [.int r6]) hC hR hS (xc_Mo_seenOf l G  h) xo_M0 xv_Mo_136 ⟨rfl, rfl, Nat.le_of_ble_eq_true rfl, Nat.le_of_ble_eq_true rfl⟩ rfl hl.1 rfl (Nat.le_of_ble_eq_true rfl) xd_Mo_rising_50 (fun r8 M7 H locs h hR hS => ?_)
      refine xr_callS (pc := 53) (As := [.int r8]) (rest := [.int r6]) hC hR hS (xc_Mo_lightOf l G  h) xv_Mo_120 ⟨rfl, rfl, Nat.le_of_ble_eq_true rfl, Nat.le_of_ble_eq_true rfl⟩ rfl hl.1 rfl (Nat.le_of_ble_eq_true rfl) xd_Mo_rising_53 (fun r10 M9 H locs h hR hS => ?_)
      refine lv_icmp_gt (pc := 56) (tgt := 61) hx hb xd_Mo_rising_56 (by decide) (fun hq => ?_) (fun hq => ?_)
      · have h := h.1 hq
        refine lv_iinc (pc := 61) (v := (x2 + (1 : Int32))) (lv' := [(2, .int (x2 + (1 : Int32))), (0, .ref (G.1 9 0)), (1, .int x1)]) hx hb xd_Mo_rising_61 hl (k := 2) rfl rfl (by decide) rfl (fun ls hl => ?_)
        refine lv_goto (pc := 64) (tgt := 18) hx hb xd_Mo_rising_64 (by decide) ?_
        exact ih (x2 + (1 : Int32)) M9 H locs ls h hR hS (lv_sub hl [1, 2, 0] rfl)
      · have h := h.2 hq
        refine lv_iconst (pc := 59) (v := (0 : Int32)) hx hb xd_Mo_rising_59 (by decide) ?_
        exact xr_iret hC hr hlk hR hS h xd_Mo_rising_60
set_option maxHeartbeats 4000000 in
set_option maxRecDepth 100000 in
theorem xc_Mo_rising (l : Launch) (G : xG) {a1 : Int32}  {M : xM} {post : Int32 → xM → Prop} (h : xw_Mo_rising a1 M post) : Met l y_Mo_rising (Cond.code y_Mo_rising b_Mo_rising 3 (some .int) :: xTG) rm_Mo_rising (xPre G M [.ref (G.1 9 0), .int a1]) (xPi G post) 0 0 (xA G) := by
  refine xMet (own := R_Mo) [.ref (G.1 9 0), .int a1] (Or.inl (by decide)) rfl (Nat.le_of_ble_eq_true rfl) (fun p e s m args below meth c ls hC hr hlk hR hS hl => ?_)
  have hx := hC.1
  have hb := hC.2.1
  have hl : lv_has ls 3 [(0, .ref (G.1 9 0)), (1, .int a1)] := hl
  obtain ⟨H, eH⟩ : ∃ H : Heap, H = s.heap := ⟨_, rfl⟩
  obtain ⟨locs, eL⟩ : ∃ locs : List Loc, locs = [] := ⟨_, rfl⟩
  rw [← eH] at hR
  replace hS : va_S (xA G) s.heap H locs := by rw [eH, eL]; exact hS
  suffices hh : W p l e rm_Mo_rising s m args below meth c H locs 0 0 (MQ below (xPi G post) args s 0 0 (xA G)) (F0 m 0 ls []) from by rw [eH, eL] at hh; exact hh
  unfold xw_Mo_rising at h
  refine lv_iload_n (pc := 0) hx hb xd_Mo_rising_0 rfl (lv_at hl 1 rfl) ?_
  refine xr_callS (pc := 1) (As := [.int a1]) (rest := []) hC hR hS (xc_Mo_isSight l G  h) xv_Mo_129 ⟨rfl, rfl, Nat.le_of_ble_eq_true rfl, Nat.le_of_ble_eq_true rfl⟩ rfl hl.1 rfl (Nat.le_of_ble_eq_true rfl) xd_Mo_rising_1 (fun r2 M1 H locs h hR hS => ?_)
  refine lv_if_eq (pc := 4) (tgt := 14) hx hb xd_Mo_rising_4 (by decide) (fun hq => ?_) (fun hq => ?_)
  · have h := h.1 hq
    refine lv_iconst (pc := 14) (v := (-1 : Int32)) hx hb xd_Mo_rising_14 (by decide) ?_
    exact xr_iret hC hr hlk hR hS h xd_Mo_rising_15
  · have h := h.2 hq
    refine lv_aload_n (pc := 7) hx hb xd_Mo_rising_7 rfl (lv_at hl 0 rfl) ?_
    refine xr_get (pc := 8) (v := .int (M1 9 0 25)) hC hR xo_M0 xf_Mo_199 rfl xd_Mo_rising_8 ?_
    refine lv_if_ne (pc := 11) (tgt := 16) hx hb xd_Mo_rising_11 (by decide) (fun hq => ?_) (fun hq => ?_)
    · have h := h.1 hq
      refine lv_iconst (pc := 16) (v := (1 : Int32)) hx hb xd_Mo_rising_16 (by decide) ?_
      refine lv_istore_n (pc := 17) (lv' := [(2, .int (1 : Int32)), (0, .ref (G.1 9 0)), (1, .int a1)]) hx hb xd_Mo_rising_17 rfl hl (by decide) rfl (fun ls hl => ?_)
      obtain ⟨n, h⟩ := h
      refine xt_Mo_rising_18 hC hr hlk  (fun y11 M12 H locs ls h hR hS hl => ?_) n (1 : Int32) M1 H locs ls h hR hS (lv_sub hl [1, 2, 0] rfl)
      refine lv_iconst (pc := 67) (v := (1 : Int32)) hx hb xd_Mo_rising_67 (by decide) ?_
      exact xr_iret hC hr hlk hR hS h xd_Mo_rising_68
    · have h := h.2 hq
      refine lv_iconst (pc := 14) (v := (-1 : Int32)) hx hb xd_Mo_rising_14 (by decide) ?_
      exact xr_iret hC hr hlk hR hS h xd_Mo_rising_15

/-! ColoursApartModel.group(III)I -/
theorem xd_Mo_group_0 : decode b_Mo_group 0 = .ok (.iload_n 1, 1) := by decide +kernel
theorem xd_Mo_group_1 : decode b_Mo_group 1 = .ok (.invokestatic 129, 3) := by decide +kernel
theorem xd_Mo_group_4 : decode b_Mo_group 4 = .ok (.ifCond .eq 13, 3) := by decide +kernel
theorem xd_Mo_group_7 : decode b_Mo_group 7 = .ok (.iload_n 2, 1) := by decide +kernel
theorem xd_Mo_group_8 : decode b_Mo_group 8 = .ok (.iconst 0, 1) := by decide +kernel
theorem xd_Mo_group_9 : decode b_Mo_group 9 = .ok (.ldc 170, 2) := by decide +kernel
theorem xd_Mo_group_11 : decode b_Mo_group 11 = .ok (.invokestatic 85, 3) := by decide +kernel
theorem xd_Mo_group_14 : decode b_Mo_group 14 = .ok (.ifCond .ne 5, 3) := by decide +kernel
theorem xd_Mo_group_17 : decode b_Mo_group 17 = .ok (.iconst (-1), 1) := by decide +kernel
theorem xd_Mo_group_18 : decode b_Mo_group 18 = .ok (.ireturn, 1) := by decide +kernel
theorem xd_Mo_group_19 : decode b_Mo_group 19 = .ok (.aload_n 0, 1) := by decide +kernel
theorem xd_Mo_group_20 : decode b_Mo_group 20 = .ok (.iload_n 3, 1) := by decide +kernel
theorem xd_Mo_group_21 : decode b_Mo_group 21 = .ok (.invokevirtual 151, 3) := by decide +kernel
theorem xd_Mo_group_24 : decode b_Mo_group 24 = .ok (.ifCond .ne 6, 3) := by decide +kernel
theorem xd_Mo_group_27 : decode b_Mo_group 27 = .ok (.bipush (-2), 2) := by decide +kernel
theorem xd_Mo_group_29 : decode b_Mo_group 29 = .ok (.ireturn, 1) := by decide +kernel
theorem xd_Mo_group_30 : decode b_Mo_group 30 = .ok (.iconst 1, 1) := by decide +kernel
theorem xd_Mo_group_31 : decode b_Mo_group 31 = .ok (.iload_n 3, 1) := by decide +kernel
theorem xd_Mo_group_32 : decode b_Mo_group 32 = .ok (.ishl, 1) := by decide +kernel
theorem xd_Mo_group_33 : decode b_Mo_group 33 = .ok (.istore 4, 2) := by decide +kernel
theorem xd_Mo_group_35 : decode b_Mo_group 35 = .ok (.iconst 0, 1) := by decide +kernel
theorem xd_Mo_group_36 : decode b_Mo_group 36 = .ok (.istore 5, 2) := by decide +kernel
theorem xd_Mo_group_38 : decode b_Mo_group 38 = .ok (.iload 5, 2) := by decide +kernel
theorem xd_Mo_group_40 : decode b_Mo_group 40 = .ok (.bipush 12, 2) := by decide +kernel
theorem xd_Mo_group_42 : decode b_Mo_group 42 = .ok (.if_icmp .ge 88, 3) := by decide +kernel
theorem xd_Mo_group_45 : decode b_Mo_group 45 = .ok (.iconst 0, 1) := by decide +kernel
theorem xd_Mo_group_46 : decode b_Mo_group 46 = .ok (.istore 6, 2) := by decide +kernel
theorem xd_Mo_group_48 : decode b_Mo_group 48 = .ok (.iload 6, 2) := by decide +kernel
theorem xd_Mo_group_50 : decode b_Mo_group 50 = .ok (.aload_n 0, 1) := by decide +kernel
theorem xd_Mo_group_51 : decode b_Mo_group 51 = .ok (.getfield 145, 3) := by decide +kernel
theorem xd_Mo_group_54 : decode b_Mo_group 54 = .ok (.if_icmp .ge 70, 3) := by decide +kernel
theorem xd_Mo_group_57 : decode b_Mo_group 57 = .ok (.iconst 0, 1) := by decide +kernel
theorem xd_Mo_group_58 : decode b_Mo_group 58 = .ok (.istore 7, 2) := by decide +kernel
theorem xd_Mo_group_60 : decode b_Mo_group 60 = .ok (.iload 7, 2) := by decide +kernel
theorem xd_Mo_group_62 : decode b_Mo_group 62 = .ok (.aload_n 0, 1) := by decide +kernel
theorem xd_Mo_group_63 : decode b_Mo_group 63 = .ok (.getfield 145, 3) := by decide +kernel
theorem xd_Mo_group_66 : decode b_Mo_group 66 = .ok (.if_icmp .ge 52, 3) := by decide +kernel
theorem xd_Mo_group_69 : decode b_Mo_group 69 = .ok (.iload 4, 2) := by decide +kernel
theorem xd_Mo_group_71 : decode b_Mo_group 71 = .ok (.iload 7, 2) := by decide +kernel
theorem xd_Mo_group_73 : decode b_Mo_group 73 = .ok (.ishr, 1) := by decide +kernel
theorem xd_Mo_group_74 : decode b_Mo_group 74 = .ok (.iconst 1, 1) := by decide +kernel
theorem xd_Mo_group_75 : decode b_Mo_group 75 = .ok (.iand, 1) := by decide +kernel
theorem xd_Mo_group_76 : decode b_Mo_group 76 = .ok (.iconst 1, 1) := by decide +kernel
theorem xd_Mo_group_77 : decode b_Mo_group 77 = .ok (.if_icmp .ne 35, 3) := by decide +kernel
theorem xd_Mo_group_80 : decode b_Mo_group 80 = .ok (.aload_n 0, 1) := by decide +kernel
theorem xd_Mo_group_81 : decode b_Mo_group 81 = .ok (.iload_n 1, 1) := by decide +kernel
theorem xd_Mo_group_82 : decode b_Mo_group 82 = .ok (.aload_n 0, 1) := by decide +kernel
theorem xd_Mo_group_83 : decode b_Mo_group 83 = .ok (.getfield 35, 3) := by decide +kernel
theorem xd_Mo_group_86 : decode b_Mo_group 86 = .ok (.iload 7, 2) := by decide +kernel
theorem xd_Mo_group_88 : decode b_Mo_group 88 = .ok (.iaload, 1) := by decide +kernel
theorem xd_Mo_group_89 : decode b_Mo_group 89 = .ok (.aload_n 0, 1) := by decide +kernel
theorem xd_Mo_group_90 : decode b_Mo_group 90 = .ok (.getfield 35, 3) := by decide +kernel
theorem xd_Mo_group_93 : decode b_Mo_group 93 = .ok (.iload 6, 2) := by decide +kernel
theorem xd_Mo_group_95 : decode b_Mo_group 95 = .ok (.iaload, 1) := by decide +kernel
theorem xd_Mo_group_96 : decode b_Mo_group 96 = .ok (.invokevirtual 139, 3) := by decide +kernel
theorem xd_Mo_group_99 : decode b_Mo_group 99 = .ok (.iload_n 2, 1) := by decide +kernel
theorem xd_Mo_group_100 : decode b_Mo_group 100 = .ok (.if_icmp .ge 12, 3) := by decide +kernel
theorem xd_Mo_group_103 : decode b_Mo_group 103 = .ok (.iload 4, 2) := by decide +kernel
theorem xd_Mo_group_105 : decode b_Mo_group 105 = .ok (.iconst 1, 1) := by decide +kernel
theorem xd_Mo_group_106 : decode b_Mo_group 106 = .ok (.iload 6, 2) := by decide +kernel
theorem xd_Mo_group_108 : decode b_Mo_group 108 = .ok (.ishl, 1) := by decide +kernel
theorem xd_Mo_group_109 : decode b_Mo_group 109 = .ok (.ior, 1) := by decide +kernel
theorem xd_Mo_group_110 : decode b_Mo_group 110 = .ok (.istore 4, 2) := by decide +kernel
theorem xd_Mo_group_112 : decode b_Mo_group 112 = .ok (.iinc 7 1, 3) := by decide +kernel
theorem xd_Mo_group_115 : decode b_Mo_group 115 = .ok (.goto (-55), 3) := by decide +kernel
theorem xd_Mo_group_118 : decode b_Mo_group 118 = .ok (.iinc 6 1, 3) := by decide +kernel
theorem xd_Mo_group_121 : decode b_Mo_group 121 = .ok (.goto (-73), 3) := by decide +kernel
theorem xd_Mo_group_124 : decode b_Mo_group 124 = .ok (.iinc 5 1, 3) := by decide +kernel
theorem xd_Mo_group_127 : decode b_Mo_group 127 = .ok (.goto (-89), 3) := by decide +kernel
theorem xd_Mo_group_130 : decode b_Mo_group 130 = .ok (.iconst 0, 1) := by decide +kernel
theorem xd_Mo_group_131 : decode b_Mo_group 131 = .ok (.istore 5, 2) := by decide +kernel
theorem xd_Mo_group_133 : decode b_Mo_group 133 = .ok (.iload 4, 2) := by decide +kernel
theorem xd_Mo_group_135 : decode b_Mo_group 135 = .ok (.iload 5, 2) := by decide +kernel
theorem xd_Mo_group_137 : decode b_Mo_group 137 = .ok (.ishr, 1) := by decide +kernel
theorem xd_Mo_group_138 : decode b_Mo_group 138 = .ok (.iconst 1, 1) := by decide +kernel
theorem xd_Mo_group_139 : decode b_Mo_group 139 = .ok (.iand, 1) := by decide +kernel
theorem xd_Mo_group_140 : decode b_Mo_group 140 = .ok (.ifCond .ne 9, 3) := by decide +kernel
theorem xd_Mo_group_143 : decode b_Mo_group 143 = .ok (.iinc 5 1, 3) := by decide +kernel
theorem xd_Mo_group_146 : decode b_Mo_group 146 = .ok (.goto (-13), 3) := by decide +kernel
theorem xd_Mo_group_149 : decode b_Mo_group 149 = .ok (.iload 5, 2) := by decide +kernel
theorem xd_Mo_group_151 : decode b_Mo_group 151 = .ok (.ireturn, 1) := by decide +kernel
abbrev rm_Mo_group : Room := { frames := 4, cells := 0, slots := 0, locals := 95 }
def xw_Mo_group_60 (x1 : Int32) (x2 : Int32) (x5 : Int32) (x6 : Int32) (post : Int32 → xM → Prop) (k118 : Int32 → Int32 → xM → Prop) : Nat → Int32 → Int32 → xM → Prop
  | 0, _, _, _ => False
  | n60 + 1, x4, x7, M => (((M 9 0 9) ≤ x7) → (k118 x4 x7 M)) ∧ ((¬ (M 9 0 9) ≤ x7) → (((¬ ((x4 >>> (x7 &&& 31)) &&& (1 : Int32)) = (1 : Int32)) → (xw_Mo_group_60 x1 x2 x5 x6 post k118 n60 x4 (x7 + (1 : Int32)) M)) ∧ ((((x4 >>> (x7 &&& 31)) &&& (1 : Int32)) = (1 : Int32)) → ((vp_in x7 12) ∧ ((vp_in x6 12) ∧ (xw_Mo_distanceOf x1 (M 9 6 x7.toNatClampNeg) (M 9 6 x6.toNatClampNeg) M (fun (r8 : Int32) (M7 : xM) => ((x2 ≤ r8) → (xw_Mo_group_60 x1 x2 x5 x6 post k118 n60 x4 (x7 + (1 : Int32)) M7)) ∧ ((¬ x2 ≤ r8) → (xw_Mo_group_60 x1 x2 x5 x6 post k118 n60 (x4 ||| ((1 : Int32) <<< (x6 &&& 31))) (x7 + (1 : Int32)) M7)))))))))
def xw_Mo_group_48 (x1 : Int32) (x2 : Int32) (x5 : Int32) (post : Int32 → xM → Prop) (k124 : Int32 → Int32 → xM → Prop) : Nat → Int32 → Int32 → xM → Prop
  | 0, _, _, _ => False
  | n48 + 1, x4, x6, M => (((M 9 0 9) ≤ x6) → (k124 x4 x6 M)) ∧ ((¬ (M 9 0 9) ≤ x6) → (∃ n60 : Nat, xw_Mo_group_60 x1 x2 x5 x6 post (fun (y9 : Int32) (y10 : Int32) (M11 : xM) => xw_Mo_group_48 x1 x2 x5 post k124 n48 y9 (x6 + (1 : Int32)) M11) n60 x4 (0 : Int32) M))
def xw_Mo_group_38 (x1 : Int32) (x2 : Int32) (post : Int32 → xM → Prop) (k130 : Int32 → Int32 → xM → Prop) : Nat → Int32 → Int32 → xM → Prop
  | 0, _, _, _ => False
  | n38 + 1, x4, x5, M => (((12 : Int32) ≤ x5) → (k130 x4 x5 M)) ∧ ((¬ (12 : Int32) ≤ x5) → (∃ n48 : Nat, xw_Mo_group_48 x1 x2 x5 post (fun (y12 : Int32) (y13 : Int32) (M14 : xM) => xw_Mo_group_38 x1 x2 post k130 n38 y12 (x5 + (1 : Int32)) M14) n48 x4 (0 : Int32) M))
def xw_Mo_group_133 (x4 : Int32) (post : Int32 → xM → Prop) (k149 : Int32 → xM → Prop) : Nat → Int32 → xM → Prop
  | 0, _, _ => False
  | n133 + 1, x5, M => ((¬ ((x4 >>> (x5 &&& 31)) &&& (1 : Int32)) = 0) → (k149 x5 M)) ∧ ((((x4 >>> (x5 &&& 31)) &&& (1 : Int32)) = 0) → (xw_Mo_group_133 x4 post k149 n133 (x5 + (1 : Int32)) M))
def xw_Mo_group (a1 : Int32) (a2 : Int32) (a3 : Int32) (M : xM) (post : Int32 → xM → Prop) : Prop :=
  xw_Mo_isSight a1 M (fun (r2 : Int32) (M1 : xM) => ((r2 = 0) → (post (-1 : Int32) M1)) ∧ ((¬ r2 = 0) → (xw_Mo_in a2 (0 : Int32) (2000000 : Int32) M1 (fun (r4 : Int32) (M3 : xM) => ((¬ r4 = 0) → (xw_Mo_isIn a3 M3 (fun (r6 : Int32) (M5 : xM) => ((¬ r6 = 0) → (∃ n38 : Nat, xw_Mo_group_38 a1 a2 post (fun (y15 : Int32) (y16 : Int32) (M17 : xM) => ∃ n133 : Nat, xw_Mo_group_133 y15 post (fun (y18 : Int32) (M19 : xM) => post y18 M19) n133 (0 : Int32) M17) n38 ((1 : Int32) <<< (a3 &&& 31)) (0 : Int32) M5)) ∧ ((r6 = 0) → (post (-2 : Int32) M5))))) ∧ ((r4 = 0) → (post (-1 : Int32) M3))))))
set_option maxHeartbeats 4000000 in
set_option maxRecDepth 100000 in
theorem xt_Mo_group_60 {p : Program} {l : Launch} {e : Env} {s : State} {m : MethodId} {args : Array Value} {below : List Frame} {meth : Method} {c : Code} {G : xG} (hC : xC p s m args c b_Mo_group R_Mo 8 G) (hr : meth.sig.returnType = (some .int)) (hlk : meth.locks = false) {x1 : Int32} {x2 : Int32} {x5 : Int32} {x6 : Int32} {post : Int32 → xM → Prop} {k118 : Int32 → Int32 → xM → Prop} (hk118 : ∀ (x4 : Int32) (x7 : Int32) (M : xM) (H : Heap) (locs : List Loc) (ls : Array Slot), k118 x4 x7 M → xRp G M H → va_S (xA G) s.heap H locs → lv_has ls 8 [(0, .ref (G.1 9 0)), (1, .int x1), (2, .int x2), (4, .int x4), (5, .int x5), (6, .int x6), (7, .int x7)] → W p l e rm_Mo_group s m args below meth c H locs 0 0 (MQ below (xPi G post) args s 0 0 (xA G)) (F0 m 118 ls [])) : ∀ (n : Nat) (x4 : Int32) (x7 : Int32) (M : xM) (H : Heap) (locs : List Loc) (ls : Array Slot), xw_Mo_group_60 x1 x2 x5 x6 post k118 n x4 x7 M → xRp G M H → va_S (xA G) s.heap H locs → lv_has ls 8 [(0, .ref (G.1 9 0)), (1, .int x1), (2, .int x2), (4, .int x4), (5, .int x5), (6, .int x6), (7, .int x7)] → W p l e rm_Mo_group s m args below meth c H locs 0 0 (MQ below (xPi G post) args s 0 0 (xA G)) (F0 m 60 ls []) := by
  have hx := hC.1
  have hb := hC.2.1
  intro n
  induction n with
  | zero => intro x4 x7 M H locs ls; exact fun h => h.elim
  | succ n ih =>
    intro x4 x7 M H locs ls h hR hS hl
    refine lv_iload (pc := 60) hx hb xd_Mo_group_60 (lv_at hl 6 rfl) ?_
    refine lv_aload_n (pc := 62) hx hb xd_Mo_group_62 rfl (lv_at hl 0 rfl) ?_
    refine xr_get (pc := 63) (v := .int (M 9 0 9)) hC hR xo_M0 xf_Mo_145 rfl xd_Mo_group_63 ?_
    refine lv_icmp_ge (pc := 66) (tgt := 118) hx hb xd_Mo_group_66 (by decide) (fun hq => ?_) (fun hq => ?_)
    · have h := h.1 hq
      exact hk118 x4 x7 M H locs ls h hR hS (lv_sub hl [0, 1, 2, 3, 4, 5, 6] rfl)
    · have h := h.2 hq
      refine lv_iload (pc := 69) hx hb xd_Mo_group_69 (lv_at hl 3 rfl) ?_
      refine lv_iload (pc := 71) hx hb xd_Mo_group_71 (lv_at hl 6 rfl) ?_
      refine lv_ishr (pc := 73) hx hb xd_Mo_group_73 ?_
      refine lv_iconst (pc := 74) (v := (1 : Int32)) hx hb xd_Mo_group_74 (by decide) ?_
      refine lv_iand (pc := 75) hx hb xd_Mo_group_75 ?_
      refine lv_iconst (pc := 76) (v := (1 : Int32)) hx hb xd_Mo_group_76 (by decide) ?_
      refine lv_icmp_ne (pc := 77) (tgt := 112) hx hb xd_Mo_group_77 (by decide) (fun hq => ?_) (fun hq => ?_)
      · have h := h.1 hq
        refine lv_iinc (pc := 112) (v := (x7 + (1 : Int32))) (lv' := [(7, .int (x7 + (1 : Int32))), (0, .ref (G.1 9 0)), (1, .int x1), (2, .int x2), (4, .int x4), (5, .int x5), (6, .int x6)]) hx hb xd_Mo_group_112 hl (k := 6) rfl rfl (by decide) rfl (fun ls hl => ?_)
        refine lv_goto (pc := 115) (tgt := 60) hx hb xd_Mo_group_115 (by decide) ?_
        exact ih x4 (x7 + (1 : Int32)) M H locs ls h hR hS (lv_sub hl [1, 2, 3, 4, 5, 6, 0] rfl)
      · have h := h.2 hq
        refine lv_aload_n (pc := 80) hx hb xd_Mo_group_80 rfl (lv_at hl 0 rfl) ?_
        refine lv_iload_n (pc := 81) hx hb xd_Mo_group_81 rfl (lv_at hl 1 rfl) ?_
        refine lv_aload_n (pc := 82) hx hb xd_Mo_group_82 rfl (lv_at hl 0 rfl) ?_
        refine xr_get (pc := 83) (v := .ref (G.1 9 6)) hC hR xo_M0 xf_Mo_35 rfl xd_Mo_group_83 ?_
        refine lv_iload (pc := 86) hx hb xd_Mo_group_86 (lv_at hl 6 rfl) ?_
        obtain ⟨hq, h⟩ := h
        refine xr_iald (pc := 88) hC hR xo_M6 hq xd_Mo_group_88 ?_
        refine lv_aload_n (pc := 89) hx hb xd_Mo_group_89 rfl (lv_at hl 0 rfl) ?_
        refine xr_get (pc := 90) (v := .ref (G.1 9 6)) hC hR xo_M0 xf_Mo_35 rfl xd_Mo_group_90 ?_
        refine lv_iload (pc := 93) hx hb xd_Mo_group_93 (lv_at hl 5 rfl) ?_
        obtain ⟨hq, h⟩ := h
        refine xr_iald (pc := 95) hC hR xo_M6 hq xd_Mo_group_95 ?_
        refine xr_callV (pc := 96) (As := [.int x1, .int (M 9 6 x7.toNatClampNeg), .int (M 9 6 x6.toNatClampNeg)]) (rest := []) hC hR hS (xc_Mo_distanceOf l G  h) xo_M0 xv_Mo_139 ⟨rfl, rfl, Nat.le_of_ble_eq_true rfl, Nat.le_of_ble_eq_true rfl⟩ rfl hl.1 rfl (Nat.le_of_ble_eq_true rfl) xd_Mo_group_96 (fun r8 M7 H locs h hR hS => ?_)
        refine lv_iload_n (pc := 99) hx hb xd_Mo_group_99 rfl (lv_at hl 2 rfl) ?_
        refine lv_icmp_ge (pc := 100) (tgt := 112) hx hb xd_Mo_group_100 (by decide) (fun hq => ?_) (fun hq => ?_)
        · have h := h.1 hq
          refine lv_iinc (pc := 112) (v := (x7 + (1 : Int32))) (lv' := [(7, .int (x7 + (1 : Int32))), (0, .ref (G.1 9 0)), (1, .int x1), (2, .int x2), (4, .int x4), (5, .int x5), (6, .int x6)]) hx hb xd_Mo_group_112 hl (k := 6) rfl rfl (by decide) rfl (fun ls hl => ?_)
          refine lv_goto (pc := 115) (tgt := 60) hx hb xd_Mo_group_115 (by decide) ?_
          exact ih x4 (x7 + (1 : Int32)) M7 H locs ls h hR hS (lv_sub hl [1, 2, 3, 4, 5, 6, 0] rfl)
        · have h := h.2 hq
          refine lv_iload (pc := 103) hx hb xd_Mo_group_103 (lv_at hl 3 rfl) ?_
          refine lv_iconst (pc := 105) (v := (1 : Int32)) hx hb xd_Mo_group_105 (by decide) ?_
          refine lv_iload (pc := 106) hx hb xd_Mo_group_106 (lv_at hl 5 rfl) ?_
          refine lv_ishl (pc := 108) hx hb xd_Mo_group_108 ?_
          refine lv_ior (pc := 109) hx hb xd_Mo_group_109 ?_
          refine lv_istore (pc := 110) (lv' := [(4, .int (x4 ||| ((1 : Int32) <<< (x6 &&& 31)))), (0, .ref (G.1 9 0)), (1, .int x1), (2, .int x2), (5, .int x5), (6, .int x6), (7, .int x7)]) hx hb xd_Mo_group_110 hl (by decide) rfl (fun ls hl => ?_)
          refine lv_iinc (pc := 112) (v := (x7 + (1 : Int32))) (lv' := [(7, .int (x7 + (1 : Int32))), (4, .int (x4 ||| ((1 : Int32) <<< (x6 &&& 31)))), (0, .ref (G.1 9 0)), (1, .int x1), (2, .int x2), (5, .int x5), (6, .int x6)]) hx hb xd_Mo_group_112 hl (k := 6) rfl rfl (by decide) rfl (fun ls hl => ?_)
          refine lv_goto (pc := 115) (tgt := 60) hx hb xd_Mo_group_115 (by decide) ?_
          exact ih (x4 ||| ((1 : Int32) <<< (x6 &&& 31))) (x7 + (1 : Int32)) M7 H locs ls h hR hS (lv_sub hl [2, 3, 4, 1, 5, 6, 0] rfl)
set_option maxHeartbeats 4000000 in
set_option maxRecDepth 100000 in
theorem xt_Mo_group_48 {p : Program} {l : Launch} {e : Env} {s : State} {m : MethodId} {args : Array Value} {below : List Frame} {meth : Method} {c : Code} {G : xG} (hC : xC p s m args c b_Mo_group R_Mo 8 G) (hr : meth.sig.returnType = (some .int)) (hlk : meth.locks = false) {x1 : Int32} {x2 : Int32} {x5 : Int32} {post : Int32 → xM → Prop} {k124 : Int32 → Int32 → xM → Prop} (hk124 : ∀ (x4 : Int32) (x6 : Int32) (M : xM) (H : Heap) (locs : List Loc) (ls : Array Slot), k124 x4 x6 M → xRp G M H → va_S (xA G) s.heap H locs → lv_has ls 8 [(0, .ref (G.1 9 0)), (1, .int x1), (2, .int x2), (4, .int x4), (5, .int x5), (6, .int x6)] → W p l e rm_Mo_group s m args below meth c H locs 0 0 (MQ below (xPi G post) args s 0 0 (xA G)) (F0 m 124 ls [])) : ∀ (n : Nat) (x4 : Int32) (x6 : Int32) (M : xM) (H : Heap) (locs : List Loc) (ls : Array Slot), xw_Mo_group_48 x1 x2 x5 post k124 n x4 x6 M → xRp G M H → va_S (xA G) s.heap H locs → lv_has ls 8 [(0, .ref (G.1 9 0)), (1, .int x1), (2, .int x2), (4, .int x4), (5, .int x5), (6, .int x6)] → W p l e rm_Mo_group s m args below meth c H locs 0 0 (MQ below (xPi G post) args s 0 0 (xA G)) (F0 m 48 ls []) := by
  have hx := hC.1
  have hb := hC.2.1
  intro n
  induction n with
  | zero => intro x4 x6 M H locs ls; exact fun h => h.elim
  | succ n ih =>
    intro x4 x6 M H locs ls h hR hS hl
    refine lv_iload (pc := 48) hx hb xd_Mo_group_48 (lv_at hl 5 rfl) ?_
    refine lv_aload_n (pc := 50) hx hb xd_Mo_group_50 rfl (lv_at hl 0 rfl) ?_
    refine xr_get (pc := 51) (v := .int (M 9 0 9)) hC hR xo_M0 xf_Mo_145 rfl xd_Mo_group_51 ?_
    refine lv_icmp_ge (pc := 54) (tgt := 124) hx hb xd_Mo_group_54 (by decide) (fun hq => ?_) (fun hq => ?_)
    · have h := h.1 hq
      exact hk124 x4 x6 M H locs ls h hR hS (lv_sub hl [0, 1, 2, 3, 4, 5] rfl)
    · have h := h.2 hq
      refine lv_iconst (pc := 57) (v := (0 : Int32)) hx hb xd_Mo_group_57 (by decide) ?_
      refine lv_istore (pc := 58) (lv' := [(7, .int (0 : Int32)), (0, .ref (G.1 9 0)), (1, .int x1), (2, .int x2), (4, .int x4), (5, .int x5), (6, .int x6)]) hx hb xd_Mo_group_58 hl (by decide) rfl (fun ls hl => ?_)
      obtain ⟨n, h⟩ := h
      refine xt_Mo_group_60 hC hr hlk  (fun y9 y10 M11 H locs ls h hR hS hl => ?_) n x4 (0 : Int32) M H locs ls h hR hS (lv_sub hl [1, 2, 3, 4, 5, 6, 0] rfl)
      refine lv_iinc (pc := 118) (v := (x6 + (1 : Int32))) (lv' := [(6, .int (x6 + (1 : Int32))), (0, .ref (G.1 9 0)), (1, .int x1), (2, .int x2), (4, .int y9), (5, .int x5), (7, .int y10)]) hx hb xd_Mo_group_118 hl (k := 5) rfl rfl (by decide) rfl (fun ls hl => ?_)
      refine lv_goto (pc := 121) (tgt := 48) hx hb xd_Mo_group_121 (by decide) ?_
      exact ih y9 (x6 + (1 : Int32)) M11 H locs ls h hR hS (lv_sub hl [1, 2, 3, 4, 5, 0] rfl)
set_option maxHeartbeats 4000000 in
set_option maxRecDepth 100000 in
theorem xt_Mo_group_38 {p : Program} {l : Launch} {e : Env} {s : State} {m : MethodId} {args : Array Value} {below : List Frame} {meth : Method} {c : Code} {G : xG} (hC : xC p s m args c b_Mo_group R_Mo 8 G) (hr : meth.sig.returnType = (some .int)) (hlk : meth.locks = false) {x1 : Int32} {x2 : Int32} {post : Int32 → xM → Prop} {k130 : Int32 → Int32 → xM → Prop} (hk130 : ∀ (x4 : Int32) (x5 : Int32) (M : xM) (H : Heap) (locs : List Loc) (ls : Array Slot), k130 x4 x5 M → xRp G M H → va_S (xA G) s.heap H locs → lv_has ls 8 [(0, .ref (G.1 9 0)), (1, .int x1), (2, .int x2), (4, .int x4), (5, .int x5)] → W p l e rm_Mo_group s m args below meth c H locs 0 0 (MQ below (xPi G post) args s 0 0 (xA G)) (F0 m 130 ls [])) : ∀ (n : Nat) (x4 : Int32) (x5 : Int32) (M : xM) (H : Heap) (locs : List Loc) (ls : Array Slot), xw_Mo_group_38 x1 x2 post k130 n x4 x5 M → xRp G M H → va_S (xA G) s.heap H locs → lv_has ls 8 [(0, .ref (G.1 9 0)), (1, .int x1), (2, .int x2), (4, .int x4), (5, .int x5)] → W p l e rm_Mo_group s m args below meth c H locs 0 0 (MQ below (xPi G post) args s 0 0 (xA G)) (F0 m 38 ls []) := by
  have hx := hC.1
  have hb := hC.2.1
  intro n
  induction n with
  | zero => intro x4 x5 M H locs ls; exact fun h => h.elim
  | succ n ih =>
    intro x4 x5 M H locs ls h hR hS hl
    refine lv_iload (pc := 38) hx hb xd_Mo_group_38 (lv_at hl 4 rfl) ?_
    refine lv_bipush (pc := 40) (v := (12 : Int32)) hx hb xd_Mo_group_40 (by decide) ?_
    refine lv_icmp_ge (pc := 42) (tgt := 130) hx hb xd_Mo_group_42 (by decide) (fun hq => ?_) (fun hq => ?_)
    · have h := h.1 hq
      exact hk130 x4 x5 M H locs ls h hR hS (lv_sub hl [0, 1, 2, 3, 4] rfl)
    · have h := h.2 hq
      refine lv_iconst (pc := 45) (v := (0 : Int32)) hx hb xd_Mo_group_45 (by decide) ?_
      refine lv_istore (pc := 46) (lv' := [(6, .int (0 : Int32)), (0, .ref (G.1 9 0)), (1, .int x1), (2, .int x2), (4, .int x4), (5, .int x5)]) hx hb xd_Mo_group_46 hl (by decide) rfl (fun ls hl => ?_)
      obtain ⟨n, h⟩ := h
      refine xt_Mo_group_48 hC hr hlk  (fun y12 y13 M14 H locs ls h hR hS hl => ?_) n x4 (0 : Int32) M H locs ls h hR hS (lv_sub hl [1, 2, 3, 4, 5, 0] rfl)
      refine lv_iinc (pc := 124) (v := (x5 + (1 : Int32))) (lv' := [(5, .int (x5 + (1 : Int32))), (0, .ref (G.1 9 0)), (1, .int x1), (2, .int x2), (4, .int y12), (6, .int y13)]) hx hb xd_Mo_group_124 hl (k := 4) rfl rfl (by decide) rfl (fun ls hl => ?_)
      refine lv_goto (pc := 127) (tgt := 38) hx hb xd_Mo_group_127 (by decide) ?_
      exact ih y12 (x5 + (1 : Int32)) M14 H locs ls h hR hS (lv_sub hl [1, 2, 3, 4, 0] rfl)
set_option maxHeartbeats 4000000 in
set_option maxRecDepth 100000 in
theorem xt_Mo_group_133 {p : Program} {l : Launch} {e : Env} {s : State} {m : MethodId} {args : Array Value} {below : List Frame} {meth : Method} {c : Code} {G : xG} (hC : xC p s m args c b_Mo_group R_Mo 8 G) (hr : meth.sig.returnType = (some .int)) (hlk : meth.locks = false) {x4 : Int32} {post : Int32 → xM → Prop} {k149 : Int32 → xM → Prop} (hk149 : ∀ (x5 : Int32) (M : xM) (H : Heap) (locs : List Loc) (ls : Array Slot), k149 x5 M → xRp G M H → va_S (xA G) s.heap H locs → lv_has ls 8 [(4, .int x4), (5, .int x5)] → W p l e rm_Mo_group s m args below meth c H locs 0 0 (MQ below (xPi G post) args s 0 0 (xA G)) (F0 m 149 ls [])) : ∀ (n : Nat) (x5 : Int32) (M : xM) (H : Heap) (locs : List Loc) (ls : Array Slot), xw_Mo_group_133 x4 post k149 n x5 M → xRp G M H → va_S (xA G) s.heap H locs → lv_has ls 8 [(4, .int x4), (5, .int x5)] → W p l e rm_Mo_group s m args below meth c H locs 0 0 (MQ below (xPi G post) args s 0 0 (xA G)) (F0 m 133 ls []) := by
  have hx := hC.1
  have hb := hC.2.1
  intro n
  induction n with
  | zero => intro x5 M H locs ls; exact fun h => h.elim
  | succ n ih =>
    intro x5 M H locs ls h hR hS hl
    refine lv_iload (pc := 133) hx hb xd_Mo_group_133 (lv_at hl 0 rfl) ?_
    refine lv_iload (pc := 135) hx hb xd_Mo_group_135 (lv_at hl 1 rfl) ?_
    refine lv_ishr (pc := 137) hx hb xd_Mo_group_137 ?_
    refine lv_iconst (pc := 138) (v := (1 : Int32)) hx hb xd_Mo_group_138 (by decide) ?_
    refine lv_iand (pc := 139) hx hb xd_Mo_group_139 ?_
    refine lv_if_ne (pc := 140) (tgt := 149) hx hb xd_Mo_group_140 (by decide) (fun hq => ?_) (fun hq => ?_)
    · have h := h.1 hq
      exact hk149 x5 M H locs ls h hR hS (lv_sub hl [0, 1] rfl)
    · have h := h.2 hq
      refine lv_iinc (pc := 143) (v := (x5 + (1 : Int32))) (lv' := [(5, .int (x5 + (1 : Int32))), (4, .int x4)]) hx hb xd_Mo_group_143 hl (k := 1) rfl rfl (by decide) rfl (fun ls hl => ?_)
      refine lv_goto (pc := 146) (tgt := 133) hx hb xd_Mo_group_146 (by decide) ?_
      exact ih (x5 + (1 : Int32)) M H locs ls h hR hS (lv_sub hl [1, 0] rfl)
set_option maxHeartbeats 4000000 in
set_option maxRecDepth 100000 in
theorem xc_Mo_group (l : Launch) (G : xG) {a1 : Int32} {a2 : Int32} {a3 : Int32}  {M : xM} {post : Int32 → xM → Prop} (h : xw_Mo_group a1 a2 a3 M post) : Met l y_Mo_group (Cond.code y_Mo_group b_Mo_group 8 (some .int) :: xTG) rm_Mo_group (xPre G M [.ref (G.1 9 0), .int a1, .int a2, .int a3]) (xPi G post) 0 0 (xA G) := by
  refine xMet (own := R_Mo) [.ref (G.1 9 0), .int a1, .int a2, .int a3] (Or.inl (by decide)) rfl (Nat.le_of_ble_eq_true rfl) (fun p e s m args below meth c ls hC hr hlk hR hS hl => ?_)
  have hx := hC.1
  have hb := hC.2.1
  have hl : lv_has ls 8 [(0, .ref (G.1 9 0)), (1, .int a1), (2, .int a2), (3, .int a3)] := hl
  obtain ⟨H, eH⟩ : ∃ H : Heap, H = s.heap := ⟨_, rfl⟩
  obtain ⟨locs, eL⟩ : ∃ locs : List Loc, locs = [] := ⟨_, rfl⟩
  rw [← eH] at hR
  replace hS : va_S (xA G) s.heap H locs := by rw [eH, eL]; exact hS
  suffices hh : W p l e rm_Mo_group s m args below meth c H locs 0 0 (MQ below (xPi G post) args s 0 0 (xA G)) (F0 m 0 ls []) from by rw [eH, eL] at hh; exact hh
  unfold xw_Mo_group at h
  refine lv_iload_n (pc := 0) hx hb xd_Mo_group_0 rfl (lv_at hl 1 rfl) ?_
  refine xr_callS (pc := 1) (As := [.int a1]) (rest := []) hC hR hS (xc_Mo_isSight l G  h) xv_Mo_129 ⟨rfl, rfl, Nat.le_of_ble_eq_true rfl, Nat.le_of_ble_eq_true rfl⟩ rfl hl.1 rfl (Nat.le_of_ble_eq_true rfl) xd_Mo_group_1 (fun r2 M1 H locs h hR hS => ?_)
  refine lv_if_eq (pc := 4) (tgt := 17) hx hb xd_Mo_group_4 (by decide) (fun hq => ?_) (fun hq => ?_)
  · have h := h.1 hq
    refine lv_iconst (pc := 17) (v := (-1 : Int32)) hx hb xd_Mo_group_17 (by decide) ?_
    exact xr_iret hC hr hlk hR hS h xd_Mo_group_18
  · have h := h.2 hq
    refine lv_iload_n (pc := 7) hx hb xd_Mo_group_7 rfl (lv_at hl 2 rfl) ?_
    refine lv_iconst (pc := 8) (v := (0 : Int32)) hx hb xd_Mo_group_8 (by decide) ?_
    refine lv_ldc (pc := 9) (v := (2000000 : Int32)) hx hb hC.2.2.2.1 (hC.2.2.2.2.1 _ xk_Mo_170) xd_Mo_group_9 ?_
    refine xr_callS (pc := 11) (As := [.int a2, .int (0 : Int32), .int (2000000 : Int32)]) (rest := []) hC hR hS (xc_Mo_in l G  h) xv_Mo_85 ⟨rfl, rfl, Nat.le_of_ble_eq_true rfl, Nat.le_of_ble_eq_true rfl⟩ rfl hl.1 rfl (Nat.le_of_ble_eq_true rfl) xd_Mo_group_11 (fun r4 M3 H locs h hR hS => ?_)
    refine lv_if_ne (pc := 14) (tgt := 19) hx hb xd_Mo_group_14 (by decide) (fun hq => ?_) (fun hq => ?_)
    · have h := h.1 hq
      refine lv_aload_n (pc := 19) hx hb xd_Mo_group_19 rfl (lv_at hl 0 rfl) ?_
      refine lv_iload_n (pc := 20) hx hb xd_Mo_group_20 rfl (lv_at hl 3 rfl) ?_
      refine xr_callV (pc := 21) (As := [.int a3]) (rest := []) hC hR hS (xc_Mo_isIn l G  h) xo_M0 xv_Mo_151 ⟨rfl, rfl, Nat.le_of_ble_eq_true rfl, Nat.le_of_ble_eq_true rfl⟩ rfl hl.1 rfl (Nat.le_of_ble_eq_true rfl) xd_Mo_group_21 (fun r6 M5 H locs h hR hS => ?_)
      refine lv_if_ne (pc := 24) (tgt := 30) hx hb xd_Mo_group_24 (by decide) (fun hq => ?_) (fun hq => ?_)
      · have h := h.1 hq
        refine lv_iconst (pc := 30) (v := (1 : Int32)) hx hb xd_Mo_group_30 (by decide) ?_
        refine lv_iload_n (pc := 31) hx hb xd_Mo_group_31 rfl (lv_at hl 3 rfl) ?_
        refine lv_ishl (pc := 32) hx hb xd_Mo_group_32 ?_
        refine lv_istore (pc := 33) (lv' := [(4, .int ((1 : Int32) <<< (a3 &&& 31))), (0, .ref (G.1 9 0)), (1, .int a1), (2, .int a2), (3, .int a3)]) hx hb xd_Mo_group_33 hl (by decide) rfl (fun ls hl => ?_)
        refine lv_iconst (pc := 35) (v := (0 : Int32)) hx hb xd_Mo_group_35 (by decide) ?_
        refine lv_istore (pc := 36) (lv' := [(5, .int (0 : Int32)), (4, .int ((1 : Int32) <<< (a3 &&& 31))), (0, .ref (G.1 9 0)), (1, .int a1), (2, .int a2), (3, .int a3)]) hx hb xd_Mo_group_36 hl (by decide) rfl (fun ls hl => ?_)
        obtain ⟨n, h⟩ := h
        refine xt_Mo_group_38 hC hr hlk  (fun y15 y16 M17 H locs ls h hR hS hl => ?_) n ((1 : Int32) <<< (a3 &&& 31)) (0 : Int32) M5 H locs ls h hR hS (lv_sub hl [2, 3, 4, 1, 0] rfl)
        refine lv_iconst (pc := 130) (v := (0 : Int32)) hx hb xd_Mo_group_130 (by decide) ?_
        refine lv_istore (pc := 131) (lv' := [(5, .int (0 : Int32)), (0, .ref (G.1 9 0)), (1, .int a1), (2, .int a2), (4, .int y15)]) hx hb xd_Mo_group_131 hl (by decide) rfl (fun ls hl => ?_)
        obtain ⟨n, h⟩ := h
        refine xt_Mo_group_133 hC hr hlk  (fun y18 M19 H locs ls h hR hS hl => ?_) n (0 : Int32) M17 H locs ls h hR hS (lv_sub hl [4, 0] rfl)
        refine lv_iload (pc := 149) hx hb xd_Mo_group_149 (lv_at hl 1 rfl) ?_
        exact xr_iret hC hr hlk hR hS h xd_Mo_group_151
      · have h := h.2 hq
        refine lv_bipush (pc := 27) (v := (-2 : Int32)) hx hb xd_Mo_group_27 (by decide) ?_
        exact xr_iret hC hr hlk hR hS h xd_Mo_group_29
    · have h := h.2 hq
      refine lv_iconst (pc := 17) (v := (-1 : Int32)) hx hb xd_Mo_group_17 (by decide) ?_
      exact xr_iret hC hr hlk hR hS h xd_Mo_group_18

/-! ColoursApartModel.keeps([II)V -/
theorem xd_Mo_keeps_0 : decode b_Mo_keeps 0 = .ok (.iconst 0, 1) := by decide +kernel
theorem xd_Mo_keeps_1 : decode b_Mo_keeps 1 = .ok (.istore_n 3, 1) := by decide +kernel
theorem xd_Mo_keeps_2 : decode b_Mo_keeps 2 = .ok (.iload_n 3, 1) := by decide +kernel
theorem xd_Mo_keeps_3 : decode b_Mo_keeps 3 = .ok (.iload_n 2, 1) := by decide +kernel
theorem xd_Mo_keeps_4 : decode b_Mo_keeps 4 = .ok (.if_icmp .ge 23, 3) := by decide +kernel
theorem xd_Mo_keeps_7 : decode b_Mo_keeps 7 = .ok (.aload_n 0, 1) := by decide +kernel
theorem xd_Mo_keeps_8 : decode b_Mo_keeps 8 = .ok (.getfield 79, 3) := by decide +kernel
theorem xd_Mo_keeps_11 : decode b_Mo_keeps 11 = .ok (.aload_n 0, 1) := by decide +kernel
theorem xd_Mo_keeps_12 : decode b_Mo_keeps 12 = .ok (.getfield 202, 3) := by decide +kernel
theorem xd_Mo_keeps_15 : decode b_Mo_keeps 15 = .ok (.iload_n 3, 1) := by decide +kernel
theorem xd_Mo_keeps_16 : decode b_Mo_keeps 16 = .ok (.iadd, 1) := by decide +kernel
theorem xd_Mo_keeps_17 : decode b_Mo_keeps 17 = .ok (.aload_n 1, 1) := by decide +kernel
theorem xd_Mo_keeps_18 : decode b_Mo_keeps 18 = .ok (.iload_n 3, 1) := by decide +kernel
theorem xd_Mo_keeps_19 : decode b_Mo_keeps 19 = .ok (.iaload, 1) := by decide +kernel
theorem xd_Mo_keeps_20 : decode b_Mo_keeps 20 = .ok (.iastore, 1) := by decide +kernel
theorem xd_Mo_keeps_21 : decode b_Mo_keeps 21 = .ok (.iinc 3 1, 3) := by decide +kernel
theorem xd_Mo_keeps_24 : decode b_Mo_keeps 24 = .ok (.goto (-22), 3) := by decide +kernel
theorem xd_Mo_keeps_27 : decode b_Mo_keeps 27 = .ok (.aload_n 0, 1) := by decide +kernel
theorem xd_Mo_keeps_28 : decode b_Mo_keeps 28 = .ok (.dup, 1) := by decide +kernel
theorem xd_Mo_keeps_29 : decode b_Mo_keeps 29 = .ok (.getfield 202, 3) := by decide +kernel
theorem xd_Mo_keeps_32 : decode b_Mo_keeps 32 = .ok (.iload_n 2, 1) := by decide +kernel
theorem xd_Mo_keeps_33 : decode b_Mo_keeps 33 = .ok (.iadd, 1) := by decide +kernel
theorem xd_Mo_keeps_34 : decode b_Mo_keeps 34 = .ok (.putfield 202, 3) := by decide +kernel
theorem xd_Mo_keeps_37 : decode b_Mo_keeps 37 = .ok (.return_, 1) := by decide +kernel
abbrev rm_Mo_keeps : Room := { frames := 0, cells := 0, slots := 0, locals := 0 }
def xw_Mo_keeps_2 (ga1 ia1 na1 : Nat) (x2 : Int32) (post : xM → Prop) (k27 : Int32 → xM → Prop) : Nat → Int32 → xM → Prop
  | 0, _, _ => False
  | n2 + 1, x3, M => ((x2 ≤ x3) → (k27 x3 M)) ∧ ((¬ x2 ≤ x3) → ((vp_in x3 na1) ∧ ((vp_in ((M 9 0 29) + x3) 600) ∧ (xw_Mo_keeps_2 ga1 ia1 na1 x2 post k27 n2 (x3 + (1 : Int32)) (us M 9 20 ((M 9 0 29) + x3).toNatClampNeg (M ga1 ia1 x3.toNatClampNeg))))))
def xw_Mo_keeps (ga1 ia1 na1 : Nat) (a2 : Int32) (M : xM) (post : xM → Prop) : Prop :=
  ∃ n2 : Nat, xw_Mo_keeps_2 ga1 ia1 na1 a2 post (fun (y1 : Int32) (M2 : xM) => post (us M2 9 0 29 ((M2 9 0 29) + a2))) n2 (0 : Int32) M
set_option maxHeartbeats 4000000 in
set_option maxRecDepth 100000 in
theorem xt_Mo_keeps_2 {p : Program} {l : Launch} {e : Env} {s : State} {m : MethodId} {args : Array Value} {below : List Frame} {meth : Method} {c : Code} {G : xG} (hC : xC p s m args c b_Mo_keeps R_Mo 4 G) (hr : meth.sig.returnType = none) (hlk : meth.locks = false) {ga1 : Nat} {ia1 : Nat} {na1 : Nat} (hla1 : xlay ga1 ia1 = some (.inr (na1, .inl false))) {x2 : Int32} {post : xM → Prop} {k27 : Int32 → xM → Prop} (hk27 : ∀ (x3 : Int32) (M : xM) (H : Heap) (locs : List Loc) (ls : Array Slot), k27 x3 M → xRp G M H → va_S (xA G) s.heap H locs → lv_has ls 4 [(0, .ref (G.1 9 0)), (1, .ref (G.1 ga1 ia1)), (2, .int x2), (3, .int x3)] → W p l e rm_Mo_keeps s m args below meth c H locs 0 0 (MQ below (xPv G post) args s 0 0 (xA G)) (F0 m 27 ls [])) : ∀ (n : Nat) (x3 : Int32) (M : xM) (H : Heap) (locs : List Loc) (ls : Array Slot), xw_Mo_keeps_2 ga1 ia1 na1 x2 post k27 n x3 M → xRp G M H → va_S (xA G) s.heap H locs → lv_has ls 4 [(0, .ref (G.1 9 0)), (1, .ref (G.1 ga1 ia1)), (2, .int x2), (3, .int x3)] → W p l e rm_Mo_keeps s m args below meth c H locs 0 0 (MQ below (xPv G post) args s 0 0 (xA G)) (F0 m 2 ls []) := by
  have hx := hC.1
  have hb := hC.2.1
  intro n
  induction n with
  | zero => intro x3 M H locs ls; exact fun h => h.elim
  | succ n ih =>
    intro x3 M H locs ls h hR hS hl
    refine lv_iload_n (pc := 2) hx hb xd_Mo_keeps_2 rfl (lv_at hl 3 rfl) ?_
    refine lv_iload_n (pc := 3) hx hb xd_Mo_keeps_3 rfl (lv_at hl 2 rfl) ?_
    refine lv_icmp_ge (pc := 4) (tgt := 27) hx hb xd_Mo_keeps_4 (by decide) (fun hq => ?_) (fun hq => ?_)
    · have h := h.1 hq
      exact hk27 x3 M H locs ls h hR hS (lv_sub hl [0, 1, 2, 3] rfl)
    · have h := h.2 hq
      refine lv_aload_n (pc := 7) hx hb xd_Mo_keeps_7 rfl (lv_at hl 0 rfl) ?_
      refine xr_get (pc := 8) (v := .ref (G.1 9 20)) hC hR xo_M0 xf_Mo_79 rfl xd_Mo_keeps_8 ?_
      refine lv_aload_n (pc := 11) hx hb xd_Mo_keeps_11 rfl (lv_at hl 0 rfl) ?_
      refine xr_get (pc := 12) (v := .int (M 9 0 29)) hC hR xo_M0 xf_Mo_202 rfl xd_Mo_keeps_12 ?_
      refine lv_iload_n (pc := 15) hx hb xd_Mo_keeps_15 rfl (lv_at hl 3 rfl) ?_
      refine lv_iadd (pc := 16) hx hb xd_Mo_keeps_16 ?_
      refine lv_aload_n (pc := 17) hx hb xd_Mo_keeps_17 rfl (lv_at hl 1 rfl) ?_
      refine lv_iload_n (pc := 18) hx hb xd_Mo_keeps_18 rfl (lv_at hl 3 rfl) ?_
      obtain ⟨hq, h⟩ := h
      refine xr_iald (pc := 19) hC hR hla1 hq xd_Mo_keeps_19 ?_
      obtain ⟨hq, h⟩ := h
      refine xr_iast (pc := 20) hC hR hS xo_M20 hq xd_Mo_keeps_20 (fun H locs hR hS => ?_)
      refine lv_iinc (pc := 21) (v := (x3 + (1 : Int32))) (lv' := [(3, .int (x3 + (1 : Int32))), (0, .ref (G.1 9 0)), (1, .ref (G.1 ga1 ia1)), (2, .int x2)]) hx hb xd_Mo_keeps_21 hl (k := 3) rfl rfl (by decide) rfl (fun ls hl => ?_)
      refine lv_goto (pc := 24) (tgt := 2) hx hb xd_Mo_keeps_24 (by decide) ?_
      exact ih (x3 + (1 : Int32)) (us M 9 20 ((M 9 0 29) + x3).toNatClampNeg (M ga1 ia1 x3.toNatClampNeg)) H locs ls h hR hS (lv_sub hl [1, 2, 3, 0] rfl)
set_option maxHeartbeats 4000000 in
set_option maxRecDepth 100000 in
theorem xc_Mo_keeps (l : Launch) (G : xG) {ga1 ia1 na1 : Nat} {a2 : Int32} (hla1 : xlay ga1 ia1 = some (.inr (na1, .inl false))) {M : xM} {post : xM → Prop} (h : xw_Mo_keeps ga1 ia1 na1 a2 M post) : Met l y_Mo_keeps (Cond.code y_Mo_keeps b_Mo_keeps 4 none :: xTG) rm_Mo_keeps (xPre G M [.ref (G.1 9 0), .ref (G.1 ga1 ia1), .int a2]) (xPv G post) 0 0 (xA G) := by
  refine xMet (own := R_Mo) [.ref (G.1 9 0), .ref (G.1 ga1 ia1), .int a2] (Or.inl (by decide)) rfl (Nat.le_of_ble_eq_true rfl) (fun p e s m args below meth c ls hC hr hlk hR hS hl => ?_)
  have hx := hC.1
  have hb := hC.2.1
  have hl : lv_has ls 4 [(0, .ref (G.1 9 0)), (1, .ref (G.1 ga1 ia1)), (2, .int a2)] := hl
  obtain ⟨H, eH⟩ : ∃ H : Heap, H = s.heap := ⟨_, rfl⟩
  obtain ⟨locs, eL⟩ : ∃ locs : List Loc, locs = [] := ⟨_, rfl⟩
  rw [← eH] at hR
  replace hS : va_S (xA G) s.heap H locs := by rw [eH, eL]; exact hS
  suffices hh : W p l e rm_Mo_keeps s m args below meth c H locs 0 0 (MQ below (xPv G post) args s 0 0 (xA G)) (F0 m 0 ls []) from by rw [eH, eL] at hh; exact hh
  unfold xw_Mo_keeps at h
  refine lv_iconst (pc := 0) (v := (0 : Int32)) hx hb xd_Mo_keeps_0 (by decide) ?_
  refine lv_istore_n (pc := 1) (lv' := [(3, .int (0 : Int32)), (0, .ref (G.1 9 0)), (1, .ref (G.1 ga1 ia1)), (2, .int a2)]) hx hb xd_Mo_keeps_1 rfl hl (by decide) rfl (fun ls hl => ?_)
  obtain ⟨n, h⟩ := h
  refine xt_Mo_keeps_2 hC hr hlk hla1 (fun y1 M2 H locs ls h hR hS hl => ?_) n (0 : Int32) M H locs ls h hR hS (lv_sub hl [1, 2, 3, 0] rfl)
  refine lv_aload_n (pc := 27) hx hb xd_Mo_keeps_27 rfl (lv_at hl 0 rfl) ?_
  refine lv_dup (pc := 28) hx hb xd_Mo_keeps_28 rfl ?_
  refine xr_get (pc := 29) (v := .int (M2 9 0 29)) hC hR xo_M0 xf_Mo_202 rfl xd_Mo_keeps_29 ?_
  refine lv_iload_n (pc := 32) hx hb xd_Mo_keeps_32 rfl (lv_at hl 2 rfl) ?_
  refine lv_iadd (pc := 33) hx hb xd_Mo_keeps_33 ?_
  refine xr_put (pc := 34) hC hR hS xo_M0 xf_Mo_202 xp_10_29 rfl rfl rfl xd_Mo_keeps_34 (fun H locs hR hS => ?_)
  exact xr_vret hC hr hlk hR hS h xd_Mo_keeps_37

/-! ColoursApartModel.brings([II)V -/
theorem xd_Mo_brings_0 : decode b_Mo_brings 0 = .ok (.iconst 0, 1) := by decide +kernel
theorem xd_Mo_brings_1 : decode b_Mo_brings 1 = .ok (.istore_n 3, 1) := by decide +kernel
theorem xd_Mo_brings_2 : decode b_Mo_brings 2 = .ok (.iload_n 3, 1) := by decide +kernel
theorem xd_Mo_brings_3 : decode b_Mo_brings 3 = .ok (.iload_n 2, 1) := by decide +kernel
theorem xd_Mo_brings_4 : decode b_Mo_brings 4 = .ok (.if_icmp .ge 23, 3) := by decide +kernel
theorem xd_Mo_brings_7 : decode b_Mo_brings 7 = .ok (.aload_n 1, 1) := by decide +kernel
theorem xd_Mo_brings_8 : decode b_Mo_brings 8 = .ok (.iload_n 3, 1) := by decide +kernel
theorem xd_Mo_brings_9 : decode b_Mo_brings 9 = .ok (.aload_n 0, 1) := by decide +kernel
theorem xd_Mo_brings_10 : decode b_Mo_brings 10 = .ok (.getfield 79, 3) := by decide +kernel
theorem xd_Mo_brings_13 : decode b_Mo_brings 13 = .ok (.aload_n 0, 1) := by decide +kernel
theorem xd_Mo_brings_14 : decode b_Mo_brings 14 = .ok (.getfield 202, 3) := by decide +kernel
theorem xd_Mo_brings_17 : decode b_Mo_brings 17 = .ok (.iload_n 3, 1) := by decide +kernel
theorem xd_Mo_brings_18 : decode b_Mo_brings 18 = .ok (.iadd, 1) := by decide +kernel
theorem xd_Mo_brings_19 : decode b_Mo_brings 19 = .ok (.iaload, 1) := by decide +kernel
theorem xd_Mo_brings_20 : decode b_Mo_brings 20 = .ok (.iastore, 1) := by decide +kernel
theorem xd_Mo_brings_21 : decode b_Mo_brings 21 = .ok (.iinc 3 1, 3) := by decide +kernel
theorem xd_Mo_brings_24 : decode b_Mo_brings 24 = .ok (.goto (-22), 3) := by decide +kernel
theorem xd_Mo_brings_27 : decode b_Mo_brings 27 = .ok (.aload_n 0, 1) := by decide +kernel
theorem xd_Mo_brings_28 : decode b_Mo_brings 28 = .ok (.dup, 1) := by decide +kernel
theorem xd_Mo_brings_29 : decode b_Mo_brings 29 = .ok (.getfield 202, 3) := by decide +kernel
theorem xd_Mo_brings_32 : decode b_Mo_brings 32 = .ok (.iload_n 2, 1) := by decide +kernel
theorem xd_Mo_brings_33 : decode b_Mo_brings 33 = .ok (.iadd, 1) := by decide +kernel
theorem xd_Mo_brings_34 : decode b_Mo_brings 34 = .ok (.putfield 202, 3) := by decide +kernel
theorem xd_Mo_brings_37 : decode b_Mo_brings 37 = .ok (.return_, 1) := by decide +kernel
abbrev rm_Mo_brings : Room := { frames := 0, cells := 0, slots := 0, locals := 0 }
def xw_Mo_brings_2 (ga1 ia1 na1 : Nat) (x2 : Int32) (post : xM → Prop) (k27 : Int32 → xM → Prop) : Nat → Int32 → xM → Prop
  | 0, _, _ => False
  | n2 + 1, x3, M => ((x2 ≤ x3) → (k27 x3 M)) ∧ ((¬ x2 ≤ x3) → ((vp_in ((M 9 0 29) + x3) 600) ∧ ((vp_in x3 na1) ∧ (xw_Mo_brings_2 ga1 ia1 na1 x2 post k27 n2 (x3 + (1 : Int32)) (us M ga1 ia1 x3.toNatClampNeg (M 9 20 ((M 9 0 29) + x3).toNatClampNeg))))))
def xw_Mo_brings (ga1 ia1 na1 : Nat) (a2 : Int32) (M : xM) (post : xM → Prop) : Prop :=
  ∃ n2 : Nat, xw_Mo_brings_2 ga1 ia1 na1 a2 post (fun (y1 : Int32) (M2 : xM) => post (us M2 9 0 29 ((M2 9 0 29) + a2))) n2 (0 : Int32) M
set_option maxHeartbeats 4000000 in
set_option maxRecDepth 100000 in
theorem xt_Mo_brings_2 {p : Program} {l : Launch} {e : Env} {s : State} {m : MethodId} {args : Array Value} {below : List Frame} {meth : Method} {c : Code} {G : xG} (hC : xC p s m args c b_Mo_brings R_Mo 4 G) (hr : meth.sig.returnType = none) (hlk : meth.locks = false) {ga1 : Nat} {ia1 : Nat} {na1 : Nat} (hla1 : xlay ga1 ia1 = some (.inr (na1, .inl false))) {x2 : Int32} {post : xM → Prop} {k27 : Int32 → xM → Prop} (hk27 : ∀ (x3 : Int32) (M : xM) (H : Heap) (locs : List Loc) (ls : Array Slot), k27 x3 M → xRp G M H → va_S (xA G) s.heap H locs → lv_has ls 4 [(0, .ref (G.1 9 0)), (1, .ref (G.1 ga1 ia1)), (2, .int x2), (3, .int x3)] → W p l e rm_Mo_brings s m args below meth c H locs 0 0 (MQ below (xPv G post) args s 0 0 (xA G)) (F0 m 27 ls [])) : ∀ (n : Nat) (x3 : Int32) (M : xM) (H : Heap) (locs : List Loc) (ls : Array Slot), xw_Mo_brings_2 ga1 ia1 na1 x2 post k27 n x3 M → xRp G M H → va_S (xA G) s.heap H locs → lv_has ls 4 [(0, .ref (G.1 9 0)), (1, .ref (G.1 ga1 ia1)), (2, .int x2), (3, .int x3)] → W p l e rm_Mo_brings s m args below meth c H locs 0 0 (MQ below (xPv G post) args s 0 0 (xA G)) (F0 m 2 ls []) := by
  have hx := hC.1
  have hb := hC.2.1
  intro n
  induction n with
  | zero => intro x3 M H locs ls; exact fun h => h.elim
  | succ n ih =>
    intro x3 M H locs ls h hR hS hl
    refine lv_iload_n (pc := 2) hx hb xd_Mo_brings_2 rfl (lv_at hl 3 rfl) ?_
    refine lv_iload_n (pc := 3) hx hb xd_Mo_brings_3 rfl (lv_at hl 2 rfl) ?_
    refine lv_icmp_ge (pc := 4) (tgt := 27) hx hb xd_Mo_brings_4 (by decide) (fun hq => ?_) (fun hq => ?_)
    · have h := h.1 hq
      exact hk27 x3 M H locs ls h hR hS (lv_sub hl [0, 1, 2, 3] rfl)
    · have h := h.2 hq
      refine lv_aload_n (pc := 7) hx hb xd_Mo_brings_7 rfl (lv_at hl 1 rfl) ?_
      refine lv_iload_n (pc := 8) hx hb xd_Mo_brings_8 rfl (lv_at hl 3 rfl) ?_
      refine lv_aload_n (pc := 9) hx hb xd_Mo_brings_9 rfl (lv_at hl 0 rfl) ?_
      refine xr_get (pc := 10) (v := .ref (G.1 9 20)) hC hR xo_M0 xf_Mo_79 rfl xd_Mo_brings_10 ?_
      refine lv_aload_n (pc := 13) hx hb xd_Mo_brings_13 rfl (lv_at hl 0 rfl) ?_
      refine xr_get (pc := 14) (v := .int (M 9 0 29)) hC hR xo_M0 xf_Mo_202 rfl xd_Mo_brings_14 ?_
      refine lv_iload_n (pc := 17) hx hb xd_Mo_brings_17 rfl (lv_at hl 3 rfl) ?_
      refine lv_iadd (pc := 18) hx hb xd_Mo_brings_18 ?_
      obtain ⟨hq, h⟩ := h
      refine xr_iald (pc := 19) hC hR xo_M20 hq xd_Mo_brings_19 ?_
      obtain ⟨hq, h⟩ := h
      refine xr_iast (pc := 20) hC hR hS hla1 hq xd_Mo_brings_20 (fun H locs hR hS => ?_)
      refine lv_iinc (pc := 21) (v := (x3 + (1 : Int32))) (lv' := [(3, .int (x3 + (1 : Int32))), (0, .ref (G.1 9 0)), (1, .ref (G.1 ga1 ia1)), (2, .int x2)]) hx hb xd_Mo_brings_21 hl (k := 3) rfl rfl (by decide) rfl (fun ls hl => ?_)
      refine lv_goto (pc := 24) (tgt := 2) hx hb xd_Mo_brings_24 (by decide) ?_
      exact ih (x3 + (1 : Int32)) (us M ga1 ia1 x3.toNatClampNeg (M 9 20 ((M 9 0 29) + x3).toNatClampNeg)) H locs ls h hR hS (lv_sub hl [1, 2, 3, 0] rfl)
set_option maxHeartbeats 4000000 in
set_option maxRecDepth 100000 in
theorem xc_Mo_brings (l : Launch) (G : xG) {ga1 ia1 na1 : Nat} {a2 : Int32} (hla1 : xlay ga1 ia1 = some (.inr (na1, .inl false))) {M : xM} {post : xM → Prop} (h : xw_Mo_brings ga1 ia1 na1 a2 M post) : Met l y_Mo_brings (Cond.code y_Mo_brings b_Mo_brings 4 none :: xTG) rm_Mo_brings (xPre G M [.ref (G.1 9 0), .ref (G.1 ga1 ia1), .int a2]) (xPv G post) 0 0 (xA G) := by
  refine xMet (own := R_Mo) [.ref (G.1 9 0), .ref (G.1 ga1 ia1), .int a2] (Or.inl (by decide)) rfl (Nat.le_of_ble_eq_true rfl) (fun p e s m args below meth c ls hC hr hlk hR hS hl => ?_)
  have hx := hC.1
  have hb := hC.2.1
  have hl : lv_has ls 4 [(0, .ref (G.1 9 0)), (1, .ref (G.1 ga1 ia1)), (2, .int a2)] := hl
  obtain ⟨H, eH⟩ : ∃ H : Heap, H = s.heap := ⟨_, rfl⟩
  obtain ⟨locs, eL⟩ : ∃ locs : List Loc, locs = [] := ⟨_, rfl⟩
  rw [← eH] at hR
  replace hS : va_S (xA G) s.heap H locs := by rw [eH, eL]; exact hS
  suffices hh : W p l e rm_Mo_brings s m args below meth c H locs 0 0 (MQ below (xPv G post) args s 0 0 (xA G)) (F0 m 0 ls []) from by rw [eH, eL] at hh; exact hh
  unfold xw_Mo_brings at h
  refine lv_iconst (pc := 0) (v := (0 : Int32)) hx hb xd_Mo_brings_0 (by decide) ?_
  refine lv_istore_n (pc := 1) (lv' := [(3, .int (0 : Int32)), (0, .ref (G.1 9 0)), (1, .ref (G.1 ga1 ia1)), (2, .int a2)]) hx hb xd_Mo_brings_1 rfl hl (by decide) rfl (fun ls hl => ?_)
  obtain ⟨n, h⟩ := h
  refine xt_Mo_brings_2 hC hr hlk hla1 (fun y1 M2 H locs ls h hR hS hl => ?_) n (0 : Int32) M H locs ls h hR hS (lv_sub hl [1, 2, 3, 0] rfl)
  refine lv_aload_n (pc := 27) hx hb xd_Mo_brings_27 rfl (lv_at hl 0 rfl) ?_
  refine lv_dup (pc := 28) hx hb xd_Mo_brings_28 rfl ?_
  refine xr_get (pc := 29) (v := .int (M2 9 0 29)) hC hR xo_M0 xf_Mo_202 rfl xd_Mo_brings_29 ?_
  refine lv_iload_n (pc := 32) hx hb xd_Mo_brings_32 rfl (lv_at hl 2 rfl) ?_
  refine lv_iadd (pc := 33) hx hb xd_Mo_brings_33 ?_
  refine xr_put (pc := 34) hC hR hS xo_M0 xf_Mo_202 xp_10_29 rfl rfl rfl xd_Mo_brings_34 (fun H locs hR hS => ?_)
  exact xr_vret hC hr hlk hR hS h xd_Mo_brings_37

/-! ColoursApartModel.image(I)I -/
theorem xd_Mo_image_0 : decode b_Mo_image 0 = .ok (.iload_n 1, 1) := by decide +kernel
theorem xd_Mo_image_1 : decode b_Mo_image 1 = .ok (.iconst 0, 1) := by decide +kernel
theorem xd_Mo_image_2 : decode b_Mo_image 2 = .ok (.iconst 2, 1) := by decide +kernel
theorem xd_Mo_image_3 : decode b_Mo_image 3 = .ok (.invokestatic 85, 3) := by decide +kernel
theorem xd_Mo_image_6 : decode b_Mo_image 6 = .ok (.ifCond .ne 9, 3) := by decide +kernel
theorem xd_Mo_image_9 : decode b_Mo_image 9 = .ok (.aload_n 0, 1) := by decide +kernel
theorem xd_Mo_image_10 : decode b_Mo_image 10 = .ok (.iconst (-1), 1) := by decide +kernel
theorem xd_Mo_image_11 : decode b_Mo_image 11 = .ok (.invokevirtual 89, 3) := by decide +kernel
theorem xd_Mo_image_14 : decode b_Mo_image 14 = .ok (.ireturn, 1) := by decide +kernel
theorem xd_Mo_image_15 : decode b_Mo_image 15 = .ok (.aload_n 0, 1) := by decide +kernel
theorem xd_Mo_image_16 : decode b_Mo_image 16 = .ok (.getfield 76, 3) := by decide +kernel
theorem xd_Mo_image_19 : decode b_Mo_image 19 = .ok (.iload_n 1, 1) := by decide +kernel
theorem xd_Mo_image_20 : decode b_Mo_image 20 = .ok (.iconst 1, 1) := by decide +kernel
theorem xd_Mo_image_21 : decode b_Mo_image 21 = .ok (.bastore, 1) := by decide +kernel
theorem xd_Mo_image_22 : decode b_Mo_image 22 = .ok (.aload_n 0, 1) := by decide +kernel
theorem xd_Mo_image_23 : decode b_Mo_image 23 = .ok (.sipush 200, 3) := by decide +kernel
theorem xd_Mo_image_26 : decode b_Mo_image 26 = .ok (.iload_n 1, 1) := by decide +kernel
theorem xd_Mo_image_27 : decode b_Mo_image 27 = .ok (.imul, 1) := by decide +kernel
theorem xd_Mo_image_28 : decode b_Mo_image 28 = .ok (.putfield 202, 3) := by decide +kernel
theorem xd_Mo_image_31 : decode b_Mo_image 31 = .ok (.aload_n 0, 1) := by decide +kernel
theorem xd_Mo_image_32 : decode b_Mo_image 32 = .ok (.aload_n 0, 1) := by decide +kernel
theorem xd_Mo_image_33 : decode b_Mo_image 33 = .ok (.getfield 35, 3) := by decide +kernel
theorem xd_Mo_image_36 : decode b_Mo_image 36 = .ok (.bipush 12, 2) := by decide +kernel
theorem xd_Mo_image_38 : decode b_Mo_image 38 = .ok (.invokevirtual 205, 3) := by decide +kernel
theorem xd_Mo_image_41 : decode b_Mo_image 41 = .ok (.aload_n 0, 1) := by decide +kernel
theorem xd_Mo_image_42 : decode b_Mo_image 42 = .ok (.aload_n 0, 1) := by decide +kernel
theorem xd_Mo_image_43 : decode b_Mo_image 43 = .ok (.getfield 42, 3) := by decide +kernel
theorem xd_Mo_image_46 : decode b_Mo_image 46 = .ok (.bipush 12, 2) := by decide +kernel
theorem xd_Mo_image_48 : decode b_Mo_image 48 = .ok (.invokevirtual 205, 3) := by decide +kernel
theorem xd_Mo_image_51 : decode b_Mo_image 51 = .ok (.aload_n 0, 1) := by decide +kernel
theorem xd_Mo_image_52 : decode b_Mo_image 52 = .ok (.aload_n 0, 1) := by decide +kernel
theorem xd_Mo_image_53 : decode b_Mo_image 53 = .ok (.getfield 45, 3) := by decide +kernel
theorem xd_Mo_image_56 : decode b_Mo_image 56 = .ok (.bipush 8, 2) := by decide +kernel
theorem xd_Mo_image_58 : decode b_Mo_image 58 = .ok (.invokevirtual 205, 3) := by decide +kernel
theorem xd_Mo_image_61 : decode b_Mo_image 61 = .ok (.aload_n 0, 1) := by decide +kernel
theorem xd_Mo_image_62 : decode b_Mo_image 62 = .ok (.aload_n 0, 1) := by decide +kernel
theorem xd_Mo_image_63 : decode b_Mo_image 63 = .ok (.getfield 49, 3) := by decide +kernel
theorem xd_Mo_image_66 : decode b_Mo_image 66 = .ok (.bipush 8, 2) := by decide +kernel
theorem xd_Mo_image_68 : decode b_Mo_image 68 = .ok (.invokevirtual 205, 3) := by decide +kernel
theorem xd_Mo_image_71 : decode b_Mo_image 71 = .ok (.aload_n 0, 1) := by decide +kernel
theorem xd_Mo_image_72 : decode b_Mo_image 72 = .ok (.aload_n 0, 1) := by decide +kernel
theorem xd_Mo_image_73 : decode b_Mo_image 73 = .ok (.getfield 52, 3) := by decide +kernel
theorem xd_Mo_image_76 : decode b_Mo_image 76 = .ok (.bipush 20, 2) := by decide +kernel
theorem xd_Mo_image_78 : decode b_Mo_image 78 = .ok (.invokevirtual 205, 3) := by decide +kernel
theorem xd_Mo_image_81 : decode b_Mo_image 81 = .ok (.aload_n 0, 1) := by decide +kernel
theorem xd_Mo_image_82 : decode b_Mo_image 82 = .ok (.aload_n 0, 1) := by decide +kernel
theorem xd_Mo_image_83 : decode b_Mo_image 83 = .ok (.getfield 55, 3) := by decide +kernel
theorem xd_Mo_image_86 : decode b_Mo_image 86 = .ok (.bipush 20, 2) := by decide +kernel
theorem xd_Mo_image_88 : decode b_Mo_image 88 = .ok (.invokevirtual 205, 3) := by decide +kernel
theorem xd_Mo_image_91 : decode b_Mo_image 91 = .ok (.aload_n 0, 1) := by decide +kernel
theorem xd_Mo_image_92 : decode b_Mo_image 92 = .ok (.aload_n 0, 1) := by decide +kernel
theorem xd_Mo_image_93 : decode b_Mo_image 93 = .ok (.getfield 58, 3) := by decide +kernel
theorem xd_Mo_image_96 : decode b_Mo_image 96 = .ok (.bipush 20, 2) := by decide +kernel
theorem xd_Mo_image_98 : decode b_Mo_image 98 = .ok (.invokevirtual 205, 3) := by decide +kernel
theorem xd_Mo_image_101 : decode b_Mo_image 101 = .ok (.aload_n 0, 1) := by decide +kernel
theorem xd_Mo_image_102 : decode b_Mo_image 102 = .ok (.aload_n 0, 1) := by decide +kernel
theorem xd_Mo_image_103 : decode b_Mo_image 103 = .ok (.getfield 19, 3) := by decide +kernel
theorem xd_Mo_image_106 : decode b_Mo_image 106 = .ok (.bipush 27, 2) := by decide +kernel
theorem xd_Mo_image_108 : decode b_Mo_image 108 = .ok (.invokevirtual 205, 3) := by decide +kernel
theorem xd_Mo_image_111 : decode b_Mo_image 111 = .ok (.aload_n 0, 1) := by decide +kernel
theorem xd_Mo_image_112 : decode b_Mo_image 112 = .ok (.aload_n 0, 1) := by decide +kernel
theorem xd_Mo_image_113 : decode b_Mo_image 113 = .ok (.getfield 32, 3) := by decide +kernel
theorem xd_Mo_image_116 : decode b_Mo_image 116 = .ok (.iconst 3, 1) := by decide +kernel
theorem xd_Mo_image_117 : decode b_Mo_image 117 = .ok (.invokevirtual 205, 3) := by decide +kernel
theorem xd_Mo_image_120 : decode b_Mo_image 120 = .ok (.iconst 0, 1) := by decide +kernel
theorem xd_Mo_image_121 : decode b_Mo_image 121 = .ok (.istore_n 2, 1) := by decide +kernel
theorem xd_Mo_image_122 : decode b_Mo_image 122 = .ok (.iload_n 2, 1) := by decide +kernel
theorem xd_Mo_image_123 : decode b_Mo_image 123 = .ok (.bipush 12, 2) := by decide +kernel
theorem xd_Mo_image_125 : decode b_Mo_image 125 = .ok (.if_icmp .ge 34, 3) := by decide +kernel
theorem xd_Mo_image_128 : decode b_Mo_image 128 = .ok (.aload_n 0, 1) := by decide +kernel
theorem xd_Mo_image_129 : decode b_Mo_image 129 = .ok (.getfield 79, 3) := by decide +kernel
theorem xd_Mo_image_132 : decode b_Mo_image 132 = .ok (.aload_n 0, 1) := by decide +kernel
theorem xd_Mo_image_133 : decode b_Mo_image 133 = .ok (.getfield 202, 3) := by decide +kernel
theorem xd_Mo_image_136 : decode b_Mo_image 136 = .ok (.iload_n 2, 1) := by decide +kernel
theorem xd_Mo_image_137 : decode b_Mo_image 137 = .ok (.iadd, 1) := by decide +kernel
theorem xd_Mo_image_138 : decode b_Mo_image 138 = .ok (.aload_n 0, 1) := by decide +kernel
theorem xd_Mo_image_139 : decode b_Mo_image 139 = .ok (.getfield 38, 3) := by decide +kernel
theorem xd_Mo_image_142 : decode b_Mo_image 142 = .ok (.iload_n 2, 1) := by decide +kernel
theorem xd_Mo_image_143 : decode b_Mo_image 143 = .ok (.baload, 1) := by decide +kernel
theorem xd_Mo_image_144 : decode b_Mo_image 144 = .ok (.ifCond .eq 7, 3) := by decide +kernel
theorem xd_Mo_image_147 : decode b_Mo_image 147 = .ok (.iconst 1, 1) := by decide +kernel
theorem xd_Mo_image_148 : decode b_Mo_image 148 = .ok (.goto 4, 3) := by decide +kernel
theorem xd_Mo_image_151 : decode b_Mo_image 151 = .ok (.iconst 0, 1) := by decide +kernel
theorem xd_Mo_image_152 : decode b_Mo_image 152 = .ok (.iastore, 1) := by decide +kernel
theorem xd_Mo_image_153 : decode b_Mo_image 153 = .ok (.iinc 2 1, 3) := by decide +kernel
theorem xd_Mo_image_156 : decode b_Mo_image 156 = .ok (.goto (-34), 3) := by decide +kernel
theorem xd_Mo_image_159 : decode b_Mo_image 159 = .ok (.aload_n 0, 1) := by decide +kernel
theorem xd_Mo_image_160 : decode b_Mo_image 160 = .ok (.getfield 79, 3) := by decide +kernel
theorem xd_Mo_image_163 : decode b_Mo_image 163 = .ok (.aload_n 0, 1) := by decide +kernel
theorem xd_Mo_image_164 : decode b_Mo_image 164 = .ok (.getfield 202, 3) := by decide +kernel
theorem xd_Mo_image_167 : decode b_Mo_image 167 = .ok (.bipush 12, 2) := by decide +kernel
theorem xd_Mo_image_169 : decode b_Mo_image 169 = .ok (.iadd, 1) := by decide +kernel
theorem xd_Mo_image_170 : decode b_Mo_image 170 = .ok (.aload_n 0, 1) := by decide +kernel
theorem xd_Mo_image_171 : decode b_Mo_image 171 = .ok (.getfield 145, 3) := by decide +kernel
theorem xd_Mo_image_174 : decode b_Mo_image 174 = .ok (.iastore, 1) := by decide +kernel
theorem xd_Mo_image_175 : decode b_Mo_image 175 = .ok (.aload_n 0, 1) := by decide +kernel
theorem xd_Mo_image_176 : decode b_Mo_image 176 = .ok (.getfield 79, 3) := by decide +kernel
theorem xd_Mo_image_179 : decode b_Mo_image 179 = .ok (.aload_n 0, 1) := by decide +kernel
theorem xd_Mo_image_180 : decode b_Mo_image 180 = .ok (.getfield 202, 3) := by decide +kernel
theorem xd_Mo_image_183 : decode b_Mo_image 183 = .ok (.bipush 13, 2) := by decide +kernel
theorem xd_Mo_image_185 : decode b_Mo_image 185 = .ok (.iadd, 1) := by decide +kernel
theorem xd_Mo_image_186 : decode b_Mo_image 186 = .ok (.aload_n 0, 1) := by decide +kernel
theorem xd_Mo_image_187 : decode b_Mo_image 187 = .ok (.getfield 158, 3) := by decide +kernel
theorem xd_Mo_image_190 : decode b_Mo_image 190 = .ok (.iastore, 1) := by decide +kernel
theorem xd_Mo_image_191 : decode b_Mo_image 191 = .ok (.aload_n 0, 1) := by decide +kernel
theorem xd_Mo_image_192 : decode b_Mo_image 192 = .ok (.getfield 79, 3) := by decide +kernel
theorem xd_Mo_image_195 : decode b_Mo_image 195 = .ok (.aload_n 0, 1) := by decide +kernel
theorem xd_Mo_image_196 : decode b_Mo_image 196 = .ok (.getfield 202, 3) := by decide +kernel
theorem xd_Mo_image_199 : decode b_Mo_image 199 = .ok (.bipush 14, 2) := by decide +kernel
theorem xd_Mo_image_201 : decode b_Mo_image 201 = .ok (.iadd, 1) := by decide +kernel
theorem xd_Mo_image_202 : decode b_Mo_image 202 = .ok (.aload_n 0, 1) := by decide +kernel
theorem xd_Mo_image_203 : decode b_Mo_image 203 = .ok (.getfield 22, 3) := by decide +kernel
theorem xd_Mo_image_206 : decode b_Mo_image 206 = .ok (.iastore, 1) := by decide +kernel
theorem xd_Mo_image_207 : decode b_Mo_image 207 = .ok (.aload_n 0, 1) := by decide +kernel
theorem xd_Mo_image_208 : decode b_Mo_image 208 = .ok (.getfield 79, 3) := by decide +kernel
theorem xd_Mo_image_211 : decode b_Mo_image 211 = .ok (.aload_n 0, 1) := by decide +kernel
theorem xd_Mo_image_212 : decode b_Mo_image 212 = .ok (.getfield 202, 3) := by decide +kernel
theorem xd_Mo_image_215 : decode b_Mo_image 215 = .ok (.bipush 15, 2) := by decide +kernel
theorem xd_Mo_image_217 : decode b_Mo_image 217 = .ok (.iadd, 1) := by decide +kernel
theorem xd_Mo_image_218 : decode b_Mo_image 218 = .ok (.aload_n 0, 1) := by decide +kernel
theorem xd_Mo_image_219 : decode b_Mo_image 219 = .ok (.getfield 26, 3) := by decide +kernel
theorem xd_Mo_image_222 : decode b_Mo_image 222 = .ok (.iastore, 1) := by decide +kernel
theorem xd_Mo_image_223 : decode b_Mo_image 223 = .ok (.aload_n 0, 1) := by decide +kernel
theorem xd_Mo_image_224 : decode b_Mo_image 224 = .ok (.getfield 79, 3) := by decide +kernel
theorem xd_Mo_image_227 : decode b_Mo_image 227 = .ok (.aload_n 0, 1) := by decide +kernel
theorem xd_Mo_image_228 : decode b_Mo_image 228 = .ok (.getfield 202, 3) := by decide +kernel
theorem xd_Mo_image_231 : decode b_Mo_image 231 = .ok (.bipush 16, 2) := by decide +kernel
theorem xd_Mo_image_233 : decode b_Mo_image 233 = .ok (.iadd, 1) := by decide +kernel
theorem xd_Mo_image_234 : decode b_Mo_image 234 = .ok (.aload_n 0, 1) := by decide +kernel
theorem xd_Mo_image_235 : decode b_Mo_image 235 = .ok (.getfield 29, 3) := by decide +kernel
theorem xd_Mo_image_238 : decode b_Mo_image 238 = .ok (.iastore, 1) := by decide +kernel
theorem xd_Mo_image_239 : decode b_Mo_image 239 = .ok (.aload_n 0, 1) := by decide +kernel
theorem xd_Mo_image_240 : decode b_Mo_image 240 = .ok (.iconst 0, 1) := by decide +kernel
theorem xd_Mo_image_241 : decode b_Mo_image 241 = .ok (.invokevirtual 89, 3) := by decide +kernel
theorem xd_Mo_image_244 : decode b_Mo_image 244 = .ok (.ireturn, 1) := by decide +kernel
abbrev rm_Mo_image : Room := { frames := 1, cells := 0, slots := 0, locals := 23 }
def xw_Mo_image_122 (post : Int32 → xM → Prop) (k159 : Int32 → xM → Prop) : Nat → Int32 → xM → Prop
  | 0, _, _ => False
  | n122 + 1, x2, M => (((12 : Int32) ≤ x2) → (k159 x2 M)) ∧ ((¬ (12 : Int32) ≤ x2) → ((vp_in x2 12) ∧ ((((M 9 7 x2.toNatClampNeg) = 0) → ((vp_in ((M 9 0 29) + x2) 600) ∧ (xw_Mo_image_122 post k159 n122 (x2 + (1 : Int32)) (us M 9 20 ((M 9 0 29) + x2).toNatClampNeg (0 : Int32))))) ∧ ((¬ (M 9 7 x2.toNatClampNeg) = 0) → ((vp_in ((M 9 0 29) + x2) 600) ∧ (xw_Mo_image_122 post k159 n122 (x2 + (1 : Int32)) (us M 9 20 ((M 9 0 29) + x2).toNatClampNeg (1 : Int32))))))))
def xw_Mo_image (a1 : Int32) (M : xM) (post : Int32 → xM → Prop) : Prop :=
  xw_Mo_in a1 (0 : Int32) (2 : Int32) M (fun (r2 : Int32) (M1 : xM) => ((¬ r2 = 0) → ((vp_in a1 3) ∧ (xw_Mo_keeps 9 6 12 (12 : Int32) (us (us M1 9 19 a1.toNatClampNeg (1 : Int32)) 9 0 29 ((200 : Int32) * a1)) (fun (M3 : xM) => xw_Mo_keeps 9 8 12 (12 : Int32) M3 (fun (M4 : xM) => xw_Mo_keeps 9 9 8 (8 : Int32) M4 (fun (M5 : xM) => xw_Mo_keeps 9 10 8 (8 : Int32) M5 (fun (M6 : xM) => xw_Mo_keeps 9 11 20 (20 : Int32) M6 (fun (M7 : xM) => xw_Mo_keeps 9 12 20 (20 : Int32) M7 (fun (M8 : xM) => xw_Mo_keeps 9 13 20 (20 : Int32) M8 (fun (M9 : xM) => xw_Mo_keeps 9 4 27 (27 : Int32) M9 (fun (M10 : xM) => xw_Mo_keeps 9 5 3 (3 : Int32) M10 (fun (M11 : xM) => ∃ n122 : Nat, xw_Mo_image_122 post (fun (y12 : Int32) (M13 : xM) => (vp_in ((M13 9 0 29) + (12 : Int32)) 600) ∧ ((vp_in (((us M13 9 20 ((M13 9 0 29) + (12 : Int32)).toNatClampNeg (M13 9 0 9)) 9 0 29) + (13 : Int32)) 600) ∧ ((vp_in (((us (us M13 9 20 ((M13 9 0 29) + (12 : Int32)).toNatClampNeg (M13 9 0 9)) 9 20 (((us M13 9 20 ((M13 9 0 29) + (12 : Int32)).toNatClampNeg (M13 9 0 9)) 9 0 29) + (13 : Int32)).toNatClampNeg ((us M13 9 20 ((M13 9 0 29) + (12 : Int32)).toNatClampNeg (M13 9 0 9)) 9 0 10)) 9 0 29) + (14 : Int32)) 600) ∧ ((vp_in (((us (us (us M13 9 20 ((M13 9 0 29) + (12 : Int32)).toNatClampNeg (M13 9 0 9)) 9 20 (((us M13 9 20 ((M13 9 0 29) + (12 : Int32)).toNatClampNeg (M13 9 0 9)) 9 0 29) + (13 : Int32)).toNatClampNeg ((us M13 9 20 ((M13 9 0 29) + (12 : Int32)).toNatClampNeg (M13 9 0 9)) 9 0 10)) 9 20 (((us (us M13 9 20 ((M13 9 0 29) + (12 : Int32)).toNatClampNeg (M13 9 0 9)) 9 20 (((us M13 9 20 ((M13 9 0 29) + (12 : Int32)).toNatClampNeg (M13 9 0 9)) 9 0 29) + (13 : Int32)).toNatClampNeg ((us M13 9 20 ((M13 9 0 29) + (12 : Int32)).toNatClampNeg (M13 9 0 9)) 9 0 10)) 9 0 29) + (14 : Int32)).toNatClampNeg ((us (us M13 9 20 ((M13 9 0 29) + (12 : Int32)).toNatClampNeg (M13 9 0 9)) 9 20 (((us M13 9 20 ((M13 9 0 29) + (12 : Int32)).toNatClampNeg (M13 9 0 9)) 9 0 29) + (13 : Int32)).toNatClampNeg ((us M13 9 20 ((M13 9 0 29) + (12 : Int32)).toNatClampNeg (M13 9 0 9)) 9 0 10)) 9 0 5)) 9 0 29) + (15 : Int32)) 600) ∧ ((vp_in (((us (us (us (us M13 9 20 ((M13 9 0 29) + (12 : Int32)).toNatClampNeg (M13 9 0 9)) 9 20 (((us M13 9 20 ((M13 9 0 29) + (12 : Int32)).toNatClampNeg (M13 9 0 9)) 9 0 29) + (13 : Int32)).toNatClampNeg ((us M13 9 20 ((M13 9 0 29) + (12 : Int32)).toNatClampNeg (M13 9 0 9)) 9 0 10)) 9 20 (((us (us M13 9 20 ((M13 9 0 29) + (12 : Int32)).toNatClampNeg (M13 9 0 9)) 9 20 (((us M13 9 20 ((M13 9 0 29) + (12 : Int32)).toNatClampNeg (M13 9 0 9)) 9 0 29) + (13 : Int32)).toNatClampNeg ((us M13 9 20 ((M13 9 0 29) + (12 : Int32)).toNatClampNeg (M13 9 0 9)) 9 0 10)) 9 0 29) + (14 : Int32)).toNatClampNeg ((us (us M13 9 20 ((M13 9 0 29) + (12 : Int32)).toNatClampNeg (M13 9 0 9)) 9 20 (((us M13 9 20 ((M13 9 0 29) + (12 : Int32)).toNatClampNeg (M13 9 0 9)) 9 0 29) + (13 : Int32)).toNatClampNeg ((us M13 9 20 ((M13 9 0 29) + (12 : Int32)).toNatClampNeg (M13 9 0 9)) 9 0 10)) 9 0 5)) 9 20 (((us (us (us M13 9 20 ((M13 9 0 29) + (12 : Int32)).toNatClampNeg (M13 9 0 9)) 9 20 (((us M13 9 20 ((M13 9 0 29) + (12 : Int32)).toNatClampNeg (M13 9 0 9)) 9 0 29) + (13 : Int32)).toNatClampNeg ((us M13 9 20 ((M13 9 0 29) + (12 : Int32)).toNatClampNeg (M13 9 0 9)) 9 0 10)) 9 20 (((us (us M13 9 20 ((M13 9 0 29) + (12 : Int32)).toNatClampNeg (M13 9 0 9)) 9 20 (((us M13 9 20 ((M13 9 0 29) + (12 : Int32)).toNatClampNeg (M13 9 0 9)) 9 0 29) + (13 : Int32)).toNatClampNeg ((us M13 9 20 ((M13 9 0 29) + (12 : Int32)).toNatClampNeg (M13 9 0 9)) 9 0 10)) 9 0 29) + (14 : Int32)).toNatClampNeg ((us (us M13 9 20 ((M13 9 0 29) + (12 : Int32)).toNatClampNeg (M13 9 0 9)) 9 20 (((us M13 9 20 ((M13 9 0 29) + (12 : Int32)).toNatClampNeg (M13 9 0 9)) 9 0 29) + (13 : Int32)).toNatClampNeg ((us M13 9 20 ((M13 9 0 29) + (12 : Int32)).toNatClampNeg (M13 9 0 9)) 9 0 10)) 9 0 5)) 9 0 29) + (15 : Int32)).toNatClampNeg ((us (us (us M13 9 20 ((M13 9 0 29) + (12 : Int32)).toNatClampNeg (M13 9 0 9)) 9 20 (((us M13 9 20 ((M13 9 0 29) + (12 : Int32)).toNatClampNeg (M13 9 0 9)) 9 0 29) + (13 : Int32)).toNatClampNeg ((us M13 9 20 ((M13 9 0 29) + (12 : Int32)).toNatClampNeg (M13 9 0 9)) 9 0 10)) 9 20 (((us (us M13 9 20 ((M13 9 0 29) + (12 : Int32)).toNatClampNeg (M13 9 0 9)) 9 20 (((us M13 9 20 ((M13 9 0 29) + (12 : Int32)).toNatClampNeg (M13 9 0 9)) 9 0 29) + (13 : Int32)).toNatClampNeg ((us M13 9 20 ((M13 9 0 29) + (12 : Int32)).toNatClampNeg (M13 9 0 9)) 9 0 10)) 9 0 29) + (14 : Int32)).toNatClampNeg ((us (us M13 9 20 ((M13 9 0 29) + (12 : Int32)).toNatClampNeg (M13 9 0 9)) 9 20 (((us M13 9 20 ((M13 9 0 29) + (12 : Int32)).toNatClampNeg (M13 9 0 9)) 9 0 29) + (13 : Int32)).toNatClampNeg ((us M13 9 20 ((M13 9 0 29) + (12 : Int32)).toNatClampNeg (M13 9 0 9)) 9 0 10)) 9 0 5)) 9 0 6)) 9 0 29) + (16 : Int32)) 600) ∧ (xw_Mo_ends (0 : Int32) (us (us (us (us (us M13 9 20 ((M13 9 0 29) + (12 : Int32)).toNatClampNeg (M13 9 0 9)) 9 20 (((us M13 9 20 ((M13 9 0 29) + (12 : Int32)).toNatClampNeg (M13 9 0 9)) 9 0 29) + (13 : Int32)).toNatClampNeg ((us M13 9 20 ((M13 9 0 29) + (12 : Int32)).toNatClampNeg (M13 9 0 9)) 9 0 10)) 9 20 (((us (us M13 9 20 ((M13 9 0 29) + (12 : Int32)).toNatClampNeg (M13 9 0 9)) 9 20 (((us M13 9 20 ((M13 9 0 29) + (12 : Int32)).toNatClampNeg (M13 9 0 9)) 9 0 29) + (13 : Int32)).toNatClampNeg ((us M13 9 20 ((M13 9 0 29) + (12 : Int32)).toNatClampNeg (M13 9 0 9)) 9 0 10)) 9 0 29) + (14 : Int32)).toNatClampNeg ((us (us M13 9 20 ((M13 9 0 29) + (12 : Int32)).toNatClampNeg (M13 9 0 9)) 9 20 (((us M13 9 20 ((M13 9 0 29) + (12 : Int32)).toNatClampNeg (M13 9 0 9)) 9 0 29) + (13 : Int32)).toNatClampNeg ((us M13 9 20 ((M13 9 0 29) + (12 : Int32)).toNatClampNeg (M13 9 0 9)) 9 0 10)) 9 0 5)) 9 20 (((us (us (us M13 9 20 ((M13 9 0 29) + (12 : Int32)).toNatClampNeg (M13 9 0 9)) 9 20 (((us M13 9 20 ((M13 9 0 29) + (12 : Int32)).toNatClampNeg (M13 9 0 9)) 9 0 29) + (13 : Int32)).toNatClampNeg ((us M13 9 20 ((M13 9 0 29) + (12 : Int32)).toNatClampNeg (M13 9 0 9)) 9 0 10)) 9 20 (((us (us M13 9 20 ((M13 9 0 29) + (12 : Int32)).toNatClampNeg (M13 9 0 9)) 9 20 (((us M13 9 20 ((M13 9 0 29) + (12 : Int32)).toNatClampNeg (M13 9 0 9)) 9 0 29) + (13 : Int32)).toNatClampNeg ((us M13 9 20 ((M13 9 0 29) + (12 : Int32)).toNatClampNeg (M13 9 0 9)) 9 0 10)) 9 0 29) + (14 : Int32)).toNatClampNeg ((us (us M13 9 20 ((M13 9 0 29) + (12 : Int32)).toNatClampNeg (M13 9 0 9)) 9 20 (((us M13 9 20 ((M13 9 0 29) + (12 : Int32)).toNatClampNeg (M13 9 0 9)) 9 0 29) + (13 : Int32)).toNatClampNeg ((us M13 9 20 ((M13 9 0 29) + (12 : Int32)).toNatClampNeg (M13 9 0 9)) 9 0 10)) 9 0 5)) 9 0 29) + (15 : Int32)).toNatClampNeg ((us (us (us M13 9 20 ((M13 9 0 29) + (12 : Int32)).toNatClampNeg (M13 9 0 9)) 9 20 (((us M13 9 20 ((M13 9 0 29) + (12 : Int32)).toNatClampNeg (M13 9 0 9)) 9 0 29) + (13 : Int32)).toNatClampNeg ((us M13 9 20 ((M13 9 0 29) + (12 : Int32)).toNatClampNeg (M13 9 0 9)) 9 0 10)) 9 20 (((us (us M13 9 20 ((M13 9 0 29) + (12 : Int32)).toNatClampNeg (M13 9 0 9)) 9 20 (((us M13 9 20 ((M13 9 0 29) + (12 : Int32)).toNatClampNeg (M13 9 0 9)) 9 0 29) + (13 : Int32)).toNatClampNeg ((us M13 9 20 ((M13 9 0 29) + (12 : Int32)).toNatClampNeg (M13 9 0 9)) 9 0 10)) 9 0 29) + (14 : Int32)).toNatClampNeg ((us (us M13 9 20 ((M13 9 0 29) + (12 : Int32)).toNatClampNeg (M13 9 0 9)) 9 20 (((us M13 9 20 ((M13 9 0 29) + (12 : Int32)).toNatClampNeg (M13 9 0 9)) 9 0 29) + (13 : Int32)).toNatClampNeg ((us M13 9 20 ((M13 9 0 29) + (12 : Int32)).toNatClampNeg (M13 9 0 9)) 9 0 10)) 9 0 5)) 9 0 6)) 9 20 (((us (us (us (us M13 9 20 ((M13 9 0 29) + (12 : Int32)).toNatClampNeg (M13 9 0 9)) 9 20 (((us M13 9 20 ((M13 9 0 29) + (12 : Int32)).toNatClampNeg (M13 9 0 9)) 9 0 29) + (13 : Int32)).toNatClampNeg ((us M13 9 20 ((M13 9 0 29) + (12 : Int32)).toNatClampNeg (M13 9 0 9)) 9 0 10)) 9 20 (((us (us M13 9 20 ((M13 9 0 29) + (12 : Int32)).toNatClampNeg (M13 9 0 9)) 9 20 (((us M13 9 20 ((M13 9 0 29) + (12 : Int32)).toNatClampNeg (M13 9 0 9)) 9 0 29) + (13 : Int32)).toNatClampNeg ((us M13 9 20 ((M13 9 0 29) + (12 : Int32)).toNatClampNeg (M13 9 0 9)) 9 0 10)) 9 0 29) + (14 : Int32)).toNatClampNeg ((us (us M13 9 20 ((M13 9 0 29) + (12 : Int32)).toNatClampNeg (M13 9 0 9)) 9 20 (((us M13 9 20 ((M13 9 0 29) + (12 : Int32)).toNatClampNeg (M13 9 0 9)) 9 0 29) + (13 : Int32)).toNatClampNeg ((us M13 9 20 ((M13 9 0 29) + (12 : Int32)).toNatClampNeg (M13 9 0 9)) 9 0 10)) 9 0 5)) 9 20 (((us (us (us M13 9 20 ((M13 9 0 29) + (12 : Int32)).toNatClampNeg (M13 9 0 9)) 9 20 (((us M13 9 20 ((M13 9 0 29) + (12 : Int32)).toNatClampNeg (M13 9 0 9)) 9 0 29) + (13 : Int32)).toNatClampNeg ((us M13 9 20 ((M13 9 0 29) + (12 : Int32)).toNatClampNeg (M13 9 0 9)) 9 0 10)) 9 20 (((us (us M13 9 20 ((M13 9 0 29) + (12 : Int32)).toNatClampNeg (M13 9 0 9)) 9 20 (((us M13 9 20 ((M13 9 0 29) + (12 : Int32)).toNatClampNeg (M13 9 0 9)) 9 0 29) + (13 : Int32)).toNatClampNeg ((us M13 9 20 ((M13 9 0 29) + (12 : Int32)).toNatClampNeg (M13 9 0 9)) 9 0 10)) 9 0 29) + (14 : Int32)).toNatClampNeg ((us (us M13 9 20 ((M13 9 0 29) + (12 : Int32)).toNatClampNeg (M13 9 0 9)) 9 20 (((us M13 9 20 ((M13 9 0 29) + (12 : Int32)).toNatClampNeg (M13 9 0 9)) 9 0 29) + (13 : Int32)).toNatClampNeg ((us M13 9 20 ((M13 9 0 29) + (12 : Int32)).toNatClampNeg (M13 9 0 9)) 9 0 10)) 9 0 5)) 9 0 29) + (15 : Int32)).toNatClampNeg ((us (us (us M13 9 20 ((M13 9 0 29) + (12 : Int32)).toNatClampNeg (M13 9 0 9)) 9 20 (((us M13 9 20 ((M13 9 0 29) + (12 : Int32)).toNatClampNeg (M13 9 0 9)) 9 0 29) + (13 : Int32)).toNatClampNeg ((us M13 9 20 ((M13 9 0 29) + (12 : Int32)).toNatClampNeg (M13 9 0 9)) 9 0 10)) 9 20 (((us (us M13 9 20 ((M13 9 0 29) + (12 : Int32)).toNatClampNeg (M13 9 0 9)) 9 20 (((us M13 9 20 ((M13 9 0 29) + (12 : Int32)).toNatClampNeg (M13 9 0 9)) 9 0 29) + (13 : Int32)).toNatClampNeg ((us M13 9 20 ((M13 9 0 29) + (12 : Int32)).toNatClampNeg (M13 9 0 9)) 9 0 10)) 9 0 29) + (14 : Int32)).toNatClampNeg ((us (us M13 9 20 ((M13 9 0 29) + (12 : Int32)).toNatClampNeg (M13 9 0 9)) 9 20 (((us M13 9 20 ((M13 9 0 29) + (12 : Int32)).toNatClampNeg (M13 9 0 9)) 9 0 29) + (13 : Int32)).toNatClampNeg ((us M13 9 20 ((M13 9 0 29) + (12 : Int32)).toNatClampNeg (M13 9 0 9)) 9 0 10)) 9 0 5)) 9 0 6)) 9 0 29) + (16 : Int32)).toNatClampNeg ((us (us (us (us M13 9 20 ((M13 9 0 29) + (12 : Int32)).toNatClampNeg (M13 9 0 9)) 9 20 (((us M13 9 20 ((M13 9 0 29) + (12 : Int32)).toNatClampNeg (M13 9 0 9)) 9 0 29) + (13 : Int32)).toNatClampNeg ((us M13 9 20 ((M13 9 0 29) + (12 : Int32)).toNatClampNeg (M13 9 0 9)) 9 0 10)) 9 20 (((us (us M13 9 20 ((M13 9 0 29) + (12 : Int32)).toNatClampNeg (M13 9 0 9)) 9 20 (((us M13 9 20 ((M13 9 0 29) + (12 : Int32)).toNatClampNeg (M13 9 0 9)) 9 0 29) + (13 : Int32)).toNatClampNeg ((us M13 9 20 ((M13 9 0 29) + (12 : Int32)).toNatClampNeg (M13 9 0 9)) 9 0 10)) 9 0 29) + (14 : Int32)).toNatClampNeg ((us (us M13 9 20 ((M13 9 0 29) + (12 : Int32)).toNatClampNeg (M13 9 0 9)) 9 20 (((us M13 9 20 ((M13 9 0 29) + (12 : Int32)).toNatClampNeg (M13 9 0 9)) 9 0 29) + (13 : Int32)).toNatClampNeg ((us M13 9 20 ((M13 9 0 29) + (12 : Int32)).toNatClampNeg (M13 9 0 9)) 9 0 10)) 9 0 5)) 9 20 (((us (us (us M13 9 20 ((M13 9 0 29) + (12 : Int32)).toNatClampNeg (M13 9 0 9)) 9 20 (((us M13 9 20 ((M13 9 0 29) + (12 : Int32)).toNatClampNeg (M13 9 0 9)) 9 0 29) + (13 : Int32)).toNatClampNeg ((us M13 9 20 ((M13 9 0 29) + (12 : Int32)).toNatClampNeg (M13 9 0 9)) 9 0 10)) 9 20 (((us (us M13 9 20 ((M13 9 0 29) + (12 : Int32)).toNatClampNeg (M13 9 0 9)) 9 20 (((us M13 9 20 ((M13 9 0 29) + (12 : Int32)).toNatClampNeg (M13 9 0 9)) 9 0 29) + (13 : Int32)).toNatClampNeg ((us M13 9 20 ((M13 9 0 29) + (12 : Int32)).toNatClampNeg (M13 9 0 9)) 9 0 10)) 9 0 29) + (14 : Int32)).toNatClampNeg ((us (us M13 9 20 ((M13 9 0 29) + (12 : Int32)).toNatClampNeg (M13 9 0 9)) 9 20 (((us M13 9 20 ((M13 9 0 29) + (12 : Int32)).toNatClampNeg (M13 9 0 9)) 9 0 29) + (13 : Int32)).toNatClampNeg ((us M13 9 20 ((M13 9 0 29) + (12 : Int32)).toNatClampNeg (M13 9 0 9)) 9 0 10)) 9 0 5)) 9 0 29) + (15 : Int32)).toNatClampNeg ((us (us (us M13 9 20 ((M13 9 0 29) + (12 : Int32)).toNatClampNeg (M13 9 0 9)) 9 20 (((us M13 9 20 ((M13 9 0 29) + (12 : Int32)).toNatClampNeg (M13 9 0 9)) 9 0 29) + (13 : Int32)).toNatClampNeg ((us M13 9 20 ((M13 9 0 29) + (12 : Int32)).toNatClampNeg (M13 9 0 9)) 9 0 10)) 9 20 (((us (us M13 9 20 ((M13 9 0 29) + (12 : Int32)).toNatClampNeg (M13 9 0 9)) 9 20 (((us M13 9 20 ((M13 9 0 29) + (12 : Int32)).toNatClampNeg (M13 9 0 9)) 9 0 29) + (13 : Int32)).toNatClampNeg ((us M13 9 20 ((M13 9 0 29) + (12 : Int32)).toNatClampNeg (M13 9 0 9)) 9 0 10)) 9 0 29) + (14 : Int32)).toNatClampNeg ((us (us M13 9 20 ((M13 9 0 29) + (12 : Int32)).toNatClampNeg (M13 9 0 9)) 9 20 (((us M13 9 20 ((M13 9 0 29) + (12 : Int32)).toNatClampNeg (M13 9 0 9)) 9 0 29) + (13 : Int32)).toNatClampNeg ((us M13 9 20 ((M13 9 0 29) + (12 : Int32)).toNatClampNeg (M13 9 0 9)) 9 0 10)) 9 0 5)) 9 0 6)) 9 0 7)) (fun (r15 : Int32) (M14 : xM) => post r15 M14))))))) n122 (0 : Int32) M11)))))))))))) ∧ ((r2 = 0) → (xw_Mo_ends (-1 : Int32) M1 (fun (r17 : Int32) (M16 : xM) => post r17 M16))))
set_option maxHeartbeats 4000000 in
set_option maxRecDepth 100000 in
theorem xt_Mo_image_122 {p : Program} {l : Launch} {e : Env} {s : State} {m : MethodId} {args : Array Value} {below : List Frame} {meth : Method} {c : Code} {G : xG} (hC : xC p s m args c b_Mo_image R_Mo 3 G) (hr : meth.sig.returnType = (some .int)) (hlk : meth.locks = false)  {post : Int32 → xM → Prop} {k159 : Int32 → xM → Prop} (hk159 : ∀ (x2 : Int32) (M : xM) (H : Heap) (locs : List Loc) (ls : Array Slot), k159 x2 M → xRp G M H → va_S (xA G) s.heap H locs → lv_has ls 3 [(0, .ref (G.1 9 0)), (2, .int x2)] → W p l e rm_Mo_image s m args below meth c H locs 0 0 (MQ below (xPi G post) args s 0 0 (xA G)) (F0 m 159 ls [])) : ∀ (n : Nat) (x2 : Int32) (M : xM) (H : Heap) (locs : List Loc) (ls : Array Slot), xw_Mo_image_122 post k159 n x2 M → xRp G M H → va_S (xA G) s.heap H locs → lv_has ls 3 [(0, .ref (G.1 9 0)), (2, .int x2)] → W p l e rm_Mo_image s m args below meth c H locs 0 0 (MQ below (xPi G post) args s 0 0 (xA G)) (F0 m 122 ls []) := by
  have hx := hC.1
  have hb := hC.2.1
  intro n
  induction n with
  | zero => intro x2 M H locs ls; exact fun h => h.elim
  | succ n ih =>
    intro x2 M H locs ls h hR hS hl
    refine lv_iload_n (pc := 122) hx hb xd_Mo_image_122 rfl (lv_at hl 1 rfl) ?_
    refine lv_bipush (pc := 123) (v := (12 : Int32)) hx hb xd_Mo_image_123 (by decide) ?_
    refine lv_icmp_ge (pc := 125) (tgt := 159) hx hb xd_Mo_image_125 (by decide) (fun hq => ?_) (fun hq => ?_)
    · have h := h.1 hq
      exact hk159 x2 M H locs ls h hR hS (lv_sub hl [0, 1] rfl)
    · have h := h.2 hq
      refine lv_aload_n (pc := 128) hx hb xd_Mo_image_128 rfl (lv_at hl 0 rfl) ?_
      refine xr_get (pc := 129) (v := .ref (G.1 9 20)) hC hR xo_M0 xf_Mo_79 rfl xd_Mo_image_129 ?_
      refine lv_aload_n (pc := 132) hx hb xd_Mo_image_132 rfl (lv_at hl 0 rfl) ?_
      refine xr_get (pc := 133) (v := .int (M 9 0 29)) hC hR xo_M0 xf_Mo_202 rfl xd_Mo_image_133 ?_
      refine lv_iload_n (pc := 136) hx hb xd_Mo_image_136 rfl (lv_at hl 1 rfl) ?_
      refine lv_iadd (pc := 137) hx hb xd_Mo_image_137 ?_
      refine lv_aload_n (pc := 138) hx hb xd_Mo_image_138 rfl (lv_at hl 0 rfl) ?_
      refine xr_get (pc := 139) (v := .ref (G.1 9 7)) hC hR xo_M0 xf_Mo_38 rfl xd_Mo_image_139 ?_
      refine lv_iload_n (pc := 142) hx hb xd_Mo_image_142 rfl (lv_at hl 1 rfl) ?_
      obtain ⟨hq, h⟩ := h
      refine xr_zald (pc := 143) hC hR xo_M7 hq xd_Mo_image_143 ?_
      refine lv_if_eq (pc := 144) (tgt := 151) hx hb xd_Mo_image_144 (by decide) (fun hq => ?_) (fun hq => ?_)
      · have h := h.1 hq
        refine lv_iconst (pc := 151) (v := (0 : Int32)) hx hb xd_Mo_image_151 (by decide) ?_
        obtain ⟨hq, h⟩ := h
        refine xr_iast (pc := 152) hC hR hS xo_M20 hq xd_Mo_image_152 (fun H locs hR hS => ?_)
        refine lv_iinc (pc := 153) (v := (x2 + (1 : Int32))) (lv' := [(2, .int (x2 + (1 : Int32))), (0, .ref (G.1 9 0))]) hx hb xd_Mo_image_153 hl (k := 1) rfl rfl (by decide) rfl (fun ls hl => ?_)
        refine lv_goto (pc := 156) (tgt := 122) hx hb xd_Mo_image_156 (by decide) ?_
        exact ih (x2 + (1 : Int32)) (us M 9 20 ((M 9 0 29) + x2).toNatClampNeg (0 : Int32)) H locs ls h hR hS (lv_sub hl [1, 0] rfl)
      · have h := h.2 hq
        refine lv_iconst (pc := 147) (v := (1 : Int32)) hx hb xd_Mo_image_147 (by decide) ?_
        refine lv_goto (pc := 148) (tgt := 152) hx hb xd_Mo_image_148 (by decide) ?_
        obtain ⟨hq, h⟩ := h
        refine xr_iast (pc := 152) hC hR hS xo_M20 hq xd_Mo_image_152 (fun H locs hR hS => ?_)
        refine lv_iinc (pc := 153) (v := (x2 + (1 : Int32))) (lv' := [(2, .int (x2 + (1 : Int32))), (0, .ref (G.1 9 0))]) hx hb xd_Mo_image_153 hl (k := 1) rfl rfl (by decide) rfl (fun ls hl => ?_)
        refine lv_goto (pc := 156) (tgt := 122) hx hb xd_Mo_image_156 (by decide) ?_
        exact ih (x2 + (1 : Int32)) (us M 9 20 ((M 9 0 29) + x2).toNatClampNeg (1 : Int32)) H locs ls h hR hS (lv_sub hl [1, 0] rfl)
set_option maxHeartbeats 4000000 in
set_option maxRecDepth 100000 in
theorem xc_Mo_image (l : Launch) (G : xG) {a1 : Int32}  {M : xM} {post : Int32 → xM → Prop} (h : xw_Mo_image a1 M post) : Met l y_Mo_image (Cond.code y_Mo_image b_Mo_image 3 (some .int) :: xTG) rm_Mo_image (xPre G M [.ref (G.1 9 0), .int a1]) (xPi G post) 0 0 (xA G) := by
  refine xMet (own := R_Mo) [.ref (G.1 9 0), .int a1] (Or.inl (by decide)) rfl (Nat.le_of_ble_eq_true rfl) (fun p e s m args below meth c ls hC hr hlk hR hS hl => ?_)
  have hx := hC.1
  have hb := hC.2.1
  have hl : lv_has ls 3 [(0, .ref (G.1 9 0)), (1, .int a1)] := hl
  obtain ⟨H, eH⟩ : ∃ H : Heap, H = s.heap := ⟨_, rfl⟩
  obtain ⟨locs, eL⟩ : ∃ locs : List Loc, locs = [] := ⟨_, rfl⟩
  rw [← eH] at hR
  replace hS : va_S (xA G) s.heap H locs := by rw [eH, eL]; exact hS
  suffices hh : W p l e rm_Mo_image s m args below meth c H locs 0 0 (MQ below (xPi G post) args s 0 0 (xA G)) (F0 m 0 ls []) from by rw [eH, eL] at hh; exact hh
  unfold xw_Mo_image at h
  refine lv_iload_n (pc := 0) hx hb xd_Mo_image_0 rfl (lv_at hl 1 rfl) ?_
  refine lv_iconst (pc := 1) (v := (0 : Int32)) hx hb xd_Mo_image_1 (by decide) ?_
  refine lv_iconst (pc := 2) (v := (2 : Int32)) hx hb xd_Mo_image_2 (by decide) ?_
  refine xr_callS (pc := 3) (As := [.int a1, .int (0 : Int32), .int (2 : Int32)]) (rest := []) hC hR hS (xc_Mo_in l G  h) xv_Mo_85 ⟨rfl, rfl, Nat.le_of_ble_eq_true rfl, Nat.le_of_ble_eq_true rfl⟩ rfl hl.1 rfl (Nat.le_of_ble_eq_true rfl) xd_Mo_image_3 (fun r2 M1 H locs h hR hS => ?_)
  refine lv_if_ne (pc := 6) (tgt := 15) hx hb xd_Mo_image_6 (by decide) (fun hq => ?_) (fun hq => ?_)
  · have h := h.1 hq
    refine lv_aload_n (pc := 15) hx hb xd_Mo_image_15 rfl (lv_at hl 0 rfl) ?_
    refine xr_get (pc := 16) (v := .ref (G.1 9 19)) hC hR xo_M0 xf_Mo_76 rfl xd_Mo_image_16 ?_
    refine lv_iload_n (pc := 19) hx hb xd_Mo_image_19 rfl (lv_at hl 1 rfl) ?_
    refine lv_iconst (pc := 20) (v := (1 : Int32)) hx hb xd_Mo_image_20 (by decide) ?_
    obtain ⟨hq, h⟩ := h
    refine xr_zast (pc := 21) hC hR hS xo_M19 hq (by decide) xd_Mo_image_21 (fun H locs hR hS => ?_)
    refine lv_aload_n (pc := 22) hx hb xd_Mo_image_22 rfl (lv_at hl 0 rfl) ?_
    refine lv_sipush (pc := 23) (v := (200 : Int32)) hx hb xd_Mo_image_23 (by decide) ?_
    refine lv_iload_n (pc := 26) hx hb xd_Mo_image_26 rfl (lv_at hl 1 rfl) ?_
    refine lv_imul (pc := 27) hx hb xd_Mo_image_27 ?_
    refine xr_put (pc := 28) hC hR hS xo_M0 xf_Mo_202 xp_10_29 rfl rfl rfl xd_Mo_image_28 (fun H locs hR hS => ?_)
    refine lv_aload_n (pc := 31) hx hb xd_Mo_image_31 rfl (lv_at hl 0 rfl) ?_
    refine lv_aload_n (pc := 32) hx hb xd_Mo_image_32 rfl (lv_at hl 0 rfl) ?_
    refine xr_get (pc := 33) (v := .ref (G.1 9 6)) hC hR xo_M0 xf_Mo_35 rfl xd_Mo_image_33 ?_
    refine lv_bipush (pc := 36) (v := (12 : Int32)) hx hb xd_Mo_image_36 (by decide) ?_
    refine xr_callVv (pc := 38) (As := [.ref (G.1 9 6), .int (12 : Int32)]) (rest := []) hC hR hS (xc_Mo_keeps l G xo_M6 h) xo_M0 xv_Mo_205 ⟨rfl, rfl, Nat.le_of_ble_eq_true rfl, Nat.le_of_ble_eq_true rfl⟩ rfl hl.1 rfl (Nat.le_of_ble_eq_true rfl) xd_Mo_image_38 (fun M3 H locs h hR hS => ?_)
    refine lv_aload_n (pc := 41) hx hb xd_Mo_image_41 rfl (lv_at hl 0 rfl) ?_
    refine lv_aload_n (pc := 42) hx hb xd_Mo_image_42 rfl (lv_at hl 0 rfl) ?_
    refine xr_get (pc := 43) (v := .ref (G.1 9 8)) hC hR xo_M0 xf_Mo_42 rfl xd_Mo_image_43 ?_
    refine lv_bipush (pc := 46) (v := (12 : Int32)) hx hb xd_Mo_image_46 (by decide) ?_
    refine xr_callVv (pc := 48) (As := [.ref (G.1 9 8), .int (12 : Int32)]) (rest := []) hC hR hS (xc_Mo_keeps l G xo_M8 h) xo_M0 xv_Mo_205 ⟨rfl, rfl, Nat.le_of_ble_eq_true rfl, Nat.le_of_ble_eq_true rfl⟩ rfl hl.1 rfl (Nat.le_of_ble_eq_true rfl) xd_Mo_image_48 (fun M4 H locs h hR hS => ?_)
    refine lv_aload_n (pc := 51) hx hb xd_Mo_image_51 rfl (lv_at hl 0 rfl) ?_
    refine lv_aload_n (pc := 52) hx hb xd_Mo_image_52 rfl (lv_at hl 0 rfl) ?_
    refine xr_get (pc := 53) (v := .ref (G.1 9 9)) hC hR xo_M0 xf_Mo_45 rfl xd_Mo_image_53 ?_
    refine lv_bipush (pc := 56) (v := (8 : Int32)) hx hb xd_Mo_image_56 (by decide) ?_
    refine xr_callVv (pc := 58) (As := [.ref (G.1 9 9), .int (8 : Int32)]) (rest := []) hC hR hS (xc_Mo_keeps l G xo_M9 h) xo_M0 xv_Mo_205 ⟨rfl, rfl, Nat.le_of_ble_eq_true rfl, Nat.le_of_ble_eq_true rfl⟩ rfl hl.1 rfl (Nat.le_of_ble_eq_true rfl) xd_Mo_image_58 (fun M5 H locs h hR hS => ?_)
    refine lv_aload_n (pc := 61) hx hb xd_Mo_image_61 rfl (lv_at hl 0 rfl) ?_
    refine lv_aload_n (pc := 62) hx hb xd_Mo_image_62 rfl (lv_at hl 0 rfl) ?_
    refine xr_get (pc := 63) (v := .ref (G.1 9 10)) hC hR xo_M0 xf_Mo_49 rfl xd_Mo_image_63 ?_
    refine lv_bipush (pc := 66) (v := (8 : Int32)) hx hb xd_Mo_image_66 (by decide) ?_
    refine xr_callVv (pc := 68) (As := [.ref (G.1 9 10), .int (8 : Int32)]) (rest := []) hC hR hS (xc_Mo_keeps l G xo_M10 h) xo_M0 xv_Mo_205 ⟨rfl, rfl, Nat.le_of_ble_eq_true rfl, Nat.le_of_ble_eq_true rfl⟩ rfl hl.1 rfl (Nat.le_of_ble_eq_true rfl) xd_Mo_image_68 (fun M6 H locs h hR hS => ?_)
    refine lv_aload_n (pc := 71) hx hb xd_Mo_image_71 rfl (lv_at hl 0 rfl) ?_
    refine lv_aload_n (pc := 72) hx hb xd_Mo_image_72 rfl (lv_at hl 0 rfl) ?_
    refine xr_get (pc := 73) (v := .ref (G.1 9 11)) hC hR xo_M0 xf_Mo_52 rfl xd_Mo_image_73 ?_
    refine lv_bipush (pc := 76) (v := (20 : Int32)) hx hb xd_Mo_image_76 (by decide) ?_
    refine xr_callVv (pc := 78) (As := [.ref (G.1 9 11), .int (20 : Int32)]) (rest := []) hC hR hS (xc_Mo_keeps l G xo_M11 h) xo_M0 xv_Mo_205 ⟨rfl, rfl, Nat.le_of_ble_eq_true rfl, Nat.le_of_ble_eq_true rfl⟩ rfl hl.1 rfl (Nat.le_of_ble_eq_true rfl) xd_Mo_image_78 (fun M7 H locs h hR hS => ?_)
    refine lv_aload_n (pc := 81) hx hb xd_Mo_image_81 rfl (lv_at hl 0 rfl) ?_
    refine lv_aload_n (pc := 82) hx hb xd_Mo_image_82 rfl (lv_at hl 0 rfl) ?_
    refine xr_get (pc := 83) (v := .ref (G.1 9 12)) hC hR xo_M0 xf_Mo_55 rfl xd_Mo_image_83 ?_
    refine lv_bipush (pc := 86) (v := (20 : Int32)) hx hb xd_Mo_image_86 (by decide) ?_
    refine xr_callVv (pc := 88) (As := [.ref (G.1 9 12), .int (20 : Int32)]) (rest := []) hC hR hS (xc_Mo_keeps l G xo_M12 h) xo_M0 xv_Mo_205 ⟨rfl, rfl, Nat.le_of_ble_eq_true rfl, Nat.le_of_ble_eq_true rfl⟩ rfl hl.1 rfl (Nat.le_of_ble_eq_true rfl) xd_Mo_image_88 (fun M8 H locs h hR hS => ?_)
    refine lv_aload_n (pc := 91) hx hb xd_Mo_image_91 rfl (lv_at hl 0 rfl) ?_
    refine lv_aload_n (pc := 92) hx hb xd_Mo_image_92 rfl (lv_at hl 0 rfl) ?_
    refine xr_get (pc := 93) (v := .ref (G.1 9 13)) hC hR xo_M0 xf_Mo_58 rfl xd_Mo_image_93 ?_
    refine lv_bipush (pc := 96) (v := (20 : Int32)) hx hb xd_Mo_image_96 (by decide) ?_
    refine xr_callVv (pc := 98) (As := [.ref (G.1 9 13), .int (20 : Int32)]) (rest := []) hC hR hS (xc_Mo_keeps l G xo_M13 h) xo_M0 xv_Mo_205 ⟨rfl, rfl, Nat.le_of_ble_eq_true rfl, Nat.le_of_ble_eq_true rfl⟩ rfl hl.1 rfl (Nat.le_of_ble_eq_true rfl) xd_Mo_image_98 (fun M9 H locs h hR hS => ?_)
    refine lv_aload_n (pc := 101) hx hb xd_Mo_image_101 rfl (lv_at hl 0 rfl) ?_
    refine lv_aload_n (pc := 102) hx hb xd_Mo_image_102 rfl (lv_at hl 0 rfl) ?_
    refine xr_get (pc := 103) (v := .ref (G.1 9 4)) hC hR xo_M0 xf_Mo_19 rfl xd_Mo_image_103 ?_
    refine lv_bipush (pc := 106) (v := (27 : Int32)) hx hb xd_Mo_image_106 (by decide) ?_
    refine xr_callVv (pc := 108) (As := [.ref (G.1 9 4), .int (27 : Int32)]) (rest := []) hC hR hS (xc_Mo_keeps l G xo_M4 h) xo_M0 xv_Mo_205 ⟨rfl, rfl, Nat.le_of_ble_eq_true rfl, Nat.le_of_ble_eq_true rfl⟩ rfl hl.1 rfl (Nat.le_of_ble_eq_true rfl) xd_Mo_image_108 (fun M10 H locs h hR hS => ?_)
    refine lv_aload_n (pc := 111) hx hb xd_Mo_image_111 rfl (lv_at hl 0 rfl) ?_
    refine lv_aload_n (pc := 112) hx hb xd_Mo_image_112 rfl (lv_at hl 0 rfl) ?_
    refine xr_get (pc := 113) (v := .ref (G.1 9 5)) hC hR xo_M0 xf_Mo_32 rfl xd_Mo_image_113 ?_
    refine lv_iconst (pc := 116) (v := (3 : Int32)) hx hb xd_Mo_image_116 (by decide) ?_
    refine xr_callVv (pc := 117) (As := [.ref (G.1 9 5), .int (3 : Int32)]) (rest := []) hC hR hS (xc_Mo_keeps l G xo_M5 h) xo_M0 xv_Mo_205 ⟨rfl, rfl, Nat.le_of_ble_eq_true rfl, Nat.le_of_ble_eq_true rfl⟩ rfl hl.1 rfl (Nat.le_of_ble_eq_true rfl) xd_Mo_image_117 (fun M11 H locs h hR hS => ?_)
    refine lv_iconst (pc := 120) (v := (0 : Int32)) hx hb xd_Mo_image_120 (by decide) ?_
    refine lv_istore_n (pc := 121) (lv' := [(2, .int (0 : Int32)), (0, .ref (G.1 9 0)), (1, .int a1)]) hx hb xd_Mo_image_121 rfl hl (by decide) rfl (fun ls hl => ?_)
    obtain ⟨n, h⟩ := h
    refine xt_Mo_image_122 hC hr hlk  (fun y12 M13 H locs ls h hR hS hl => ?_) n (0 : Int32) M11 H locs ls h hR hS (lv_sub hl [1, 0] rfl)
    refine lv_aload_n (pc := 159) hx hb xd_Mo_image_159 rfl (lv_at hl 0 rfl) ?_
    refine xr_get (pc := 160) (v := .ref (G.1 9 20)) hC hR xo_M0 xf_Mo_79 rfl xd_Mo_image_160 ?_
    refine lv_aload_n (pc := 163) hx hb xd_Mo_image_163 rfl (lv_at hl 0 rfl) ?_
    refine xr_get (pc := 164) (v := .int (M13 9 0 29)) hC hR xo_M0 xf_Mo_202 rfl xd_Mo_image_164 ?_
    refine lv_bipush (pc := 167) (v := (12 : Int32)) hx hb xd_Mo_image_167 (by decide) ?_
    refine lv_iadd (pc := 169) hx hb xd_Mo_image_169 ?_
    refine lv_aload_n (pc := 170) hx hb xd_Mo_image_170 rfl (lv_at hl 0 rfl) ?_
    refine xr_get (pc := 171) (v := .int (M13 9 0 9)) hC hR xo_M0 xf_Mo_145 rfl xd_Mo_image_171 ?_
    obtain ⟨hq, h⟩ := h
    refine xr_iast (pc := 174) hC hR hS xo_M20 hq xd_Mo_image_174 (fun H locs hR hS => ?_)
    refine lv_aload_n (pc := 175) hx hb xd_Mo_image_175 rfl (lv_at hl 0 rfl) ?_
    refine xr_get (pc := 176) (v := .ref (G.1 9 20)) hC hR xo_M0 xf_Mo_79 rfl xd_Mo_image_176 ?_
    refine lv_aload_n (pc := 179) hx hb xd_Mo_image_179 rfl (lv_at hl 0 rfl) ?_
    refine xr_get (pc := 180) (v := .int ((us M13 9 20 ((M13 9 0 29) + (12 : Int32)).toNatClampNeg (M13 9 0 9)) 9 0 29)) hC hR xo_M0 xf_Mo_202 rfl xd_Mo_image_180 ?_
    refine lv_bipush (pc := 183) (v := (13 : Int32)) hx hb xd_Mo_image_183 (by decide) ?_
    refine lv_iadd (pc := 185) hx hb xd_Mo_image_185 ?_
    refine lv_aload_n (pc := 186) hx hb xd_Mo_image_186 rfl (lv_at hl 0 rfl) ?_
    refine xr_get (pc := 187) (v := .int ((us M13 9 20 ((M13 9 0 29) + (12 : Int32)).toNatClampNeg (M13 9 0 9)) 9 0 10)) hC hR xo_M0 xf_Mo_158 rfl xd_Mo_image_187 ?_
    obtain ⟨hq, h⟩ := h
    refine xr_iast (pc := 190) hC hR hS xo_M20 hq xd_Mo_image_190 (fun H locs hR hS => ?_)
    refine lv_aload_n (pc := 191) hx hb xd_Mo_image_191 rfl (lv_at hl 0 rfl) ?_
    refine xr_get (pc := 192) (v := .ref (G.1 9 20)) hC hR xo_M0 xf_Mo_79 rfl xd_Mo_image_192 ?_
    refine lv_aload_n (pc := 195) hx hb xd_Mo_image_195 rfl (lv_at hl 0 rfl) ?_
    refine xr_get (pc := 196) (v := .int ((us (us M13 9 20 ((M13 9 0 29) + (12 : Int32)).toNatClampNeg (M13 9 0 9)) 9 20 (((us M13 9 20 ((M13 9 0 29) + (12 : Int32)).toNatClampNeg (M13 9 0 9)) 9 0 29) + (13 : Int32)).toNatClampNeg ((us M13 9 20 ((M13 9 0 29) + (12 : Int32)).toNatClampNeg (M13 9 0 9)) 9 0 10)) 9 0 29)) hC hR xo_M0 xf_Mo_202 rfl xd_Mo_image_196 ?_
    refine lv_bipush (pc := 199) (v := (14 : Int32)) hx hb xd_Mo_image_199 (by decide) ?_
    refine lv_iadd (pc := 201) hx hb xd_Mo_image_201 ?_
    refine lv_aload_n (pc := 202) hx hb xd_Mo_image_202 rfl (lv_at hl 0 rfl) ?_
    refine xr_get (pc := 203) (v := .int ((us (us M13 9 20 ((M13 9 0 29) + (12 : Int32)).toNatClampNeg (M13 9 0 9)) 9 20 (((us M13 9 20 ((M13 9 0 29) + (12 : Int32)).toNatClampNeg (M13 9 0 9)) 9 0 29) + (13 : Int32)).toNatClampNeg ((us M13 9 20 ((M13 9 0 29) + (12 : Int32)).toNatClampNeg (M13 9 0 9)) 9 0 10)) 9 0 5)) hC hR xo_M0 xf_Mo_22 rfl xd_Mo_image_203 ?_
    obtain ⟨hq, h⟩ := h
    refine xr_iast (pc := 206) hC hR hS xo_M20 hq xd_Mo_image_206 (fun H locs hR hS => ?_)
    refine lv_aload_n (pc := 207) hx hb xd_Mo_image_207 rfl (lv_at hl 0 rfl) ?_
    refine xr_get (pc := 208) (v := .ref (G.1 9 20)) hC hR xo_M0 xf_Mo_79 rfl xd_Mo_image_208 ?_
    refine lv_aload_n (pc := 211) hx hb xd_Mo_image_211 rfl (lv_at hl 0 rfl) ?_
    refine xr_get (pc := 212) (v := .int ((us (us (us M13 9 20 ((M13 9 0 29) + (12 : Int32)).toNatClampNeg (M13 9 0 9)) 9 20 (((us M13 9 20 ((M13 9 0 29) + (12 : Int32)).toNatClampNeg (M13 9 0 9)) 9 0 29) + (13 : Int32)).toNatClampNeg ((us M13 9 20 ((M13 9 0 29) + (12 : Int32)).toNatClampNeg (M13 9 0 9)) 9 0 10)) 9 20 (((us (us M13 9 20 ((M13 9 0 29) + (12 : Int32)).toNatClampNeg (M13 9 0 9)) 9 20 (((us M13 9 20 ((M13 9 0 29) + (12 : Int32)).toNatClampNeg (M13 9 0 9)) 9 0 29) + (13 : Int32)).toNatClampNeg ((us M13 9 20 ((M13 9 0 29) + (12 : Int32)).toNatClampNeg (M13 9 0 9)) 9 0 10)) 9 0 29) + (14 : Int32)).toNatClampNeg ((us (us M13 9 20 ((M13 9 0 29) + (12 : Int32)).toNatClampNeg (M13 9 0 9)) 9 20 (((us M13 9 20 ((M13 9 0 29) + (12 : Int32)).toNatClampNeg (M13 9 0 9)) 9 0 29) + (13 : Int32)).toNatClampNeg ((us M13 9 20 ((M13 9 0 29) + (12 : Int32)).toNatClampNeg (M13 9 0 9)) 9 0 10)) 9 0 5)) 9 0 29)) hC hR xo_M0 xf_Mo_202 rfl xd_Mo_image_212 ?_
    refine lv_bipush (pc := 215) (v := (15 : Int32)) hx hb xd_Mo_image_215 (by decide) ?_
    refine lv_iadd (pc := 217) hx hb xd_Mo_image_217 ?_
    refine lv_aload_n (pc := 218) hx hb xd_Mo_image_218 rfl (lv_at hl 0 rfl) ?_
    refine xr_get (pc := 219) (v := .int ((us (us (us M13 9 20 ((M13 9 0 29) + (12 : Int32)).toNatClampNeg (M13 9 0 9)) 9 20 (((us M13 9 20 ((M13 9 0 29) + (12 : Int32)).toNatClampNeg (M13 9 0 9)) 9 0 29) + (13 : Int32)).toNatClampNeg ((us M13 9 20 ((M13 9 0 29) + (12 : Int32)).toNatClampNeg (M13 9 0 9)) 9 0 10)) 9 20 (((us (us M13 9 20 ((M13 9 0 29) + (12 : Int32)).toNatClampNeg (M13 9 0 9)) 9 20 (((us M13 9 20 ((M13 9 0 29) + (12 : Int32)).toNatClampNeg (M13 9 0 9)) 9 0 29) + (13 : Int32)).toNatClampNeg ((us M13 9 20 ((M13 9 0 29) + (12 : Int32)).toNatClampNeg (M13 9 0 9)) 9 0 10)) 9 0 29) + (14 : Int32)).toNatClampNeg ((us (us M13 9 20 ((M13 9 0 29) + (12 : Int32)).toNatClampNeg (M13 9 0 9)) 9 20 (((us M13 9 20 ((M13 9 0 29) + (12 : Int32)).toNatClampNeg (M13 9 0 9)) 9 0 29) + (13 : Int32)).toNatClampNeg ((us M13 9 20 ((M13 9 0 29) + (12 : Int32)).toNatClampNeg (M13 9 0 9)) 9 0 10)) 9 0 5)) 9 0 6)) hC hR xo_M0 xf_Mo_26 rfl xd_Mo_image_219 ?_
    obtain ⟨hq, h⟩ := h
    refine xr_iast (pc := 222) hC hR hS xo_M20 hq xd_Mo_image_222 (fun H locs hR hS => ?_)
    refine lv_aload_n (pc := 223) hx hb xd_Mo_image_223 rfl (lv_at hl 0 rfl) ?_
    refine xr_get (pc := 224) (v := .ref (G.1 9 20)) hC hR xo_M0 xf_Mo_79 rfl xd_Mo_image_224 ?_
    refine lv_aload_n (pc := 227) hx hb xd_Mo_image_227 rfl (lv_at hl 0 rfl) ?_
    refine xr_get (pc := 228) (v := .int ((us (us (us (us M13 9 20 ((M13 9 0 29) + (12 : Int32)).toNatClampNeg (M13 9 0 9)) 9 20 (((us M13 9 20 ((M13 9 0 29) + (12 : Int32)).toNatClampNeg (M13 9 0 9)) 9 0 29) + (13 : Int32)).toNatClampNeg ((us M13 9 20 ((M13 9 0 29) + (12 : Int32)).toNatClampNeg (M13 9 0 9)) 9 0 10)) 9 20 (((us (us M13 9 20 ((M13 9 0 29) + (12 : Int32)).toNatClampNeg (M13 9 0 9)) 9 20 (((us M13 9 20 ((M13 9 0 29) + (12 : Int32)).toNatClampNeg (M13 9 0 9)) 9 0 29) + (13 : Int32)).toNatClampNeg ((us M13 9 20 ((M13 9 0 29) + (12 : Int32)).toNatClampNeg (M13 9 0 9)) 9 0 10)) 9 0 29) + (14 : Int32)).toNatClampNeg ((us (us M13 9 20 ((M13 9 0 29) + (12 : Int32)).toNatClampNeg (M13 9 0 9)) 9 20 (((us M13 9 20 ((M13 9 0 29) + (12 : Int32)).toNatClampNeg (M13 9 0 9)) 9 0 29) + (13 : Int32)).toNatClampNeg ((us M13 9 20 ((M13 9 0 29) + (12 : Int32)).toNatClampNeg (M13 9 0 9)) 9 0 10)) 9 0 5)) 9 20 (((us (us (us M13 9 20 ((M13 9 0 29) + (12 : Int32)).toNatClampNeg (M13 9 0 9)) 9 20 (((us M13 9 20 ((M13 9 0 29) + (12 : Int32)).toNatClampNeg (M13 9 0 9)) 9 0 29) + (13 : Int32)).toNatClampNeg ((us M13 9 20 ((M13 9 0 29) + (12 : Int32)).toNatClampNeg (M13 9 0 9)) 9 0 10)) 9 20 (((us (us M13 9 20 ((M13 9 0 29) + (12 : Int32)).toNatClampNeg (M13 9 0 9)) 9 20 (((us M13 9 20 ((M13 9 0 29) + (12 : Int32)).toNatClampNeg (M13 9 0 9)) 9 0 29) + (13 : Int32)).toNatClampNeg ((us M13 9 20 ((M13 9 0 29) + (12 : Int32)).toNatClampNeg (M13 9 0 9)) 9 0 10)) 9 0 29) + (14 : Int32)).toNatClampNeg ((us (us M13 9 20 ((M13 9 0 29) + (12 : Int32)).toNatClampNeg (M13 9 0 9)) 9 20 (((us M13 9 20 ((M13 9 0 29) + (12 : Int32)).toNatClampNeg (M13 9 0 9)) 9 0 29) + (13 : Int32)).toNatClampNeg ((us M13 9 20 ((M13 9 0 29) + (12 : Int32)).toNatClampNeg (M13 9 0 9)) 9 0 10)) 9 0 5)) 9 0 29) + (15 : Int32)).toNatClampNeg ((us (us (us M13 9 20 ((M13 9 0 29) + (12 : Int32)).toNatClampNeg (M13 9 0 9)) 9 20 (((us M13 9 20 ((M13 9 0 29) + (12 : Int32)).toNatClampNeg (M13 9 0 9)) 9 0 29) + (13 : Int32)).toNatClampNeg ((us M13 9 20 ((M13 9 0 29) + (12 : Int32)).toNatClampNeg (M13 9 0 9)) 9 0 10)) 9 20 (((us (us M13 9 20 ((M13 9 0 29) + (12 : Int32)).toNatClampNeg (M13 9 0 9)) 9 20 (((us M13 9 20 ((M13 9 0 29) + (12 : Int32)).toNatClampNeg (M13 9 0 9)) 9 0 29) + (13 : Int32)).toNatClampNeg ((us M13 9 20 ((M13 9 0 29) + (12 : Int32)).toNatClampNeg (M13 9 0 9)) 9 0 10)) 9 0 29) + (14 : Int32)).toNatClampNeg ((us (us M13 9 20 ((M13 9 0 29) + (12 : Int32)).toNatClampNeg (M13 9 0 9)) 9 20 (((us M13 9 20 ((M13 9 0 29) + (12 : Int32)).toNatClampNeg (M13 9 0 9)) 9 0 29) + (13 : Int32)).toNatClampNeg ((us M13 9 20 ((M13 9 0 29) + (12 : Int32)).toNatClampNeg (M13 9 0 9)) 9 0 10)) 9 0 5)) 9 0 6)) 9 0 29)) hC hR xo_M0 xf_Mo_202 rfl xd_Mo_image_228 ?_
    refine lv_bipush (pc := 231) (v := (16 : Int32)) hx hb xd_Mo_image_231 (by decide) ?_
    refine lv_iadd (pc := 233) hx hb xd_Mo_image_233 ?_
    refine lv_aload_n (pc := 234) hx hb xd_Mo_image_234 rfl (lv_at hl 0 rfl) ?_
    refine xr_get (pc := 235) (v := .int ((us (us (us (us M13 9 20 ((M13 9 0 29) + (12 : Int32)).toNatClampNeg (M13 9 0 9)) 9 20 (((us M13 9 20 ((M13 9 0 29) + (12 : Int32)).toNatClampNeg (M13 9 0 9)) 9 0 29) + (13 : Int32)).toNatClampNeg ((us M13 9 20 ((M13 9 0 29) + (12 : Int32)).toNatClampNeg (M13 9 0 9)) 9 0 10)) 9 20 (((us (us M13 9 20 ((M13 9 0 29) + (12 : Int32)).toNatClampNeg (M13 9 0 9)) 9 20 (((us M13 9 20 ((M13 9 0 29) + (12 : Int32)).toNatClampNeg (M13 9 0 9)) 9 0 29) + (13 : Int32)).toNatClampNeg ((us M13 9 20 ((M13 9 0 29) + (12 : Int32)).toNatClampNeg (M13 9 0 9)) 9 0 10)) 9 0 29) + (14 : Int32)).toNatClampNeg ((us (us M13 9 20 ((M13 9 0 29) + (12 : Int32)).toNatClampNeg (M13 9 0 9)) 9 20 (((us M13 9 20 ((M13 9 0 29) + (12 : Int32)).toNatClampNeg (M13 9 0 9)) 9 0 29) + (13 : Int32)).toNatClampNeg ((us M13 9 20 ((M13 9 0 29) + (12 : Int32)).toNatClampNeg (M13 9 0 9)) 9 0 10)) 9 0 5)) 9 20 (((us (us (us M13 9 20 ((M13 9 0 29) + (12 : Int32)).toNatClampNeg (M13 9 0 9)) 9 20 (((us M13 9 20 ((M13 9 0 29) + (12 : Int32)).toNatClampNeg (M13 9 0 9)) 9 0 29) + (13 : Int32)).toNatClampNeg ((us M13 9 20 ((M13 9 0 29) + (12 : Int32)).toNatClampNeg (M13 9 0 9)) 9 0 10)) 9 20 (((us (us M13 9 20 ((M13 9 0 29) + (12 : Int32)).toNatClampNeg (M13 9 0 9)) 9 20 (((us M13 9 20 ((M13 9 0 29) + (12 : Int32)).toNatClampNeg (M13 9 0 9)) 9 0 29) + (13 : Int32)).toNatClampNeg ((us M13 9 20 ((M13 9 0 29) + (12 : Int32)).toNatClampNeg (M13 9 0 9)) 9 0 10)) 9 0 29) + (14 : Int32)).toNatClampNeg ((us (us M13 9 20 ((M13 9 0 29) + (12 : Int32)).toNatClampNeg (M13 9 0 9)) 9 20 (((us M13 9 20 ((M13 9 0 29) + (12 : Int32)).toNatClampNeg (M13 9 0 9)) 9 0 29) + (13 : Int32)).toNatClampNeg ((us M13 9 20 ((M13 9 0 29) + (12 : Int32)).toNatClampNeg (M13 9 0 9)) 9 0 10)) 9 0 5)) 9 0 29) + (15 : Int32)).toNatClampNeg ((us (us (us M13 9 20 ((M13 9 0 29) + (12 : Int32)).toNatClampNeg (M13 9 0 9)) 9 20 (((us M13 9 20 ((M13 9 0 29) + (12 : Int32)).toNatClampNeg (M13 9 0 9)) 9 0 29) + (13 : Int32)).toNatClampNeg ((us M13 9 20 ((M13 9 0 29) + (12 : Int32)).toNatClampNeg (M13 9 0 9)) 9 0 10)) 9 20 (((us (us M13 9 20 ((M13 9 0 29) + (12 : Int32)).toNatClampNeg (M13 9 0 9)) 9 20 (((us M13 9 20 ((M13 9 0 29) + (12 : Int32)).toNatClampNeg (M13 9 0 9)) 9 0 29) + (13 : Int32)).toNatClampNeg ((us M13 9 20 ((M13 9 0 29) + (12 : Int32)).toNatClampNeg (M13 9 0 9)) 9 0 10)) 9 0 29) + (14 : Int32)).toNatClampNeg ((us (us M13 9 20 ((M13 9 0 29) + (12 : Int32)).toNatClampNeg (M13 9 0 9)) 9 20 (((us M13 9 20 ((M13 9 0 29) + (12 : Int32)).toNatClampNeg (M13 9 0 9)) 9 0 29) + (13 : Int32)).toNatClampNeg ((us M13 9 20 ((M13 9 0 29) + (12 : Int32)).toNatClampNeg (M13 9 0 9)) 9 0 10)) 9 0 5)) 9 0 6)) 9 0 7)) hC hR xo_M0 xf_Mo_29 rfl xd_Mo_image_235 ?_
    obtain ⟨hq, h⟩ := h
    refine xr_iast (pc := 238) hC hR hS xo_M20 hq xd_Mo_image_238 (fun H locs hR hS => ?_)
    refine lv_aload_n (pc := 239) hx hb xd_Mo_image_239 rfl (lv_at hl 0 rfl) ?_
    refine lv_iconst (pc := 240) (v := (0 : Int32)) hx hb xd_Mo_image_240 (by decide) ?_
    refine xr_callV (pc := 241) (As := [.int (0 : Int32)]) (rest := []) hC hR hS (xc_Mo_ends l G  h) xo_M0 xv_Mo_89 ⟨rfl, rfl, Nat.le_of_ble_eq_true rfl, Nat.le_of_ble_eq_true rfl⟩ rfl hl.1 rfl (Nat.le_of_ble_eq_true rfl) xd_Mo_image_241 (fun r15 M14 H locs h hR hS => ?_)
    exact xr_iret hC hr hlk hR hS h xd_Mo_image_244
  · have h := h.2 hq
    refine lv_aload_n (pc := 9) hx hb xd_Mo_image_9 rfl (lv_at hl 0 rfl) ?_
    refine lv_iconst (pc := 10) (v := (-1 : Int32)) hx hb xd_Mo_image_10 (by decide) ?_
    refine xr_callV (pc := 11) (As := [.int (-1 : Int32)]) (rest := []) hC hR hS (xc_Mo_ends l G  h) xo_M0 xv_Mo_89 ⟨rfl, rfl, Nat.le_of_ble_eq_true rfl, Nat.le_of_ble_eq_true rfl⟩ rfl hl.1 rfl (Nat.le_of_ble_eq_true rfl) xd_Mo_image_11 (fun r17 M16 H locs h hR hS => ?_)
    exact xr_iret hC hr hlk hR hS h xd_Mo_image_14
