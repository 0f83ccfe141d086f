/-! ColoursApartModel.leastOf(I)I -/
theorem xd_Mo_leastOf_0 : decode b_Mo_leastOf 0 = .ok (.ldc 170, 2) := by decide +kernel
theorem xd_Mo_leastOf_2 : decode b_Mo_leastOf 2 = .ok (.istore_n 2, 1) := by decide +kernel
theorem xd_Mo_leastOf_3 : decode b_Mo_leastOf 3 = .ok (.iconst 0, 1) := by decide +kernel
theorem xd_Mo_leastOf_4 : decode b_Mo_leastOf 4 = .ok (.istore_n 3, 1) := by decide +kernel
theorem xd_Mo_leastOf_5 : decode b_Mo_leastOf 5 = .ok (.iload_n 3, 1) := by decide +kernel
theorem xd_Mo_leastOf_6 : decode b_Mo_leastOf 6 = .ok (.iload_n 1, 1) := by decide +kernel
theorem xd_Mo_leastOf_7 : decode b_Mo_leastOf 7 = .ok (.if_icmp .ge 108, 3) := by decide +kernel
theorem xd_Mo_leastOf_10 : decode b_Mo_leastOf 10 = .ok (.aload_n 0, 1) := by decide +kernel
theorem xd_Mo_leastOf_11 : decode b_Mo_leastOf 11 = .ok (.getfield 64, 3) := by decide +kernel
theorem xd_Mo_leastOf_14 : decode b_Mo_leastOf 14 = .ok (.aload_n 0, 1) := by decide +kernel
theorem xd_Mo_leastOf_15 : decode b_Mo_leastOf 15 = .ok (.getfield 67, 3) := by decide +kernel
theorem xd_Mo_leastOf_18 : decode b_Mo_leastOf 18 = .ok (.iload_n 3, 1) := by decide +kernel
theorem xd_Mo_leastOf_19 : decode b_Mo_leastOf 19 = .ok (.iaload, 1) := by decide +kernel
theorem xd_Mo_leastOf_20 : decode b_Mo_leastOf 20 = .ok (.iaload, 1) := by decide +kernel
theorem xd_Mo_leastOf_21 : decode b_Mo_leastOf 21 = .ok (.iload_n 2, 1) := by decide +kernel
theorem xd_Mo_leastOf_22 : decode b_Mo_leastOf 22 = .ok (.if_icmp .ge 17, 3) := by decide +kernel
theorem xd_Mo_leastOf_25 : decode b_Mo_leastOf 25 = .ok (.aload_n 0, 1) := by decide +kernel
theorem xd_Mo_leastOf_26 : decode b_Mo_leastOf 26 = .ok (.getfield 64, 3) := by decide +kernel
theorem xd_Mo_leastOf_29 : decode b_Mo_leastOf 29 = .ok (.aload_n 0, 1) := by decide +kernel
theorem xd_Mo_leastOf_30 : decode b_Mo_leastOf 30 = .ok (.getfield 67, 3) := by decide +kernel
theorem xd_Mo_leastOf_33 : decode b_Mo_leastOf 33 = .ok (.iload_n 3, 1) := by decide +kernel
theorem xd_Mo_leastOf_34 : decode b_Mo_leastOf 34 = .ok (.iaload, 1) := by decide +kernel
theorem xd_Mo_leastOf_35 : decode b_Mo_leastOf 35 = .ok (.iaload, 1) := by decide +kernel
theorem xd_Mo_leastOf_36 : decode b_Mo_leastOf 36 = .ok (.goto 4, 3) := by decide +kernel
theorem xd_Mo_leastOf_39 : decode b_Mo_leastOf 39 = .ok (.iload_n 2, 1) := by decide +kernel
theorem xd_Mo_leastOf_40 : decode b_Mo_leastOf 40 = .ok (.istore_n 2, 1) := by decide +kernel
theorem xd_Mo_leastOf_41 : decode b_Mo_leastOf 41 = .ok (.iconst 0, 1) := by decide +kernel
theorem xd_Mo_leastOf_42 : decode b_Mo_leastOf 42 = .ok (.istore 4, 2) := by decide +kernel
theorem xd_Mo_leastOf_44 : decode b_Mo_leastOf 44 = .ok (.iload 4, 2) := by decide +kernel
theorem xd_Mo_leastOf_46 : decode b_Mo_leastOf 46 = .ok (.iload_n 3, 1) := by decide +kernel
theorem xd_Mo_leastOf_47 : decode b_Mo_leastOf 47 = .ok (.if_icmp .ge 62, 3) := by decide +kernel
theorem xd_Mo_leastOf_50 : decode b_Mo_leastOf 50 = .ok (.aload_n 0, 1) := by decide +kernel
theorem xd_Mo_leastOf_51 : decode b_Mo_leastOf 51 = .ok (.getfield 61, 3) := by decide +kernel
theorem xd_Mo_leastOf_54 : decode b_Mo_leastOf 54 = .ok (.bipush 64, 2) := by decide +kernel
theorem xd_Mo_leastOf_56 : decode b_Mo_leastOf 56 = .ok (.aload_n 0, 1) := by decide +kernel
theorem xd_Mo_leastOf_57 : decode b_Mo_leastOf 57 = .ok (.getfield 67, 3) := by decide +kernel
theorem xd_Mo_leastOf_60 : decode b_Mo_leastOf 60 = .ok (.iload 4, 2) := by decide +kernel
theorem xd_Mo_leastOf_62 : decode b_Mo_leastOf 62 = .ok (.iaload, 1) := by decide +kernel
theorem xd_Mo_leastOf_63 : decode b_Mo_leastOf 63 = .ok (.imul, 1) := by decide +kernel
theorem xd_Mo_leastOf_64 : decode b_Mo_leastOf 64 = .ok (.aload_n 0, 1) := by decide +kernel
theorem xd_Mo_leastOf_65 : decode b_Mo_leastOf 65 = .ok (.getfield 67, 3) := by decide +kernel
theorem xd_Mo_leastOf_68 : decode b_Mo_leastOf 68 = .ok (.iload_n 3, 1) := by decide +kernel
theorem xd_Mo_leastOf_69 : decode b_Mo_leastOf 69 = .ok (.iaload, 1) := by decide +kernel
theorem xd_Mo_leastOf_70 : decode b_Mo_leastOf 70 = .ok (.iadd, 1) := by decide +kernel
theorem xd_Mo_leastOf_71 : decode b_Mo_leastOf 71 = .ok (.iaload, 1) := by decide +kernel
theorem xd_Mo_leastOf_72 : decode b_Mo_leastOf 72 = .ok (.iload_n 2, 1) := by decide +kernel
theorem xd_Mo_leastOf_73 : decode b_Mo_leastOf 73 = .ok (.if_icmp .ge 28, 3) := by decide +kernel
theorem xd_Mo_leastOf_76 : decode b_Mo_leastOf 76 = .ok (.aload_n 0, 1) := by decide +kernel
theorem xd_Mo_leastOf_77 : decode b_Mo_leastOf 77 = .ok (.getfield 61, 3) := by decide +kernel
theorem xd_Mo_leastOf_80 : decode b_Mo_leastOf 80 = .ok (.bipush 64, 2) := by decide +kernel
theorem xd_Mo_leastOf_82 : decode b_Mo_leastOf 82 = .ok (.aload_n 0, 1) := by decide +kernel
theorem xd_Mo_leastOf_83 : decode b_Mo_leastOf 83 = .ok (.getfield 67, 3) := by decide +kernel
theorem xd_Mo_leastOf_86 : decode b_Mo_leastOf 86 = .ok (.iload 4, 2) := by decide +kernel
theorem xd_Mo_leastOf_88 : decode b_Mo_leastOf 88 = .ok (.iaload, 1) := by decide +kernel
theorem xd_Mo_leastOf_89 : decode b_Mo_leastOf 89 = .ok (.imul, 1) := by decide +kernel
theorem xd_Mo_leastOf_90 : decode b_Mo_leastOf 90 = .ok (.aload_n 0, 1) := by decide +kernel
theorem xd_Mo_leastOf_91 : decode b_Mo_leastOf 91 = .ok (.getfield 67, 3) := by decide +kernel
theorem xd_Mo_leastOf_94 : decode b_Mo_leastOf 94 = .ok (.iload_n 3, 1) := by decide +kernel
theorem xd_Mo_leastOf_95 : decode b_Mo_leastOf 95 = .ok (.iaload, 1) := by decide +kernel
theorem xd_Mo_leastOf_96 : decode b_Mo_leastOf 96 = .ok (.iadd, 1) := by decide +kernel
theorem xd_Mo_leastOf_97 : decode b_Mo_leastOf 97 = .ok (.iaload, 1) := by decide +kernel
theorem xd_Mo_leastOf_98 : decode b_Mo_leastOf 98 = .ok (.goto 4, 3) := by decide +kernel
theorem xd_Mo_leastOf_101 : decode b_Mo_leastOf 101 = .ok (.iload_n 2, 1) := by decide +kernel
theorem xd_Mo_leastOf_102 : decode b_Mo_leastOf 102 = .ok (.istore_n 2, 1) := by decide +kernel
theorem xd_Mo_leastOf_103 : decode b_Mo_leastOf 103 = .ok (.iinc 4 1, 3) := by decide +kernel
theorem xd_Mo_leastOf_106 : decode b_Mo_leastOf 106 = .ok (.goto (-62), 3) := by decide +kernel
theorem xd_Mo_leastOf_109 : decode b_Mo_leastOf 109 = .ok (.iinc 3 1, 3) := by decide +kernel
theorem xd_Mo_leastOf_112 : decode b_Mo_leastOf 112 = .ok (.goto (-107), 3) := by decide +kernel
theorem xd_Mo_leastOf_115 : decode b_Mo_leastOf 115 = .ok (.iload_n 2, 1) := by decide +kernel
theorem xd_Mo_leastOf_116 : decode b_Mo_leastOf 116 = .ok (.ireturn, 1) := by decide +kernel
abbrev rm_Mo_leastOf : Room := { frames := 0, cells := 0, slots := 0, locals := 0 }
def xw_Mo_leastOf_44 (x1 : Int32) (x3 : Int32) (post : Int32 → xM → Prop) (k109 : Int32 → Int32 → xM → Prop) : Nat → Int32 → Int32 → xM → Prop
  | 0, _, _, _ => False
  | n44 + 1, x2, x4, M => ((x3 ≤ x4) → (k109 x2 x4 M)) ∧ ((¬ x3 ≤ x4) → ((vp_in x4 5) ∧ ((vp_in x3 5) ∧ ((vp_in (((64 : Int32) * (M 9 16 x4.toNatClampNeg)) + (M 9 16 x3.toNatClampNeg)) 4096) ∧ (((x2 ≤ (M 9 14 (((64 : Int32) * (M 9 16 x4.toNatClampNeg)) + (M 9 16 x3.toNatClampNeg)).toNatClampNeg)) → (xw_Mo_leastOf_44 x1 x3 post k109 n44 x2 (x4 + (1 : Int32)) M)) ∧ ((¬ x2 ≤ (M 9 14 (((64 : Int32) * (M 9 16 x4.toNatClampNeg)) + (M 9 16 x3.toNatClampNeg)).toNatClampNeg)) → ((vp_in x4 5) ∧ ((vp_in x3 5) ∧ ((vp_in (((64 : Int32) * (M 9 16 x4.toNatClampNeg)) + (M 9 16 x3.toNatClampNeg)) 4096) ∧ (xw_Mo_leastOf_44 x1 x3 post k109 n44 (M 9 14 (((64 : Int32) * (M 9 16 x4.toNatClampNeg)) + (M 9 16 x3.toNatClampNeg)).toNatClampNeg) (x4 + (1 : Int32)) M))))))))))
def xw_Mo_leastOf_5 (x1 : Int32) (post : Int32 → xM → Prop) (k115 : Int32 → Int32 → xM → Prop) : Nat → Int32 → Int32 → xM → Prop
  | 0, _, _, _ => False
  | n5 + 1, x2, x3, M => ((x1 ≤ x3) → (k115 x2 x3 M)) ∧ ((¬ x1 ≤ x3) → ((vp_in x3 5) ∧ ((vp_in (M 9 16 x3.toNatClampNeg) 64) ∧ (xj (fun (J40_0 : Int32 → xM → Prop) => ((x2 ≤ (M 9 15 (M 9 16 x3.toNatClampNeg).toNatClampNeg)) → (J40_0 x2 M)) ∧ ((¬ x2 ≤ (M 9 15 (M 9 16 x3.toNatClampNeg).toNatClampNeg)) → ((vp_in x3 5) ∧ ((vp_in (M 9 16 x3.toNatClampNeg) 64) ∧ (J40_0 (M 9 15 (M 9 16 x3.toNatClampNeg).toNatClampNeg) M))))) (fun (v2 : Int32) (M3 : xM) => ∃ n44 : Nat, xw_Mo_leastOf_44 x1 x3 post (fun (y4 : Int32) (y5 : Int32) (M6 : xM) => xw_Mo_leastOf_5 x1 post k115 n5 y4 (x3 + (1 : Int32)) M6) n44 v2 (0 : Int32) M3)))))
def xw_Mo_leastOf (a1 : Int32) (M : xM) (post : Int32 → xM → Prop) : Prop :=
  ∃ n5 : Nat, xw_Mo_leastOf_5 a1 post (fun (y7 : Int32) (y8 : Int32) (M9 : xM) => post y7 M9) n5 (2000000 : Int32) (0 : Int32) M
set_option maxHeartbeats 4000000 in
set_option maxRecDepth 100000 in
theorem xt_Mo_leastOf_44 {p : Program} {l : Launch} {e : Env} {s : State} {m : MethodId} {args : Array Value} {below : List Frame} {meth : Method} {c : Code} {G : xG} (hC : xC p s m args c b_Mo_leastOf R_Mo 5 G) (hr : meth.sig.returnType = (some .int)) (hlk : meth.locks = false) {x1 : Int32} {x3 : Int32} {post : Int32 → xM → Prop} {k109 : Int32 → Int32 → xM → Prop} (hk109 : ∀ (x2 : Int32) (x4 : Int32) (M : xM) (H : Heap) (locs : List Loc) (ls : Array Slot), k109 x2 x4 M → xRp G M H → va_S (xA G) s.heap H locs → lv_has ls 5 [(0, .ref (G.1 9 0)), (1, .int x1), (2, .int x2), (3, .int x3), (4, .int x4)] → W p l e rm_Mo_leastOf s m args below meth c H locs 0 0 (MQ below (xPi G post) args s 0 0 (xA G)) (F0 m 109 ls [])) : ∀ (n : Nat) (x2 : Int32) (x4 : Int32) (M : xM) (H : Heap) (locs : List Loc) (ls : Array Slot), xw_Mo_leastOf_44 x1 x3 post k109 n x2 x4 M → xRp G M H → va_S (xA G) s.heap H locs → lv_has ls 5 [(0, .ref (G.1 9 0)), (1, .int x1), (2, .int x2), (3, .int x3), (4, .int x4)] → W p l e rm_Mo_leastOf s m args below meth c H locs 0 0 (MQ below (xPi G post) args s 0 0 (xA G)) (F0 m 44 ls []) := by
  have hx := hC.1
  have hb := hC.2.1
  intro n
  induction n with
  | zero => intro x2 x4 M H locs ls; exact fun h => h.elim
  | succ n ih =>
    intro x2 x4 M H locs ls h hR hS hl
    refine lv_iload (pc := 44) hx hb xd_Mo_leastOf_44 (lv_at hl 4 rfl) ?_
    refine lv_iload_n (pc := 46) hx hb xd_Mo_leastOf_46 rfl (lv_at hl 3 rfl) ?_
    refine lv_icmp_ge (pc := 47) (tgt := 109) hx hb xd_Mo_leastOf_47 (by decide) (fun hq => ?_) (fun hq => ?_)
    · have h := h.1 hq
      exact hk109 x2 x4 M H locs ls h hR hS (lv_sub hl [0, 1, 2, 3, 4] rfl)
    · have h := h.2 hq
      refine lv_aload_n (pc := 50) hx hb xd_Mo_leastOf_50 rfl (lv_at hl 0 rfl) ?_
      refine xr_get (pc := 51) (v := .ref (G.1 9 14)) hC hR xo_M0 xf_Mo_61 rfl xd_Mo_leastOf_51 ?_
      refine lv_bipush (pc := 54) (v := (64 : Int32)) hx hb xd_Mo_leastOf_54 (by decide) ?_
      refine lv_aload_n (pc := 56) hx hb xd_Mo_leastOf_56 rfl (lv_at hl 0 rfl) ?_
      refine xr_get (pc := 57) (v := .ref (G.1 9 16)) hC hR xo_M0 xf_Mo_67 rfl xd_Mo_leastOf_57 ?_
      refine lv_iload (pc := 60) hx hb xd_Mo_leastOf_60 (lv_at hl 4 rfl) ?_
      obtain ⟨hq, h⟩ := h
      refine xr_iald (pc := 62) hC hR xo_M16 hq xd_Mo_leastOf_62 ?_
      refine lv_imul (pc := 63) hx hb xd_Mo_leastOf_63 ?_
      refine lv_aload_n (pc := 64) hx hb xd_Mo_leastOf_64 rfl (lv_at hl 0 rfl) ?_
      refine xr_get (pc := 65) (v := .ref (G.1 9 16)) hC hR xo_M0 xf_Mo_67 rfl xd_Mo_leastOf_65 ?_
      refine lv_iload_n (pc := 68) hx hb xd_Mo_leastOf_68 rfl (lv_at hl 3 rfl) ?_
      obtain ⟨hq, h⟩ := h
      refine xr_iald (pc := 69) hC hR xo_M16 hq xd_Mo_leastOf_69 ?_
      refine lv_iadd (pc := 70) hx hb xd_Mo_leastOf_70 ?_
      obtain ⟨hq, h⟩ := h
      refine xr_iald (pc := 71) hC hR xo_M14 hq xd_Mo_leastOf_71 ?_
      refine lv_iload_n (pc := 72) hx hb xd_Mo_leastOf_72 rfl (lv_at hl 2 rfl) ?_
      refine lv_icmp_ge (pc := 73) (tgt := 101) hx hb xd_Mo_leastOf_73 (by decide) (fun hq => ?_) (fun hq => ?_)
      · have h := h.1 hq
        refine lv_iload_n (pc := 101) hx hb xd_Mo_leastOf_101 rfl (lv_at hl 2 rfl) ?_
        refine lv_istore_n (pc := 102) (lv' := [(2, .int x2), (0, .ref (G.1 9 0)), (1, .int x1), (3, .int x3), (4, .int x4)]) hx hb xd_Mo_leastOf_102 rfl hl (by decide) rfl (fun ls hl => ?_)
        refine lv_iinc (pc := 103) (v := (x4 + (1 : Int32))) (lv' := [(4, .int (x4 + (1 : Int32))), (2, .int x2), (0, .ref (G.1 9 0)), (1, .int x1), (3, .int x3)]) hx hb xd_Mo_leastOf_103 hl (k := 4) rfl rfl (by decide) rfl (fun ls hl => ?_)
        refine lv_goto (pc := 106) (tgt := 44) hx hb xd_Mo_leastOf_106 (by decide) ?_
        exact ih x2 (x4 + (1 : Int32)) M H locs ls h hR hS (lv_sub hl [2, 3, 1, 4, 0] rfl)
      · have h := h.2 hq
        refine lv_aload_n (pc := 76) hx hb xd_Mo_leastOf_76 rfl (lv_at hl 0 rfl) ?_
        refine xr_get (pc := 77) (v := .ref (G.1 9 14)) hC hR xo_M0 xf_Mo_61 rfl xd_Mo_leastOf_77 ?_
        refine lv_bipush (pc := 80) (v := (64 : Int32)) hx hb xd_Mo_leastOf_80 (by decide) ?_
        refine lv_aload_n (pc := 82) hx hb xd_Mo_leastOf_82 rfl (lv_at hl 0 rfl) ?_
        refine xr_get (pc := 83) (v := .ref (G.1 9 16)) hC hR xo_M0 xf_Mo_67 rfl xd_Mo_leastOf_83 ?_
        refine lv_iload (pc := 86) hx hb xd_Mo_leastOf_86 (lv_at hl 4 rfl) ?_
        obtain ⟨hq, h⟩ := h
        refine xr_iald (pc := 88) hC hR xo_M16 hq xd_Mo_leastOf_88 ?_
        refine lv_imul (pc := 89) hx hb xd_Mo_leastOf_89 ?_
        refine lv_aload_n (pc := 90) hx hb xd_Mo_leastOf_90 rfl (lv_at hl 0 rfl) ?_
        refine xr_get (pc := 91) (v := .ref (G.1 9 16)) hC hR xo_M0 xf_Mo_67 rfl xd_Mo_leastOf_91 ?_
        refine lv_iload_n (pc := 94) hx hb xd_Mo_leastOf_94 rfl (lv_at hl 3 rfl) ?_
        obtain ⟨hq, h⟩ := h
        refine xr_iald (pc := 95) hC hR xo_M16 hq xd_Mo_leastOf_95 ?_
        refine lv_iadd (pc := 96) hx hb xd_Mo_leastOf_96 ?_
        obtain ⟨hq, h⟩ := h
        refine xr_iald (pc := 97) hC hR xo_M14 hq xd_Mo_leastOf_97 ?_
        refine lv_goto (pc := 98) (tgt := 102) hx hb xd_Mo_leastOf_98 (by decide) ?_
        refine lv_istore_n (pc := 102) (lv' := [(2, .int (M 9 14 (((64 : Int32) * (M 9 16 x4.toNatClampNeg)) + (M 9 16 x3.toNatClampNeg)).toNatClampNeg)), (0, .ref (G.1 9 0)), (1, .int x1), (3, .int x3), (4, .int x4)]) hx hb xd_Mo_leastOf_102 rfl hl (by decide) rfl (fun ls hl => ?_)
        refine lv_iinc (pc := 103) (v := (x4 + (1 : Int32))) (lv' := [(4, .int (x4 + (1 : Int32))), (2, .int (M 9 14 (((64 : Int32) * (M 9 16 x4.toNatClampNeg)) + (M 9 16 x3.toNatClampNeg)).toNatClampNeg)), (0, .ref (G.1 9 0)), (1, .int x1), (3, .int x3)]) hx hb xd_Mo_leastOf_103 hl (k := 4) rfl rfl (by decide) rfl (fun ls hl => ?_)
        refine lv_goto (pc := 106) (tgt := 44) hx hb xd_Mo_leastOf_106 (by decide) ?_
        exact ih (M 9 14 (((64 : Int32) * (M 9 16 x4.toNatClampNeg)) + (M 9 16 x3.toNatClampNeg)).toNatClampNeg) (x4 + (1 : Int32)) M H locs ls h hR hS (lv_sub hl [2, 3, 1, 4, 0] rfl)
set_option maxHeartbeats 4000000 in
set_option maxRecDepth 100000 in
theorem xt_Mo_leastOf_5 {p : Program} {l : Launch} {e : Env} {s : State} {m : MethodId} {args : Array Value} {below : List Frame} {meth : Method} {c : Code} {G : xG} (hC : xC p s m args c b_Mo_leastOf R_Mo 5 G) (hr : meth.sig.returnType = (some .int)) (hlk : meth.locks = false) {x1 : Int32} {post : Int32 → xM → Prop} {k115 : Int32 → Int32 → xM → Prop} (hk115 : ∀ (x2 : Int32) (x3 : Int32) (M : xM) (H : Heap) (locs : List Loc) (ls : Array Slot), k115 x2 x3 M → xRp G M H → va_S (xA G) s.heap H locs → lv_has ls 5 [(0, .ref (G.1 9 0)), (1, .int x1), (2, .int x2), (3, .int x3)] → W p l e rm_Mo_leastOf s m args below meth c H locs 0 0 (MQ below (xPi G post) args s 0 0 (xA G)) (F0 m 115 ls [])) : ∀ (n : Nat) (x2 : Int32) (x3 : Int32) (M : xM) (H : Heap) (locs : List Loc) (ls : Array Slot), xw_Mo_leastOf_5 x1 post k115 n x2 x3 M → xRp G M H → va_S (xA G) s.heap H locs → lv_has ls 5 [(0, .ref (G.1 9 0)), (1, .int x1), (2, .int x2), (3, .int x3)] → W p l e rm_Mo_leastOf s m args below meth c H locs 0 0 (MQ below (xPi G post) args s 0 0 (xA G)) (F0 m 5 ls []) := by
  have hx := hC.1
  have hb := hC.2.1
  intro n
  induction n with
  | zero => intro x2 x3 M H locs ls; exact fun h => h.elim
  | succ n ih =>
    intro x2 x3 M H locs ls h hR hS hl
    refine lv_iload_n (pc := 5) hx hb xd_Mo_leastOf_5 rfl (lv_at hl 3 rfl) ?_
    refine lv_iload_n (pc := 6) hx hb xd_Mo_leastOf_6 rfl (lv_at hl 1 rfl) ?_
    refine lv_icmp_ge (pc := 7) (tgt := 115) hx hb xd_Mo_leastOf_7 (by decide) (fun hq => ?_) (fun hq => ?_)
    · have h := h.1 hq
      exact hk115 x2 x3 M H locs ls h hR hS (lv_sub hl [0, 1, 2, 3] rfl)
    · have h := h.2 hq
      refine lv_aload_n (pc := 10) hx hb xd_Mo_leastOf_10 rfl (lv_at hl 0 rfl) ?_
      refine xr_get (pc := 11) (v := .ref (G.1 9 15)) hC hR xo_M0 xf_Mo_64 rfl xd_Mo_leastOf_11 ?_
      refine lv_aload_n (pc := 14) hx hb xd_Mo_leastOf_14 rfl (lv_at hl 0 rfl) ?_
      refine xr_get (pc := 15) (v := .ref (G.1 9 16)) hC hR xo_M0 xf_Mo_67 rfl xd_Mo_leastOf_15 ?_
      refine lv_iload_n (pc := 18) hx hb xd_Mo_leastOf_18 rfl (lv_at hl 3 rfl) ?_
      obtain ⟨hq, h⟩ := h
      refine xr_iald (pc := 19) hC hR xo_M16 hq xd_Mo_leastOf_19 ?_
      obtain ⟨hq, h⟩ := h
      refine xr_iald (pc := 20) hC hR xo_M15 hq xd_Mo_leastOf_20 ?_
      refine lv_iload_n (pc := 21) hx hb xd_Mo_leastOf_21 rfl (lv_at hl 2 rfl) ?_
      obtain ⟨J40_0, eJ40_0, h⟩ := xj_open h
      have kJ40_0 : ∀ (v2 : Int32) (M3 : xM) (H : Heap) (locs : List Loc) (ls : Array Slot), J40_0 v2 M3 → xRp G M3 H → va_S (xA G) s.heap H locs → lv_has ls 5 [(0, .ref (G.1 9 0)), (1, .int x1), (3, .int x3)] → W p l e rm_Mo_leastOf s m args below meth c H locs 0 0 (MQ below (xPi G post) args s 0 0 (xA G)) (F0 m 40 ls [.int v2]) := by
        intro v2 M3 H locs ls h hR hS hl
        rw [eJ40_0] at h
        refine lv_istore_n (pc := 40) (lv' := [(2, .int v2), (0, .ref (G.1 9 0)), (1, .int x1), (3, .int x3)]) hx hb xd_Mo_leastOf_40 rfl hl (by decide) rfl (fun ls hl => ?_)
        refine lv_iconst (pc := 41) (v := (0 : Int32)) hx hb xd_Mo_leastOf_41 (by decide) ?_
        refine lv_istore (pc := 42) (lv' := [(4, .int (0 : Int32)), (2, .int v2), (0, .ref (G.1 9 0)), (1, .int x1), (3, .int x3)]) hx hb xd_Mo_leastOf_42 hl (by decide) rfl (fun ls hl => ?_)
        obtain ⟨n, h⟩ := h
        refine xt_Mo_leastOf_44 hC hr hlk  (fun y4 y5 M6 H locs ls h hR hS hl => ?_) n v2 (0 : Int32) M3 H locs ls h hR hS (lv_sub hl [2, 3, 1, 4, 0] rfl)
        refine lv_iinc (pc := 109) (v := (x3 + (1 : Int32))) (lv' := [(3, .int (x3 + (1 : Int32))), (0, .ref (G.1 9 0)), (1, .int x1), (2, .int y4), (4, .int y5)]) hx hb xd_Mo_leastOf_109 hl (k := 3) rfl rfl (by decide) rfl (fun ls hl => ?_)
        refine lv_goto (pc := 112) (tgt := 5) hx hb xd_Mo_leastOf_112 (by decide) ?_
        exact ih y4 (x3 + (1 : Int32)) M6 H locs ls h hR hS (lv_sub hl [1, 2, 3, 0] rfl)
      refine lv_icmp_ge (pc := 22) (tgt := 39) hx hb xd_Mo_leastOf_22 (by decide) (fun hq => ?_) (fun hq => ?_)
      · have h := h.1 hq
        refine lv_iload_n (pc := 39) hx hb xd_Mo_leastOf_39 rfl (lv_at hl 2 rfl) ?_
        exact kJ40_0 x2 M H locs ls h hR hS (lv_sub hl [0, 1, 3] rfl)
      · have h := h.2 hq
        refine lv_aload_n (pc := 25) hx hb xd_Mo_leastOf_25 rfl (lv_at hl 0 rfl) ?_
        refine xr_get (pc := 26) (v := .ref (G.1 9 15)) hC hR xo_M0 xf_Mo_64 rfl xd_Mo_leastOf_26 ?_
        refine lv_aload_n (pc := 29) hx hb xd_Mo_leastOf_29 rfl (lv_at hl 0 rfl) ?_
        refine xr_get (pc := 30) (v := .ref (G.1 9 16)) hC hR xo_M0 xf_Mo_67 rfl xd_Mo_leastOf_30 ?_
        refine lv_iload_n (pc := 33) hx hb xd_Mo_leastOf_33 rfl (lv_at hl 3 rfl) ?_
        obtain ⟨hq, h⟩ := h
        refine xr_iald (pc := 34) hC hR xo_M16 hq xd_Mo_leastOf_34 ?_
        obtain ⟨hq, h⟩ := h
        refine xr_iald (pc := 35) hC hR xo_M15 hq xd_Mo_leastOf_35 ?_
        refine lv_goto (pc := 36) (tgt := 40) hx hb xd_Mo_leastOf_36 (by decide) ?_
        exact kJ40_0 (M 9 15 (M 9 16 x3.toNatClampNeg).toNatClampNeg) M H locs ls h hR hS (lv_sub hl [0, 1, 3] rfl)
set_option maxHeartbeats 4000000 in
set_option maxRecDepth 100000 in
theorem xc_Mo_leastOf (l : Launch) (G : xG) {a1 : Int32}  {M : xM} {post : Int32 → xM → Prop} (h : xw_Mo_leastOf a1 M post) : Met l y_Mo_leastOf (Cond.code y_Mo_leastOf b_Mo_leastOf 5 (some .int) :: xTG) rm_Mo_leastOf (xPre G M [.ref (G.1 9 0), .int a1]) (xPi G post) 0 0 (xA G) := by
  refine xMet (own := R_Mo) [.ref (G.1 9 0), .int a1] (Or.inl (by decide)) rfl (Nat.le_of_ble_eq_true rfl) (fun p e s m args below meth c ls hC hr hlk hR hS hl => ?_)
  have hx := hC.1
  have hb := hC.2.1
  have hl : lv_has ls 5 [(0, .ref (G.1 9 0)), (1, .int a1)] := hl
  obtain ⟨H, eH⟩ : ∃ H : Heap, H = s.heap := ⟨_, rfl⟩
  obtain ⟨locs, eL⟩ : ∃ locs : List Loc, locs = [] := ⟨_, rfl⟩
  rw [← eH] at hR
  replace hS : va_S (xA G) s.heap H locs := by rw [eH, eL]; exact hS
  suffices hh : W p l e rm_Mo_leastOf s m args below meth c H locs 0 0 (MQ below (xPi G post) args s 0 0 (xA G)) (F0 m 0 ls []) from by rw [eH, eL] at hh; exact hh
  unfold xw_Mo_leastOf at h
  refine lv_ldc (pc := 0) (v := (2000000 : Int32)) hx hb hC.2.2.2.1 (hC.2.2.2.2.1 _ xk_Mo_170) xd_Mo_leastOf_0 ?_
  refine lv_istore_n (pc := 2) (lv' := [(2, .int (2000000 : Int32)), (0, .ref (G.1 9 0)), (1, .int a1)]) hx hb xd_Mo_leastOf_2 rfl hl (by decide) rfl (fun ls hl => ?_)
  refine lv_iconst (pc := 3) (v := (0 : Int32)) hx hb xd_Mo_leastOf_3 (by decide) ?_
  refine lv_istore_n (pc := 4) (lv' := [(3, .int (0 : Int32)), (2, .int (2000000 : Int32)), (0, .ref (G.1 9 0)), (1, .int a1)]) hx hb xd_Mo_leastOf_4 rfl hl (by decide) rfl (fun ls hl => ?_)
  obtain ⟨n, h⟩ := h
  refine xt_Mo_leastOf_5 hC hr hlk  (fun y7 y8 M9 H locs ls h hR hS hl => ?_) n (2000000 : Int32) (0 : Int32) M H locs ls h hR hS (lv_sub hl [2, 3, 1, 0] rfl)
  refine lv_iload_n (pc := 115) hx hb xd_Mo_leastOf_115 rfl (lv_at hl 2 rfl) ?_
  exact xr_iret hC hr hlk hR hS h xd_Mo_leastOf_116

/-! ColoursApartModel.counts(I)Z -/
theorem xd_Mo_counts_0 : decode b_Mo_counts 0 = .ok (.iload_n 1, 1) := by decide +kernel
theorem xd_Mo_counts_1 : decode b_Mo_counts 1 = .ok (.iconst 1, 1) := by decide +kernel
theorem xd_Mo_counts_2 : decode b_Mo_counts 2 = .ok (.isub, 1) := by decide +kernel
theorem xd_Mo_counts_3 : decode b_Mo_counts 3 = .ok (.istore_n 2, 1) := by decide +kernel
theorem xd_Mo_counts_4 : decode b_Mo_counts 4 = .ok (.iload_n 2, 1) := by decide +kernel
theorem xd_Mo_counts_5 : decode b_Mo_counts 5 = .ok (.ifCond .lt 26, 3) := by decide +kernel
theorem xd_Mo_counts_8 : decode b_Mo_counts 8 = .ok (.aload_n 0, 1) := by decide +kernel
theorem xd_Mo_counts_9 : decode b_Mo_counts 9 = .ok (.getfield 67, 3) := by decide +kernel
theorem xd_Mo_counts_12 : decode b_Mo_counts 12 = .ok (.iload_n 2, 1) := by decide +kernel
theorem xd_Mo_counts_13 : decode b_Mo_counts 13 = .ok (.iaload, 1) := by decide +kernel
theorem xd_Mo_counts_14 : decode b_Mo_counts 14 = .ok (.aload_n 0, 1) := by decide +kernel
theorem xd_Mo_counts_15 : decode b_Mo_counts 15 = .ok (.invokevirtual 107, 3) := by decide +kernel
theorem xd_Mo_counts_18 : decode b_Mo_counts 18 = .ok (.iload_n 1, 1) := by decide +kernel
theorem xd_Mo_counts_19 : decode b_Mo_counts 19 = .ok (.isub, 1) := by decide +kernel
theorem xd_Mo_counts_20 : decode b_Mo_counts 20 = .ok (.iload_n 2, 1) := by decide +kernel
theorem xd_Mo_counts_21 : decode b_Mo_counts 21 = .ok (.iadd, 1) := by decide +kernel
theorem xd_Mo_counts_22 : decode b_Mo_counts 22 = .ok (.if_icmp .ne 9, 3) := by decide +kernel
theorem xd_Mo_counts_25 : decode b_Mo_counts 25 = .ok (.iinc 2 (-1), 3) := by decide +kernel
theorem xd_Mo_counts_28 : decode b_Mo_counts 28 = .ok (.goto (-24), 3) := by decide +kernel
theorem xd_Mo_counts_31 : decode b_Mo_counts 31 = .ok (.iload_n 2, 1) := by decide +kernel
theorem xd_Mo_counts_32 : decode b_Mo_counts 32 = .ok (.ifCond .ge 5, 3) := by decide +kernel
theorem xd_Mo_counts_35 : decode b_Mo_counts 35 = .ok (.iconst 0, 1) := by decide +kernel
theorem xd_Mo_counts_36 : decode b_Mo_counts 36 = .ok (.ireturn, 1) := by decide +kernel
theorem xd_Mo_counts_37 : decode b_Mo_counts 37 = .ok (.aload_n 0, 1) := by decide +kernel
theorem xd_Mo_counts_38 : decode b_Mo_counts 38 = .ok (.getfield 67, 3) := by decide +kernel
theorem xd_Mo_counts_41 : decode b_Mo_counts 41 = .ok (.iload_n 2, 1) := by decide +kernel
theorem xd_Mo_counts_42 : decode b_Mo_counts 42 = .ok (.dup2, 1) := by decide +kernel
theorem xd_Mo_counts_43 : decode b_Mo_counts 43 = .ok (.iaload, 1) := by decide +kernel
theorem xd_Mo_counts_44 : decode b_Mo_counts 44 = .ok (.iconst 1, 1) := by decide +kernel
theorem xd_Mo_counts_45 : decode b_Mo_counts 45 = .ok (.iadd, 1) := by decide +kernel
theorem xd_Mo_counts_46 : decode b_Mo_counts 46 = .ok (.iastore, 1) := by decide +kernel
theorem xd_Mo_counts_47 : decode b_Mo_counts 47 = .ok (.iload_n 2, 1) := by decide +kernel
theorem xd_Mo_counts_48 : decode b_Mo_counts 48 = .ok (.iconst 1, 1) := by decide +kernel
theorem xd_Mo_counts_49 : decode b_Mo_counts 49 = .ok (.iadd, 1) := by decide +kernel
theorem xd_Mo_counts_50 : decode b_Mo_counts 50 = .ok (.istore_n 3, 1) := by decide +kernel
theorem xd_Mo_counts_51 : decode b_Mo_counts 51 = .ok (.iload_n 3, 1) := by decide +kernel
theorem xd_Mo_counts_52 : decode b_Mo_counts 52 = .ok (.iload_n 1, 1) := by decide +kernel
theorem xd_Mo_counts_53 : decode b_Mo_counts 53 = .ok (.if_icmp .ge 25, 3) := by decide +kernel
theorem xd_Mo_counts_56 : decode b_Mo_counts 56 = .ok (.aload_n 0, 1) := by decide +kernel
theorem xd_Mo_counts_57 : decode b_Mo_counts 57 = .ok (.getfield 67, 3) := by decide +kernel
theorem xd_Mo_counts_60 : decode b_Mo_counts 60 = .ok (.iload_n 3, 1) := by decide +kernel
theorem xd_Mo_counts_61 : decode b_Mo_counts 61 = .ok (.aload_n 0, 1) := by decide +kernel
theorem xd_Mo_counts_62 : decode b_Mo_counts 62 = .ok (.getfield 67, 3) := by decide +kernel
theorem xd_Mo_counts_65 : decode b_Mo_counts 65 = .ok (.iload_n 3, 1) := by decide +kernel
theorem xd_Mo_counts_66 : decode b_Mo_counts 66 = .ok (.iconst 1, 1) := by decide +kernel
theorem xd_Mo_counts_67 : decode b_Mo_counts 67 = .ok (.isub, 1) := by decide +kernel
theorem xd_Mo_counts_68 : decode b_Mo_counts 68 = .ok (.iaload, 1) := by decide +kernel
theorem xd_Mo_counts_69 : decode b_Mo_counts 69 = .ok (.iconst 1, 1) := by decide +kernel
theorem xd_Mo_counts_70 : decode b_Mo_counts 70 = .ok (.iadd, 1) := by decide +kernel
theorem xd_Mo_counts_71 : decode b_Mo_counts 71 = .ok (.iastore, 1) := by decide +kernel
theorem xd_Mo_counts_72 : decode b_Mo_counts 72 = .ok (.iinc 3 1, 3) := by decide +kernel
theorem xd_Mo_counts_75 : decode b_Mo_counts 75 = .ok (.goto (-24), 3) := by decide +kernel
theorem xd_Mo_counts_78 : decode b_Mo_counts 78 = .ok (.iconst 1, 1) := by decide +kernel
theorem xd_Mo_counts_79 : decode b_Mo_counts 79 = .ok (.ireturn, 1) := by decide +kernel
abbrev rm_Mo_counts : Room := { frames := 1, cells := 0, slots := 0, locals := 20 }
def xw_Mo_counts_4 (x1 : Int32) (post : Int32 → xM → Prop) (k31 : Int32 → xM → Prop) : Nat → Int32 → xM → Prop
  | 0, _, _ => False
  | n4 + 1, x2, M => ((x2 < 0) → (k31 x2 M)) ∧ ((¬ x2 < 0) → ((vp_in x2 5) ∧ (xw_Mo_places M (fun (r2 : Int32) (M1 : xM) => ((¬ (M 9 16 x2.toNatClampNeg) = ((r2 - x1) + x2)) → (k31 x2 M1)) ∧ (((M 9 16 x2.toNatClampNeg) = ((r2 - x1) + x2)) → (xw_Mo_counts_4 x1 post k31 n4 (x2 + (-1 : Int32)) M1))))))
def xw_Mo_counts_51 (x1 : Int32) (post : Int32 → xM → Prop) (k78 : Int32 → xM → Prop) : Nat → Int32 → xM → Prop
  | 0, _, _ => False
  | n51 + 1, x3, M => ((x1 ≤ x3) → (k78 x3 M)) ∧ ((¬ x1 ≤ x3) → ((vp_in (x3 - (1 : Int32)) 5) ∧ ((vp_in x3 5) ∧ (xw_Mo_counts_51 x1 post k78 n51 (x3 + (1 : Int32)) (us M 9 16 x3.toNatClampNeg ((M 9 16 (x3 - (1 : Int32)).toNatClampNeg) + (1 : Int32)))))))
def xw_Mo_counts (a1 : Int32) (M : xM) (post : Int32 → xM → Prop) : Prop :=
  ∃ n4 : Nat, xw_Mo_counts_4 a1 post (fun (y3 : Int32) (M4 : xM) => ((0 ≤ y3) → ((vp_in y3 5) ∧ ((vp_in y3 5) ∧ (∃ n51 : Nat, xw_Mo_counts_51 a1 post (fun (y5 : Int32) (M6 : xM) => post (1 : Int32) M6) n51 (y3 + (1 : Int32)) (us M4 9 16 y3.toNatClampNeg ((M4 9 16 y3.toNatClampNeg) + (1 : Int32))))))) ∧ ((¬ 0 ≤ y3) → (post (0 : Int32) M4))) n4 (a1 - (1 : Int32)) M
set_option maxHeartbeats 4000000 in
set_option maxRecDepth 100000 in
theorem xt_Mo_counts_4 {p : Program} {l : Launch} {e : Env} {s : State} {m : MethodId} {args : Array Value} {below : List Frame} {meth : Method} {c : Code} {G : xG} (hC : xC p s m args c b_Mo_counts R_Mo 4 G) (hr : meth.sig.returnType = (some .boolean)) (hlk : meth.locks = false) {x1 : Int32} {post : Int32 → xM → Prop} {k31 : Int32 → xM → Prop} (hk31 : ∀ (x2 : Int32) (M : xM) (H : Heap) (locs : List Loc) (ls : Array Slot), k31 x2 M → xRp G M H → va_S (xA G) s.heap H locs → lv_has ls 4 [(0, .ref (G.1 9 0)), (1, .int x1), (2, .int x2)] → W p l e rm_Mo_counts s m args below meth c H locs 0 0 (MQ below (xPi G post) args s 0 0 (xA G)) (F0 m 31 ls [])) : ∀ (n : Nat) (x2 : Int32) (M : xM) (H : Heap) (locs : List Loc) (ls : Array Slot), xw_Mo_counts_4 x1 post k31 n x2 M → xRp G M H → va_S (xA G) s.heap H locs → lv_has ls 4 [(0, .ref (G.1 9 0)), (1, .int x1), (2, .int x2)] → W p l e rm_Mo_counts s m args below meth c H locs 0 0 (MQ below (xPi G post) args s 0 0 (xA G)) (F0 m 4 ls []) := by
  have hx := hC.1
  have hb := hC.2.1
  intro n
  induction n with
  | zero => intro x2 M H locs ls; exact fun h => h.elim
  | succ n ih =>
    intro x2 M H locs ls h hR hS hl
    refine lv_iload_n (pc := 4) hx hb xd_Mo_counts_4 rfl (lv_at hl 2 rfl) ?_
    refine lv_if_lt (pc := 5) (tgt := 31) hx hb xd_Mo_counts_5 (by decide) (fun hq => ?_) (fun hq => ?_)
    · have h := h.1 hq
      exact hk31 x2 M H locs ls h hR hS (lv_sub hl [0, 1, 2] rfl)
    · have h := h.2 hq
      refine lv_aload_n (pc := 8) hx hb xd_Mo_counts_8 rfl (lv_at hl 0 rfl) ?_
      refine xr_get (pc := 9) (v := .ref (G.1 9 16)) hC hR xo_M0 xf_Mo_67 rfl xd_Mo_counts_9 ?_
      refine lv_iload_n (pc := 12) hx hb xd_Mo_counts_12 rfl (lv_at hl 2 rfl) ?_
      obtain ⟨hq, h⟩ := h
      refine xr_iald (pc := 13) hC hR xo_M16 hq xd_Mo_counts_13 ?_
      refine lv_aload_n (pc := 14) hx hb xd_Mo_counts_14 rfl (lv_at hl 0 rfl) ?_
      refine xr_callV (pc := 15) (As := []) (rest := [.int (M 9 16 x2.toNatClampNeg)]) hC hR hS (xc_Mo_places l G  h) xo_M0 xv_Mo_107 ⟨rfl, rfl, Nat.le_of_ble_eq_true rfl, Nat.le_of_ble_eq_true rfl⟩ rfl hl.1 rfl (Nat.le_of_ble_eq_true rfl) xd_Mo_counts_15 (fun r2 M1 H locs h hR hS => ?_)
      refine lv_iload_n (pc := 18) hx hb xd_Mo_counts_18 rfl (lv_at hl 1 rfl) ?_
      refine lv_isub (pc := 19) hx hb xd_Mo_counts_19 ?_
      refine lv_iload_n (pc := 20) hx hb xd_Mo_counts_20 rfl (lv_at hl 2 rfl) ?_
      refine lv_iadd (pc := 21) hx hb xd_Mo_counts_21 ?_
      refine lv_icmp_ne (pc := 22) (tgt := 31) hx hb xd_Mo_counts_22 (by decide) (fun hq => ?_) (fun hq => ?_)
      · have h := h.1 hq
        exact hk31 x2 M1 H locs ls h hR hS (lv_sub hl [0, 1, 2] rfl)
      · have h := h.2 hq
        refine lv_iinc (pc := 25) (v := (x2 + (-1 : Int32))) (lv' := [(2, .int (x2 + (-1 : Int32))), (0, .ref (G.1 9 0)), (1, .int x1)]) hx hb xd_Mo_counts_25 hl (k := 2) rfl rfl (by decide) rfl (fun ls hl => ?_)
        refine lv_goto (pc := 28) (tgt := 4) hx hb xd_Mo_counts_28 (by decide) ?_
        exact ih (x2 + (-1 : Int32)) M1 H locs ls h hR hS (lv_sub hl [1, 2, 0] rfl)
set_option maxHeartbeats 4000000 in
set_option maxRecDepth 100000 in
theorem xt_Mo_counts_51 {p : Program} {l : Launch} {e : Env} {s : State} {m : MethodId} {args : Array Value} {below : List Frame} {meth : Method} {c : Code} {G : xG} (hC : xC p s m args c b_Mo_counts R_Mo 4 G) (hr : meth.sig.returnType = (some .boolean)) (hlk : meth.locks = false) {x1 : Int32} {post : Int32 → xM → Prop} {k78 : Int32 → xM → Prop} (hk78 : ∀ (x3 : Int32) (M : xM) (H : Heap) (locs : List Loc) (ls : Array Slot), k78 x3 M → xRp G M H → va_S (xA G) s.heap H locs → lv_has ls 4 [(0, .ref (G.1 9 0)), (1, .int x1), (3, .int x3)] → W p l e rm_Mo_counts s m args below meth c H locs 0 0 (MQ below (xPi G post) args s 0 0 (xA G)) (F0 m 78 ls [])) : ∀ (n : Nat) (x3 : Int32) (M : xM) (H : Heap) (locs : List Loc) (ls : Array Slot), xw_Mo_counts_51 x1 post k78 n x3 M → xRp G M H → va_S (xA G) s.heap H locs → lv_has ls 4 [(0, .ref (G.1 9 0)), (1, .int x1), (3, .int x3)] → W p l e rm_Mo_counts s m args below meth c H locs 0 0 (MQ below (xPi G post) args s 0 0 (xA G)) (F0 m 51 ls []) := by
  have hx := hC.1
  have hb := hC.2.1
  intro n
  induction n with
  | zero => intro x3 M H locs ls; exact fun h => h.elim
  | succ n ih =>
    intro x3 M H locs ls h hR hS hl
    refine lv_iload_n (pc := 51) hx hb xd_Mo_counts_51 rfl (lv_at hl 2 rfl) ?_
    refine lv_iload_n (pc := 52) hx hb xd_Mo_counts_52 rfl (lv_at hl 1 rfl) ?_
    refine lv_icmp_ge (pc := 53) (tgt := 78) hx hb xd_Mo_counts_53 (by decide) (fun hq => ?_) (fun hq => ?_)
    · have h := h.1 hq
      exact hk78 x3 M H locs ls h hR hS (lv_sub hl [0, 1, 2] rfl)
    · have h := h.2 hq
      refine lv_aload_n (pc := 56) hx hb xd_Mo_counts_56 rfl (lv_at hl 0 rfl) ?_
      refine xr_get (pc := 57) (v := .ref (G.1 9 16)) hC hR xo_M0 xf_Mo_67 rfl xd_Mo_counts_57 ?_
      refine lv_iload_n (pc := 60) hx hb xd_Mo_counts_60 rfl (lv_at hl 2 rfl) ?_
      refine lv_aload_n (pc := 61) hx hb xd_Mo_counts_61 rfl (lv_at hl 0 rfl) ?_
      refine xr_get (pc := 62) (v := .ref (G.1 9 16)) hC hR xo_M0 xf_Mo_67 rfl xd_Mo_counts_62 ?_
      refine lv_iload_n (pc := 65) hx hb xd_Mo_counts_65 rfl (lv_at hl 2 rfl) ?_
      refine lv_iconst (pc := 66) (v := (1 : Int32)) hx hb xd_Mo_counts_66 (by decide) ?_
      refine lv_isub (pc := 67) hx hb xd_Mo_counts_67 ?_
      obtain ⟨hq, h⟩ := h
      refine xr_iald (pc := 68) hC hR xo_M16 hq xd_Mo_counts_68 ?_
      refine lv_iconst (pc := 69) (v := (1 : Int32)) hx hb xd_Mo_counts_69 (by decide) ?_
      refine lv_iadd (pc := 70) hx hb xd_Mo_counts_70 ?_
      obtain ⟨hq, h⟩ := h
      refine xr_iast (pc := 71) hC hR hS xo_M16 hq xd_Mo_counts_71 (fun H locs hR hS => ?_)
      refine lv_iinc (pc := 72) (v := (x3 + (1 : Int32))) (lv' := [(3, .int (x3 + (1 : Int32))), (0, .ref (G.1 9 0)), (1, .int x1)]) hx hb xd_Mo_counts_72 hl (k := 2) rfl rfl (by decide) rfl (fun ls hl => ?_)
      refine lv_goto (pc := 75) (tgt := 51) hx hb xd_Mo_counts_75 (by decide) ?_
      exact ih (x3 + (1 : Int32)) (us M 9 16 x3.toNatClampNeg ((M 9 16 (x3 - (1 : Int32)).toNatClampNeg) + (1 : Int32))) H locs ls h hR hS (lv_sub hl [1, 2, 0] rfl)
set_option maxHeartbeats 4000000 in
set_option maxRecDepth 100000 in
theorem xc_Mo_counts (l : Launch) (G : xG) {a1 : Int32}  {M : xM} {post : Int32 → xM → Prop} (h : xw_Mo_counts a1 M post) : Met l y_Mo_counts (Cond.code y_Mo_counts b_Mo_counts 4 (some .boolean) :: xTG) rm_Mo_counts (xPre G M [.ref (G.1 9 0), .int a1]) (xPi G post) 0 0 (xA G) := by
  refine xMet (own := R_Mo) [.ref (G.1 9 0), .int a1] (Or.inl (by decide)) rfl (Nat.le_of_ble_eq_true rfl) (fun p e s m args below meth c ls hC hr hlk hR hS hl => ?_)
  have hx := hC.1
  have hb := hC.2.1
  have hl : lv_has ls 4 [(0, .ref (G.1 9 0)), (1, .int a1)] := hl
  obtain ⟨H, eH⟩ : ∃ H : Heap, H = s.heap := ⟨_, rfl⟩
  obtain ⟨locs, eL⟩ : ∃ locs : List Loc, locs = [] := ⟨_, rfl⟩
  rw [← eH] at hR
  replace hS : va_S (xA G) s.heap H locs := by rw [eH, eL]; exact hS
  suffices hh : W p l e rm_Mo_counts s m args below meth c H locs 0 0 (MQ below (xPi G post) args s 0 0 (xA G)) (F0 m 0 ls []) from by rw [eH, eL] at hh; exact hh
  unfold xw_Mo_counts at h
  refine lv_iload_n (pc := 0) hx hb xd_Mo_counts_0 rfl (lv_at hl 1 rfl) ?_
  refine lv_iconst (pc := 1) (v := (1 : Int32)) hx hb xd_Mo_counts_1 (by decide) ?_
  refine lv_isub (pc := 2) hx hb xd_Mo_counts_2 ?_
  refine lv_istore_n (pc := 3) (lv' := [(2, .int (a1 - (1 : Int32))), (0, .ref (G.1 9 0)), (1, .int a1)]) hx hb xd_Mo_counts_3 rfl hl (by decide) rfl (fun ls hl => ?_)
  obtain ⟨n, h⟩ := h
  refine xt_Mo_counts_4 hC hr hlk  (fun y3 M4 H locs ls h hR hS hl => ?_) n (a1 - (1 : Int32)) M H locs ls h hR hS (lv_sub hl [1, 2, 0] rfl)
  refine lv_iload_n (pc := 31) hx hb xd_Mo_counts_31 rfl (lv_at hl 2 rfl) ?_
  refine lv_if_ge (pc := 32) (tgt := 37) hx hb xd_Mo_counts_32 (by decide) (fun hq => ?_) (fun hq => ?_)
  · have h := h.1 hq
    refine lv_aload_n (pc := 37) hx hb xd_Mo_counts_37 rfl (lv_at hl 0 rfl) ?_
    refine xr_get (pc := 38) (v := .ref (G.1 9 16)) hC hR xo_M0 xf_Mo_67 rfl xd_Mo_counts_38 ?_
    refine lv_iload_n (pc := 41) hx hb xd_Mo_counts_41 rfl (lv_at hl 2 rfl) ?_
    refine lv_dup2_11 (pc := 42) hx hb xd_Mo_counts_42 rfl rfl ?_
    obtain ⟨hq, h⟩ := h
    refine xr_iald (pc := 43) hC hR xo_M16 hq xd_Mo_counts_43 ?_
    refine lv_iconst (pc := 44) (v := (1 : Int32)) hx hb xd_Mo_counts_44 (by decide) ?_
    refine lv_iadd (pc := 45) hx hb xd_Mo_counts_45 ?_
    obtain ⟨hq, h⟩ := h
    refine xr_iast (pc := 46) hC hR hS xo_M16 hq xd_Mo_counts_46 (fun H locs hR hS => ?_)
    refine lv_iload_n (pc := 47) hx hb xd_Mo_counts_47 rfl (lv_at hl 2 rfl) ?_
    refine lv_iconst (pc := 48) (v := (1 : Int32)) hx hb xd_Mo_counts_48 (by decide) ?_
    refine lv_iadd (pc := 49) hx hb xd_Mo_counts_49 ?_
    refine lv_istore_n (pc := 50) (lv' := [(3, .int (y3 + (1 : Int32))), (0, .ref (G.1 9 0)), (1, .int a1), (2, .int y3)]) hx hb xd_Mo_counts_50 rfl hl (by decide) rfl (fun ls hl => ?_)
    obtain ⟨n, h⟩ := h
    refine xt_Mo_counts_51 hC hr hlk  (fun y5 M6 H locs ls h hR hS hl => ?_) n (y3 + (1 : Int32)) (us M4 9 16 y3.toNatClampNeg ((M4 9 16 y3.toNatClampNeg) + (1 : Int32))) H locs ls h hR hS (lv_sub hl [1, 2, 0] rfl)
    refine lv_iconst (pc := 78) (v := (1 : Int32)) hx hb xd_Mo_counts_78 (by decide) ?_
    exact xr_zret hC hr hlk hR hS (by decide) h xd_Mo_counts_79
  · have h := h.2 hq
    refine lv_iconst (pc := 35) (v := (0 : Int32)) hx hb xd_Mo_counts_35 (by decide) ?_
    exact xr_zret hC hr hlk hR hS (by decide) h xd_Mo_counts_36

/-! ColoursApartModel.best(I)I -/
theorem xd_Mo_best_0 : decode b_Mo_best 0 = .ok (.iload_n 1, 1) := by decide +kernel
theorem xd_Mo_best_1 : decode b_Mo_best 1 = .ok (.iconst 1, 1) := by decide +kernel
theorem xd_Mo_best_2 : decode b_Mo_best 2 = .ok (.aload_n 0, 1) := by decide +kernel
theorem xd_Mo_best_3 : decode b_Mo_best 3 = .ok (.getfield 29, 3) := by decide +kernel
theorem xd_Mo_best_6 : decode b_Mo_best 6 = .ok (.iconst 4, 1) := by decide +kernel
theorem xd_Mo_best_7 : decode b_Mo_best 7 = .ok (.if_icmp .ne 7, 3) := by decide +kernel
theorem xd_Mo_best_10 : decode b_Mo_best 10 = .ok (.iconst 4, 1) := by decide +kernel
theorem xd_Mo_best_11 : decode b_Mo_best 11 = .ok (.goto 4, 3) := by decide +kernel
theorem xd_Mo_best_14 : decode b_Mo_best 14 = .ok (.iconst 5, 1) := by decide +kernel
theorem xd_Mo_best_15 : decode b_Mo_best 15 = .ok (.invokestatic 85, 3) := by decide +kernel
theorem xd_Mo_best_18 : decode b_Mo_best 18 = .ok (.ifCond .ne 9, 3) := by decide +kernel
theorem xd_Mo_best_21 : decode b_Mo_best 21 = .ok (.aload_n 0, 1) := by decide +kernel
theorem xd_Mo_best_22 : decode b_Mo_best 22 = .ok (.iconst (-1), 1) := by decide +kernel
theorem xd_Mo_best_23 : decode b_Mo_best 23 = .ok (.invokevirtual 89, 3) := by decide +kernel
theorem xd_Mo_best_26 : decode b_Mo_best 26 = .ok (.ireturn, 1) := by decide +kernel
theorem xd_Mo_best_27 : decode b_Mo_best 27 = .ok (.aload_n 0, 1) := by decide +kernel
theorem xd_Mo_best_28 : decode b_Mo_best 28 = .ok (.invokevirtual 171, 3) := by decide +kernel
theorem xd_Mo_best_31 : decode b_Mo_best 31 = .ok (.iconst 0, 1) := by decide +kernel
theorem xd_Mo_best_32 : decode b_Mo_best 32 = .ok (.istore_n 2, 1) := by decide +kernel
theorem xd_Mo_best_33 : decode b_Mo_best 33 = .ok (.iload_n 2, 1) := by decide +kernel
theorem xd_Mo_best_34 : decode b_Mo_best 34 = .ok (.iload_n 1, 1) := by decide +kernel
theorem xd_Mo_best_35 : decode b_Mo_best 35 = .ok (.if_icmp .ge 16, 3) := by decide +kernel
theorem xd_Mo_best_38 : decode b_Mo_best 38 = .ok (.aload_n 0, 1) := by decide +kernel
theorem xd_Mo_best_39 : decode b_Mo_best 39 = .ok (.getfield 67, 3) := by decide +kernel
theorem xd_Mo_best_42 : decode b_Mo_best 42 = .ok (.iload_n 2, 1) := by decide +kernel
theorem xd_Mo_best_43 : decode b_Mo_best 43 = .ok (.iload_n 2, 1) := by decide +kernel
theorem xd_Mo_best_44 : decode b_Mo_best 44 = .ok (.iastore, 1) := by decide +kernel
theorem xd_Mo_best_45 : decode b_Mo_best 45 = .ok (.iinc 2 1, 3) := by decide +kernel
theorem xd_Mo_best_48 : decode b_Mo_best 48 = .ok (.goto (-15), 3) := by decide +kernel
theorem xd_Mo_best_51 : decode b_Mo_best 51 = .ok (.iconst (-1), 1) := by decide +kernel
theorem xd_Mo_best_52 : decode b_Mo_best 52 = .ok (.istore_n 2, 1) := by decide +kernel
theorem xd_Mo_best_53 : decode b_Mo_best 53 = .ok (.iconst 1, 1) := by decide +kernel
theorem xd_Mo_best_54 : decode b_Mo_best 54 = .ok (.istore_n 3, 1) := by decide +kernel
theorem xd_Mo_best_55 : decode b_Mo_best 55 = .ok (.iload_n 3, 1) := by decide +kernel
theorem xd_Mo_best_56 : decode b_Mo_best 56 = .ok (.ifCond .eq 57, 3) := by decide +kernel
theorem xd_Mo_best_59 : decode b_Mo_best 59 = .ok (.aload_n 0, 1) := by decide +kernel
theorem xd_Mo_best_60 : decode b_Mo_best 60 = .ok (.iload_n 1, 1) := by decide +kernel
theorem xd_Mo_best_61 : decode b_Mo_best 61 = .ok (.invokevirtual 174, 3) := by decide +kernel
theorem xd_Mo_best_64 : decode b_Mo_best 64 = .ok (.istore 4, 2) := by decide +kernel
theorem xd_Mo_best_66 : decode b_Mo_best 66 = .ok (.iload 4, 2) := by decide +kernel
theorem xd_Mo_best_68 : decode b_Mo_best 68 = .ok (.iload_n 2, 1) := by decide +kernel
theorem xd_Mo_best_69 : decode b_Mo_best 69 = .ok (.if_icmp .le 35, 3) := by decide +kernel
theorem xd_Mo_best_72 : decode b_Mo_best 72 = .ok (.iload 4, 2) := by decide +kernel
theorem xd_Mo_best_74 : decode b_Mo_best 74 = .ok (.istore_n 2, 1) := by decide +kernel
theorem xd_Mo_best_75 : decode b_Mo_best 75 = .ok (.iconst 0, 1) := by decide +kernel
theorem xd_Mo_best_76 : decode b_Mo_best 76 = .ok (.istore 5, 2) := by decide +kernel
theorem xd_Mo_best_78 : decode b_Mo_best 78 = .ok (.iload 5, 2) := by decide +kernel
theorem xd_Mo_best_80 : decode b_Mo_best 80 = .ok (.iload_n 1, 1) := by decide +kernel
theorem xd_Mo_best_81 : decode b_Mo_best 81 = .ok (.if_icmp .ge 23, 3) := by decide +kernel
theorem xd_Mo_best_84 : decode b_Mo_best 84 = .ok (.aload_n 0, 1) := by decide +kernel
theorem xd_Mo_best_85 : decode b_Mo_best 85 = .ok (.getfield 70, 3) := by decide +kernel
theorem xd_Mo_best_88 : decode b_Mo_best 88 = .ok (.iload 5, 2) := by decide +kernel
theorem xd_Mo_best_90 : decode b_Mo_best 90 = .ok (.aload_n 0, 1) := by decide +kernel
theorem xd_Mo_best_91 : decode b_Mo_best 91 = .ok (.getfield 67, 3) := by decide +kernel
theorem xd_Mo_best_94 : decode b_Mo_best 94 = .ok (.iload 5, 2) := by decide +kernel
theorem xd_Mo_best_96 : decode b_Mo_best 96 = .ok (.iaload, 1) := by decide +kernel
theorem xd_Mo_best_97 : decode b_Mo_best 97 = .ok (.iastore, 1) := by decide +kernel
theorem xd_Mo_best_98 : decode b_Mo_best 98 = .ok (.iinc 5 1, 3) := by decide +kernel
theorem xd_Mo_best_101 : decode b_Mo_best 101 = .ok (.goto (-23), 3) := by decide +kernel
theorem xd_Mo_best_104 : decode b_Mo_best 104 = .ok (.aload_n 0, 1) := by decide +kernel
theorem xd_Mo_best_105 : decode b_Mo_best 105 = .ok (.iload_n 1, 1) := by decide +kernel
theorem xd_Mo_best_106 : decode b_Mo_best 106 = .ok (.invokevirtual 177, 3) := by decide +kernel
theorem xd_Mo_best_109 : decode b_Mo_best 109 = .ok (.istore_n 3, 1) := by decide +kernel
theorem xd_Mo_best_110 : decode b_Mo_best 110 = .ok (.goto (-55), 3) := by decide +kernel
theorem xd_Mo_best_113 : decode b_Mo_best 113 = .ok (.aload_n 0, 1) := by decide +kernel
theorem xd_Mo_best_114 : decode b_Mo_best 114 = .ok (.iload_n 1, 1) := by decide +kernel
theorem xd_Mo_best_115 : decode b_Mo_best 115 = .ok (.putfield 180, 3) := by decide +kernel
theorem xd_Mo_best_118 : decode b_Mo_best 118 = .ok (.aload_n 0, 1) := by decide +kernel
theorem xd_Mo_best_119 : decode b_Mo_best 119 = .ok (.iload_n 2, 1) := by decide +kernel
theorem xd_Mo_best_120 : decode b_Mo_best 120 = .ok (.invokevirtual 89, 3) := by decide +kernel
theorem xd_Mo_best_123 : decode b_Mo_best 123 = .ok (.ireturn, 1) := by decide +kernel
abbrev rm_Mo_best : Room := { frames := 6, cells := 0, slots := 0, locals := 143 }
def xw_Mo_best_33 (x1 : Int32) (post : Int32 → xM → Prop) (k51 : Int32 → xM → Prop) : Nat → Int32 → xM → Prop
  | 0, _, _ => False
  | n33 + 1, x2, M => ((x1 ≤ x2) → (k51 x2 M)) ∧ ((¬ x1 ≤ x2) → ((vp_in x2 5) ∧ (xw_Mo_best_33 x1 post k51 n33 (x2 + (1 : Int32)) (us M 9 16 x2.toNatClampNeg x2))))
def xw_Mo_best_78 (x1 : Int32) (x2 : Int32) (post : Int32 → xM → Prop) (k104 : Int32 → xM → Prop) : Nat → Int32 → xM → Prop
  | 0, _, _ => False
  | n78 + 1, x5, M => ((x1 ≤ x5) → (k104 x5 M)) ∧ ((¬ x1 ≤ x5) → ((vp_in x5 5) ∧ ((vp_in x5 5) ∧ (xw_Mo_best_78 x1 x2 post k104 n78 (x5 + (1 : Int32)) (us M 9 17 x5.toNatClampNeg (M 9 16 x5.toNatClampNeg))))))
def xw_Mo_best_55 (x1 : Int32) (post : Int32 → xM → Prop) (k113 : Int32 → Int32 → xM → Prop) : Nat → Int32 → Int32 → xM → Prop
  | 0, _, _, _ => False
  | n55 + 1, x2, x3, M => ((x3 = 0) → (k113 x2 x3 M)) ∧ ((¬ x3 = 0) → (xw_Mo_leastOf x1 M (fun (r10 : Int32) (M9 : xM) => xj (fun (J104_10 : Int32 → xM → Prop) => ((r10 ≤ x2) → (J104_10 x2 M9)) ∧ ((¬ r10 ≤ x2) → (∃ n78 : Nat, xw_Mo_best_78 x1 r10 post (fun (y16 : Int32) (M17 : xM) => J104_10 r10 M17) n78 (0 : Int32) M9))) (fun (v12 : Int32) (M13 : xM) => xw_Mo_counts x1 M13 (fun (r15 : Int32) (M14 : xM) => xw_Mo_best_55 x1 post k113 n55 v12 r15 M14)))))
def xw_Mo_best (a1 : Int32) (M : xM) (post : Int32 → xM → Prop) : Prop :=
  xj (fun (J15_0 : Int32 → xM → Prop) => ((¬ (M 9 0 7) = (4 : Int32)) → (J15_0 (5 : Int32) M)) ∧ (((M 9 0 7) = (4 : Int32)) → (J15_0 (4 : Int32) M))) (fun (v2 : Int32) (M3 : xM) => xw_Mo_in a1 (1 : Int32) v2 M3 (fun (r5 : Int32) (M4 : xM) => ((¬ r5 = 0) → (xw_Mo_measures M4 (fun (M6 : xM) => ∃ n33 : Nat, xw_Mo_best_33 a1 post (fun (y7 : Int32) (M8 : xM) => ∃ n55 : Nat, xw_Mo_best_55 a1 post (fun (y18 : Int32) (y19 : Int32) (M20 : xM) => xw_Mo_ends y18 (us M20 9 0 23 a1) (fun (r22 : Int32) (M21 : xM) => post r22 M21)) n55 (-1 : Int32) (1 : Int32) M8) n33 (0 : Int32) M6))) ∧ ((r5 = 0) → (xw_Mo_ends (-1 : Int32) M4 (fun (r24 : Int32) (M23 : xM) => post r24 M23)))))
set_option maxHeartbeats 4000000 in
set_option maxRecDepth 100000 in
theorem xt_Mo_best_33 {p : Program} {l : Launch} {e : Env} {s : State} {m : MethodId} {args : Array Value} {below : List Frame} {meth : Method} {c : Code} {G : xG} (hC : xC p s m args c b_Mo_best R_Mo 6 G) (hr : meth.sig.returnType = (some .int)) (hlk : meth.locks = false) {x1 : Int32} {post : Int32 → xM → Prop} {k51 : Int32 → xM → Prop} (hk51 : ∀ (x2 : Int32) (M : xM) (H : Heap) (locs : List Loc) (ls : Array Slot), k51 x2 M → xRp G M H → va_S (xA G) s.heap H locs → lv_has ls 6 [(0, .ref (G.1 9 0)), (1, .int x1), (2, .int x2)] → W p l e rm_Mo_best s m args below meth c H locs 0 0 (MQ below (xPi G post) args s 0 0 (xA G)) (F0 m 51 ls [])) : ∀ (n : Nat) (x2 : Int32) (M : xM) (H : Heap) (locs : List Loc) (ls : Array Slot), xw_Mo_best_33 x1 post k51 n x2 M → xRp G M H → va_S (xA G) s.heap H locs → lv_has ls 6 [(0, .ref (G.1 9 0)), (1, .int x1), (2, .int x2)] → W p l e rm_Mo_best s m args below meth c H locs 0 0 (MQ below (xPi G post) args s 0 0 (xA G)) (F0 m 33 ls []) := by
  have hx := hC.1
  have hb := hC.2.1
  intro n
  induction n with
  | zero => intro x2 M H locs ls; exact fun h => h.elim
  | succ n ih =>
    intro x2 M H locs ls h hR hS hl
    refine lv_iload_n (pc := 33) hx hb xd_Mo_best_33 rfl (lv_at hl 2 rfl) ?_
    refine lv_iload_n (pc := 34) hx hb xd_Mo_best_34 rfl (lv_at hl 1 rfl) ?_
    refine lv_icmp_ge (pc := 35) (tgt := 51) hx hb xd_Mo_best_35 (by decide) (fun hq => ?_) (fun hq => ?_)
    · have h := h.1 hq
      exact hk51 x2 M H locs ls h hR hS (lv_sub hl [0, 1, 2] rfl)
    · have h := h.2 hq
      refine lv_aload_n (pc := 38) hx hb xd_Mo_best_38 rfl (lv_at hl 0 rfl) ?_
      refine xr_get (pc := 39) (v := .ref (G.1 9 16)) hC hR xo_M0 xf_Mo_67 rfl xd_Mo_best_39 ?_
      refine lv_iload_n (pc := 42) hx hb xd_Mo_best_42 rfl (lv_at hl 2 rfl) ?_
      refine lv_iload_n (pc := 43) hx hb xd_Mo_best_43 rfl (lv_at hl 2 rfl) ?_
      obtain ⟨hq, h⟩ := h
      refine xr_iast (pc := 44) hC hR hS xo_M16 hq xd_Mo_best_44 (fun H locs hR hS => ?_)
      refine lv_iinc (pc := 45) (v := (x2 + (1 : Int32))) (lv' := [(2, .int (x2 + (1 : Int32))), (0, .ref (G.1 9 0)), (1, .int x1)]) hx hb xd_Mo_best_45 hl (k := 2) rfl rfl (by decide) rfl (fun ls hl => ?_)
      refine lv_goto (pc := 48) (tgt := 33) hx hb xd_Mo_best_48 (by decide) ?_
      exact ih (x2 + (1 : Int32)) (us M 9 16 x2.toNatClampNeg x2) H locs ls h hR hS (lv_sub hl [1, 2, 0] rfl)
set_option maxHeartbeats 4000000 in
set_option maxRecDepth 100000 in
theorem xt_Mo_best_78 {p : Program} {l : Launch} {e : Env} {s : State} {m : MethodId} {args : Array Value} {below : List Frame} {meth : Method} {c : Code} {G : xG} (hC : xC p s m args c b_Mo_best R_Mo 6 G) (hr : meth.sig.returnType = (some .int)) (hlk : meth.locks = false) {x1 : Int32} {x2 : Int32} {post : Int32 → xM → Prop} {k104 : Int32 → xM → Prop} (hk104 : ∀ (x5 : Int32) (M : xM) (H : Heap) (locs : List Loc) (ls : Array Slot), k104 x5 M → xRp G M H → va_S (xA G) s.heap H locs → lv_has ls 6 [(0, .ref (G.1 9 0)), (1, .int x1), (2, .int x2), (5, .int x5)] → W p l e rm_Mo_best s m args below meth c H locs 0 0 (MQ below (xPi G post) args s 0 0 (xA G)) (F0 m 104 ls [])) : ∀ (n : Nat) (x5 : Int32) (M : xM) (H : Heap) (locs : List Loc) (ls : Array Slot), xw_Mo_best_78 x1 x2 post k104 n x5 M → xRp G M H → va_S (xA G) s.heap H locs → lv_has ls 6 [(0, .ref (G.1 9 0)), (1, .int x1), (2, .int x2), (5, .int x5)] → W p l e rm_Mo_best s m args below meth c H locs 0 0 (MQ below (xPi G post) args s 0 0 (xA G)) (F0 m 78 ls []) := by
  have hx := hC.1
  have hb := hC.2.1
  intro n
  induction n with
  | zero => intro x5 M H locs ls; exact fun h => h.elim
  | succ n ih =>
    intro x5 M H locs ls h hR hS hl
    refine lv_iload (pc := 78) hx hb xd_Mo_best_78 (lv_at hl 3 rfl) ?_
    refine lv_iload_n (pc := 80) hx hb xd_Mo_best_80 rfl (lv_at hl 1 rfl) ?_
    refine lv_icmp_ge (pc := 81) (tgt := 104) hx hb xd_Mo_best_81 (by decide) (fun hq => ?_) (fun hq => ?_)
    · have h := h.1 hq
      exact hk104 x5 M H locs ls h hR hS (lv_sub hl [0, 1, 2, 3] rfl)
    · have h := h.2 hq
      refine lv_aload_n (pc := 84) hx hb xd_Mo_best_84 rfl (lv_at hl 0 rfl) ?_
      refine xr_get (pc := 85) (v := .ref (G.1 9 17)) hC hR xo_M0 xf_Mo_70 rfl xd_Mo_best_85 ?_
      refine lv_iload (pc := 88) hx hb xd_Mo_best_88 (lv_at hl 3 rfl) ?_
      refine lv_aload_n (pc := 90) hx hb xd_Mo_best_90 rfl (lv_at hl 0 rfl) ?_
      refine xr_get (pc := 91) (v := .ref (G.1 9 16)) hC hR xo_M0 xf_Mo_67 rfl xd_Mo_best_91 ?_
      refine lv_iload (pc := 94) hx hb xd_Mo_best_94 (lv_at hl 3 rfl) ?_
      obtain ⟨hq, h⟩ := h
      refine xr_iald (pc := 96) hC hR xo_M16 hq xd_Mo_best_96 ?_
      obtain ⟨hq, h⟩ := h
      refine xr_iast (pc := 97) hC hR hS xo_M17 hq xd_Mo_best_97 (fun H locs hR hS => ?_)
      refine lv_iinc (pc := 98) (v := (x5 + (1 : Int32))) (lv' := [(5, .int (x5 + (1 : Int32))), (0, .ref (G.1 9 0)), (1, .int x1), (2, .int x2)]) hx hb xd_Mo_best_98 hl (k := 3) rfl rfl (by decide) rfl (fun ls hl => ?_)
      refine lv_goto (pc := 101) (tgt := 78) hx hb xd_Mo_best_101 (by decide) ?_
      exact ih (x5 + (1 : Int32)) (us M 9 17 x5.toNatClampNeg (M 9 16 x5.toNatClampNeg)) H locs ls h hR hS (lv_sub hl [1, 2, 3, 0] rfl)
set_option maxHeartbeats 4000000 in
set_option maxRecDepth 100000 in
theorem xt_Mo_best_55 {p : Program} {l : Launch} {e : Env} {s : State} {m : MethodId} {args : Array Value} {below : List Frame} {meth : Method} {c : Code} {G : xG} (hC : xC p s m args c b_Mo_best R_Mo 6 G) (hr : meth.sig.returnType = (some .int)) (hlk : meth.locks = false) {x1 : Int32} {post : Int32 → xM → Prop} {k113 : Int32 → Int32 → xM → Prop} (hk113 : ∀ (x2 : Int32) (x3 : Int32) (M : xM) (H : Heap) (locs : List Loc) (ls : Array Slot), k113 x2 x3 M → xRp G M H → va_S (xA G) s.heap H locs → lv_has ls 6 [(0, .ref (G.1 9 0)), (1, .int x1), (2, .int x2), (3, .int x3)] → W p l e rm_Mo_best s m args below meth c H locs 0 0 (MQ below (xPi G post) args s 0 0 (xA G)) (F0 m 113 ls [])) : ∀ (n : Nat) (x2 : Int32) (x3 : Int32) (M : xM) (H : Heap) (locs : List Loc) (ls : Array Slot), xw_Mo_best_55 x1 post k113 n x2 x3 M → xRp G M H → va_S (xA G) s.heap H locs → lv_has ls 6 [(0, .ref (G.1 9 0)), (1, .int x1), (2, .int x2), (3, .int x3)] → W p l e rm_Mo_best s m args below meth c H locs 0 0 (MQ below (xPi G post) args s 0 0 (xA G)) (F0 m 55 ls []) := by
  have hx := hC.1
  have hb := hC.2.1
  intro n
  induction n with
  | zero => intro x2 x3 M H locs ls; exact fun h => h.elim
  | succ n ih =>
    intro x2 x3 M H locs ls h hR hS hl
    refine lv_iload_n (pc := 55) hx hb xd_Mo_best_55 rfl (lv_at hl 3 rfl) ?_
    refine lv_if_eq (pc := 56) (tgt := 113) hx hb xd_Mo_best_56 (by decide) (fun hq => ?_) (fun hq => ?_)
    · have h := h.1 hq
      exact hk113 x2 x3 M H locs ls h hR hS (lv_sub hl [0, 1, 2, 3] rfl)
    · have h := h.2 hq
      refine lv_aload_n (pc := 59) hx hb xd_Mo_best_59 rfl (lv_at hl 0 rfl) ?_
      refine lv_iload_n (pc := 60) hx hb xd_Mo_best_60 rfl (lv_at hl 1 rfl) ?_
      refine xr_callV (pc := 61) (As := [.int x1]) (rest := []) hC hR hS (xc_Mo_leastOf l G  h) xo_M0 xv_Mo_174 ⟨rfl, rfl, Nat.le_of_ble_eq_true rfl, Nat.le_of_ble_eq_true rfl⟩ rfl hl.1 rfl (Nat.le_of_ble_eq_true rfl) xd_Mo_best_61 (fun r10 M9 H locs h hR hS => ?_)
      refine lv_istore (pc := 64) (lv' := [(4, .int r10), (0, .ref (G.1 9 0)), (1, .int x1), (2, .int x2), (3, .int x3)]) hx hb xd_Mo_best_64 hl (by decide) rfl (fun ls hl => ?_)
      refine lv_iload (pc := 66) hx hb xd_Mo_best_66 (lv_at hl 0 rfl) ?_
      refine lv_iload_n (pc := 68) hx hb xd_Mo_best_68 rfl (lv_at hl 3 rfl) ?_
      obtain ⟨J104_10, eJ104_10, h⟩ := xj_open h
      have kJ104_10 : ∀ (v12 : Int32) (M13 : xM) (H : Heap) (locs : List Loc) (ls : Array Slot), J104_10 v12 M13 → xRp G M13 H → va_S (xA G) s.heap H locs → lv_has ls 6 [(0, .ref (G.1 9 0)), (1, .int x1), (2, .int v12)] → W p l e rm_Mo_best s m args below meth c H locs 0 0 (MQ below (xPi G post) args s 0 0 (xA G)) (F0 m 104 ls []) := by
        intro v12 M13 H locs ls h hR hS hl
        rw [eJ104_10] at h
        refine lv_aload_n (pc := 104) hx hb xd_Mo_best_104 rfl (lv_at hl 0 rfl) ?_
        refine lv_iload_n (pc := 105) hx hb xd_Mo_best_105 rfl (lv_at hl 1 rfl) ?_
        refine xr_callV (pc := 106) (As := [.int x1]) (rest := []) hC hR hS (xc_Mo_counts l G  h) xo_M0 xv_Mo_177 ⟨rfl, rfl, Nat.le_of_ble_eq_true rfl, Nat.le_of_ble_eq_true rfl⟩ rfl hl.1 rfl (Nat.le_of_ble_eq_true rfl) xd_Mo_best_106 (fun r15 M14 H locs h hR hS => ?_)
        refine lv_istore_n (pc := 109) (lv' := [(3, .int r15), (0, .ref (G.1 9 0)), (1, .int x1), (2, .int v12)]) hx hb xd_Mo_best_109 rfl hl (by decide) rfl (fun ls hl => ?_)
        refine lv_goto (pc := 110) (tgt := 55) hx hb xd_Mo_best_110 (by decide) ?_
        exact ih v12 r15 M14 H locs ls h hR hS (lv_sub hl [1, 2, 3, 0] rfl)
      refine lv_icmp_le (pc := 69) (tgt := 104) hx hb xd_Mo_best_69 (by decide) (fun hq => ?_) (fun hq => ?_)
      · have h := h.1 hq
        exact kJ104_10 x2 M9 H locs ls h hR hS (lv_sub hl [1, 2, 3] rfl)
      · have h := h.2 hq
        refine lv_iload (pc := 72) hx hb xd_Mo_best_72 (lv_at hl 0 rfl) ?_
        refine lv_istore_n (pc := 74) (lv' := [(2, .int r10), (4, .int r10), (0, .ref (G.1 9 0)), (1, .int x1), (3, .int x3)]) hx hb xd_Mo_best_74 rfl hl (by decide) rfl (fun ls hl => ?_)
        refine lv_iconst (pc := 75) (v := (0 : Int32)) hx hb xd_Mo_best_75 (by decide) ?_
        refine lv_istore (pc := 76) (lv' := [(5, .int (0 : Int32)), (2, .int r10), (4, .int r10), (0, .ref (G.1 9 0)), (1, .int x1), (3, .int x3)]) hx hb xd_Mo_best_76 hl (by decide) rfl (fun ls hl => ?_)
        obtain ⟨n, h⟩ := h
        refine xt_Mo_best_78 hC hr hlk  (fun y16 M17 H locs ls h hR hS hl => ?_) n (0 : Int32) M9 H locs ls h hR hS (lv_sub hl [3, 4, 1, 0] rfl)
        exact kJ104_10 r10 M17 H locs ls h hR hS (lv_sub hl [0, 1, 2] rfl)
set_option maxHeartbeats 4000000 in
set_option maxRecDepth 100000 in
theorem xc_Mo_best (l : Launch) (G : xG) {a1 : Int32}  {M : xM} {post : Int32 → xM → Prop} (h : xw_Mo_best a1 M post) : Met l y_Mo_best (Cond.code y_Mo_best b_Mo_best 6 (some .int) :: xTG) rm_Mo_best (xPre G M [.ref (G.1 9 0), .int a1]) (xPi G post) 0 0 (xA G) := by
  refine xMet (own := R_Mo) [.ref (G.1 9 0), .int a1] (Or.inl (by decide)) rfl (Nat.le_of_ble_eq_true rfl) (fun p e s m args below meth c ls hC hr hlk hR hS hl => ?_)
  have hx := hC.1
  have hb := hC.2.1
  have hl : lv_has ls 6 [(0, .ref (G.1 9 0)), (1, .int a1)] := hl
  obtain ⟨H, eH⟩ : ∃ H : Heap, H = s.heap := ⟨_, rfl⟩
  obtain ⟨locs, eL⟩ : ∃ locs : List Loc, locs = [] := ⟨_, rfl⟩
  rw [← eH] at hR
  replace hS : va_S (xA G) s.heap H locs := by rw [eH, eL]; exact hS
  suffices hh : W p l e rm_Mo_best s m args below meth c H locs 0 0 (MQ below (xPi G post) args s 0 0 (xA G)) (F0 m 0 ls []) from by rw [eH, eL] at hh; exact hh
  unfold xw_Mo_best at h
  refine lv_iload_n (pc := 0) hx hb xd_Mo_best_0 rfl (lv_at hl 1 rfl) ?_
  refine lv_iconst (pc := 1) (v := (1 : Int32)) hx hb xd_Mo_best_1 (by decide) ?_
  refine lv_aload_n (pc := 2) hx hb xd_Mo_best_2 rfl (lv_at hl 0 rfl) ?_
  refine xr_get (pc := 3) (v := .int (M 9 0 7)) hC hR xo_M0 xf_Mo_29 rfl xd_Mo_best_3 ?_
  refine lv_iconst (pc := 6) (v := (4 : Int32)) hx hb xd_Mo_best_6 (by decide) ?_
  obtain ⟨J15_0, eJ15_0, h⟩ := xj_open h
  have kJ15_0 : ∀ (v2 : Int32) (M3 : xM) (H : Heap) (locs : List Loc) (ls : Array Slot), J15_0 v2 M3 → xRp G M3 H → va_S (xA G) s.heap H locs → lv_has ls 6 [(0, .ref (G.1 9 0)), (1, .int a1)] → W p l e rm_Mo_best s m args below meth c H locs 0 0 (MQ below (xPi G post) args s 0 0 (xA G)) (F0 m 15 ls [.int v2, .int (1 : Int32), .int a1]) := by
    intro v2 M3 H locs ls h hR hS hl
    rw [eJ15_0] at h
    refine xr_callS (pc := 15) (As := [.int a1, .int (1 : Int32), .int v2]) (rest := []) hC hR hS (xc_Mo_in l G  h) xv_Mo_85 ⟨rfl, rfl, Nat.le_of_ble_eq_true rfl, Nat.le_of_ble_eq_true rfl⟩ rfl hl.1 rfl (Nat.le_of_ble_eq_true rfl) xd_Mo_best_15 (fun r5 M4 H locs h hR hS => ?_)
    refine lv_if_ne (pc := 18) (tgt := 27) hx hb xd_Mo_best_18 (by decide) (fun hq => ?_) (fun hq => ?_)
    · have h := h.1 hq
      refine lv_aload_n (pc := 27) hx hb xd_Mo_best_27 rfl (lv_at hl 0 rfl) ?_
      refine xr_callVv (pc := 28) (As := []) (rest := []) hC hR hS (xc_Mo_measures l G  h) xo_M0 xv_Mo_171 ⟨rfl, rfl, Nat.le_of_ble_eq_true rfl, Nat.le_of_ble_eq_true rfl⟩ rfl hl.1 rfl (Nat.le_of_ble_eq_true rfl) xd_Mo_best_28 (fun M6 H locs h hR hS => ?_)
      refine lv_iconst (pc := 31) (v := (0 : Int32)) hx hb xd_Mo_best_31 (by decide) ?_
      refine lv_istore_n (pc := 32) (lv' := [(2, .int (0 : Int32)), (0, .ref (G.1 9 0)), (1, .int a1)]) hx hb xd_Mo_best_32 rfl hl (by decide) rfl (fun ls hl => ?_)
      obtain ⟨n, h⟩ := h
      refine xt_Mo_best_33 hC hr hlk  (fun y7 M8 H locs ls h hR hS hl => ?_) n (0 : Int32) M6 H locs ls h hR hS (lv_sub hl [1, 2, 0] rfl)
      refine lv_iconst (pc := 51) (v := (-1 : Int32)) hx hb xd_Mo_best_51 (by decide) ?_
      refine lv_istore_n (pc := 52) (lv' := [(2, .int (-1 : Int32)), (0, .ref (G.1 9 0)), (1, .int a1)]) hx hb xd_Mo_best_52 rfl hl (by decide) rfl (fun ls hl => ?_)
      refine lv_iconst (pc := 53) (v := (1 : Int32)) hx hb xd_Mo_best_53 (by decide) ?_
      refine lv_istore_n (pc := 54) (lv' := [(3, .int (1 : Int32)), (2, .int (-1 : Int32)), (0, .ref (G.1 9 0)), (1, .int a1)]) hx hb xd_Mo_best_54 rfl hl (by decide) rfl (fun ls hl => ?_)
      obtain ⟨n, h⟩ := h
      refine xt_Mo_best_55 hC hr hlk  (fun y18 y19 M20 H locs ls h hR hS hl => ?_) n (-1 : Int32) (1 : Int32) M8 H locs ls h hR hS (lv_sub hl [2, 3, 1, 0] rfl)
      refine lv_aload_n (pc := 113) hx hb xd_Mo_best_113 rfl (lv_at hl 0 rfl) ?_
      refine lv_iload_n (pc := 114) hx hb xd_Mo_best_114 rfl (lv_at hl 1 rfl) ?_
      refine xr_put (pc := 115) hC hR hS xo_M0 xf_Mo_180 xp_10_23 rfl rfl rfl xd_Mo_best_115 (fun H locs hR hS => ?_)
      refine lv_aload_n (pc := 118) hx hb xd_Mo_best_118 rfl (lv_at hl 0 rfl) ?_
      refine lv_iload_n (pc := 119) hx hb xd_Mo_best_119 rfl (lv_at hl 2 rfl) ?_
      refine xr_callV (pc := 120) (As := [.int y18]) (rest := []) hC hR hS (xc_Mo_ends l G  h) xo_M0 xv_Mo_89 ⟨rfl, rfl, Nat.le_of_ble_eq_true rfl, Nat.le_of_ble_eq_true rfl⟩ rfl hl.1 rfl (Nat.le_of_ble_eq_true rfl) xd_Mo_best_120 (fun r22 M21 H locs h hR hS => ?_)
      exact xr_iret hC hr hlk hR hS h xd_Mo_best_123
    · have h := h.2 hq
      refine lv_aload_n (pc := 21) hx hb xd_Mo_best_21 rfl (lv_at hl 0 rfl) ?_
      refine lv_iconst (pc := 22) (v := (-1 : Int32)) hx hb xd_Mo_best_22 (by decide) ?_
      refine xr_callV (pc := 23) (As := [.int (-1 : Int32)]) (rest := []) hC hR hS (xc_Mo_ends l G  h) xo_M0 xv_Mo_89 ⟨rfl, rfl, Nat.le_of_ble_eq_true rfl, Nat.le_of_ble_eq_true rfl⟩ rfl hl.1 rfl (Nat.le_of_ble_eq_true rfl) xd_Mo_best_23 (fun r24 M23 H locs h hR hS => ?_)
      exact xr_iret hC hr hlk hR hS h xd_Mo_best_26
  refine lv_icmp_ne (pc := 7) (tgt := 14) hx hb xd_Mo_best_7 (by decide) (fun hq => ?_) (fun hq => ?_)
  · have h := h.1 hq
    refine lv_iconst (pc := 14) (v := (5 : Int32)) hx hb xd_Mo_best_14 (by decide) ?_
    exact kJ15_0 (5 : Int32) M H locs ls h hR hS (lv_sub hl [0, 1] rfl)
  · have h := h.2 hq
    refine lv_iconst (pc := 10) (v := (4 : Int32)) hx hb xd_Mo_best_10 (by decide) ?_
    refine lv_goto (pc := 11) (tgt := 15) hx hb xd_Mo_best_11 (by decide) ?_
    exact kJ15_0 (4 : Int32) M H locs ls h hR hS (lv_sub hl [0, 1] rfl)

/-! ColoursApartModel.chosen(I)I -/
theorem xd_Mo_chosen_0 : decode b_Mo_chosen 0 = .ok (.iload_n 1, 1) := by decide +kernel
theorem xd_Mo_chosen_1 : decode b_Mo_chosen 1 = .ok (.iconst 0, 1) := by decide +kernel
theorem xd_Mo_chosen_2 : decode b_Mo_chosen 2 = .ok (.aload_n 0, 1) := by decide +kernel
theorem xd_Mo_chosen_3 : decode b_Mo_chosen 3 = .ok (.getfield 180, 3) := by decide +kernel
theorem xd_Mo_chosen_6 : decode b_Mo_chosen 6 = .ok (.iconst 1, 1) := by decide +kernel
theorem xd_Mo_chosen_7 : decode b_Mo_chosen 7 = .ok (.isub, 1) := by decide +kernel
theorem xd_Mo_chosen_8 : decode b_Mo_chosen 8 = .ok (.invokestatic 85, 3) := by decide +kernel
theorem xd_Mo_chosen_11 : decode b_Mo_chosen 11 = .ok (.ifCond .eq 12, 3) := by decide +kernel
theorem xd_Mo_chosen_14 : decode b_Mo_chosen 14 = .ok (.aload_n 0, 1) := by decide +kernel
theorem xd_Mo_chosen_15 : decode b_Mo_chosen 15 = .ok (.getfield 70, 3) := by decide +kernel
theorem xd_Mo_chosen_18 : decode b_Mo_chosen 18 = .ok (.iload_n 1, 1) := by decide +kernel
theorem xd_Mo_chosen_19 : decode b_Mo_chosen 19 = .ok (.iaload, 1) := by decide +kernel
theorem xd_Mo_chosen_20 : decode b_Mo_chosen 20 = .ok (.goto 4, 3) := by decide +kernel
theorem xd_Mo_chosen_23 : decode b_Mo_chosen 23 = .ok (.iconst (-1), 1) := by decide +kernel
theorem xd_Mo_chosen_24 : decode b_Mo_chosen 24 = .ok (.ireturn, 1) := by decide +kernel
abbrev rm_Mo_chosen : Room := { frames := 1, cells := 0, slots := 0, locals := 22 }
def xw_Mo_chosen (a1 : Int32) (M : xM) (post : Int32 → xM → Prop) : Prop :=
  xw_Mo_in a1 (0 : Int32) ((M 9 0 23) - (1 : Int32)) M (fun (r2 : Int32) (M1 : xM) => ((r2 = 0) → (post (-1 : Int32) M1)) ∧ ((¬ r2 = 0) → ((vp_in a1 5) ∧ (post (M1 9 17 a1.toNatClampNeg) M1))))
set_option maxHeartbeats 4000000 in
set_option maxRecDepth 100000 in
theorem xc_Mo_chosen (l : Launch) (G : xG) {a1 : Int32}  {M : xM} {post : Int32 → xM → Prop} (h : xw_Mo_chosen a1 M post) : Met l y_Mo_chosen (Cond.code y_Mo_chosen b_Mo_chosen 2 (some .int) :: xTG) rm_Mo_chosen (xPre G M [.ref (G.1 9 0), .int a1]) (xPi G post) 0 0 (xA G) := by
  refine xMet (own := R_Mo) [.ref (G.1 9 0), .int a1] (Or.inl (by decide)) rfl (Nat.le_of_ble_eq_true rfl) (fun p e s m args below meth c ls hC hr hlk hR hS hl => ?_)
  have hx := hC.1
  have hb := hC.2.1
  have hl : lv_has ls 2 [(0, .ref (G.1 9 0)), (1, .int a1)] := hl
  obtain ⟨H, eH⟩ : ∃ H : Heap, H = s.heap := ⟨_, rfl⟩
  obtain ⟨locs, eL⟩ : ∃ locs : List Loc, locs = [] := ⟨_, rfl⟩
  rw [← eH] at hR
  replace hS : va_S (xA G) s.heap H locs := by rw [eH, eL]; exact hS
  suffices hh : W p l e rm_Mo_chosen s m args below meth c H locs 0 0 (MQ below (xPi G post) args s 0 0 (xA G)) (F0 m 0 ls []) from by rw [eH, eL] at hh; exact hh
  unfold xw_Mo_chosen at h
  refine lv_iload_n (pc := 0) hx hb xd_Mo_chosen_0 rfl (lv_at hl 1 rfl) ?_
  refine lv_iconst (pc := 1) (v := (0 : Int32)) hx hb xd_Mo_chosen_1 (by decide) ?_
  refine lv_aload_n (pc := 2) hx hb xd_Mo_chosen_2 rfl (lv_at hl 0 rfl) ?_
  refine xr_get (pc := 3) (v := .int (M 9 0 23)) hC hR xo_M0 xf_Mo_180 rfl xd_Mo_chosen_3 ?_
  refine lv_iconst (pc := 6) (v := (1 : Int32)) hx hb xd_Mo_chosen_6 (by decide) ?_
  refine lv_isub (pc := 7) hx hb xd_Mo_chosen_7 ?_
  refine xr_callS (pc := 8) (As := [.int a1, .int (0 : Int32), .int ((M 9 0 23) - (1 : Int32))]) (rest := []) hC hR hS (xc_Mo_in l G  h) xv_Mo_85 ⟨rfl, rfl, Nat.le_of_ble_eq_true rfl, Nat.le_of_ble_eq_true rfl⟩ rfl hl.1 rfl (Nat.le_of_ble_eq_true rfl) xd_Mo_chosen_8 (fun r2 M1 H locs h hR hS => ?_)
  refine lv_if_eq (pc := 11) (tgt := 23) hx hb xd_Mo_chosen_11 (by decide) (fun hq => ?_) (fun hq => ?_)
  · have h := h.1 hq
    refine lv_iconst (pc := 23) (v := (-1 : Int32)) hx hb xd_Mo_chosen_23 (by decide) ?_
    exact xr_iret hC hr hlk hR hS h xd_Mo_chosen_24
  · have h := h.2 hq
    refine lv_aload_n (pc := 14) hx hb xd_Mo_chosen_14 rfl (lv_at hl 0 rfl) ?_
    refine xr_get (pc := 15) (v := .ref (G.1 9 17)) hC hR xo_M0 xf_Mo_70 rfl xd_Mo_chosen_15 ?_
    refine lv_iload_n (pc := 18) hx hb xd_Mo_chosen_18 rfl (lv_at hl 1 rfl) ?_
    obtain ⟨hq, h⟩ := h
    refine xr_iald (pc := 19) hC hR xo_M17 hq xd_Mo_chosen_19 ?_
    refine lv_goto (pc := 20) (tgt := 24) hx hb xd_Mo_chosen_20 (by decide) ?_
    exact xr_iret hC hr hlk hR hS h xd_Mo_chosen_24

/-! ColoursApartModel.mayBe(III)Z -/
theorem xd_Mo_mayBe_0 : decode b_Mo_mayBe 0 = .ok (.aload_n 0, 1) := by decide +kernel
theorem xd_Mo_mayBe_1 : decode b_Mo_mayBe 1 = .ok (.iload_n 1, 1) := by decide +kernel
theorem xd_Mo_mayBe_2 : decode b_Mo_mayBe 2 = .ok (.iload_n 2, 1) := by decide +kernel
theorem xd_Mo_mayBe_3 : decode b_Mo_mayBe 3 = .ok (.invokevirtual 154, 3) := by decide +kernel
theorem xd_Mo_mayBe_6 : decode b_Mo_mayBe 6 = .ok (.ifCond .ne 5, 3) := by decide +kernel
theorem xd_Mo_mayBe_9 : decode b_Mo_mayBe 9 = .ok (.iconst 0, 1) := by decide +kernel
theorem xd_Mo_mayBe_10 : decode b_Mo_mayBe 10 = .ok (.ireturn, 1) := by decide +kernel
theorem xd_Mo_mayBe_11 : decode b_Mo_mayBe 11 = .ok (.iconst 0, 1) := by decide +kernel
theorem xd_Mo_mayBe_12 : decode b_Mo_mayBe 12 = .ok (.istore 4, 2) := by decide +kernel
theorem xd_Mo_mayBe_14 : decode b_Mo_mayBe 14 = .ok (.iload 4, 2) := by decide +kernel
theorem xd_Mo_mayBe_16 : decode b_Mo_mayBe 16 = .ok (.aload_n 0, 1) := by decide +kernel
theorem xd_Mo_mayBe_17 : decode b_Mo_mayBe 17 = .ok (.getfield 145, 3) := by decide +kernel
theorem xd_Mo_mayBe_20 : decode b_Mo_mayBe 20 = .ok (.if_icmp .ge 33, 3) := by decide +kernel
theorem xd_Mo_mayBe_23 : decode b_Mo_mayBe 23 = .ok (.iload 4, 2) := by decide +kernel
theorem xd_Mo_mayBe_25 : decode b_Mo_mayBe 25 = .ok (.iload_n 1, 1) := by decide +kernel
theorem xd_Mo_mayBe_26 : decode b_Mo_mayBe 26 = .ok (.if_icmp .eq 21, 3) := by decide +kernel
theorem xd_Mo_mayBe_29 : decode b_Mo_mayBe 29 = .ok (.aload_n 0, 1) := by decide +kernel
theorem xd_Mo_mayBe_30 : decode b_Mo_mayBe 30 = .ok (.iload_n 2, 1) := by decide +kernel
theorem xd_Mo_mayBe_31 : decode b_Mo_mayBe 31 = .ok (.aload_n 0, 1) := by decide +kernel
theorem xd_Mo_mayBe_32 : decode b_Mo_mayBe 32 = .ok (.getfield 35, 3) := by decide +kernel
theorem xd_Mo_mayBe_35 : decode b_Mo_mayBe 35 = .ok (.iload 4, 2) := by decide +kernel
theorem xd_Mo_mayBe_37 : decode b_Mo_mayBe 37 = .ok (.iaload, 1) := by decide +kernel
theorem xd_Mo_mayBe_38 : decode b_Mo_mayBe 38 = .ok (.invokevirtual 142, 3) := by decide +kernel
theorem xd_Mo_mayBe_41 : decode b_Mo_mayBe 41 = .ok (.iload_n 3, 1) := by decide +kernel
theorem xd_Mo_mayBe_42 : decode b_Mo_mayBe 42 = .ok (.if_icmp .ge 5, 3) := by decide +kernel
theorem xd_Mo_mayBe_45 : decode b_Mo_mayBe 45 = .ok (.iconst 0, 1) := by decide +kernel
theorem xd_Mo_mayBe_46 : decode b_Mo_mayBe 46 = .ok (.ireturn, 1) := by decide +kernel
theorem xd_Mo_mayBe_47 : decode b_Mo_mayBe 47 = .ok (.iinc 4 1, 3) := by decide +kernel
theorem xd_Mo_mayBe_50 : decode b_Mo_mayBe 50 = .ok (.goto (-36), 3) := by decide +kernel
theorem xd_Mo_mayBe_53 : decode b_Mo_mayBe 53 = .ok (.iconst 0, 1) := by decide +kernel
theorem xd_Mo_mayBe_54 : decode b_Mo_mayBe 54 = .ok (.istore 4, 2) := by decide +kernel
theorem xd_Mo_mayBe_56 : decode b_Mo_mayBe 56 = .ok (.iload 4, 2) := by decide +kernel
theorem xd_Mo_mayBe_58 : decode b_Mo_mayBe 58 = .ok (.aload_n 0, 1) := by decide +kernel
theorem xd_Mo_mayBe_59 : decode b_Mo_mayBe 59 = .ok (.getfield 158, 3) := by decide +kernel
theorem xd_Mo_mayBe_62 : decode b_Mo_mayBe 62 = .ok (.if_icmp .ge 87, 3) := by decide +kernel
theorem xd_Mo_mayBe_65 : decode b_Mo_mayBe 65 = .ok (.aload_n 0, 1) := by decide +kernel
theorem xd_Mo_mayBe_66 : decode b_Mo_mayBe 66 = .ok (.getfield 52, 3) := by decide +kernel
theorem xd_Mo_mayBe_69 : decode b_Mo_mayBe 69 = .ok (.iload 4, 2) := by decide +kernel
theorem xd_Mo_mayBe_71 : decode b_Mo_mayBe 71 = .ok (.iaload, 1) := by decide +kernel
theorem xd_Mo_mayBe_72 : decode b_Mo_mayBe 72 = .ok (.iload_n 1, 1) := by decide +kernel
theorem xd_Mo_mayBe_73 : decode b_Mo_mayBe 73 = .ok (.if_icmp .eq 17, 3) := by decide +kernel
theorem xd_Mo_mayBe_76 : decode b_Mo_mayBe 76 = .ok (.aload_n 0, 1) := by decide +kernel
theorem xd_Mo_mayBe_77 : decode b_Mo_mayBe 77 = .ok (.getfield 55, 3) := by decide +kernel
theorem xd_Mo_mayBe_80 : decode b_Mo_mayBe 80 = .ok (.iload 4, 2) := by decide +kernel
theorem xd_Mo_mayBe_82 : decode b_Mo_mayBe 82 = .ok (.iaload, 1) := by decide +kernel
theorem xd_Mo_mayBe_83 : decode b_Mo_mayBe 83 = .ok (.iload_n 1, 1) := by decide +kernel
theorem xd_Mo_mayBe_84 : decode b_Mo_mayBe 84 = .ok (.if_icmp .eq 6, 3) := by decide +kernel
theorem xd_Mo_mayBe_87 : decode b_Mo_mayBe 87 = .ok (.goto 56, 3) := by decide +kernel
theorem xd_Mo_mayBe_90 : decode b_Mo_mayBe 90 = .ok (.aload_n 0, 1) := by decide +kernel
theorem xd_Mo_mayBe_91 : decode b_Mo_mayBe 91 = .ok (.getfield 52, 3) := by decide +kernel
theorem xd_Mo_mayBe_94 : decode b_Mo_mayBe 94 = .ok (.iload 4, 2) := by decide +kernel
theorem xd_Mo_mayBe_96 : decode b_Mo_mayBe 96 = .ok (.iaload, 1) := by decide +kernel
theorem xd_Mo_mayBe_97 : decode b_Mo_mayBe 97 = .ok (.iload_n 1, 1) := by decide +kernel
theorem xd_Mo_mayBe_98 : decode b_Mo_mayBe 98 = .ok (.if_icmp .ne 13, 3) := by decide +kernel
theorem xd_Mo_mayBe_101 : decode b_Mo_mayBe 101 = .ok (.aload_n 0, 1) := by decide +kernel
theorem xd_Mo_mayBe_102 : decode b_Mo_mayBe 102 = .ok (.getfield 55, 3) := by decide +kernel
theorem xd_Mo_mayBe_105 : decode b_Mo_mayBe 105 = .ok (.iload 4, 2) := by decide +kernel
theorem xd_Mo_mayBe_107 : decode b_Mo_mayBe 107 = .ok (.iaload, 1) := by decide +kernel
theorem xd_Mo_mayBe_108 : decode b_Mo_mayBe 108 = .ok (.goto 10, 3) := by decide +kernel
theorem xd_Mo_mayBe_111 : decode b_Mo_mayBe 111 = .ok (.aload_n 0, 1) := by decide +kernel
theorem xd_Mo_mayBe_112 : decode b_Mo_mayBe 112 = .ok (.getfield 52, 3) := by decide +kernel
theorem xd_Mo_mayBe_115 : decode b_Mo_mayBe 115 = .ok (.iload 4, 2) := by decide +kernel
theorem xd_Mo_mayBe_117 : decode b_Mo_mayBe 117 = .ok (.iaload, 1) := by decide +kernel
theorem xd_Mo_mayBe_118 : decode b_Mo_mayBe 118 = .ok (.istore 5, 2) := by decide +kernel
theorem xd_Mo_mayBe_120 : decode b_Mo_mayBe 120 = .ok (.iload_n 2, 1) := by decide +kernel
theorem xd_Mo_mayBe_121 : decode b_Mo_mayBe 121 = .ok (.aload_n 0, 1) := by decide +kernel
theorem xd_Mo_mayBe_122 : decode b_Mo_mayBe 122 = .ok (.getfield 35, 3) := by decide +kernel
theorem xd_Mo_mayBe_125 : decode b_Mo_mayBe 125 = .ok (.iload 5, 2) := by decide +kernel
theorem xd_Mo_mayBe_127 : decode b_Mo_mayBe 127 = .ok (.iaload, 1) := by decide +kernel
theorem xd_Mo_mayBe_128 : decode b_Mo_mayBe 128 = .ok (.aload_n 0, 1) := by decide +kernel
theorem xd_Mo_mayBe_129 : decode b_Mo_mayBe 129 = .ok (.getfield 58, 3) := by decide +kernel
theorem xd_Mo_mayBe_132 : decode b_Mo_mayBe 132 = .ok (.iload 4, 2) := by decide +kernel
theorem xd_Mo_mayBe_134 : decode b_Mo_mayBe 134 = .ok (.iaload, 1) := by decide +kernel
theorem xd_Mo_mayBe_135 : decode b_Mo_mayBe 135 = .ok (.invokestatic 167, 3) := by decide +kernel
theorem xd_Mo_mayBe_138 : decode b_Mo_mayBe 138 = .ok (.ifCond .ne 5, 3) := by decide +kernel
theorem xd_Mo_mayBe_141 : decode b_Mo_mayBe 141 = .ok (.iconst 0, 1) := by decide +kernel
theorem xd_Mo_mayBe_142 : decode b_Mo_mayBe 142 = .ok (.ireturn, 1) := by decide +kernel
theorem xd_Mo_mayBe_143 : decode b_Mo_mayBe 143 = .ok (.iinc 4 1, 3) := by decide +kernel
theorem xd_Mo_mayBe_146 : decode b_Mo_mayBe 146 = .ok (.goto (-90), 3) := by decide +kernel
theorem xd_Mo_mayBe_149 : decode b_Mo_mayBe 149 = .ok (.iconst 1, 1) := by decide +kernel
theorem xd_Mo_mayBe_150 : decode b_Mo_mayBe 150 = .ok (.ireturn, 1) := by decide +kernel
abbrev rm_Mo_mayBe : Room := { frames := 5, cells := 0, slots := 0, locals := 120 }
def xw_Mo_mayBe_14 (x1 : Int32) (x2 : Int32) (x3 : Int32) (post : Int32 → xM → Prop) (k53 : Int32 → xM → Prop) : Nat → Int32 → xM → Prop
  | 0, _, _ => False
  | n14 + 1, x4, M => (((M 9 0 9) ≤ x4) → (k53 x4 M)) ∧ ((¬ (M 9 0 9) ≤ x4) → (((x4 = x1) → (xw_Mo_mayBe_14 x1 x2 x3 post k53 n14 (x4 + (1 : Int32)) M)) ∧ ((¬ x4 = x1) → ((vp_in x4 12) ∧ (xw_Mo_apartOf x2 (M 9 6 x4.toNatClampNeg) M (fun (r4 : Int32) (M3 : xM) => ((x3 ≤ r4) → (xw_Mo_mayBe_14 x1 x2 x3 post k53 n14 (x4 + (1 : Int32)) M3)) ∧ ((¬ x3 ≤ r4) → (post (0 : Int32) M3))))))))
def xw_Mo_mayBe_56 (x1 : Int32) (x2 : Int32) (post : Int32 → xM → Prop) (k149 : Int32 → xM → Prop) : Nat → Int32 → xM → Prop
  | 0, _, _ => False
  | n56 + 1, x4, M => (((M 9 0 10) ≤ x4) → (k149 x4 M)) ∧ ((¬ (M 9 0 10) ≤ x4) → ((vp_in x4 20) ∧ (xj (fun (J90_6 : xM → Prop) => (((M 9 11 x4.toNatClampNeg) = x1) → (J90_6  M)) ∧ ((¬ (M 9 11 x4.toNatClampNeg) = x1) → ((vp_in x4 20) ∧ ((((M 9 12 x4.toNatClampNeg) = x1) → (J90_6  M)) ∧ ((¬ (M 9 12 x4.toNatClampNeg) = x1) → (xw_Mo_mayBe_56 x1 x2 post k149 n56 (x4 + (1 : Int32)) M)))))) (fun (M8 : xM) => (vp_in x4 20) ∧ (xj (fun (J118_8 : Int32 → xM → Prop) => ((¬ (M8 9 11 x4.toNatClampNeg) = x1) → ((vp_in x4 20) ∧ (J118_8 (M8 9 11 x4.toNatClampNeg) M8))) ∧ (((M8 9 11 x4.toNatClampNeg) = x1) → ((vp_in x4 20) ∧ (J118_8 (M8 9 12 x4.toNatClampNeg) M8)))) (fun (v10 : Int32) (M11 : xM) => (vp_in v10 12) ∧ ((vp_in x4 20) ∧ (xw_Mo_isMet x2 (M11 9 6 v10.toNatClampNeg) (M11 9 13 x4.toNatClampNeg) M11 (fun (r13 : Int32) (M12 : xM) => ((¬ r13 = 0) → (xw_Mo_mayBe_56 x1 x2 post k149 n56 (x4 + (1 : Int32)) M12)) ∧ ((r13 = 0) → (post (0 : Int32) M12)))))))))))
def xw_Mo_mayBe (a1 : Int32) (a2 : Int32) (a3 : Int32) (M : xM) (post : Int32 → xM → Prop) : Prop :=
  xw_Mo_isNamed a1 a2 M (fun (r2 : Int32) (M1 : xM) => ((¬ r2 = 0) → (∃ n14 : Nat, xw_Mo_mayBe_14 a1 a2 a3 post (fun (y5 : Int32) (M6 : xM) => ∃ n56 : Nat, xw_Mo_mayBe_56 a1 a2 post (fun (y14 : Int32) (M15 : xM) => post (1 : Int32) M15) n56 (0 : Int32) M6) n14 (0 : Int32) M1)) ∧ ((r2 = 0) → (post (0 : Int32) M1)))
set_option maxHeartbeats 4000000 in
set_option maxRecDepth 100000 in
theorem xt_Mo_mayBe_14 {p : Program} {l : Launch} {e : Env} {s : State} {m : MethodId} {args : Array Value} {below : List Frame} {meth : Method} {c : Code} {G : xG} (hC : xC p s m args c b_Mo_mayBe R_Mo 6 G) (hr : meth.sig.returnType = (some .boolean)) (hlk : meth.locks = false) {x1 : Int32} {x2 : Int32} {x3 : Int32} {post : Int32 → xM → Prop} {k53 : Int32 → xM → Prop} (hk53 : ∀ (x4 : Int32) (M : xM) (H : Heap) (locs : List Loc) (ls : Array Slot), k53 x4 M → xRp G M H → va_S (xA G) s.heap H locs → lv_has ls 6 [(0, .ref (G.1 9 0)), (1, .int x1), (2, .int x2), (3, .int x3), (4, .int x4)] → W p l e rm_Mo_mayBe s m args below meth c H locs 0 0 (MQ below (xPi G post) args s 0 0 (xA G)) (F0 m 53 ls [])) : ∀ (n : Nat) (x4 : Int32) (M : xM) (H : Heap) (locs : List Loc) (ls : Array Slot), xw_Mo_mayBe_14 x1 x2 x3 post k53 n x4 M → xRp G M H → va_S (xA G) s.heap H locs → lv_has ls 6 [(0, .ref (G.1 9 0)), (1, .int x1), (2, .int x2), (3, .int x3), (4, .int x4)] → W p l e rm_Mo_mayBe s m args below meth c H locs 0 0 (MQ below (xPi G post) args s 0 0 (xA G)) (F0 m 14 ls []) := by
  have hx := hC.1
  have hb := hC.2.1
  intro n
  induction n with
  | zero => intro x4 M H locs ls; exact fun h => h.elim
  | succ n ih =>
    intro x4 M H locs ls h hR hS hl
    refine lv_iload (pc := 14) hx hb xd_Mo_mayBe_14 (lv_at hl 4 rfl) ?_
    refine lv_aload_n (pc := 16) hx hb xd_Mo_mayBe_16 rfl (lv_at hl 0 rfl) ?_
    refine xr_get (pc := 17) (v := .int (M 9 0 9)) hC hR xo_M0 xf_Mo_145 rfl xd_Mo_mayBe_17 ?_
    refine lv_icmp_ge (pc := 20) (tgt := 53) hx hb xd_Mo_mayBe_20 (by decide) (fun hq => ?_) (fun hq => ?_)
    · have h := h.1 hq
      exact hk53 x4 M H locs ls h hR hS (lv_sub hl [0, 1, 2, 3, 4] rfl)
    · have h := h.2 hq
      refine lv_iload (pc := 23) hx hb xd_Mo_mayBe_23 (lv_at hl 4 rfl) ?_
      refine lv_iload_n (pc := 25) hx hb xd_Mo_mayBe_25 rfl (lv_at hl 1 rfl) ?_
      refine lv_icmp_eq (pc := 26) (tgt := 47) hx hb xd_Mo_mayBe_26 (by decide) (fun hq => ?_) (fun hq => ?_)
      · have h := h.1 hq
        refine lv_iinc (pc := 47) (v := (x4 + (1 : Int32))) (lv' := [(4, .int (x4 + (1 : Int32))), (0, .ref (G.1 9 0)), (1, .int x1), (2, .int x2), (3, .int x3)]) hx hb xd_Mo_mayBe_47 hl (k := 4) rfl rfl (by decide) rfl (fun ls hl => ?_)
        refine lv_goto (pc := 50) (tgt := 14) hx hb xd_Mo_mayBe_50 (by decide) ?_
        exact ih (x4 + (1 : Int32)) M H locs ls h hR hS (lv_sub hl [1, 2, 3, 4, 0] rfl)
      · have h := h.2 hq
        refine lv_aload_n (pc := 29) hx hb xd_Mo_mayBe_29 rfl (lv_at hl 0 rfl) ?_
        refine lv_iload_n (pc := 30) hx hb xd_Mo_mayBe_30 rfl (lv_at hl 2 rfl) ?_
        refine lv_aload_n (pc := 31) hx hb xd_Mo_mayBe_31 rfl (lv_at hl 0 rfl) ?_
        refine xr_get (pc := 32) (v := .ref (G.1 9 6)) hC hR xo_M0 xf_Mo_35 rfl xd_Mo_mayBe_32 ?_
        refine lv_iload (pc := 35) hx hb xd_Mo_mayBe_35 (lv_at hl 4 rfl) ?_
        obtain ⟨hq, h⟩ := h
        refine xr_iald (pc := 37) hC hR xo_M6 hq xd_Mo_mayBe_37 ?_
        refine xr_callV (pc := 38) (As := [.int x2, .int (M 9 6 x4.toNatClampNeg)]) (rest := []) hC hR hS (xc_Mo_apartOf l G  h) xo_M0 xv_Mo_142 ⟨rfl, rfl, Nat.le_of_ble_eq_true rfl, Nat.le_of_ble_eq_true rfl⟩ rfl hl.1 rfl (Nat.le_of_ble_eq_true rfl) xd_Mo_mayBe_38 (fun r4 M3 H locs h hR hS => ?_)
        refine lv_iload_n (pc := 41) hx hb xd_Mo_mayBe_41 rfl (lv_at hl 3 rfl) ?_
        refine lv_icmp_ge (pc := 42) (tgt := 47) hx hb xd_Mo_mayBe_42 (by decide) (fun hq => ?_) (fun hq => ?_)
        · have h := h.1 hq
          refine lv_iinc (pc := 47) (v := (x4 + (1 : Int32))) (lv' := [(4, .int (x4 + (1 : Int32))), (0, .ref (G.1 9 0)), (1, .int x1), (2, .int x2), (3, .int x3)]) hx hb xd_Mo_mayBe_47 hl (k := 4) rfl rfl (by decide) rfl (fun ls hl => ?_)
          refine lv_goto (pc := 50) (tgt := 14) hx hb xd_Mo_mayBe_50 (by decide) ?_
          exact ih (x4 + (1 : Int32)) M3 H locs ls h hR hS (lv_sub hl [1, 2, 3, 4, 0] rfl)
        · have h := h.2 hq
          refine lv_iconst (pc := 45) (v := (0 : Int32)) hx hb xd_Mo_mayBe_45 (by decide) ?_
          exact xr_zret hC hr hlk hR hS (by decide) h xd_Mo_mayBe_46
set_option maxHeartbeats 4000000 in
set_option maxRecDepth 100000 in
theorem xt_Mo_mayBe_56 {p : Program} {l : Launch} {e : Env} {s : State} {m : MethodId} {args : Array Value} {below : List Frame} {meth : Method} {c : Code} {G : xG} (hC : xC p s m args c b_Mo_mayBe R_Mo 6 G) (hr : meth.sig.returnType = (some .boolean)) (hlk : meth.locks = false) {x1 : Int32} {x2 : Int32} {post : Int32 → xM → Prop} {k149 : Int32 → xM → Prop} (hk149 : ∀ (x4 : Int32) (M : xM) (H : Heap) (locs : List Loc) (ls : Array Slot), k149 x4 M → xRp G M H → va_S (xA G) s.heap H locs → lv_has ls 6 [(0, .ref (G.1 9 0)), (1, .int x1), (2, .int x2), (4, .int x4)] → W p l e rm_Mo_mayBe s m args below meth c H locs 0 0 (MQ below (xPi G post) args s 0 0 (xA G)) (F0 m 149 ls [])) : ∀ (n : Nat) (x4 : Int32) (M : xM) (H : Heap) (locs : List Loc) (ls : Array Slot), xw_Mo_mayBe_56 x1 x2 post k149 n x4 M → xRp G M H → va_S (xA G) s.heap H locs → lv_has ls 6 [(0, .ref (G.1 9 0)), (1, .int x1), (2, .int x2), (4, .int x4)] → W p l e rm_Mo_mayBe s m args below meth c H locs 0 0 (MQ below (xPi G post) args s 0 0 (xA G)) (F0 m 56 ls []) := by
  have hx := hC.1
  have hb := hC.2.1
  intro n
  induction n with
  | zero => intro x4 M H locs ls; exact fun h => h.elim
  | succ n ih =>
    intro x4 M H locs ls h hR hS hl
    refine lv_iload (pc := 56) hx hb xd_Mo_mayBe_56 (lv_at hl 3 rfl) ?_
    refine lv_aload_n (pc := 58) hx hb xd_Mo_mayBe_58 rfl (lv_at hl 0 rfl) ?_
    refine xr_get (pc := 59) (v := .int (M 9 0 10)) hC hR xo_M0 xf_Mo_158 rfl xd_Mo_mayBe_59 ?_
    refine lv_icmp_ge (pc := 62) (tgt := 149) hx hb xd_Mo_mayBe_62 (by decide) (fun hq => ?_) (fun hq => ?_)
    · have h := h.1 hq
      exact hk149 x4 M H locs ls h hR hS (lv_sub hl [0, 1, 2, 3] rfl)
    · have h := h.2 hq
      refine lv_aload_n (pc := 65) hx hb xd_Mo_mayBe_65 rfl (lv_at hl 0 rfl) ?_
      refine xr_get (pc := 66) (v := .ref (G.1 9 11)) hC hR xo_M0 xf_Mo_52 rfl xd_Mo_mayBe_66 ?_
      refine lv_iload (pc := 69) hx hb xd_Mo_mayBe_69 (lv_at hl 3 rfl) ?_
      obtain ⟨hq, h⟩ := h
      refine xr_iald (pc := 71) hC hR xo_M11 hq xd_Mo_mayBe_71 ?_
      refine lv_iload_n (pc := 72) hx hb xd_Mo_mayBe_72 rfl (lv_at hl 1 rfl) ?_
      obtain ⟨J90_6, eJ90_6, h⟩ := xj_open h
      have kJ90_6 : ∀ (M8 : xM) (H : Heap) (locs : List Loc) (ls : Array Slot), J90_6 M8 → xRp G M8 H → va_S (xA G) s.heap H locs → lv_has ls 6 [(0, .ref (G.1 9 0)), (1, .int x1), (2, .int x2), (4, .int x4)] → W p l e rm_Mo_mayBe s m args below meth c H locs 0 0 (MQ below (xPi G post) args s 0 0 (xA G)) (F0 m 90 ls []) := by
        intro M8 H locs ls h hR hS hl
        rw [eJ90_6] at h
        refine lv_aload_n (pc := 90) hx hb xd_Mo_mayBe_90 rfl (lv_at hl 0 rfl) ?_
        refine xr_get (pc := 91) (v := .ref (G.1 9 11)) hC hR xo_M0 xf_Mo_52 rfl xd_Mo_mayBe_91 ?_
        refine lv_iload (pc := 94) hx hb xd_Mo_mayBe_94 (lv_at hl 3 rfl) ?_
        obtain ⟨hq, h⟩ := h
        refine xr_iald (pc := 96) hC hR xo_M11 hq xd_Mo_mayBe_96 ?_
        refine lv_iload_n (pc := 97) hx hb xd_Mo_mayBe_97 rfl (lv_at hl 1 rfl) ?_
        obtain ⟨J118_8, eJ118_8, h⟩ := xj_open h
        have kJ118_8 : ∀ (v10 : Int32) (M11 : xM) (H : Heap) (locs : List Loc) (ls : Array Slot), J118_8 v10 M11 → xRp G M11 H → va_S (xA G) s.heap H locs → lv_has ls 6 [(0, .ref (G.1 9 0)), (1, .int x1), (2, .int x2), (4, .int x4)] → W p l e rm_Mo_mayBe s m args below meth c H locs 0 0 (MQ below (xPi G post) args s 0 0 (xA G)) (F0 m 118 ls [.int v10]) := by
          intro v10 M11 H locs ls h hR hS hl
          rw [eJ118_8] at h
          refine lv_istore (pc := 118) (lv' := [(5, .int v10), (0, .ref (G.1 9 0)), (1, .int x1), (2, .int x2), (4, .int x4)]) hx hb xd_Mo_mayBe_118 hl (by decide) rfl (fun ls hl => ?_)
          refine lv_iload_n (pc := 120) hx hb xd_Mo_mayBe_120 rfl (lv_at hl 3 rfl) ?_
          refine lv_aload_n (pc := 121) hx hb xd_Mo_mayBe_121 rfl (lv_at hl 1 rfl) ?_
          refine xr_get (pc := 122) (v := .ref (G.1 9 6)) hC hR xo_M0 xf_Mo_35 rfl xd_Mo_mayBe_122 ?_
          refine lv_iload (pc := 125) hx hb xd_Mo_mayBe_125 (lv_at hl 0 rfl) ?_
          obtain ⟨hq, h⟩ := h
          refine xr_iald (pc := 127) hC hR xo_M6 hq xd_Mo_mayBe_127 ?_
          refine lv_aload_n (pc := 128) hx hb xd_Mo_mayBe_128 rfl (lv_at hl 1 rfl) ?_
          refine xr_get (pc := 129) (v := .ref (G.1 9 13)) hC hR xo_M0 xf_Mo_58 rfl xd_Mo_mayBe_129 ?_
          refine lv_iload (pc := 132) hx hb xd_Mo_mayBe_132 (lv_at hl 4 rfl) ?_
          obtain ⟨hq, h⟩ := h
          refine xr_iald (pc := 134) hC hR xo_M13 hq xd_Mo_mayBe_134 ?_
          refine xr_callS (pc := 135) (As := [.int x2, .int (M11 9 6 v10.toNatClampNeg), .int (M11 9 13 x4.toNatClampNeg)]) (rest := []) hC hR hS (xc_Mo_isMet l G  h) xv_Mo_167 ⟨rfl, rfl, Nat.le_of_ble_eq_true rfl, Nat.le_of_ble_eq_true rfl⟩ rfl hl.1 rfl (Nat.le_of_ble_eq_true rfl) xd_Mo_mayBe_135 (fun r13 M12 H locs h hR hS => ?_)
          refine lv_if_ne (pc := 138) (tgt := 143) hx hb xd_Mo_mayBe_138 (by decide) (fun hq => ?_) (fun hq => ?_)
          · have h := h.1 hq
            refine lv_iinc (pc := 143) (v := (x4 + (1 : Int32))) (lv' := [(4, .int (x4 + (1 : Int32))), (5, .int v10), (0, .ref (G.1 9 0)), (1, .int x1), (2, .int x2)]) hx hb xd_Mo_mayBe_143 hl (k := 4) rfl rfl (by decide) rfl (fun ls hl => ?_)
            refine lv_goto (pc := 146) (tgt := 56) hx hb xd_Mo_mayBe_146 (by decide) ?_
            exact ih (x4 + (1 : Int32)) M12 H locs ls h hR hS (lv_sub hl [2, 3, 4, 0] rfl)
          · have h := h.2 hq
            refine lv_iconst (pc := 141) (v := (0 : Int32)) hx hb xd_Mo_mayBe_141 (by decide) ?_
            exact xr_zret hC hr hlk hR hS (by decide) h xd_Mo_mayBe_142
        refine lv_icmp_ne (pc := 98) (tgt := 111) hx hb xd_Mo_mayBe_98 (by decide) (fun hq => ?_) (fun hq => ?_)
        · have h := h.1 hq
          refine lv_aload_n (pc := 111) hx hb xd_Mo_mayBe_111 rfl (lv_at hl 0 rfl) ?_
          refine xr_get (pc := 112) (v := .ref (G.1 9 11)) hC hR xo_M0 xf_Mo_52 rfl xd_Mo_mayBe_112 ?_
          refine lv_iload (pc := 115) hx hb xd_Mo_mayBe_115 (lv_at hl 3 rfl) ?_
          obtain ⟨hq, h⟩ := h
          refine xr_iald (pc := 117) hC hR xo_M11 hq xd_Mo_mayBe_117 ?_
          exact kJ118_8 (M8 9 11 x4.toNatClampNeg) M8 H locs ls h hR hS (lv_sub hl [0, 1, 2, 3] rfl)
        · have h := h.2 hq
          refine lv_aload_n (pc := 101) hx hb xd_Mo_mayBe_101 rfl (lv_at hl 0 rfl) ?_
          refine xr_get (pc := 102) (v := .ref (G.1 9 12)) hC hR xo_M0 xf_Mo_55 rfl xd_Mo_mayBe_102 ?_
          refine lv_iload (pc := 105) hx hb xd_Mo_mayBe_105 (lv_at hl 3 rfl) ?_
          obtain ⟨hq, h⟩ := h
          refine xr_iald (pc := 107) hC hR xo_M12 hq xd_Mo_mayBe_107 ?_
          refine lv_goto (pc := 108) (tgt := 118) hx hb xd_Mo_mayBe_108 (by decide) ?_
          exact kJ118_8 (M8 9 12 x4.toNatClampNeg) M8 H locs ls h hR hS (lv_sub hl [0, 1, 2, 3] rfl)
      refine lv_icmp_eq (pc := 73) (tgt := 90) hx hb xd_Mo_mayBe_73 (by decide) (fun hq => ?_) (fun hq => ?_)
      · have h := h.1 hq
        exact kJ90_6  M H locs ls h hR hS (lv_sub hl [0, 1, 2, 3] rfl)
      · have h := h.2 hq
        refine lv_aload_n (pc := 76) hx hb xd_Mo_mayBe_76 rfl (lv_at hl 0 rfl) ?_
        refine xr_get (pc := 77) (v := .ref (G.1 9 12)) hC hR xo_M0 xf_Mo_55 rfl xd_Mo_mayBe_77 ?_
        refine lv_iload (pc := 80) hx hb xd_Mo_mayBe_80 (lv_at hl 3 rfl) ?_
        obtain ⟨hq, h⟩ := h
        refine xr_iald (pc := 82) hC hR xo_M12 hq xd_Mo_mayBe_82 ?_
        refine lv_iload_n (pc := 83) hx hb xd_Mo_mayBe_83 rfl (lv_at hl 1 rfl) ?_
        refine lv_icmp_eq (pc := 84) (tgt := 90) hx hb xd_Mo_mayBe_84 (by decide) (fun hq => ?_) (fun hq => ?_)
        · have h := h.1 hq
          exact kJ90_6  M H locs ls h hR hS (lv_sub hl [0, 1, 2, 3] rfl)
        · have h := h.2 hq
          refine lv_goto (pc := 87) (tgt := 143) hx hb xd_Mo_mayBe_87 (by decide) ?_
          refine lv_iinc (pc := 143) (v := (x4 + (1 : Int32))) (lv' := [(4, .int (x4 + (1 : Int32))), (0, .ref (G.1 9 0)), (1, .int x1), (2, .int x2)]) hx hb xd_Mo_mayBe_143 hl (k := 3) rfl rfl (by decide) rfl (fun ls hl => ?_)
          refine lv_goto (pc := 146) (tgt := 56) hx hb xd_Mo_mayBe_146 (by decide) ?_
          exact ih (x4 + (1 : Int32)) M H locs ls h hR hS (lv_sub hl [1, 2, 3, 0] rfl)
set_option maxHeartbeats 4000000 in
set_option maxRecDepth 100000 in
theorem xc_Mo_mayBe (l : Launch) (G : xG) {a1 : Int32} {a2 : Int32} {a3 : Int32}  {M : xM} {post : Int32 → xM → Prop} (h : xw_Mo_mayBe a1 a2 a3 M post) : Met l y_Mo_mayBe (Cond.code y_Mo_mayBe b_Mo_mayBe 6 (some .boolean) :: xTG) rm_Mo_mayBe (xPre G M [.ref (G.1 9 0), .int a1, .int a2, .int a3]) (xPi G post) 0 0 (xA G) := by
  refine xMet (own := R_Mo) [.ref (G.1 9 0), .int a1, .int a2, .int a3] (Or.inl (by decide)) rfl (Nat.le_of_ble_eq_true rfl) (fun p e s m args below meth c ls hC hr hlk hR hS hl => ?_)
  have hx := hC.1
  have hb := hC.2.1
  have hl : lv_has ls 6 [(0, .ref (G.1 9 0)), (1, .int a1), (2, .int a2), (3, .int a3)] := hl
  obtain ⟨H, eH⟩ : ∃ H : Heap, H = s.heap := ⟨_, rfl⟩
  obtain ⟨locs, eL⟩ : ∃ locs : List Loc, locs = [] := ⟨_, rfl⟩
  rw [← eH] at hR
  replace hS : va_S (xA G) s.heap H locs := by rw [eH, eL]; exact hS
  suffices hh : W p l e rm_Mo_mayBe s m args below meth c H locs 0 0 (MQ below (xPi G post) args s 0 0 (xA G)) (F0 m 0 ls []) from by rw [eH, eL] at hh; exact hh
  unfold xw_Mo_mayBe at h
  refine lv_aload_n (pc := 0) hx hb xd_Mo_mayBe_0 rfl (lv_at hl 0 rfl) ?_
  refine lv_iload_n (pc := 1) hx hb xd_Mo_mayBe_1 rfl (lv_at hl 1 rfl) ?_
  refine lv_iload_n (pc := 2) hx hb xd_Mo_mayBe_2 rfl (lv_at hl 2 rfl) ?_
  refine xr_callV (pc := 3) (As := [.int a1, .int a2]) (rest := []) hC hR hS (xc_Mo_isNamed l G  h) xo_M0 xv_Mo_154 ⟨rfl, rfl, Nat.le_of_ble_eq_true rfl, Nat.le_of_ble_eq_true rfl⟩ rfl hl.1 rfl (Nat.le_of_ble_eq_true rfl) xd_Mo_mayBe_3 (fun r2 M1 H locs h hR hS => ?_)
  refine lv_if_ne (pc := 6) (tgt := 11) hx hb xd_Mo_mayBe_6 (by decide) (fun hq => ?_) (fun hq => ?_)
  · have h := h.1 hq
    refine lv_iconst (pc := 11) (v := (0 : Int32)) hx hb xd_Mo_mayBe_11 (by decide) ?_
    refine lv_istore (pc := 12) (lv' := [(4, .int (0 : Int32)), (0, .ref (G.1 9 0)), (1, .int a1), (2, .int a2), (3, .int a3)]) hx hb xd_Mo_mayBe_12 hl (by decide) rfl (fun ls hl => ?_)
    obtain ⟨n, h⟩ := h
    refine xt_Mo_mayBe_14 hC hr hlk  (fun y5 M6 H locs ls h hR hS hl => ?_) n (0 : Int32) M1 H locs ls h hR hS (lv_sub hl [1, 2, 3, 4, 0] rfl)
    refine lv_iconst (pc := 53) (v := (0 : Int32)) hx hb xd_Mo_mayBe_53 (by decide) ?_
    refine lv_istore (pc := 54) (lv' := [(4, .int (0 : Int32)), (0, .ref (G.1 9 0)), (1, .int a1), (2, .int a2), (3, .int a3)]) hx hb xd_Mo_mayBe_54 hl (by decide) rfl (fun ls hl => ?_)
    obtain ⟨n, h⟩ := h
    refine xt_Mo_mayBe_56 hC hr hlk  (fun y14 M15 H locs ls h hR hS hl => ?_) n (0 : Int32) M6 H locs ls h hR hS (lv_sub hl [1, 2, 3, 0] rfl)
    refine lv_iconst (pc := 149) (v := (1 : Int32)) hx hb xd_Mo_mayBe_149 (by decide) ?_
    exact xr_zret hC hr hlk hR hS (by decide) h xd_Mo_mayBe_150
  · have h := h.2 hq
    refine lv_iconst (pc := 9) (v := (0 : Int32)) hx hb xd_Mo_mayBe_9 (by decide) ?_
    exact xr_zret hC hr hlk hR hS (by decide) h xd_Mo_mayBe_10
