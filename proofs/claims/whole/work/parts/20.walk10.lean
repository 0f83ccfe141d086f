/-! ColoursApartModel.in(III)Z -/
theorem xd_Mo_in_0 : decode b_Mo_in 0 = .ok (.iload_n 0, 1) := by decide +kernel
theorem xd_Mo_in_1 : decode b_Mo_in 1 = .ok (.iload_n 1, 1) := by decide +kernel
theorem xd_Mo_in_2 : decode b_Mo_in 2 = .ok (.if_icmp .lt 12, 3) := by decide +kernel
theorem xd_Mo_in_5 : decode b_Mo_in 5 = .ok (.iload_n 0, 1) := by decide +kernel
theorem xd_Mo_in_6 : decode b_Mo_in 6 = .ok (.iload_n 2, 1) := by decide +kernel
theorem xd_Mo_in_7 : decode b_Mo_in 7 = .ok (.if_icmp .gt 7, 3) := by decide +kernel
theorem xd_Mo_in_10 : decode b_Mo_in 10 = .ok (.iconst 1, 1) := by decide +kernel
theorem xd_Mo_in_11 : decode b_Mo_in 11 = .ok (.goto 4, 3) := by decide +kernel
theorem xd_Mo_in_14 : decode b_Mo_in 14 = .ok (.iconst 0, 1) := by decide +kernel
theorem xd_Mo_in_15 : decode b_Mo_in 15 = .ok (.ireturn, 1) := by decide +kernel
abbrev rm_Mo_in : Room := { frames := 0, cells := 0, slots := 0, locals := 0 }
def xw_Mo_in (a0 : Int32) (a1 : Int32) (a2 : Int32) (M : xM) (post : Int32 → xM → Prop) : Prop :=
  ((a0 < a1) → (post (0 : Int32) M)) ∧ ((¬ a0 < a1) → (((a2 < a0) → (post (0 : Int32) M)) ∧ ((¬ a2 < a0) → (post (1 : Int32) M))))
set_option maxHeartbeats 4000000 in
set_option maxRecDepth 100000 in
theorem xc_Mo_in (l : Launch) (G : xG) {a0 : Int32} {a1 : Int32} {a2 : Int32}  {M : xM} {post : Int32 → xM → Prop} (h : xw_Mo_in a0 a1 a2 M post) : Met l y_Mo_in (Cond.code y_Mo_in b_Mo_in 3 (some .boolean) :: xTG) rm_Mo_in (xPre G M [.int a0, .int a1, .int a2]) (xPi G post) 0 0 (xA G) := by
  refine xMet (own := R_Mo) [.int a0, .int a1, .int a2] (Or.inl (by decide)) rfl (Nat.le_of_ble_eq_true rfl) (fun p e s m args below meth c ls hC hr hlk hR hS hl => ?_)
  have hx := hC.1
  have hb := hC.2.1
  have hl : lv_has ls 3 [(0, .int a0), (1, .int a1), (2, .int a2)] := hl
  obtain ⟨H, eH⟩ : ∃ H : Heap, H = s.heap := ⟨_, rfl⟩
  obtain ⟨locs, eL⟩ : ∃ locs : List Loc, locs = [] := ⟨_, rfl⟩
  rw [← eH] at hR
  replace hS : va_S (xA G) s.heap H locs := by rw [eH, eL]; exact hS
  suffices hh : W p l e rm_Mo_in s m args below meth c H locs 0 0 (MQ below (xPi G post) args s 0 0 (xA G)) (F0 m 0 ls []) from by rw [eH, eL] at hh; exact hh
  unfold xw_Mo_in at h
  refine lv_iload_n (pc := 0) hx hb xd_Mo_in_0 rfl (lv_at hl 0 rfl) ?_
  refine lv_iload_n (pc := 1) hx hb xd_Mo_in_1 rfl (lv_at hl 1 rfl) ?_
  refine lv_icmp_lt (pc := 2) (tgt := 14) hx hb xd_Mo_in_2 (by decide) (fun hq => ?_) (fun hq => ?_)
  · have h := h.1 hq
    refine lv_iconst (pc := 14) (v := (0 : Int32)) hx hb xd_Mo_in_14 (by decide) ?_
    exact xr_zret hC hr hlk hR hS (by decide) h xd_Mo_in_15
  · have h := h.2 hq
    refine lv_iload_n (pc := 5) hx hb xd_Mo_in_5 rfl (lv_at hl 0 rfl) ?_
    refine lv_iload_n (pc := 6) hx hb xd_Mo_in_6 rfl (lv_at hl 2 rfl) ?_
    refine lv_icmp_gt (pc := 7) (tgt := 14) hx hb xd_Mo_in_7 (by decide) (fun hq => ?_) (fun hq => ?_)
    · have h := h.1 hq
      refine lv_iconst (pc := 14) (v := (0 : Int32)) hx hb xd_Mo_in_14 (by decide) ?_
      exact xr_zret hC hr hlk hR hS (by decide) h xd_Mo_in_15
    · have h := h.2 hq
      refine lv_iconst (pc := 10) (v := (1 : Int32)) hx hb xd_Mo_in_10 (by decide) ?_
      refine lv_goto (pc := 11) (tgt := 15) hx hb xd_Mo_in_11 (by decide) ?_
      exact xr_zret hC hr hlk hR hS (by decide) h xd_Mo_in_15

/-! ColoursApartModel.ends(I)I -/
theorem xd_Mo_ends_0 : decode b_Mo_ends 0 = .ok (.aload_n 0, 1) := by decide +kernel
theorem xd_Mo_ends_1 : decode b_Mo_ends 1 = .ok (.iload_n 1, 1) := by decide +kernel
theorem xd_Mo_ends_2 : decode b_Mo_ends 2 = .ok (.ifCond .ge 7, 3) := by decide +kernel
theorem xd_Mo_ends_5 : decode b_Mo_ends 5 = .ok (.iload_n 1, 1) := by decide +kernel
theorem xd_Mo_ends_6 : decode b_Mo_ends 6 = .ok (.goto 4, 3) := by decide +kernel
theorem xd_Mo_ends_9 : decode b_Mo_ends 9 = .ok (.iconst 0, 1) := by decide +kernel
theorem xd_Mo_ends_10 : decode b_Mo_ends 10 = .ok (.putfield 82, 3) := by decide +kernel
theorem xd_Mo_ends_13 : decode b_Mo_ends 13 = .ok (.iload_n 1, 1) := by decide +kernel
theorem xd_Mo_ends_14 : decode b_Mo_ends 14 = .ok (.ireturn, 1) := by decide +kernel
abbrev rm_Mo_ends : Room := { frames := 0, cells := 0, slots := 0, locals := 0 }
def xw_Mo_ends (a1 : Int32) (M : xM) (post : Int32 → xM → Prop) : Prop :=
  ((0 ≤ a1) → (post a1 (us M 9 0 0 (0 : Int32)))) ∧ ((¬ 0 ≤ a1) → (post a1 (us M 9 0 0 a1)))
set_option maxHeartbeats 4000000 in
set_option maxRecDepth 100000 in
theorem xc_Mo_ends (l : Launch) (G : xG) {a1 : Int32}  {M : xM} {post : Int32 → xM → Prop} (h : xw_Mo_ends a1 M post) : Met l y_Mo_ends (Cond.code y_Mo_ends b_Mo_ends 2 (some .int) :: xTG) rm_Mo_ends (xPre G M [.ref (G.1 9 0), .int a1]) (xPi G post) 0 0 (xA G) := by
  refine xMet (own := R_Mo) [.ref (G.1 9 0), .int a1] (Or.inl (by decide)) rfl (Nat.le_of_ble_eq_true rfl) (fun p e s m args below meth c ls hC hr hlk hR hS hl => ?_)
  have hx := hC.1
  have hb := hC.2.1
  have hl : lv_has ls 2 [(0, .ref (G.1 9 0)), (1, .int a1)] := hl
  obtain ⟨H, eH⟩ : ∃ H : Heap, H = s.heap := ⟨_, rfl⟩
  obtain ⟨locs, eL⟩ : ∃ locs : List Loc, locs = [] := ⟨_, rfl⟩
  rw [← eH] at hR
  replace hS : va_S (xA G) s.heap H locs := by rw [eH, eL]; exact hS
  suffices hh : W p l e rm_Mo_ends s m args below meth c H locs 0 0 (MQ below (xPi G post) args s 0 0 (xA G)) (F0 m 0 ls []) from by rw [eH, eL] at hh; exact hh
  unfold xw_Mo_ends at h
  refine lv_aload_n (pc := 0) hx hb xd_Mo_ends_0 rfl (lv_at hl 0 rfl) ?_
  refine lv_iload_n (pc := 1) hx hb xd_Mo_ends_1 rfl (lv_at hl 1 rfl) ?_
  refine lv_if_ge (pc := 2) (tgt := 9) hx hb xd_Mo_ends_2 (by decide) (fun hq => ?_) (fun hq => ?_)
  · have h := h.1 hq
    refine lv_iconst (pc := 9) (v := (0 : Int32)) hx hb xd_Mo_ends_9 (by decide) ?_
    refine xr_put (pc := 10) hC hR hS xo_M0 xf_Mo_82 xp_10_0 rfl rfl rfl xd_Mo_ends_10 (fun H locs hR hS => ?_)
    refine lv_iload_n (pc := 13) hx hb xd_Mo_ends_13 rfl (lv_at hl 1 rfl) ?_
    exact xr_iret hC hr hlk hR hS h xd_Mo_ends_14
  · have h := h.2 hq
    refine lv_iload_n (pc := 5) hx hb xd_Mo_ends_5 rfl (lv_at hl 1 rfl) ?_
    refine lv_goto (pc := 6) (tgt := 10) hx hb xd_Mo_ends_6 (by decide) ?_
    refine xr_put (pc := 10) hC hR hS xo_M0 xf_Mo_82 xp_10_0 rfl rfl rfl xd_Mo_ends_10 (fun H locs hR hS => ?_)
    refine lv_iload_n (pc := 13) hx hb xd_Mo_ends_13 rfl (lv_at hl 1 rfl) ?_
    exact xr_iret hC hr hlk hR hS h xd_Mo_ends_14

/-! ColoursApartModel.sheet(III)I -/
theorem xd_Mo_sheet_0 : decode b_Mo_sheet 0 = .ok (.iload_n 1, 1) := by decide +kernel
theorem xd_Mo_sheet_1 : decode b_Mo_sheet 1 = .ok (.iconst 0, 1) := by decide +kernel
theorem xd_Mo_sheet_2 : decode b_Mo_sheet 2 = .ok (.iconst 3, 1) := by decide +kernel
theorem xd_Mo_sheet_3 : decode b_Mo_sheet 3 = .ok (.invokestatic 85, 3) := by decide +kernel
theorem xd_Mo_sheet_6 : decode b_Mo_sheet 6 = .ok (.ifCond .eq 18, 3) := by decide +kernel
theorem xd_Mo_sheet_9 : decode b_Mo_sheet 9 = .ok (.iload_n 2, 1) := by decide +kernel
theorem xd_Mo_sheet_10 : decode b_Mo_sheet 10 = .ok (.iconst 0, 1) := by decide +kernel
theorem xd_Mo_sheet_11 : decode b_Mo_sheet 11 = .ok (.iconst 2, 1) := by decide +kernel
theorem xd_Mo_sheet_12 : decode b_Mo_sheet 12 = .ok (.invokestatic 85, 3) := by decide +kernel
theorem xd_Mo_sheet_15 : decode b_Mo_sheet 15 = .ok (.ifCond .eq 9, 3) := by decide +kernel
theorem xd_Mo_sheet_18 : decode b_Mo_sheet 18 = .ok (.iload_n 3, 1) := by decide +kernel
theorem xd_Mo_sheet_19 : decode b_Mo_sheet 19 = .ok (.bipush 60, 2) := by decide +kernel
theorem xd_Mo_sheet_21 : decode b_Mo_sheet 21 = .ok (.if_icmp .le 9, 3) := by decide +kernel
theorem xd_Mo_sheet_24 : decode b_Mo_sheet 24 = .ok (.aload_n 0, 1) := by decide +kernel
theorem xd_Mo_sheet_25 : decode b_Mo_sheet 25 = .ok (.iconst (-1), 1) := by decide +kernel
theorem xd_Mo_sheet_26 : decode b_Mo_sheet 26 = .ok (.invokevirtual 89, 3) := by decide +kernel
theorem xd_Mo_sheet_29 : decode b_Mo_sheet 29 = .ok (.ireturn, 1) := by decide +kernel
theorem xd_Mo_sheet_30 : decode b_Mo_sheet 30 = .ok (.aload_n 0, 1) := by decide +kernel
theorem xd_Mo_sheet_31 : decode b_Mo_sheet 31 = .ok (.getfield 13, 3) := by decide +kernel
theorem xd_Mo_sheet_34 : decode b_Mo_sheet 34 = .ok (.iload_n 1, 1) := by decide +kernel
theorem xd_Mo_sheet_35 : decode b_Mo_sheet 35 = .ok (.iconst (-1), 1) := by decide +kernel
theorem xd_Mo_sheet_36 : decode b_Mo_sheet 36 = .ok (.iastore, 1) := by decide +kernel
theorem xd_Mo_sheet_37 : decode b_Mo_sheet 37 = .ok (.iload_n 3, 1) := by decide +kernel
theorem xd_Mo_sheet_38 : decode b_Mo_sheet 38 = .ok (.ifCond .ge 10, 3) := by decide +kernel
theorem xd_Mo_sheet_41 : decode b_Mo_sheet 41 = .ok (.aload_n 0, 1) := by decide +kernel
theorem xd_Mo_sheet_42 : decode b_Mo_sheet 42 = .ok (.bipush (-4), 2) := by decide +kernel
theorem xd_Mo_sheet_44 : decode b_Mo_sheet 44 = .ok (.invokevirtual 89, 3) := by decide +kernel
theorem xd_Mo_sheet_47 : decode b_Mo_sheet 47 = .ok (.ireturn, 1) := by decide +kernel
theorem xd_Mo_sheet_48 : decode b_Mo_sheet 48 = .ok (.aload_n 0, 1) := by decide +kernel
theorem xd_Mo_sheet_49 : decode b_Mo_sheet 49 = .ok (.getfield 7, 3) := by decide +kernel
theorem xd_Mo_sheet_52 : decode b_Mo_sheet 52 = .ok (.iload_n 1, 1) := by decide +kernel
theorem xd_Mo_sheet_53 : decode b_Mo_sheet 53 = .ok (.iload_n 2, 1) := by decide +kernel
theorem xd_Mo_sheet_54 : decode b_Mo_sheet 54 = .ok (.iastore, 1) := by decide +kernel
theorem xd_Mo_sheet_55 : decode b_Mo_sheet 55 = .ok (.aload_n 0, 1) := by decide +kernel
theorem xd_Mo_sheet_56 : decode b_Mo_sheet 56 = .ok (.getfield 13, 3) := by decide +kernel
theorem xd_Mo_sheet_59 : decode b_Mo_sheet 59 = .ok (.iload_n 1, 1) := by decide +kernel
theorem xd_Mo_sheet_60 : decode b_Mo_sheet 60 = .ok (.iload_n 3, 1) := by decide +kernel
theorem xd_Mo_sheet_61 : decode b_Mo_sheet 61 = .ok (.iastore, 1) := by decide +kernel
theorem xd_Mo_sheet_62 : decode b_Mo_sheet 62 = .ok (.iconst 0, 1) := by decide +kernel
theorem xd_Mo_sheet_63 : decode b_Mo_sheet 63 = .ok (.istore 4, 2) := by decide +kernel
theorem xd_Mo_sheet_65 : decode b_Mo_sheet 65 = .ok (.iload 4, 2) := by decide +kernel
theorem xd_Mo_sheet_67 : decode b_Mo_sheet 67 = .ok (.bipush 60, 2) := by decide +kernel
theorem xd_Mo_sheet_69 : decode b_Mo_sheet 69 = .ok (.if_icmp .ge 22, 3) := by decide +kernel
theorem xd_Mo_sheet_72 : decode b_Mo_sheet 72 = .ok (.aload_n 0, 1) := by decide +kernel
theorem xd_Mo_sheet_73 : decode b_Mo_sheet 73 = .ok (.getfield 16, 3) := by decide +kernel
theorem xd_Mo_sheet_76 : decode b_Mo_sheet 76 = .ok (.bipush 60, 2) := by decide +kernel
theorem xd_Mo_sheet_78 : decode b_Mo_sheet 78 = .ok (.iload_n 1, 1) := by decide +kernel
theorem xd_Mo_sheet_79 : decode b_Mo_sheet 79 = .ok (.imul, 1) := by decide +kernel
theorem xd_Mo_sheet_80 : decode b_Mo_sheet 80 = .ok (.iload 4, 2) := by decide +kernel
theorem xd_Mo_sheet_82 : decode b_Mo_sheet 82 = .ok (.iadd, 1) := by decide +kernel
theorem xd_Mo_sheet_83 : decode b_Mo_sheet 83 = .ok (.iconst 0, 1) := by decide +kernel
theorem xd_Mo_sheet_84 : decode b_Mo_sheet 84 = .ok (.iastore, 1) := by decide +kernel
theorem xd_Mo_sheet_85 : decode b_Mo_sheet 85 = .ok (.iinc 4 1, 3) := by decide +kernel
theorem xd_Mo_sheet_88 : decode b_Mo_sheet 88 = .ok (.goto (-23), 3) := by decide +kernel
theorem xd_Mo_sheet_91 : decode b_Mo_sheet 91 = .ok (.aload_n 0, 1) := by decide +kernel
theorem xd_Mo_sheet_92 : decode b_Mo_sheet 92 = .ok (.iload_n 3, 1) := by decide +kernel
theorem xd_Mo_sheet_93 : decode b_Mo_sheet 93 = .ok (.invokevirtual 89, 3) := by decide +kernel
theorem xd_Mo_sheet_96 : decode b_Mo_sheet 96 = .ok (.ireturn, 1) := by decide +kernel
abbrev rm_Mo_sheet : Room := { frames := 1, cells := 0, slots := 0, locals := 22 }
def xw_Mo_sheet_65 (x1 : Int32) (x3 : Int32) (post : Int32 → xM → Prop) (k91 : Int32 → xM → Prop) : Nat → Int32 → xM → Prop
  | 0, _, _ => False
  | n65 + 1, x4, M => (((60 : Int32) ≤ x4) → (k91 x4 M)) ∧ ((¬ (60 : Int32) ≤ x4) → ((vp_in (((60 : Int32) * x1) + x4) 240) ∧ (xw_Mo_sheet_65 x1 x3 post k91 n65 (x4 + (1 : Int32)) (us M 9 3 (((60 : Int32) * x1) + x4).toNatClampNeg (0 : Int32)))))
def xw_Mo_sheet (a1 : Int32) (a2 : Int32) (a3 : Int32) (M : xM) (post : Int32 → xM → Prop) : Prop :=
  xw_Mo_in a1 (0 : Int32) (3 : Int32) M (fun (r2 : Int32) (M1 : xM) => xj (fun (J24_2 : xM → Prop) => ((r2 = 0) → (J24_2  M1)) ∧ ((¬ r2 = 0) → (xw_Mo_in a2 (0 : Int32) (2 : Int32) M1 (fun (r8 : Int32) (M7 : xM) => ((r8 = 0) → (J24_2  M7)) ∧ ((¬ r8 = 0) → (((a3 ≤ (60 : Int32)) → ((vp_in a1 4) ∧ (((0 ≤ a3) → ((vp_in a1 4) ∧ ((vp_in a1 4) ∧ (∃ n65 : Nat, xw_Mo_sheet_65 a1 a3 post (fun (y9 : Int32) (M10 : xM) => xw_Mo_ends a3 M10 (fun (r12 : Int32) (M11 : xM) => post r12 M11)) n65 (0 : Int32) (us (us (us M7 9 2 a1.toNatClampNeg (-1 : Int32)) 9 1 a1.toNatClampNeg a2) 9 2 a1.toNatClampNeg a3))))) ∧ ((¬ 0 ≤ a3) → (xw_Mo_ends (-4 : Int32) (us M7 9 2 a1.toNatClampNeg (-1 : Int32)) (fun (r14 : Int32) (M13 : xM) => post r14 M13)))))) ∧ ((¬ a3 ≤ (60 : Int32)) → (J24_2  M7)))))))) (fun (M4 : xM) => xw_Mo_ends (-1 : Int32) M4 (fun (r6 : Int32) (M5 : xM) => post r6 M5)))
set_option maxHeartbeats 4000000 in
set_option maxRecDepth 100000 in
theorem xt_Mo_sheet_65 {p : Program} {l : Launch} {e : Env} {s : State} {m : MethodId} {args : Array Value} {below : List Frame} {meth : Method} {c : Code} {G : xG} (hC : xC p s m args c b_Mo_sheet R_Mo 5 G) (hr : meth.sig.returnType = (some .int)) (hlk : meth.locks = false) {x1 : Int32} {x3 : Int32} {post : Int32 → xM → Prop} {k91 : Int32 → xM → Prop} (hk91 : ∀ (x4 : Int32) (M : xM) (H : Heap) (locs : List Loc) (ls : Array Slot), k91 x4 M → xRp G M H → va_S (xA G) s.heap H locs → lv_has ls 5 [(0, .ref (G.1 9 0)), (1, .int x1), (3, .int x3), (4, .int x4)] → W p l e rm_Mo_sheet s m args below meth c H locs 0 0 (MQ below (xPi G post) args s 0 0 (xA G)) (F0 m 91 ls [])) : ∀ (n : Nat) (x4 : Int32) (M : xM) (H : Heap) (locs : List Loc) (ls : Array Slot), xw_Mo_sheet_65 x1 x3 post k91 n x4 M → xRp G M H → va_S (xA G) s.heap H locs → lv_has ls 5 [(0, .ref (G.1 9 0)), (1, .int x1), (3, .int x3), (4, .int x4)] → W p l e rm_Mo_sheet s m args below meth c H locs 0 0 (MQ below (xPi G post) args s 0 0 (xA G)) (F0 m 65 ls []) := by
  have hx := hC.1
  have hb := hC.2.1
  intro n
  induction n with
  | zero => intro x4 M H locs ls; exact fun h => h.elim
  | succ n ih =>
    intro x4 M H locs ls h hR hS hl
    refine lv_iload (pc := 65) hx hb xd_Mo_sheet_65 (lv_at hl 3 rfl) ?_
    refine lv_bipush (pc := 67) (v := (60 : Int32)) hx hb xd_Mo_sheet_67 (by decide) ?_
    refine lv_icmp_ge (pc := 69) (tgt := 91) hx hb xd_Mo_sheet_69 (by decide) (fun hq => ?_) (fun hq => ?_)
    · have h := h.1 hq
      exact hk91 x4 M H locs ls h hR hS (lv_sub hl [0, 1, 2, 3] rfl)
    · have h := h.2 hq
      refine lv_aload_n (pc := 72) hx hb xd_Mo_sheet_72 rfl (lv_at hl 0 rfl) ?_
      refine xr_get (pc := 73) (v := .ref (G.1 9 3)) hC hR xo_M0 xf_Mo_16 rfl xd_Mo_sheet_73 ?_
      refine lv_bipush (pc := 76) (v := (60 : Int32)) hx hb xd_Mo_sheet_76 (by decide) ?_
      refine lv_iload_n (pc := 78) hx hb xd_Mo_sheet_78 rfl (lv_at hl 1 rfl) ?_
      refine lv_imul (pc := 79) hx hb xd_Mo_sheet_79 ?_
      refine lv_iload (pc := 80) hx hb xd_Mo_sheet_80 (lv_at hl 3 rfl) ?_
      refine lv_iadd (pc := 82) hx hb xd_Mo_sheet_82 ?_
      refine lv_iconst (pc := 83) (v := (0 : Int32)) hx hb xd_Mo_sheet_83 (by decide) ?_
      obtain ⟨hq, h⟩ := h
      refine xr_iast (pc := 84) hC hR hS xo_M3 hq xd_Mo_sheet_84 (fun H locs hR hS => ?_)
      refine lv_iinc (pc := 85) (v := (x4 + (1 : Int32))) (lv' := [(4, .int (x4 + (1 : Int32))), (0, .ref (G.1 9 0)), (1, .int x1), (3, .int x3)]) hx hb xd_Mo_sheet_85 hl (k := 3) rfl rfl (by decide) rfl (fun ls hl => ?_)
      refine lv_goto (pc := 88) (tgt := 65) hx hb xd_Mo_sheet_88 (by decide) ?_
      exact ih (x4 + (1 : Int32)) (us M 9 3 (((60 : Int32) * x1) + x4).toNatClampNeg (0 : Int32)) H locs ls h hR hS (lv_sub hl [1, 2, 3, 0] rfl)
set_option maxHeartbeats 4000000 in
set_option maxRecDepth 100000 in
theorem xc_Mo_sheet (l : Launch) (G : xG) {a1 : Int32} {a2 : Int32} {a3 : Int32}  {M : xM} {post : Int32 → xM → Prop} (h : xw_Mo_sheet a1 a2 a3 M post) : Met l y_Mo_sheet (Cond.code y_Mo_sheet b_Mo_sheet 5 (some .int) :: xTG) rm_Mo_sheet (xPre G M [.ref (G.1 9 0), .int a1, .int a2, .int a3]) (xPi G post) 0 0 (xA G) := by
  refine xMet (own := R_Mo) [.ref (G.1 9 0), .int a1, .int a2, .int a3] (Or.inl (by decide)) rfl (Nat.le_of_ble_eq_true rfl) (fun p e s m args below meth c ls hC hr hlk hR hS hl => ?_)
  have hx := hC.1
  have hb := hC.2.1
  have hl : lv_has ls 5 [(0, .ref (G.1 9 0)), (1, .int a1), (2, .int a2), (3, .int a3)] := hl
  obtain ⟨H, eH⟩ : ∃ H : Heap, H = s.heap := ⟨_, rfl⟩
  obtain ⟨locs, eL⟩ : ∃ locs : List Loc, locs = [] := ⟨_, rfl⟩
  rw [← eH] at hR
  replace hS : va_S (xA G) s.heap H locs := by rw [eH, eL]; exact hS
  suffices hh : W p l e rm_Mo_sheet s m args below meth c H locs 0 0 (MQ below (xPi G post) args s 0 0 (xA G)) (F0 m 0 ls []) from by rw [eH, eL] at hh; exact hh
  unfold xw_Mo_sheet at h
  refine lv_iload_n (pc := 0) hx hb xd_Mo_sheet_0 rfl (lv_at hl 1 rfl) ?_
  refine lv_iconst (pc := 1) (v := (0 : Int32)) hx hb xd_Mo_sheet_1 (by decide) ?_
  refine lv_iconst (pc := 2) (v := (3 : Int32)) hx hb xd_Mo_sheet_2 (by decide) ?_
  refine xr_callS (pc := 3) (As := [.int a1, .int (0 : Int32), .int (3 : Int32)]) (rest := []) hC hR hS (xc_Mo_in l G  h) xv_Mo_85 ⟨rfl, rfl, Nat.le_of_ble_eq_true rfl, Nat.le_of_ble_eq_true rfl⟩ rfl hl.1 rfl (Nat.le_of_ble_eq_true rfl) xd_Mo_sheet_3 (fun r2 M1 H locs h hR hS => ?_)
  obtain ⟨J24_2, eJ24_2, h⟩ := xj_open h
  have kJ24_2 : ∀ (M4 : xM) (H : Heap) (locs : List Loc) (ls : Array Slot), J24_2 M4 → xRp G M4 H → va_S (xA G) s.heap H locs → lv_has ls 5 [(0, .ref (G.1 9 0))] → W p l e rm_Mo_sheet s m args below meth c H locs 0 0 (MQ below (xPi G post) args s 0 0 (xA G)) (F0 m 24 ls []) := by
    intro M4 H locs ls h hR hS hl
    rw [eJ24_2] at h
    refine lv_aload_n (pc := 24) hx hb xd_Mo_sheet_24 rfl (lv_at hl 0 rfl) ?_
    refine lv_iconst (pc := 25) (v := (-1 : Int32)) hx hb xd_Mo_sheet_25 (by decide) ?_
    refine xr_callV (pc := 26) (As := [.int (-1 : Int32)]) (rest := []) hC hR hS (xc_Mo_ends l G  h) xo_M0 xv_Mo_89 ⟨rfl, rfl, Nat.le_of_ble_eq_true rfl, Nat.le_of_ble_eq_true rfl⟩ rfl hl.1 rfl (Nat.le_of_ble_eq_true rfl) xd_Mo_sheet_26 (fun r6 M5 H locs h hR hS => ?_)
    exact xr_iret hC hr hlk hR hS h xd_Mo_sheet_29
  refine lv_if_eq (pc := 6) (tgt := 24) hx hb xd_Mo_sheet_6 (by decide) (fun hq => ?_) (fun hq => ?_)
  · have h := h.1 hq
    exact kJ24_2  M1 H locs ls h hR hS (lv_sub hl [0] rfl)
  · have h := h.2 hq
    refine lv_iload_n (pc := 9) hx hb xd_Mo_sheet_9 rfl (lv_at hl 2 rfl) ?_
    refine lv_iconst (pc := 10) (v := (0 : Int32)) hx hb xd_Mo_sheet_10 (by decide) ?_
    refine lv_iconst (pc := 11) (v := (2 : Int32)) hx hb xd_Mo_sheet_11 (by decide) ?_
    refine xr_callS (pc := 12) (As := [.int a2, .int (0 : Int32), .int (2 : Int32)]) (rest := []) hC hR hS (xc_Mo_in l G  h) xv_Mo_85 ⟨rfl, rfl, Nat.le_of_ble_eq_true rfl, Nat.le_of_ble_eq_true rfl⟩ rfl hl.1 rfl (Nat.le_of_ble_eq_true rfl) xd_Mo_sheet_12 (fun r8 M7 H locs h hR hS => ?_)
    refine lv_if_eq (pc := 15) (tgt := 24) hx hb xd_Mo_sheet_15 (by decide) (fun hq => ?_) (fun hq => ?_)
    · have h := h.1 hq
      exact kJ24_2  M7 H locs ls h hR hS (lv_sub hl [0] rfl)
    · have h := h.2 hq
      refine lv_iload_n (pc := 18) hx hb xd_Mo_sheet_18 rfl (lv_at hl 3 rfl) ?_
      refine lv_bipush (pc := 19) (v := (60 : Int32)) hx hb xd_Mo_sheet_19 (by decide) ?_
      refine lv_icmp_le (pc := 21) (tgt := 30) hx hb xd_Mo_sheet_21 (by decide) (fun hq => ?_) (fun hq => ?_)
      · have h := h.1 hq
        refine lv_aload_n (pc := 30) hx hb xd_Mo_sheet_30 rfl (lv_at hl 0 rfl) ?_
        refine xr_get (pc := 31) (v := .ref (G.1 9 2)) hC hR xo_M0 xf_Mo_13 rfl xd_Mo_sheet_31 ?_
        refine lv_iload_n (pc := 34) hx hb xd_Mo_sheet_34 rfl (lv_at hl 1 rfl) ?_
        refine lv_iconst (pc := 35) (v := (-1 : Int32)) hx hb xd_Mo_sheet_35 (by decide) ?_
        obtain ⟨hq, h⟩ := h
        refine xr_iast (pc := 36) hC hR hS xo_M2 hq xd_Mo_sheet_36 (fun H locs hR hS => ?_)
        refine lv_iload_n (pc := 37) hx hb xd_Mo_sheet_37 rfl (lv_at hl 3 rfl) ?_
        refine lv_if_ge (pc := 38) (tgt := 48) hx hb xd_Mo_sheet_38 (by decide) (fun hq => ?_) (fun hq => ?_)
        · have h := h.1 hq
          refine lv_aload_n (pc := 48) hx hb xd_Mo_sheet_48 rfl (lv_at hl 0 rfl) ?_
          refine xr_get (pc := 49) (v := .ref (G.1 9 1)) hC hR xo_M0 xf_Mo_7 rfl xd_Mo_sheet_49 ?_
          refine lv_iload_n (pc := 52) hx hb xd_Mo_sheet_52 rfl (lv_at hl 1 rfl) ?_
          refine lv_iload_n (pc := 53) hx hb xd_Mo_sheet_53 rfl (lv_at hl 2 rfl) ?_
          obtain ⟨hq, h⟩ := h
          refine xr_iast (pc := 54) hC hR hS xo_M1 hq xd_Mo_sheet_54 (fun H locs hR hS => ?_)
          refine lv_aload_n (pc := 55) hx hb xd_Mo_sheet_55 rfl (lv_at hl 0 rfl) ?_
          refine xr_get (pc := 56) (v := .ref (G.1 9 2)) hC hR xo_M0 xf_Mo_13 rfl xd_Mo_sheet_56 ?_
          refine lv_iload_n (pc := 59) hx hb xd_Mo_sheet_59 rfl (lv_at hl 1 rfl) ?_
          refine lv_iload_n (pc := 60) hx hb xd_Mo_sheet_60 rfl (lv_at hl 3 rfl) ?_
          obtain ⟨hq, h⟩ := h
          refine xr_iast (pc := 61) hC hR hS xo_M2 hq xd_Mo_sheet_61 (fun H locs hR hS => ?_)
          refine lv_iconst (pc := 62) (v := (0 : Int32)) hx hb xd_Mo_sheet_62 (by decide) ?_
          refine lv_istore (pc := 63) (lv' := [(4, .int (0 : Int32)), (0, .ref (G.1 9 0)), (1, .int a1), (2, .int a2), (3, .int a3)]) hx hb xd_Mo_sheet_63 hl (by decide) rfl (fun ls hl => ?_)
          obtain ⟨n, h⟩ := h
          refine xt_Mo_sheet_65 hC hr hlk  (fun y9 M10 H locs ls h hR hS hl => ?_) n (0 : Int32) (us (us (us M7 9 2 a1.toNatClampNeg (-1 : Int32)) 9 1 a1.toNatClampNeg a2) 9 2 a1.toNatClampNeg a3) H locs ls h hR hS (lv_sub hl [1, 2, 4, 0] rfl)
          refine lv_aload_n (pc := 91) hx hb xd_Mo_sheet_91 rfl (lv_at hl 0 rfl) ?_
          refine lv_iload_n (pc := 92) hx hb xd_Mo_sheet_92 rfl (lv_at hl 2 rfl) ?_
          refine xr_callV (pc := 93) (As := [.int a3]) (rest := []) hC hR hS (xc_Mo_ends l G  h) xo_M0 xv_Mo_89 ⟨rfl, rfl, Nat.le_of_ble_eq_true rfl, Nat.le_of_ble_eq_true rfl⟩ rfl hl.1 rfl (Nat.le_of_ble_eq_true rfl) xd_Mo_sheet_93 (fun r12 M11 H locs h hR hS => ?_)
          exact xr_iret hC hr hlk hR hS h xd_Mo_sheet_96
        · have h := h.2 hq
          refine lv_aload_n (pc := 41) hx hb xd_Mo_sheet_41 rfl (lv_at hl 0 rfl) ?_
          refine lv_bipush (pc := 42) (v := (-4 : Int32)) hx hb xd_Mo_sheet_42 (by decide) ?_
          refine xr_callV (pc := 44) (As := [.int (-4 : Int32)]) (rest := []) hC hR hS (xc_Mo_ends l G  h) xo_M0 xv_Mo_89 ⟨rfl, rfl, Nat.le_of_ble_eq_true rfl, Nat.le_of_ble_eq_true rfl⟩ rfl hl.1 rfl (Nat.le_of_ble_eq_true rfl) xd_Mo_sheet_44 (fun r14 M13 H locs h hR hS => ?_)
          exact xr_iret hC hr hlk hR hS h xd_Mo_sheet_47
      · have h := h.2 hq
        exact kJ24_2  M7 H locs ls h hR hS (lv_sub hl [0] rfl)

/-! ColoursApartModel.write(III)I -/
theorem xd_Mo_write_0 : decode b_Mo_write 0 = .ok (.iload_n 1, 1) := by decide +kernel
theorem xd_Mo_write_1 : decode b_Mo_write 1 = .ok (.iconst 0, 1) := by decide +kernel
theorem xd_Mo_write_2 : decode b_Mo_write 2 = .ok (.iconst 3, 1) := by decide +kernel
theorem xd_Mo_write_3 : decode b_Mo_write 3 = .ok (.invokestatic 85, 3) := by decide +kernel
theorem xd_Mo_write_6 : decode b_Mo_write 6 = .ok (.ifCond .ne 9, 3) := by decide +kernel
theorem xd_Mo_write_9 : decode b_Mo_write 9 = .ok (.aload_n 0, 1) := by decide +kernel
theorem xd_Mo_write_10 : decode b_Mo_write 10 = .ok (.iconst (-1), 1) := by decide +kernel
theorem xd_Mo_write_11 : decode b_Mo_write 11 = .ok (.invokevirtual 89, 3) := by decide +kernel
theorem xd_Mo_write_14 : decode b_Mo_write 14 = .ok (.ireturn, 1) := by decide +kernel
theorem xd_Mo_write_15 : decode b_Mo_write 15 = .ok (.aload_n 0, 1) := by decide +kernel
theorem xd_Mo_write_16 : decode b_Mo_write 16 = .ok (.getfield 13, 3) := by decide +kernel
theorem xd_Mo_write_19 : decode b_Mo_write 19 = .ok (.iload_n 1, 1) := by decide +kernel
theorem xd_Mo_write_20 : decode b_Mo_write 20 = .ok (.iaload, 1) := by decide +kernel
theorem xd_Mo_write_21 : decode b_Mo_write 21 = .ok (.iconst (-1), 1) := by decide +kernel
theorem xd_Mo_write_22 : decode b_Mo_write 22 = .ok (.if_icmp .ne 10, 3) := by decide +kernel
theorem xd_Mo_write_25 : decode b_Mo_write 25 = .ok (.aload_n 0, 1) := by decide +kernel
theorem xd_Mo_write_26 : decode b_Mo_write 26 = .ok (.bipush (-2), 2) := by decide +kernel
theorem xd_Mo_write_28 : decode b_Mo_write 28 = .ok (.invokevirtual 89, 3) := by decide +kernel
theorem xd_Mo_write_31 : decode b_Mo_write 31 = .ok (.ireturn, 1) := by decide +kernel
theorem xd_Mo_write_32 : decode b_Mo_write 32 = .ok (.iload_n 2, 1) := by decide +kernel
theorem xd_Mo_write_33 : decode b_Mo_write 33 = .ok (.iconst 0, 1) := by decide +kernel
theorem xd_Mo_write_34 : decode b_Mo_write 34 = .ok (.aload_n 0, 1) := by decide +kernel
theorem xd_Mo_write_35 : decode b_Mo_write 35 = .ok (.getfield 13, 3) := by decide +kernel
theorem xd_Mo_write_38 : decode b_Mo_write 38 = .ok (.iload_n 1, 1) := by decide +kernel
theorem xd_Mo_write_39 : decode b_Mo_write 39 = .ok (.iaload, 1) := by decide +kernel
theorem xd_Mo_write_40 : decode b_Mo_write 40 = .ok (.iconst 1, 1) := by decide +kernel
theorem xd_Mo_write_41 : decode b_Mo_write 41 = .ok (.isub, 1) := by decide +kernel
theorem xd_Mo_write_42 : decode b_Mo_write 42 = .ok (.invokestatic 85, 3) := by decide +kernel
theorem xd_Mo_write_45 : decode b_Mo_write 45 = .ok (.ifCond .ne 10, 3) := by decide +kernel
theorem xd_Mo_write_48 : decode b_Mo_write 48 = .ok (.aload_n 0, 1) := by decide +kernel
theorem xd_Mo_write_49 : decode b_Mo_write 49 = .ok (.bipush (-3), 2) := by decide +kernel
theorem xd_Mo_write_51 : decode b_Mo_write 51 = .ok (.invokevirtual 89, 3) := by decide +kernel
theorem xd_Mo_write_54 : decode b_Mo_write 54 = .ok (.ireturn, 1) := by decide +kernel
theorem xd_Mo_write_55 : decode b_Mo_write 55 = .ok (.aload_n 0, 1) := by decide +kernel
theorem xd_Mo_write_56 : decode b_Mo_write 56 = .ok (.getfield 16, 3) := by decide +kernel
theorem xd_Mo_write_59 : decode b_Mo_write 59 = .ok (.bipush 60, 2) := by decide +kernel
theorem xd_Mo_write_61 : decode b_Mo_write 61 = .ok (.iload_n 1, 1) := by decide +kernel
theorem xd_Mo_write_62 : decode b_Mo_write 62 = .ok (.imul, 1) := by decide +kernel
theorem xd_Mo_write_63 : decode b_Mo_write 63 = .ok (.iload_n 2, 1) := by decide +kernel
theorem xd_Mo_write_64 : decode b_Mo_write 64 = .ok (.iadd, 1) := by decide +kernel
theorem xd_Mo_write_65 : decode b_Mo_write 65 = .ok (.aload_n 0, 1) := by decide +kernel
theorem xd_Mo_write_66 : decode b_Mo_write 66 = .ok (.getfield 7, 3) := by decide +kernel
theorem xd_Mo_write_69 : decode b_Mo_write 69 = .ok (.iload_n 1, 1) := by decide +kernel
theorem xd_Mo_write_70 : decode b_Mo_write 70 = .ok (.iaload, 1) := by decide +kernel
theorem xd_Mo_write_71 : decode b_Mo_write 71 = .ok (.ifCond .ne 11, 3) := by decide +kernel
theorem xd_Mo_write_74 : decode b_Mo_write 74 = .ok (.iload_n 3, 1) := by decide +kernel
theorem xd_Mo_write_75 : decode b_Mo_write 75 = .ok (.sipush 255, 3) := by decide +kernel
theorem xd_Mo_write_78 : decode b_Mo_write 78 = .ok (.iand, 1) := by decide +kernel
theorem xd_Mo_write_79 : decode b_Mo_write 79 = .ok (.goto 19, 3) := by decide +kernel
theorem xd_Mo_write_82 : decode b_Mo_write 82 = .ok (.aload_n 0, 1) := by decide +kernel
theorem xd_Mo_write_83 : decode b_Mo_write 83 = .ok (.getfield 7, 3) := by decide +kernel
theorem xd_Mo_write_86 : decode b_Mo_write 86 = .ok (.iload_n 1, 1) := by decide +kernel
theorem xd_Mo_write_87 : decode b_Mo_write 87 = .ok (.iaload, 1) := by decide +kernel
theorem xd_Mo_write_88 : decode b_Mo_write 88 = .ok (.iconst 1, 1) := by decide +kernel
theorem xd_Mo_write_89 : decode b_Mo_write 89 = .ok (.if_icmp .ne 8, 3) := by decide +kernel
theorem xd_Mo_write_92 : decode b_Mo_write 92 = .ok (.iload_n 3, 1) := by decide +kernel
theorem xd_Mo_write_93 : decode b_Mo_write 93 = .ok (.i2s, 1) := by decide +kernel
theorem xd_Mo_write_94 : decode b_Mo_write 94 = .ok (.goto 4, 3) := by decide +kernel
theorem xd_Mo_write_97 : decode b_Mo_write 97 = .ok (.iload_n 3, 1) := by decide +kernel
theorem xd_Mo_write_98 : decode b_Mo_write 98 = .ok (.iastore, 1) := by decide +kernel
theorem xd_Mo_write_99 : decode b_Mo_write 99 = .ok (.aload_n 0, 1) := by decide +kernel
theorem xd_Mo_write_100 : decode b_Mo_write 100 = .ok (.iconst 0, 1) := by decide +kernel
theorem xd_Mo_write_101 : decode b_Mo_write 101 = .ok (.invokevirtual 89, 3) := by decide +kernel
theorem xd_Mo_write_104 : decode b_Mo_write 104 = .ok (.ireturn, 1) := by decide +kernel
abbrev rm_Mo_write : Room := { frames := 1, cells := 0, slots := 0, locals := 22 }
def xw_Mo_write (a1 : Int32) (a2 : Int32) (a3 : Int32) (M : xM) (post : Int32 → xM → Prop) : Prop :=
  xw_Mo_in a1 (0 : Int32) (3 : Int32) M (fun (r2 : Int32) (M1 : xM) => ((¬ r2 = 0) → ((vp_in a1 4) ∧ (((¬ (M1 9 2 a1.toNatClampNeg) = (-1 : Int32)) → ((vp_in a1 4) ∧ (xw_Mo_in a2 (0 : Int32) ((M1 9 2 a1.toNatClampNeg) - (1 : Int32)) M1 (fun (r4 : Int32) (M3 : xM) => ((¬ r4 = 0) → ((vp_in a1 4) ∧ (xj (fun (J98_4 : Int32 → xM → Prop) => ((¬ (M3 9 1 a1.toNatClampNeg) = 0) → ((vp_in a1 4) ∧ (((¬ (M3 9 1 a1.toNatClampNeg) = (1 : Int32)) → (J98_4 a3 M3)) ∧ (((M3 9 1 a1.toNatClampNeg) = (1 : Int32)) → (J98_4 ((a3).toInt16.toInt32) M3))))) ∧ (((M3 9 1 a1.toNatClampNeg) = 0) → (J98_4 (a3 &&& (255 : Int32)) M3))) (fun (v6 : Int32) (M7 : xM) => (vp_in (((60 : Int32) * a1) + a2) 240) ∧ (xw_Mo_ends (0 : Int32) (us M7 9 3 (((60 : Int32) * a1) + a2).toNatClampNeg v6) (fun (r9 : Int32) (M8 : xM) => post r9 M8)))))) ∧ ((r4 = 0) → (xw_Mo_ends (-3 : Int32) M3 (fun (r11 : Int32) (M10 : xM) => post r11 M10))))))) ∧ (((M1 9 2 a1.toNatClampNeg) = (-1 : Int32)) → (xw_Mo_ends (-2 : Int32) M1 (fun (r13 : Int32) (M12 : xM) => post r13 M12)))))) ∧ ((r2 = 0) → (xw_Mo_ends (-1 : Int32) M1 (fun (r15 : Int32) (M14 : xM) => post r15 M14))))
set_option maxHeartbeats 4000000 in
set_option maxRecDepth 100000 in
theorem xc_Mo_write (l : Launch) (G : xG) {a1 : Int32} {a2 : Int32} {a3 : Int32}  {M : xM} {post : Int32 → xM → Prop} (h : xw_Mo_write a1 a2 a3 M post) : Met l y_Mo_write (Cond.code y_Mo_write b_Mo_write 4 (some .int) :: xTG) rm_Mo_write (xPre G M [.ref (G.1 9 0), .int a1, .int a2, .int a3]) (xPi G post) 0 0 (xA G) := by
  refine xMet (own := R_Mo) [.ref (G.1 9 0), .int a1, .int a2, .int a3] (Or.inl (by decide)) rfl (Nat.le_of_ble_eq_true rfl) (fun p e s m args below meth c ls hC hr hlk hR hS hl => ?_)
  have hx := hC.1
  have hb := hC.2.1
  have hl : lv_has ls 4 [(0, .ref (G.1 9 0)), (1, .int a1), (2, .int a2), (3, .int a3)] := hl
  obtain ⟨H, eH⟩ : ∃ H : Heap, H = s.heap := ⟨_, rfl⟩
  obtain ⟨locs, eL⟩ : ∃ locs : List Loc, locs = [] := ⟨_, rfl⟩
  rw [← eH] at hR
  replace hS : va_S (xA G) s.heap H locs := by rw [eH, eL]; exact hS
  suffices hh : W p l e rm_Mo_write s m args below meth c H locs 0 0 (MQ below (xPi G post) args s 0 0 (xA G)) (F0 m 0 ls []) from by rw [eH, eL] at hh; exact hh
  unfold xw_Mo_write at h
  refine lv_iload_n (pc := 0) hx hb xd_Mo_write_0 rfl (lv_at hl 1 rfl) ?_
  refine lv_iconst (pc := 1) (v := (0 : Int32)) hx hb xd_Mo_write_1 (by decide) ?_
  refine lv_iconst (pc := 2) (v := (3 : Int32)) hx hb xd_Mo_write_2 (by decide) ?_
  refine xr_callS (pc := 3) (As := [.int a1, .int (0 : Int32), .int (3 : Int32)]) (rest := []) hC hR hS (xc_Mo_in l G  h) xv_Mo_85 ⟨rfl, rfl, Nat.le_of_ble_eq_true rfl, Nat.le_of_ble_eq_true rfl⟩ rfl hl.1 rfl (Nat.le_of_ble_eq_true rfl) xd_Mo_write_3 (fun r2 M1 H locs h hR hS => ?_)
  refine lv_if_ne (pc := 6) (tgt := 15) hx hb xd_Mo_write_6 (by decide) (fun hq => ?_) (fun hq => ?_)
  · have h := h.1 hq
    refine lv_aload_n (pc := 15) hx hb xd_Mo_write_15 rfl (lv_at hl 0 rfl) ?_
    refine xr_get (pc := 16) (v := .ref (G.1 9 2)) hC hR xo_M0 xf_Mo_13 rfl xd_Mo_write_16 ?_
    refine lv_iload_n (pc := 19) hx hb xd_Mo_write_19 rfl (lv_at hl 1 rfl) ?_
    obtain ⟨hq, h⟩ := h
    refine xr_iald (pc := 20) hC hR xo_M2 hq xd_Mo_write_20 ?_
    refine lv_iconst (pc := 21) (v := (-1 : Int32)) hx hb xd_Mo_write_21 (by decide) ?_
    refine lv_icmp_ne (pc := 22) (tgt := 32) hx hb xd_Mo_write_22 (by decide) (fun hq => ?_) (fun hq => ?_)
    · have h := h.1 hq
      refine lv_iload_n (pc := 32) hx hb xd_Mo_write_32 rfl (lv_at hl 2 rfl) ?_
      refine lv_iconst (pc := 33) (v := (0 : Int32)) hx hb xd_Mo_write_33 (by decide) ?_
      refine lv_aload_n (pc := 34) hx hb xd_Mo_write_34 rfl (lv_at hl 0 rfl) ?_
      refine xr_get (pc := 35) (v := .ref (G.1 9 2)) hC hR xo_M0 xf_Mo_13 rfl xd_Mo_write_35 ?_
      refine lv_iload_n (pc := 38) hx hb xd_Mo_write_38 rfl (lv_at hl 1 rfl) ?_
      obtain ⟨hq, h⟩ := h
      refine xr_iald (pc := 39) hC hR xo_M2 hq xd_Mo_write_39 ?_
      refine lv_iconst (pc := 40) (v := (1 : Int32)) hx hb xd_Mo_write_40 (by decide) ?_
      refine lv_isub (pc := 41) hx hb xd_Mo_write_41 ?_
      refine xr_callS (pc := 42) (As := [.int a2, .int (0 : Int32), .int ((M1 9 2 a1.toNatClampNeg) - (1 : Int32))]) (rest := []) hC hR hS (xc_Mo_in l G  h) xv_Mo_85 ⟨rfl, rfl, Nat.le_of_ble_eq_true rfl, Nat.le_of_ble_eq_true rfl⟩ rfl hl.1 rfl (Nat.le_of_ble_eq_true rfl) xd_Mo_write_42 (fun r4 M3 H locs h hR hS => ?_)
      refine lv_if_ne (pc := 45) (tgt := 55) hx hb xd_Mo_write_45 (by decide) (fun hq => ?_) (fun hq => ?_)
      · have h := h.1 hq
        refine lv_aload_n (pc := 55) hx hb xd_Mo_write_55 rfl (lv_at hl 0 rfl) ?_
        refine xr_get (pc := 56) (v := .ref (G.1 9 3)) hC hR xo_M0 xf_Mo_16 rfl xd_Mo_write_56 ?_
        refine lv_bipush (pc := 59) (v := (60 : Int32)) hx hb xd_Mo_write_59 (by decide) ?_
        refine lv_iload_n (pc := 61) hx hb xd_Mo_write_61 rfl (lv_at hl 1 rfl) ?_
        refine lv_imul (pc := 62) hx hb xd_Mo_write_62 ?_
        refine lv_iload_n (pc := 63) hx hb xd_Mo_write_63 rfl (lv_at hl 2 rfl) ?_
        refine lv_iadd (pc := 64) hx hb xd_Mo_write_64 ?_
        refine lv_aload_n (pc := 65) hx hb xd_Mo_write_65 rfl (lv_at hl 0 rfl) ?_
        refine xr_get (pc := 66) (v := .ref (G.1 9 1)) hC hR xo_M0 xf_Mo_7 rfl xd_Mo_write_66 ?_
        refine lv_iload_n (pc := 69) hx hb xd_Mo_write_69 rfl (lv_at hl 1 rfl) ?_
        obtain ⟨hq, h⟩ := h
        refine xr_iald (pc := 70) hC hR xo_M1 hq xd_Mo_write_70 ?_
        obtain ⟨J98_4, eJ98_4, h⟩ := xj_open h
        have kJ98_4 : ∀ (v6 : Int32) (M7 : xM) (H : Heap) (locs : List Loc) (ls : Array Slot), J98_4 v6 M7 → xRp G M7 H → va_S (xA G) s.heap H locs → lv_has ls 4 [(0, .ref (G.1 9 0))] → W p l e rm_Mo_write s m args below meth c H locs 0 0 (MQ below (xPi G post) args s 0 0 (xA G)) (F0 m 98 ls [.int v6, .int (((60 : Int32) * a1) + a2), .ref (G.1 9 3)]) := by
          intro v6 M7 H locs ls h hR hS hl
          rw [eJ98_4] at h
          obtain ⟨hq, h⟩ := h
          refine xr_iast (pc := 98) hC hR hS xo_M3 hq xd_Mo_write_98 (fun H locs hR hS => ?_)
          refine lv_aload_n (pc := 99) hx hb xd_Mo_write_99 rfl (lv_at hl 0 rfl) ?_
          refine lv_iconst (pc := 100) (v := (0 : Int32)) hx hb xd_Mo_write_100 (by decide) ?_
          refine xr_callV (pc := 101) (As := [.int (0 : Int32)]) (rest := []) hC hR hS (xc_Mo_ends l G  h) xo_M0 xv_Mo_89 ⟨rfl, rfl, Nat.le_of_ble_eq_true rfl, Nat.le_of_ble_eq_true rfl⟩ rfl hl.1 rfl (Nat.le_of_ble_eq_true rfl) xd_Mo_write_101 (fun r9 M8 H locs h hR hS => ?_)
          exact xr_iret hC hr hlk hR hS h xd_Mo_write_104
        refine lv_if_ne (pc := 71) (tgt := 82) hx hb xd_Mo_write_71 (by decide) (fun hq => ?_) (fun hq => ?_)
        · have h := h.1 hq
          refine lv_aload_n (pc := 82) hx hb xd_Mo_write_82 rfl (lv_at hl 0 rfl) ?_
          refine xr_get (pc := 83) (v := .ref (G.1 9 1)) hC hR xo_M0 xf_Mo_7 rfl xd_Mo_write_83 ?_
          refine lv_iload_n (pc := 86) hx hb xd_Mo_write_86 rfl (lv_at hl 1 rfl) ?_
          obtain ⟨hq, h⟩ := h
          refine xr_iald (pc := 87) hC hR xo_M1 hq xd_Mo_write_87 ?_
          refine lv_iconst (pc := 88) (v := (1 : Int32)) hx hb xd_Mo_write_88 (by decide) ?_
          refine lv_icmp_ne (pc := 89) (tgt := 97) hx hb xd_Mo_write_89 (by decide) (fun hq => ?_) (fun hq => ?_)
          · have h := h.1 hq
            refine lv_iload_n (pc := 97) hx hb xd_Mo_write_97 rfl (lv_at hl 3 rfl) ?_
            exact kJ98_4 a3 M3 H locs ls h hR hS (lv_sub hl [0] rfl)
          · have h := h.2 hq
            refine lv_iload_n (pc := 92) hx hb xd_Mo_write_92 rfl (lv_at hl 3 rfl) ?_
            refine lv_i2s (pc := 93) (v := (a3).toInt16.toInt32) hx hb xd_Mo_write_93 rfl ?_
            refine lv_goto (pc := 94) (tgt := 98) hx hb xd_Mo_write_94 (by decide) ?_
            exact kJ98_4 ((a3).toInt16.toInt32) M3 H locs ls h hR hS (lv_sub hl [0] rfl)
        · have h := h.2 hq
          refine lv_iload_n (pc := 74) hx hb xd_Mo_write_74 rfl (lv_at hl 3 rfl) ?_
          refine lv_sipush (pc := 75) (v := (255 : Int32)) hx hb xd_Mo_write_75 (by decide) ?_
          refine lv_iand (pc := 78) hx hb xd_Mo_write_78 ?_
          refine lv_goto (pc := 79) (tgt := 98) hx hb xd_Mo_write_79 (by decide) ?_
          exact kJ98_4 (a3 &&& (255 : Int32)) M3 H locs ls h hR hS (lv_sub hl [0] rfl)
      · have h := h.2 hq
        refine lv_aload_n (pc := 48) hx hb xd_Mo_write_48 rfl (lv_at hl 0 rfl) ?_
        refine lv_bipush (pc := 49) (v := (-3 : Int32)) hx hb xd_Mo_write_49 (by decide) ?_
        refine xr_callV (pc := 51) (As := [.int (-3 : Int32)]) (rest := []) hC hR hS (xc_Mo_ends l G  h) xo_M0 xv_Mo_89 ⟨rfl, rfl, Nat.le_of_ble_eq_true rfl, Nat.le_of_ble_eq_true rfl⟩ rfl hl.1 rfl (Nat.le_of_ble_eq_true rfl) xd_Mo_write_51 (fun r11 M10 H locs h hR hS => ?_)
        exact xr_iret hC hr hlk hR hS h xd_Mo_write_54
    · have h := h.2 hq
      refine lv_aload_n (pc := 25) hx hb xd_Mo_write_25 rfl (lv_at hl 0 rfl) ?_
      refine lv_bipush (pc := 26) (v := (-2 : Int32)) hx hb xd_Mo_write_26 (by decide) ?_
      refine xr_callV (pc := 28) (As := [.int (-2 : Int32)]) (rest := []) hC hR hS (xc_Mo_ends l G  h) xo_M0 xv_Mo_89 ⟨rfl, rfl, Nat.le_of_ble_eq_true rfl, Nat.le_of_ble_eq_true rfl⟩ rfl hl.1 rfl (Nat.le_of_ble_eq_true rfl) xd_Mo_write_28 (fun r13 M12 H locs h hR hS => ?_)
      exact xr_iret hC hr hlk hR hS h xd_Mo_write_31
  · have h := h.2 hq
    refine lv_aload_n (pc := 9) hx hb xd_Mo_write_9 rfl (lv_at hl 0 rfl) ?_
    refine lv_iconst (pc := 10) (v := (-1 : Int32)) hx hb xd_Mo_write_10 (by decide) ?_
    refine xr_callV (pc := 11) (As := [.int (-1 : Int32)]) (rest := []) hC hR hS (xc_Mo_ends l G  h) xo_M0 xv_Mo_89 ⟨rfl, rfl, Nat.le_of_ble_eq_true rfl, Nat.le_of_ble_eq_true rfl⟩ rfl hl.1 rfl (Nat.le_of_ble_eq_true rfl) xd_Mo_write_11 (fun r15 M14 H locs h hR hS => ?_)
    exact xr_iret hC hr hlk hR hS h xd_Mo_write_14

/-! ColoursApartModel.stands(III)I -/
theorem xd_Mo_stands_0 : decode b_Mo_stands 0 = .ok (.iload_n 2, 1) := by decide +kernel
theorem xd_Mo_stands_1 : decode b_Mo_stands 1 = .ok (.aload_n 0, 1) := by decide +kernel
theorem xd_Mo_stands_2 : decode b_Mo_stands 2 = .ok (.getfield 13, 3) := by decide +kernel
theorem xd_Mo_stands_5 : decode b_Mo_stands 5 = .ok (.iload_n 1, 1) := by decide +kernel
theorem xd_Mo_stands_6 : decode b_Mo_stands 6 = .ok (.iaload, 1) := by decide +kernel
theorem xd_Mo_stands_7 : decode b_Mo_stands 7 = .ok (.iload_n 3, 1) := by decide +kernel
theorem xd_Mo_stands_8 : decode b_Mo_stands 8 = .ok (.isub, 1) := by decide +kernel
theorem xd_Mo_stands_9 : decode b_Mo_stands 9 = .ok (.if_icmp .ge 19, 3) := by decide +kernel
theorem xd_Mo_stands_12 : decode b_Mo_stands 12 = .ok (.aload_n 0, 1) := by decide +kernel
theorem xd_Mo_stands_13 : decode b_Mo_stands 13 = .ok (.getfield 16, 3) := by decide +kernel
theorem xd_Mo_stands_16 : decode b_Mo_stands 16 = .ok (.bipush 60, 2) := by decide +kernel
theorem xd_Mo_stands_18 : decode b_Mo_stands 18 = .ok (.iload_n 1, 1) := by decide +kernel
theorem xd_Mo_stands_19 : decode b_Mo_stands 19 = .ok (.imul, 1) := by decide +kernel
theorem xd_Mo_stands_20 : decode b_Mo_stands 20 = .ok (.iload_n 2, 1) := by decide +kernel
theorem xd_Mo_stands_21 : decode b_Mo_stands 21 = .ok (.iadd, 1) := by decide +kernel
theorem xd_Mo_stands_22 : decode b_Mo_stands 22 = .ok (.iload_n 3, 1) := by decide +kernel
theorem xd_Mo_stands_23 : decode b_Mo_stands 23 = .ok (.iadd, 1) := by decide +kernel
theorem xd_Mo_stands_24 : decode b_Mo_stands 24 = .ok (.iaload, 1) := by decide +kernel
theorem xd_Mo_stands_25 : decode b_Mo_stands 25 = .ok (.goto 4, 3) := by decide +kernel
theorem xd_Mo_stands_28 : decode b_Mo_stands 28 = .ok (.iconst 0, 1) := by decide +kernel
theorem xd_Mo_stands_29 : decode b_Mo_stands 29 = .ok (.ireturn, 1) := by decide +kernel
abbrev rm_Mo_stands : Room := { frames := 0, cells := 0, slots := 0, locals := 0 }
def xw_Mo_stands (a1 : Int32) (a2 : Int32) (a3 : Int32) (M : xM) (post : Int32 → xM → Prop) : Prop :=
  (vp_in a1 4) ∧ (((((M 9 2 a1.toNatClampNeg) - a3) ≤ a2) → (post (0 : Int32) M)) ∧ ((¬ ((M 9 2 a1.toNatClampNeg) - a3) ≤ a2) → ((vp_in ((((60 : Int32) * a1) + a2) + a3) 240) ∧ (post (M 9 3 ((((60 : Int32) * a1) + a2) + a3).toNatClampNeg) M))))
set_option maxHeartbeats 4000000 in
set_option maxRecDepth 100000 in
theorem xc_Mo_stands (l : Launch) (G : xG) {a1 : Int32} {a2 : Int32} {a3 : Int32}  {M : xM} {post : Int32 → xM → Prop} (h : xw_Mo_stands a1 a2 a3 M post) : Met l y_Mo_stands (Cond.code y_Mo_stands b_Mo_stands 4 (some .int) :: xTG) rm_Mo_stands (xPre G M [.ref (G.1 9 0), .int a1, .int a2, .int a3]) (xPi G post) 0 0 (xA G) := by
  refine xMet (own := R_Mo) [.ref (G.1 9 0), .int a1, .int a2, .int a3] (Or.inl (by decide)) rfl (Nat.le_of_ble_eq_true rfl) (fun p e s m args below meth c ls hC hr hlk hR hS hl => ?_)
  have hx := hC.1
  have hb := hC.2.1
  have hl : lv_has ls 4 [(0, .ref (G.1 9 0)), (1, .int a1), (2, .int a2), (3, .int a3)] := hl
  obtain ⟨H, eH⟩ : ∃ H : Heap, H = s.heap := ⟨_, rfl⟩
  obtain ⟨locs, eL⟩ : ∃ locs : List Loc, locs = [] := ⟨_, rfl⟩
  rw [← eH] at hR
  replace hS : va_S (xA G) s.heap H locs := by rw [eH, eL]; exact hS
  suffices hh : W p l e rm_Mo_stands s m args below meth c H locs 0 0 (MQ below (xPi G post) args s 0 0 (xA G)) (F0 m 0 ls []) from by rw [eH, eL] at hh; exact hh
  unfold xw_Mo_stands at h
  refine lv_iload_n (pc := 0) hx hb xd_Mo_stands_0 rfl (lv_at hl 2 rfl) ?_
  refine lv_aload_n (pc := 1) hx hb xd_Mo_stands_1 rfl (lv_at hl 0 rfl) ?_
  refine xr_get (pc := 2) (v := .ref (G.1 9 2)) hC hR xo_M0 xf_Mo_13 rfl xd_Mo_stands_2 ?_
  refine lv_iload_n (pc := 5) hx hb xd_Mo_stands_5 rfl (lv_at hl 1 rfl) ?_
  obtain ⟨hq, h⟩ := h
  refine xr_iald (pc := 6) hC hR xo_M2 hq xd_Mo_stands_6 ?_
  refine lv_iload_n (pc := 7) hx hb xd_Mo_stands_7 rfl (lv_at hl 3 rfl) ?_
  refine lv_isub (pc := 8) hx hb xd_Mo_stands_8 ?_
  refine lv_icmp_ge (pc := 9) (tgt := 28) hx hb xd_Mo_stands_9 (by decide) (fun hq => ?_) (fun hq => ?_)
  · have h := h.1 hq
    refine lv_iconst (pc := 28) (v := (0 : Int32)) hx hb xd_Mo_stands_28 (by decide) ?_
    exact xr_iret hC hr hlk hR hS h xd_Mo_stands_29
  · have h := h.2 hq
    refine lv_aload_n (pc := 12) hx hb xd_Mo_stands_12 rfl (lv_at hl 0 rfl) ?_
    refine xr_get (pc := 13) (v := .ref (G.1 9 3)) hC hR xo_M0 xf_Mo_16 rfl xd_Mo_stands_13 ?_
    refine lv_bipush (pc := 16) (v := (60 : Int32)) hx hb xd_Mo_stands_16 (by decide) ?_
    refine lv_iload_n (pc := 18) hx hb xd_Mo_stands_18 rfl (lv_at hl 1 rfl) ?_
    refine lv_imul (pc := 19) hx hb xd_Mo_stands_19 ?_
    refine lv_iload_n (pc := 20) hx hb xd_Mo_stands_20 rfl (lv_at hl 2 rfl) ?_
    refine lv_iadd (pc := 21) hx hb xd_Mo_stands_21 ?_
    refine lv_iload_n (pc := 22) hx hb xd_Mo_stands_22 rfl (lv_at hl 3 rfl) ?_
    refine lv_iadd (pc := 23) hx hb xd_Mo_stands_23 ?_
    obtain ⟨hq, h⟩ := h
    refine xr_iald (pc := 24) hC hR xo_M3 hq xd_Mo_stands_24 ?_
    refine lv_goto (pc := 25) (tgt := 29) hx hb xd_Mo_stands_25 (by decide) ?_
    exact xr_iret hC hr hlk hR hS h xd_Mo_stands_29

/-! ColoursApartModel.weak(III)I -/
theorem xd_Mo_weak_0 : decode b_Mo_weak 0 = .ok (.iload_n 1, 1) := by decide +kernel
theorem xd_Mo_weak_1 : decode b_Mo_weak 1 = .ok (.iconst 1, 1) := by decide +kernel
theorem xd_Mo_weak_2 : decode b_Mo_weak 2 = .ok (.iconst 3, 1) := by decide +kernel
theorem xd_Mo_weak_3 : decode b_Mo_weak 3 = .ok (.invokestatic 85, 3) := by decide +kernel
theorem xd_Mo_weak_6 : decode b_Mo_weak 6 = .ok (.ifCond .eq 16, 3) := by decide +kernel
theorem xd_Mo_weak_9 : decode b_Mo_weak 9 = .ok (.iload_n 2, 1) := by decide +kernel
theorem xd_Mo_weak_10 : decode b_Mo_weak 10 = .ok (.iconst 0, 1) := by decide +kernel
theorem xd_Mo_weak_11 : decode b_Mo_weak 11 = .ok (.iconst 3, 1) := by decide +kernel
theorem xd_Mo_weak_12 : decode b_Mo_weak 12 = .ok (.invokestatic 85, 3) := by decide +kernel
theorem xd_Mo_weak_15 : decode b_Mo_weak 15 = .ok (.ifCond .eq 7, 3) := by decide +kernel
theorem xd_Mo_weak_18 : decode b_Mo_weak 18 = .ok (.iload_n 3, 1) := by decide +kernel
theorem xd_Mo_weak_19 : decode b_Mo_weak 19 = .ok (.ifCond .ge 9, 3) := by decide +kernel
theorem xd_Mo_weak_22 : decode b_Mo_weak 22 = .ok (.aload_n 0, 1) := by decide +kernel
theorem xd_Mo_weak_23 : decode b_Mo_weak 23 = .ok (.iconst (-1), 1) := by decide +kernel
theorem xd_Mo_weak_24 : decode b_Mo_weak 24 = .ok (.invokevirtual 89, 3) := by decide +kernel
theorem xd_Mo_weak_27 : decode b_Mo_weak 27 = .ok (.ireturn, 1) := by decide +kernel
theorem xd_Mo_weak_28 : decode b_Mo_weak 28 = .ok (.aload_n 0, 1) := by decide +kernel
theorem xd_Mo_weak_29 : decode b_Mo_weak 29 = .ok (.getfield 13, 3) := by decide +kernel
theorem xd_Mo_weak_32 : decode b_Mo_weak 32 = .ok (.iload_n 2, 1) := by decide +kernel
theorem xd_Mo_weak_33 : decode b_Mo_weak 33 = .ok (.iaload, 1) := by decide +kernel
theorem xd_Mo_weak_34 : decode b_Mo_weak 34 = .ok (.iconst (-1), 1) := by decide +kernel
theorem xd_Mo_weak_35 : decode b_Mo_weak 35 = .ok (.if_icmp .ne 10, 3) := by decide +kernel
theorem xd_Mo_weak_38 : decode b_Mo_weak 38 = .ok (.aload_n 0, 1) := by decide +kernel
theorem xd_Mo_weak_39 : decode b_Mo_weak 39 = .ok (.bipush (-2), 2) := by decide +kernel
theorem xd_Mo_weak_41 : decode b_Mo_weak 41 = .ok (.invokevirtual 89, 3) := by decide +kernel
theorem xd_Mo_weak_44 : decode b_Mo_weak 44 = .ok (.ireturn, 1) := by decide +kernel
theorem xd_Mo_weak_45 : decode b_Mo_weak 45 = .ok (.iconst 0, 1) := by decide +kernel
theorem xd_Mo_weak_46 : decode b_Mo_weak 46 = .ok (.istore 4, 2) := by decide +kernel
theorem xd_Mo_weak_48 : decode b_Mo_weak 48 = .ok (.iload 4, 2) := by decide +kernel
theorem xd_Mo_weak_50 : decode b_Mo_weak 50 = .ok (.bipush 9, 2) := by decide +kernel
theorem xd_Mo_weak_52 : decode b_Mo_weak 52 = .ok (.if_icmp .ge 35, 3) := by decide +kernel
theorem xd_Mo_weak_55 : decode b_Mo_weak 55 = .ok (.aload_n 0, 1) := by decide +kernel
theorem xd_Mo_weak_56 : decode b_Mo_weak 56 = .ok (.iload_n 2, 1) := by decide +kernel
theorem xd_Mo_weak_57 : decode b_Mo_weak 57 = .ok (.iload_n 3, 1) := by decide +kernel
theorem xd_Mo_weak_58 : decode b_Mo_weak 58 = .ok (.iload 4, 2) := by decide +kernel
theorem xd_Mo_weak_60 : decode b_Mo_weak 60 = .ok (.invokevirtual 93, 3) := by decide +kernel
theorem xd_Mo_weak_63 : decode b_Mo_weak 63 = .ok (.sipush (-3000), 3) := by decide +kernel
theorem xd_Mo_weak_66 : decode b_Mo_weak 66 = .ok (.sipush 3000, 3) := by decide +kernel
theorem xd_Mo_weak_69 : decode b_Mo_weak 69 = .ok (.invokestatic 85, 3) := by decide +kernel
theorem xd_Mo_weak_72 : decode b_Mo_weak 72 = .ok (.ifCond .ne 9, 3) := by decide +kernel
theorem xd_Mo_weak_75 : decode b_Mo_weak 75 = .ok (.aload_n 0, 1) := by decide +kernel
theorem xd_Mo_weak_76 : decode b_Mo_weak 76 = .ok (.iconst (-1), 1) := by decide +kernel
theorem xd_Mo_weak_77 : decode b_Mo_weak 77 = .ok (.invokevirtual 89, 3) := by decide +kernel
theorem xd_Mo_weak_80 : decode b_Mo_weak 80 = .ok (.ireturn, 1) := by decide +kernel
theorem xd_Mo_weak_81 : decode b_Mo_weak 81 = .ok (.iinc 4 1, 3) := by decide +kernel
theorem xd_Mo_weak_84 : decode b_Mo_weak 84 = .ok (.goto (-36), 3) := by decide +kernel
theorem xd_Mo_weak_87 : decode b_Mo_weak 87 = .ok (.iconst 0, 1) := by decide +kernel
theorem xd_Mo_weak_88 : decode b_Mo_weak 88 = .ok (.istore 4, 2) := by decide +kernel
theorem xd_Mo_weak_90 : decode b_Mo_weak 90 = .ok (.iload 4, 2) := by decide +kernel
theorem xd_Mo_weak_92 : decode b_Mo_weak 92 = .ok (.bipush 9, 2) := by decide +kernel
theorem xd_Mo_weak_94 : decode b_Mo_weak 94 = .ok (.if_icmp .ge 32, 3) := by decide +kernel
theorem xd_Mo_weak_97 : decode b_Mo_weak 97 = .ok (.aload_n 0, 1) := by decide +kernel
theorem xd_Mo_weak_98 : decode b_Mo_weak 98 = .ok (.getfield 19, 3) := by decide +kernel
theorem xd_Mo_weak_101 : decode b_Mo_weak 101 = .ok (.bipush 9, 2) := by decide +kernel
theorem xd_Mo_weak_103 : decode b_Mo_weak 103 = .ok (.iload_n 1, 1) := by decide +kernel
theorem xd_Mo_weak_104 : decode b_Mo_weak 104 = .ok (.imul, 1) := by decide +kernel
theorem xd_Mo_weak_105 : decode b_Mo_weak 105 = .ok (.bipush 9, 2) := by decide +kernel
theorem xd_Mo_weak_107 : decode b_Mo_weak 107 = .ok (.isub, 1) := by decide +kernel
theorem xd_Mo_weak_108 : decode b_Mo_weak 108 = .ok (.iload 4, 2) := by decide +kernel
theorem xd_Mo_weak_110 : decode b_Mo_weak 110 = .ok (.iadd, 1) := by decide +kernel
theorem xd_Mo_weak_111 : decode b_Mo_weak 111 = .ok (.aload_n 0, 1) := by decide +kernel
theorem xd_Mo_weak_112 : decode b_Mo_weak 112 = .ok (.iload_n 2, 1) := by decide +kernel
theorem xd_Mo_weak_113 : decode b_Mo_weak 113 = .ok (.iload_n 3, 1) := by decide +kernel
theorem xd_Mo_weak_114 : decode b_Mo_weak 114 = .ok (.iload 4, 2) := by decide +kernel
theorem xd_Mo_weak_116 : decode b_Mo_weak 116 = .ok (.invokevirtual 93, 3) := by decide +kernel
theorem xd_Mo_weak_119 : decode b_Mo_weak 119 = .ok (.iastore, 1) := by decide +kernel
theorem xd_Mo_weak_120 : decode b_Mo_weak 120 = .ok (.iinc 4 1, 3) := by decide +kernel
theorem xd_Mo_weak_123 : decode b_Mo_weak 123 = .ok (.goto (-33), 3) := by decide +kernel
theorem xd_Mo_weak_126 : decode b_Mo_weak 126 = .ok (.aload_n 0, 1) := by decide +kernel
theorem xd_Mo_weak_127 : decode b_Mo_weak 127 = .ok (.iconst 0, 1) := by decide +kernel
theorem xd_Mo_weak_128 : decode b_Mo_weak 128 = .ok (.invokevirtual 89, 3) := by decide +kernel
theorem xd_Mo_weak_131 : decode b_Mo_weak 131 = .ok (.ireturn, 1) := by decide +kernel
abbrev rm_Mo_weak : Room := { frames := 1, cells := 0, slots := 0, locals := 23 }
def xw_Mo_weak_48 (x1 : Int32) (x2 : Int32) (x3 : Int32) (post : Int32 → xM → Prop) (k87 : Int32 → xM → Prop) : Nat → Int32 → xM → Prop
  | 0, _, _ => False
  | n48 + 1, x4, M => (((9 : Int32) ≤ x4) → (k87 x4 M)) ∧ ((¬ (9 : Int32) ≤ x4) → (xw_Mo_stands x2 x3 x4 M (fun (r10 : Int32) (M9 : xM) => xw_Mo_in r10 (-3000 : Int32) (3000 : Int32) M9 (fun (r12 : Int32) (M11 : xM) => ((¬ r12 = 0) → (xw_Mo_weak_48 x1 x2 x3 post k87 n48 (x4 + (1 : Int32)) M11)) ∧ ((r12 = 0) → (xw_Mo_ends (-1 : Int32) M11 (fun (r14 : Int32) (M13 : xM) => post r14 M13)))))))
def xw_Mo_weak_90 (x1 : Int32) (x2 : Int32) (x3 : Int32) (post : Int32 → xM → Prop) (k126 : Int32 → xM → Prop) : Nat → Int32 → xM → Prop
  | 0, _, _ => False
  | n90 + 1, x4, M => (((9 : Int32) ≤ x4) → (k126 x4 M)) ∧ ((¬ (9 : Int32) ≤ x4) → (xw_Mo_stands x2 x3 x4 M (fun (r18 : Int32) (M17 : xM) => (vp_in ((((9 : Int32) * x1) - (9 : Int32)) + x4) 27) ∧ (xw_Mo_weak_90 x1 x2 x3 post k126 n90 (x4 + (1 : Int32)) (us M17 9 4 ((((9 : Int32) * x1) - (9 : Int32)) + x4).toNatClampNeg r18)))))
def xw_Mo_weak (a1 : Int32) (a2 : Int32) (a3 : Int32) (M : xM) (post : Int32 → xM → Prop) : Prop :=
  xw_Mo_in a1 (1 : Int32) (3 : Int32) M (fun (r2 : Int32) (M1 : xM) => xj (fun (J22_2 : xM → Prop) => ((r2 = 0) → (J22_2  M1)) ∧ ((¬ r2 = 0) → (xw_Mo_in a2 (0 : Int32) (3 : Int32) M1 (fun (r8 : Int32) (M7 : xM) => ((r8 = 0) → (J22_2  M7)) ∧ ((¬ r8 = 0) → (((0 ≤ a3) → ((vp_in a2 4) ∧ (((¬ (M7 9 2 a2.toNatClampNeg) = (-1 : Int32)) → (∃ n48 : Nat, xw_Mo_weak_48 a1 a2 a3 post (fun (y15 : Int32) (M16 : xM) => ∃ n90 : Nat, xw_Mo_weak_90 a1 a2 a3 post (fun (y19 : Int32) (M20 : xM) => xw_Mo_ends (0 : Int32) M20 (fun (r22 : Int32) (M21 : xM) => post r22 M21)) n90 (0 : Int32) M16) n48 (0 : Int32) M7)) ∧ (((M7 9 2 a2.toNatClampNeg) = (-1 : Int32)) → (xw_Mo_ends (-2 : Int32) M7 (fun (r24 : Int32) (M23 : xM) => post r24 M23)))))) ∧ ((¬ 0 ≤ a3) → (J22_2  M7)))))))) (fun (M4 : xM) => xw_Mo_ends (-1 : Int32) M4 (fun (r6 : Int32) (M5 : xM) => post r6 M5)))
set_option maxHeartbeats 4000000 in
set_option maxRecDepth 100000 in
theorem xt_Mo_weak_48 {p : Program} {l : Launch} {e : Env} {s : State} {m : MethodId} {args : Array Value} {below : List Frame} {meth : Method} {c : Code} {G : xG} (hC : xC p s m args c b_Mo_weak R_Mo 5 G) (hr : meth.sig.returnType = (some .int)) (hlk : meth.locks = false) {x1 : Int32} {x2 : Int32} {x3 : Int32} {post : Int32 → xM → Prop} {k87 : Int32 → xM → Prop} (hk87 : ∀ (x4 : Int32) (M : xM) (H : Heap) (locs : List Loc) (ls : Array Slot), k87 x4 M → xRp G M H → va_S (xA G) s.heap H locs → lv_has ls 5 [(0, .ref (G.1 9 0)), (1, .int x1), (2, .int x2), (3, .int x3), (4, .int x4)] → W p l e rm_Mo_weak s m args below meth c H locs 0 0 (MQ below (xPi G post) args s 0 0 (xA G)) (F0 m 87 ls [])) : ∀ (n : Nat) (x4 : Int32) (M : xM) (H : Heap) (locs : List Loc) (ls : Array Slot), xw_Mo_weak_48 x1 x2 x3 post k87 n x4 M → xRp G M H → va_S (xA G) s.heap H locs → lv_has ls 5 [(0, .ref (G.1 9 0)), (1, .int x1), (2, .int x2), (3, .int x3), (4, .int x4)] → W p l e rm_Mo_weak s m args below meth c H locs 0 0 (MQ below (xPi G post) args s 0 0 (xA G)) (F0 m 48 ls []) := by
  have hx := hC.1
  have hb := hC.2.1
  intro n
  induction n with
  | zero => intro x4 M H locs ls; exact fun h => h.elim
  | succ n ih =>
    intro x4 M H locs ls h hR hS hl
    refine lv_iload (pc := 48) hx hb xd_Mo_weak_48 (lv_at hl 4 rfl) ?_
    refine lv_bipush (pc := 50) (v := (9 : Int32)) hx hb xd_Mo_weak_50 (by decide) ?_
    refine lv_icmp_ge (pc := 52) (tgt := 87) hx hb xd_Mo_weak_52 (by decide) (fun hq => ?_) (fun hq => ?_)
    · have h := h.1 hq
      exact hk87 x4 M H locs ls h hR hS (lv_sub hl [0, 1, 2, 3, 4] rfl)
    · have h := h.2 hq
      refine lv_aload_n (pc := 55) hx hb xd_Mo_weak_55 rfl (lv_at hl 0 rfl) ?_
      refine lv_iload_n (pc := 56) hx hb xd_Mo_weak_56 rfl (lv_at hl 2 rfl) ?_
      refine lv_iload_n (pc := 57) hx hb xd_Mo_weak_57 rfl (lv_at hl 3 rfl) ?_
      refine lv_iload (pc := 58) hx hb xd_Mo_weak_58 (lv_at hl 4 rfl) ?_
      refine xr_callV (pc := 60) (As := [.int x2, .int x3, .int x4]) (rest := []) hC hR hS (xc_Mo_stands l G  h) xo_M0 xv_Mo_93 ⟨rfl, rfl, Nat.le_of_ble_eq_true rfl, Nat.le_of_ble_eq_true rfl⟩ rfl hl.1 rfl (Nat.le_of_ble_eq_true rfl) xd_Mo_weak_60 (fun r10 M9 H locs h hR hS => ?_)
      refine lv_sipush (pc := 63) (v := (-3000 : Int32)) hx hb xd_Mo_weak_63 (by decide) ?_
      refine lv_sipush (pc := 66) (v := (3000 : Int32)) hx hb xd_Mo_weak_66 (by decide) ?_
      refine xr_callS (pc := 69) (As := [.int r10, .int (-3000 : Int32), .int (3000 : Int32)]) (rest := []) hC hR hS (xc_Mo_in l G  h) xv_Mo_85 ⟨rfl, rfl, Nat.le_of_ble_eq_true rfl, Nat.le_of_ble_eq_true rfl⟩ rfl hl.1 rfl (Nat.le_of_ble_eq_true rfl) xd_Mo_weak_69 (fun r12 M11 H locs h hR hS => ?_)
      refine lv_if_ne (pc := 72) (tgt := 81) hx hb xd_Mo_weak_72 (by decide) (fun hq => ?_) (fun hq => ?_)
      · have h := h.1 hq
        refine lv_iinc (pc := 81) (v := (x4 + (1 : Int32))) (lv' := [(4, .int (x4 + (1 : Int32))), (0, .ref (G.1 9 0)), (1, .int x1), (2, .int x2), (3, .int x3)]) hx hb xd_Mo_weak_81 hl (k := 4) rfl rfl (by decide) rfl (fun ls hl => ?_)
        refine lv_goto (pc := 84) (tgt := 48) hx hb xd_Mo_weak_84 (by decide) ?_
        exact ih (x4 + (1 : Int32)) M11 H locs ls h hR hS (lv_sub hl [1, 2, 3, 4, 0] rfl)
      · have h := h.2 hq
        refine lv_aload_n (pc := 75) hx hb xd_Mo_weak_75 rfl (lv_at hl 0 rfl) ?_
        refine lv_iconst (pc := 76) (v := (-1 : Int32)) hx hb xd_Mo_weak_76 (by decide) ?_
        refine xr_callV (pc := 77) (As := [.int (-1 : Int32)]) (rest := []) hC hR hS (xc_Mo_ends l G  h) xo_M0 xv_Mo_89 ⟨rfl, rfl, Nat.le_of_ble_eq_true rfl, Nat.le_of_ble_eq_true rfl⟩ rfl hl.1 rfl (Nat.le_of_ble_eq_true rfl) xd_Mo_weak_77 (fun r14 M13 H locs h hR hS => ?_)
        exact xr_iret hC hr hlk hR hS h xd_Mo_weak_80
set_option maxHeartbeats 4000000 in
set_option maxRecDepth 100000 in
theorem xt_Mo_weak_90 {p : Program} {l : Launch} {e : Env} {s : State} {m : MethodId} {args : Array Value} {below : List Frame} {meth : Method} {c : Code} {G : xG} (hC : xC p s m args c b_Mo_weak R_Mo 5 G) (hr : meth.sig.returnType = (some .int)) (hlk : meth.locks = false) {x1 : Int32} {x2 : Int32} {x3 : Int32} {post : Int32 → xM → Prop} {k126 : Int32 → xM → Prop} (hk126 : ∀ (x4 : Int32) (M : xM) (H : Heap) (locs : List Loc) (ls : Array Slot), k126 x4 M → xRp G M H → va_S (xA G) s.heap H locs → lv_has ls 5 [(0, .ref (G.1 9 0)), (1, .int x1), (2, .int x2), (3, .int x3), (4, .int x4)] → W p l e rm_Mo_weak s m args below meth c H locs 0 0 (MQ below (xPi G post) args s 0 0 (xA G)) (F0 m 126 ls [])) : ∀ (n : Nat) (x4 : Int32) (M : xM) (H : Heap) (locs : List Loc) (ls : Array Slot), xw_Mo_weak_90 x1 x2 x3 post k126 n x4 M → xRp G M H → va_S (xA G) s.heap H locs → lv_has ls 5 [(0, .ref (G.1 9 0)), (1, .int x1), (2, .int x2), (3, .int x3), (4, .int x4)] → W p l e rm_Mo_weak s m args below meth c H locs 0 0 (MQ below (xPi G post) args s 0 0 (xA G)) (F0 m 90 ls []) := by
  have hx := hC.1
  have hb := hC.2.1
  intro n
  induction n with
  | zero => intro x4 M H locs ls; exact fun h => h.elim
  | succ n ih =>
    intro x4 M H locs ls h hR hS hl
    refine lv_iload (pc := 90) hx hb xd_Mo_weak_90 (lv_at hl 4 rfl) ?_
    refine lv_bipush (pc := 92) (v := (9 : Int32)) hx hb xd_Mo_weak_92 (by decide) ?_
    refine lv_icmp_ge (pc := 94) (tgt := 126) hx hb xd_Mo_weak_94 (by decide) (fun hq => ?_) (fun hq => ?_)
    · have h := h.1 hq
      exact hk126 x4 M H locs ls h hR hS (lv_sub hl [0, 1, 2, 3, 4] rfl)
    · have h := h.2 hq
      refine lv_aload_n (pc := 97) hx hb xd_Mo_weak_97 rfl (lv_at hl 0 rfl) ?_
      refine xr_get (pc := 98) (v := .ref (G.1 9 4)) hC hR xo_M0 xf_Mo_19 rfl xd_Mo_weak_98 ?_
      refine lv_bipush (pc := 101) (v := (9 : Int32)) hx hb xd_Mo_weak_101 (by decide) ?_
      refine lv_iload_n (pc := 103) hx hb xd_Mo_weak_103 rfl (lv_at hl 1 rfl) ?_
      refine lv_imul (pc := 104) hx hb xd_Mo_weak_104 ?_
      refine lv_bipush (pc := 105) (v := (9 : Int32)) hx hb xd_Mo_weak_105 (by decide) ?_
      refine lv_isub (pc := 107) hx hb xd_Mo_weak_107 ?_
      refine lv_iload (pc := 108) hx hb xd_Mo_weak_108 (lv_at hl 4 rfl) ?_
      refine lv_iadd (pc := 110) hx hb xd_Mo_weak_110 ?_
      refine lv_aload_n (pc := 111) hx hb xd_Mo_weak_111 rfl (lv_at hl 0 rfl) ?_
      refine lv_iload_n (pc := 112) hx hb xd_Mo_weak_112 rfl (lv_at hl 2 rfl) ?_
      refine lv_iload_n (pc := 113) hx hb xd_Mo_weak_113 rfl (lv_at hl 3 rfl) ?_
      refine lv_iload (pc := 114) hx hb xd_Mo_weak_114 (lv_at hl 4 rfl) ?_
      refine xr_callV (pc := 116) (As := [.int x2, .int x3, .int x4]) (rest := [.int ((((9 : Int32) * x1) - (9 : Int32)) + x4), .ref (G.1 9 4)]) hC hR hS (xc_Mo_stands l G  h) xo_M0 xv_Mo_93 ⟨rfl, rfl, Nat.le_of_ble_eq_true rfl, Nat.le_of_ble_eq_true rfl⟩ rfl hl.1 rfl (Nat.le_of_ble_eq_true rfl) xd_Mo_weak_116 (fun r18 M17 H locs h hR hS => ?_)
      obtain ⟨hq, h⟩ := h
      refine xr_iast (pc := 119) hC hR hS xo_M4 hq xd_Mo_weak_119 (fun H locs hR hS => ?_)
      refine lv_iinc (pc := 120) (v := (x4 + (1 : Int32))) (lv' := [(4, .int (x4 + (1 : Int32))), (0, .ref (G.1 9 0)), (1, .int x1), (2, .int x2), (3, .int x3)]) hx hb xd_Mo_weak_120 hl (k := 4) rfl rfl (by decide) rfl (fun ls hl => ?_)
      refine lv_goto (pc := 123) (tgt := 90) hx hb xd_Mo_weak_123 (by decide) ?_
      exact ih (x4 + (1 : Int32)) (us M17 9 4 ((((9 : Int32) * x1) - (9 : Int32)) + x4).toNatClampNeg r18) H locs ls h hR hS (lv_sub hl [1, 2, 3, 4, 0] rfl)
set_option maxHeartbeats 4000000 in
set_option maxRecDepth 100000 in
theorem xc_Mo_weak (l : Launch) (G : xG) {a1 : Int32} {a2 : Int32} {a3 : Int32}  {M : xM} {post : Int32 → xM → Prop} (h : xw_Mo_weak a1 a2 a3 M post) : Met l y_Mo_weak (Cond.code y_Mo_weak b_Mo_weak 5 (some .int) :: xTG) rm_Mo_weak (xPre G M [.ref (G.1 9 0), .int a1, .int a2, .int a3]) (xPi G post) 0 0 (xA G) := by
  refine xMet (own := R_Mo) [.ref (G.1 9 0), .int a1, .int a2, .int a3] (Or.inl (by decide)) rfl (Nat.le_of_ble_eq_true rfl) (fun p e s m args below meth c ls hC hr hlk hR hS hl => ?_)
  have hx := hC.1
  have hb := hC.2.1
  have hl : lv_has ls 5 [(0, .ref (G.1 9 0)), (1, .int a1), (2, .int a2), (3, .int a3)] := hl
  obtain ⟨H, eH⟩ : ∃ H : Heap, H = s.heap := ⟨_, rfl⟩
  obtain ⟨locs, eL⟩ : ∃ locs : List Loc, locs = [] := ⟨_, rfl⟩
  rw [← eH] at hR
  replace hS : va_S (xA G) s.heap H locs := by rw [eH, eL]; exact hS
  suffices hh : W p l e rm_Mo_weak s m args below meth c H locs 0 0 (MQ below (xPi G post) args s 0 0 (xA G)) (F0 m 0 ls []) from by rw [eH, eL] at hh; exact hh
  unfold xw_Mo_weak at h
  refine lv_iload_n (pc := 0) hx hb xd_Mo_weak_0 rfl (lv_at hl 1 rfl) ?_
  refine lv_iconst (pc := 1) (v := (1 : Int32)) hx hb xd_Mo_weak_1 (by decide) ?_
  refine lv_iconst (pc := 2) (v := (3 : Int32)) hx hb xd_Mo_weak_2 (by decide) ?_
  refine xr_callS (pc := 3) (As := [.int a1, .int (1 : Int32), .int (3 : Int32)]) (rest := []) hC hR hS (xc_Mo_in l G  h) xv_Mo_85 ⟨rfl, rfl, Nat.le_of_ble_eq_true rfl, Nat.le_of_ble_eq_true rfl⟩ rfl hl.1 rfl (Nat.le_of_ble_eq_true rfl) xd_Mo_weak_3 (fun r2 M1 H locs h hR hS => ?_)
  obtain ⟨J22_2, eJ22_2, h⟩ := xj_open h
  have kJ22_2 : ∀ (M4 : xM) (H : Heap) (locs : List Loc) (ls : Array Slot), J22_2 M4 → xRp G M4 H → va_S (xA G) s.heap H locs → lv_has ls 5 [(0, .ref (G.1 9 0))] → W p l e rm_Mo_weak s m args below meth c H locs 0 0 (MQ below (xPi G post) args s 0 0 (xA G)) (F0 m 22 ls []) := by
    intro M4 H locs ls h hR hS hl
    rw [eJ22_2] at h
    refine lv_aload_n (pc := 22) hx hb xd_Mo_weak_22 rfl (lv_at hl 0 rfl) ?_
    refine lv_iconst (pc := 23) (v := (-1 : Int32)) hx hb xd_Mo_weak_23 (by decide) ?_
    refine xr_callV (pc := 24) (As := [.int (-1 : Int32)]) (rest := []) hC hR hS (xc_Mo_ends l G  h) xo_M0 xv_Mo_89 ⟨rfl, rfl, Nat.le_of_ble_eq_true rfl, Nat.le_of_ble_eq_true rfl⟩ rfl hl.1 rfl (Nat.le_of_ble_eq_true rfl) xd_Mo_weak_24 (fun r6 M5 H locs h hR hS => ?_)
    exact xr_iret hC hr hlk hR hS h xd_Mo_weak_27
  refine lv_if_eq (pc := 6) (tgt := 22) hx hb xd_Mo_weak_6 (by decide) (fun hq => ?_) (fun hq => ?_)
  · have h := h.1 hq
    exact kJ22_2  M1 H locs ls h hR hS (lv_sub hl [0] rfl)
  · have h := h.2 hq
    refine lv_iload_n (pc := 9) hx hb xd_Mo_weak_9 rfl (lv_at hl 2 rfl) ?_
    refine lv_iconst (pc := 10) (v := (0 : Int32)) hx hb xd_Mo_weak_10 (by decide) ?_
    refine lv_iconst (pc := 11) (v := (3 : Int32)) hx hb xd_Mo_weak_11 (by decide) ?_
    refine xr_callS (pc := 12) (As := [.int a2, .int (0 : Int32), .int (3 : Int32)]) (rest := []) hC hR hS (xc_Mo_in l G  h) xv_Mo_85 ⟨rfl, rfl, Nat.le_of_ble_eq_true rfl, Nat.le_of_ble_eq_true rfl⟩ rfl hl.1 rfl (Nat.le_of_ble_eq_true rfl) xd_Mo_weak_12 (fun r8 M7 H locs h hR hS => ?_)
    refine lv_if_eq (pc := 15) (tgt := 22) hx hb xd_Mo_weak_15 (by decide) (fun hq => ?_) (fun hq => ?_)
    · have h := h.1 hq
      exact kJ22_2  M7 H locs ls h hR hS (lv_sub hl [0] rfl)
    · have h := h.2 hq
      refine lv_iload_n (pc := 18) hx hb xd_Mo_weak_18 rfl (lv_at hl 3 rfl) ?_
      refine lv_if_ge (pc := 19) (tgt := 28) hx hb xd_Mo_weak_19 (by decide) (fun hq => ?_) (fun hq => ?_)
      · have h := h.1 hq
        refine lv_aload_n (pc := 28) hx hb xd_Mo_weak_28 rfl (lv_at hl 0 rfl) ?_
        refine xr_get (pc := 29) (v := .ref (G.1 9 2)) hC hR xo_M0 xf_Mo_13 rfl xd_Mo_weak_29 ?_
        refine lv_iload_n (pc := 32) hx hb xd_Mo_weak_32 rfl (lv_at hl 2 rfl) ?_
        obtain ⟨hq, h⟩ := h
        refine xr_iald (pc := 33) hC hR xo_M2 hq xd_Mo_weak_33 ?_
        refine lv_iconst (pc := 34) (v := (-1 : Int32)) hx hb xd_Mo_weak_34 (by decide) ?_
        refine lv_icmp_ne (pc := 35) (tgt := 45) hx hb xd_Mo_weak_35 (by decide) (fun hq => ?_) (fun hq => ?_)
        · have h := h.1 hq
          refine lv_iconst (pc := 45) (v := (0 : Int32)) hx hb xd_Mo_weak_45 (by decide) ?_
          refine lv_istore (pc := 46) (lv' := [(4, .int (0 : Int32)), (0, .ref (G.1 9 0)), (1, .int a1), (2, .int a2), (3, .int a3)]) hx hb xd_Mo_weak_46 hl (by decide) rfl (fun ls hl => ?_)
          obtain ⟨n, h⟩ := h
          refine xt_Mo_weak_48 hC hr hlk  (fun y15 M16 H locs ls h hR hS hl => ?_) n (0 : Int32) M7 H locs ls h hR hS (lv_sub hl [1, 2, 3, 4, 0] rfl)
          refine lv_iconst (pc := 87) (v := (0 : Int32)) hx hb xd_Mo_weak_87 (by decide) ?_
          refine lv_istore (pc := 88) (lv' := [(4, .int (0 : Int32)), (0, .ref (G.1 9 0)), (1, .int a1), (2, .int a2), (3, .int a3)]) hx hb xd_Mo_weak_88 hl (by decide) rfl (fun ls hl => ?_)
          obtain ⟨n, h⟩ := h
          refine xt_Mo_weak_90 hC hr hlk  (fun y19 M20 H locs ls h hR hS hl => ?_) n (0 : Int32) M16 H locs ls h hR hS (lv_sub hl [1, 2, 3, 4, 0] rfl)
          refine lv_aload_n (pc := 126) hx hb xd_Mo_weak_126 rfl (lv_at hl 0 rfl) ?_
          refine lv_iconst (pc := 127) (v := (0 : Int32)) hx hb xd_Mo_weak_127 (by decide) ?_
          refine xr_callV (pc := 128) (As := [.int (0 : Int32)]) (rest := []) hC hR hS (xc_Mo_ends l G  h) xo_M0 xv_Mo_89 ⟨rfl, rfl, Nat.le_of_ble_eq_true rfl, Nat.le_of_ble_eq_true rfl⟩ rfl hl.1 rfl (Nat.le_of_ble_eq_true rfl) xd_Mo_weak_128 (fun r22 M21 H locs h hR hS => ?_)
          exact xr_iret hC hr hlk hR hS h xd_Mo_weak_131
        · have h := h.2 hq
          refine lv_aload_n (pc := 38) hx hb xd_Mo_weak_38 rfl (lv_at hl 0 rfl) ?_
          refine lv_bipush (pc := 39) (v := (-2 : Int32)) hx hb xd_Mo_weak_39 (by decide) ?_
          refine xr_callV (pc := 41) (As := [.int (-2 : Int32)]) (rest := []) hC hR hS (xc_Mo_ends l G  h) xo_M0 xv_Mo_89 ⟨rfl, rfl, Nat.le_of_ble_eq_true rfl, Nat.le_of_ble_eq_true rfl⟩ rfl hl.1 rfl (Nat.le_of_ble_eq_true rfl) xd_Mo_weak_41 (fun r24 M23 H locs h hR hS => ?_)
          exact xr_iret hC hr hlk hR hS h xd_Mo_weak_44
      · have h := h.2 hq
        exact kJ22_2  M7 H locs ls h hR hS (lv_sub hl [0] rfl)

/-! ColoursApartModel.levels(I)I -/
theorem xd_Mo_levels_0 : decode b_Mo_levels 0 = .ok (.iload_n 1, 1) := by decide +kernel
theorem xd_Mo_levels_1 : decode b_Mo_levels 1 = .ok (.iconst 2, 1) := by decide +kernel
theorem xd_Mo_levels_2 : decode b_Mo_levels 2 = .ok (.bipush 16, 2) := by decide +kernel
theorem xd_Mo_levels_4 : decode b_Mo_levels 4 = .ok (.invokestatic 85, 3) := by decide +kernel
theorem xd_Mo_levels_7 : decode b_Mo_levels 7 = .ok (.ifCond .ne 9, 3) := by decide +kernel
theorem xd_Mo_levels_10 : decode b_Mo_levels 10 = .ok (.aload_n 0, 1) := by decide +kernel
theorem xd_Mo_levels_11 : decode b_Mo_levels 11 = .ok (.iconst (-1), 1) := by decide +kernel
theorem xd_Mo_levels_12 : decode b_Mo_levels 12 = .ok (.invokevirtual 89, 3) := by decide +kernel
theorem xd_Mo_levels_15 : decode b_Mo_levels 15 = .ok (.ireturn, 1) := by decide +kernel
theorem xd_Mo_levels_16 : decode b_Mo_levels 16 = .ok (.aload_n 0, 1) := by decide +kernel
theorem xd_Mo_levels_17 : decode b_Mo_levels 17 = .ok (.getfield 22, 3) := by decide +kernel
theorem xd_Mo_levels_20 : decode b_Mo_levels 20 = .ok (.istore_n 2, 1) := by decide +kernel
theorem xd_Mo_levels_21 : decode b_Mo_levels 21 = .ok (.aload_n 0, 1) := by decide +kernel
theorem xd_Mo_levels_22 : decode b_Mo_levels 22 = .ok (.iload_n 1, 1) := by decide +kernel
theorem xd_Mo_levels_23 : decode b_Mo_levels 23 = .ok (.putfield 22, 3) := by decide +kernel
theorem xd_Mo_levels_26 : decode b_Mo_levels 26 = .ok (.aload_n 0, 1) := by decide +kernel
theorem xd_Mo_levels_27 : decode b_Mo_levels 27 = .ok (.iload_n 2, 1) := by decide +kernel
theorem xd_Mo_levels_28 : decode b_Mo_levels 28 = .ok (.invokevirtual 89, 3) := by decide +kernel
theorem xd_Mo_levels_31 : decode b_Mo_levels 31 = .ok (.ireturn, 1) := by decide +kernel
abbrev rm_Mo_levels : Room := { frames := 1, cells := 0, slots := 0, locals := 22 }
def xw_Mo_levels (a1 : Int32) (M : xM) (post : Int32 → xM → Prop) : Prop :=
  xw_Mo_in a1 (2 : Int32) (16 : Int32) M (fun (r2 : Int32) (M1 : xM) => ((¬ r2 = 0) → (xw_Mo_ends (M1 9 0 5) (us M1 9 0 5 a1) (fun (r4 : Int32) (M3 : xM) => post r4 M3))) ∧ ((r2 = 0) → (xw_Mo_ends (-1 : Int32) M1 (fun (r6 : Int32) (M5 : xM) => post r6 M5))))
set_option maxHeartbeats 4000000 in
set_option maxRecDepth 100000 in
theorem xc_Mo_levels (l : Launch) (G : xG) {a1 : Int32}  {M : xM} {post : Int32 → xM → Prop} (h : xw_Mo_levels a1 M post) : Met l y_Mo_levels (Cond.code y_Mo_levels b_Mo_levels 3 (some .int) :: xTG) rm_Mo_levels (xPre G M [.ref (G.1 9 0), .int a1]) (xPi G post) 0 0 (xA G) := by
  refine xMet (own := R_Mo) [.ref (G.1 9 0), .int a1] (Or.inl (by decide)) rfl (Nat.le_of_ble_eq_true rfl) (fun p e s m args below meth c ls hC hr hlk hR hS hl => ?_)
  have hx := hC.1
  have hb := hC.2.1
  have hl : lv_has ls 3 [(0, .ref (G.1 9 0)), (1, .int a1)] := hl
  obtain ⟨H, eH⟩ : ∃ H : Heap, H = s.heap := ⟨_, rfl⟩
  obtain ⟨locs, eL⟩ : ∃ locs : List Loc, locs = [] := ⟨_, rfl⟩
  rw [← eH] at hR
  replace hS : va_S (xA G) s.heap H locs := by rw [eH, eL]; exact hS
  suffices hh : W p l e rm_Mo_levels s m args below meth c H locs 0 0 (MQ below (xPi G post) args s 0 0 (xA G)) (F0 m 0 ls []) from by rw [eH, eL] at hh; exact hh
  unfold xw_Mo_levels at h
  refine lv_iload_n (pc := 0) hx hb xd_Mo_levels_0 rfl (lv_at hl 1 rfl) ?_
  refine lv_iconst (pc := 1) (v := (2 : Int32)) hx hb xd_Mo_levels_1 (by decide) ?_
  refine lv_bipush (pc := 2) (v := (16 : Int32)) hx hb xd_Mo_levels_2 (by decide) ?_
  refine xr_callS (pc := 4) (As := [.int a1, .int (2 : Int32), .int (16 : Int32)]) (rest := []) hC hR hS (xc_Mo_in l G  h) xv_Mo_85 ⟨rfl, rfl, Nat.le_of_ble_eq_true rfl, Nat.le_of_ble_eq_true rfl⟩ rfl hl.1 rfl (Nat.le_of_ble_eq_true rfl) xd_Mo_levels_4 (fun r2 M1 H locs h hR hS => ?_)
  refine lv_if_ne (pc := 7) (tgt := 16) hx hb xd_Mo_levels_7 (by decide) (fun hq => ?_) (fun hq => ?_)
  · have h := h.1 hq
    refine lv_aload_n (pc := 16) hx hb xd_Mo_levels_16 rfl (lv_at hl 0 rfl) ?_
    refine xr_get (pc := 17) (v := .int (M1 9 0 5)) hC hR xo_M0 xf_Mo_22 rfl xd_Mo_levels_17 ?_
    refine lv_istore_n (pc := 20) (lv' := [(2, .int (M1 9 0 5)), (0, .ref (G.1 9 0)), (1, .int a1)]) hx hb xd_Mo_levels_20 rfl hl (by decide) rfl (fun ls hl => ?_)
    refine lv_aload_n (pc := 21) hx hb xd_Mo_levels_21 rfl (lv_at hl 1 rfl) ?_
    refine lv_iload_n (pc := 22) hx hb xd_Mo_levels_22 rfl (lv_at hl 2 rfl) ?_
    refine xr_put (pc := 23) hC hR hS xo_M0 xf_Mo_22 xp_10_5 rfl rfl rfl xd_Mo_levels_23 (fun H locs hR hS => ?_)
    refine lv_aload_n (pc := 26) hx hb xd_Mo_levels_26 rfl (lv_at hl 1 rfl) ?_
    refine lv_iload_n (pc := 27) hx hb xd_Mo_levels_27 rfl (lv_at hl 0 rfl) ?_
    refine xr_callV (pc := 28) (As := [.int (M1 9 0 5)]) (rest := []) hC hR hS (xc_Mo_ends l G  h) xo_M0 xv_Mo_89 ⟨rfl, rfl, Nat.le_of_ble_eq_true rfl, Nat.le_of_ble_eq_true rfl⟩ rfl hl.1 rfl (Nat.le_of_ble_eq_true rfl) xd_Mo_levels_28 (fun r4 M3 H locs h hR hS => ?_)
    exact xr_iret hC hr hlk hR hS h xd_Mo_levels_31
  · have h := h.2 hq
    refine lv_aload_n (pc := 10) hx hb xd_Mo_levels_10 rfl (lv_at hl 0 rfl) ?_
    refine lv_iconst (pc := 11) (v := (-1 : Int32)) hx hb xd_Mo_levels_11 (by decide) ?_
    refine xr_callV (pc := 12) (As := [.int (-1 : Int32)]) (rest := []) hC hR hS (xc_Mo_ends l G  h) xo_M0 xv_Mo_89 ⟨rfl, rfl, Nat.le_of_ble_eq_true rfl, Nat.le_of_ble_eq_true rfl⟩ rfl hl.1 rfl (Nat.le_of_ble_eq_true rfl) xd_Mo_levels_12 (fun r6 M5 H locs h hR hS => ?_)
    exact xr_iret hC hr hlk hR hS h xd_Mo_levels_15

/-! ColoursApartModel.weights(III)I -/
theorem xd_Mo_weights_0 : decode b_Mo_weights 0 = .ok (.iload_n 1, 1) := by decide +kernel
theorem xd_Mo_weights_1 : decode b_Mo_weights 1 = .ok (.iconst 0, 1) := by decide +kernel
theorem xd_Mo_weights_2 : decode b_Mo_weights 2 = .ok (.bipush 10, 2) := by decide +kernel
theorem xd_Mo_weights_4 : decode b_Mo_weights 4 = .ok (.invokestatic 85, 3) := by decide +kernel
theorem xd_Mo_weights_7 : decode b_Mo_weights 7 = .ok (.ifCond .eq 23, 3) := by decide +kernel
theorem xd_Mo_weights_10 : decode b_Mo_weights 10 = .ok (.iload_n 2, 1) := by decide +kernel
theorem xd_Mo_weights_11 : decode b_Mo_weights 11 = .ok (.iconst 0, 1) := by decide +kernel
theorem xd_Mo_weights_12 : decode b_Mo_weights 12 = .ok (.bipush 10, 2) := by decide +kernel
theorem xd_Mo_weights_14 : decode b_Mo_weights 14 = .ok (.invokestatic 85, 3) := by decide +kernel
theorem xd_Mo_weights_17 : decode b_Mo_weights 17 = .ok (.ifCond .eq 13, 3) := by decide +kernel
theorem xd_Mo_weights_20 : decode b_Mo_weights 20 = .ok (.iload_n 3, 1) := by decide +kernel
theorem xd_Mo_weights_21 : decode b_Mo_weights 21 = .ok (.iconst 0, 1) := by decide +kernel
theorem xd_Mo_weights_22 : decode b_Mo_weights 22 = .ok (.bipush 10, 2) := by decide +kernel
theorem xd_Mo_weights_24 : decode b_Mo_weights 24 = .ok (.invokestatic 85, 3) := by decide +kernel
theorem xd_Mo_weights_27 : decode b_Mo_weights 27 = .ok (.ifCond .ne 9, 3) := by decide +kernel
theorem xd_Mo_weights_30 : decode b_Mo_weights 30 = .ok (.aload_n 0, 1) := by decide +kernel
theorem xd_Mo_weights_31 : decode b_Mo_weights 31 = .ok (.iconst (-1), 1) := by decide +kernel
theorem xd_Mo_weights_32 : decode b_Mo_weights 32 = .ok (.invokevirtual 89, 3) := by decide +kernel
theorem xd_Mo_weights_35 : decode b_Mo_weights 35 = .ok (.ireturn, 1) := by decide +kernel
theorem xd_Mo_weights_36 : decode b_Mo_weights 36 = .ok (.aload_n 0, 1) := by decide +kernel
theorem xd_Mo_weights_37 : decode b_Mo_weights 37 = .ok (.getfield 32, 3) := by decide +kernel
theorem xd_Mo_weights_40 : decode b_Mo_weights 40 = .ok (.iconst 0, 1) := by decide +kernel
theorem xd_Mo_weights_41 : decode b_Mo_weights 41 = .ok (.iload_n 1, 1) := by decide +kernel
theorem xd_Mo_weights_42 : decode b_Mo_weights 42 = .ok (.iastore, 1) := by decide +kernel
theorem xd_Mo_weights_43 : decode b_Mo_weights 43 = .ok (.aload_n 0, 1) := by decide +kernel
theorem xd_Mo_weights_44 : decode b_Mo_weights 44 = .ok (.getfield 32, 3) := by decide +kernel
theorem xd_Mo_weights_47 : decode b_Mo_weights 47 = .ok (.iconst 1, 1) := by decide +kernel
theorem xd_Mo_weights_48 : decode b_Mo_weights 48 = .ok (.iload_n 2, 1) := by decide +kernel
theorem xd_Mo_weights_49 : decode b_Mo_weights 49 = .ok (.iastore, 1) := by decide +kernel
theorem xd_Mo_weights_50 : decode b_Mo_weights 50 = .ok (.aload_n 0, 1) := by decide +kernel
theorem xd_Mo_weights_51 : decode b_Mo_weights 51 = .ok (.getfield 32, 3) := by decide +kernel
theorem xd_Mo_weights_54 : decode b_Mo_weights 54 = .ok (.iconst 2, 1) := by decide +kernel
theorem xd_Mo_weights_55 : decode b_Mo_weights 55 = .ok (.iload_n 3, 1) := by decide +kernel
theorem xd_Mo_weights_56 : decode b_Mo_weights 56 = .ok (.iastore, 1) := by decide +kernel
theorem xd_Mo_weights_57 : decode b_Mo_weights 57 = .ok (.aload_n 0, 1) := by decide +kernel
theorem xd_Mo_weights_58 : decode b_Mo_weights 58 = .ok (.iconst 0, 1) := by decide +kernel
theorem xd_Mo_weights_59 : decode b_Mo_weights 59 = .ok (.invokevirtual 89, 3) := by decide +kernel
theorem xd_Mo_weights_62 : decode b_Mo_weights 62 = .ok (.ireturn, 1) := by decide +kernel
abbrev rm_Mo_weights : Room := { frames := 1, cells := 0, slots := 0, locals := 22 }
def xw_Mo_weights (a1 : Int32) (a2 : Int32) (a3 : Int32) (M : xM) (post : Int32 → xM → Prop) : Prop :=
  xw_Mo_in a1 (0 : Int32) (10 : Int32) M (fun (r2 : Int32) (M1 : xM) => xj (fun (J30_2 : xM → Prop) => ((r2 = 0) → (J30_2  M1)) ∧ ((¬ r2 = 0) → (xw_Mo_in a2 (0 : Int32) (10 : Int32) M1 (fun (r8 : Int32) (M7 : xM) => ((r8 = 0) → (J30_2  M7)) ∧ ((¬ r8 = 0) → (xw_Mo_in a3 (0 : Int32) (10 : Int32) M7 (fun (r10 : Int32) (M9 : xM) => ((¬ r10 = 0) → (xw_Mo_ends (0 : Int32) (us (us (us M9 9 5 (0 : Int32).toNatClampNeg a1) 9 5 (1 : Int32).toNatClampNeg a2) 9 5 (2 : Int32).toNatClampNeg a3) (fun (r12 : Int32) (M11 : xM) => post r12 M11))) ∧ ((r10 = 0) → (J30_2  M9))))))))) (fun (M4 : xM) => xw_Mo_ends (-1 : Int32) M4 (fun (r6 : Int32) (M5 : xM) => post r6 M5)))
set_option maxHeartbeats 4000000 in
set_option maxRecDepth 100000 in
theorem xc_Mo_weights (l : Launch) (G : xG) {a1 : Int32} {a2 : Int32} {a3 : Int32}  {M : xM} {post : Int32 → xM → Prop} (h : xw_Mo_weights a1 a2 a3 M post) : Met l y_Mo_weights (Cond.code y_Mo_weights b_Mo_weights 4 (some .int) :: xTG) rm_Mo_weights (xPre G M [.ref (G.1 9 0), .int a1, .int a2, .int a3]) (xPi G post) 0 0 (xA G) := by
  refine xMet (own := R_Mo) [.ref (G.1 9 0), .int a1, .int a2, .int a3] (Or.inl (by decide)) rfl (Nat.le_of_ble_eq_true rfl) (fun p e s m args below meth c ls hC hr hlk hR hS hl => ?_)
  have hx := hC.1
  have hb := hC.2.1
  have hl : lv_has ls 4 [(0, .ref (G.1 9 0)), (1, .int a1), (2, .int a2), (3, .int a3)] := hl
  obtain ⟨H, eH⟩ : ∃ H : Heap, H = s.heap := ⟨_, rfl⟩
  obtain ⟨locs, eL⟩ : ∃ locs : List Loc, locs = [] := ⟨_, rfl⟩
  rw [← eH] at hR
  replace hS : va_S (xA G) s.heap H locs := by rw [eH, eL]; exact hS
  suffices hh : W p l e rm_Mo_weights s m args below meth c H locs 0 0 (MQ below (xPi G post) args s 0 0 (xA G)) (F0 m 0 ls []) from by rw [eH, eL] at hh; exact hh
  unfold xw_Mo_weights at h
  refine lv_iload_n (pc := 0) hx hb xd_Mo_weights_0 rfl (lv_at hl 1 rfl) ?_
  refine lv_iconst (pc := 1) (v := (0 : Int32)) hx hb xd_Mo_weights_1 (by decide) ?_
  refine lv_bipush (pc := 2) (v := (10 : Int32)) hx hb xd_Mo_weights_2 (by decide) ?_
  refine xr_callS (pc := 4) (As := [.int a1, .int (0 : Int32), .int (10 : Int32)]) (rest := []) hC hR hS (xc_Mo_in l G  h) xv_Mo_85 ⟨rfl, rfl, Nat.le_of_ble_eq_true rfl, Nat.le_of_ble_eq_true rfl⟩ rfl hl.1 rfl (Nat.le_of_ble_eq_true rfl) xd_Mo_weights_4 (fun r2 M1 H locs h hR hS => ?_)
  obtain ⟨J30_2, eJ30_2, h⟩ := xj_open h
  have kJ30_2 : ∀ (M4 : xM) (H : Heap) (locs : List Loc) (ls : Array Slot), J30_2 M4 → xRp G M4 H → va_S (xA G) s.heap H locs → lv_has ls 4 [(0, .ref (G.1 9 0))] → W p l e rm_Mo_weights s m args below meth c H locs 0 0 (MQ below (xPi G post) args s 0 0 (xA G)) (F0 m 30 ls []) := by
    intro M4 H locs ls h hR hS hl
    rw [eJ30_2] at h
    refine lv_aload_n (pc := 30) hx hb xd_Mo_weights_30 rfl (lv_at hl 0 rfl) ?_
    refine lv_iconst (pc := 31) (v := (-1 : Int32)) hx hb xd_Mo_weights_31 (by decide) ?_
    refine xr_callV (pc := 32) (As := [.int (-1 : Int32)]) (rest := []) hC hR hS (xc_Mo_ends l G  h) xo_M0 xv_Mo_89 ⟨rfl, rfl, Nat.le_of_ble_eq_true rfl, Nat.le_of_ble_eq_true rfl⟩ rfl hl.1 rfl (Nat.le_of_ble_eq_true rfl) xd_Mo_weights_32 (fun r6 M5 H locs h hR hS => ?_)
    exact xr_iret hC hr hlk hR hS h xd_Mo_weights_35
  refine lv_if_eq (pc := 7) (tgt := 30) hx hb xd_Mo_weights_7 (by decide) (fun hq => ?_) (fun hq => ?_)
  · have h := h.1 hq
    exact kJ30_2  M1 H locs ls h hR hS (lv_sub hl [0] rfl)
  · have h := h.2 hq
    refine lv_iload_n (pc := 10) hx hb xd_Mo_weights_10 rfl (lv_at hl 2 rfl) ?_
    refine lv_iconst (pc := 11) (v := (0 : Int32)) hx hb xd_Mo_weights_11 (by decide) ?_
    refine lv_bipush (pc := 12) (v := (10 : Int32)) hx hb xd_Mo_weights_12 (by decide) ?_
    refine xr_callS (pc := 14) (As := [.int a2, .int (0 : Int32), .int (10 : Int32)]) (rest := []) hC hR hS (xc_Mo_in l G  h) xv_Mo_85 ⟨rfl, rfl, Nat.le_of_ble_eq_true rfl, Nat.le_of_ble_eq_true rfl⟩ rfl hl.1 rfl (Nat.le_of_ble_eq_true rfl) xd_Mo_weights_14 (fun r8 M7 H locs h hR hS => ?_)
    refine lv_if_eq (pc := 17) (tgt := 30) hx hb xd_Mo_weights_17 (by decide) (fun hq => ?_) (fun hq => ?_)
    · have h := h.1 hq
      exact kJ30_2  M7 H locs ls h hR hS (lv_sub hl [0] rfl)
    · have h := h.2 hq
      refine lv_iload_n (pc := 20) hx hb xd_Mo_weights_20 rfl (lv_at hl 3 rfl) ?_
      refine lv_iconst (pc := 21) (v := (0 : Int32)) hx hb xd_Mo_weights_21 (by decide) ?_
      refine lv_bipush (pc := 22) (v := (10 : Int32)) hx hb xd_Mo_weights_22 (by decide) ?_
      refine xr_callS (pc := 24) (As := [.int a3, .int (0 : Int32), .int (10 : Int32)]) (rest := []) hC hR hS (xc_Mo_in l G  h) xv_Mo_85 ⟨rfl, rfl, Nat.le_of_ble_eq_true rfl, Nat.le_of_ble_eq_true rfl⟩ rfl hl.1 rfl (Nat.le_of_ble_eq_true rfl) xd_Mo_weights_24 (fun r10 M9 H locs h hR hS => ?_)
      refine lv_if_ne (pc := 27) (tgt := 36) hx hb xd_Mo_weights_27 (by decide) (fun hq => ?_) (fun hq => ?_)
      · have h := h.1 hq
        refine lv_aload_n (pc := 36) hx hb xd_Mo_weights_36 rfl (lv_at hl 0 rfl) ?_
        refine xr_get (pc := 37) (v := .ref (G.1 9 5)) hC hR xo_M0 xf_Mo_32 rfl xd_Mo_weights_37 ?_
        refine lv_iconst (pc := 40) (v := (0 : Int32)) hx hb xd_Mo_weights_40 (by decide) ?_
        refine lv_iload_n (pc := 41) hx hb xd_Mo_weights_41 rfl (lv_at hl 1 rfl) ?_
        refine xr_iast (pc := 42) hC hR hS xo_M5 (by unfold vp_in; decide) xd_Mo_weights_42 (fun H locs hR hS => ?_)
        refine lv_aload_n (pc := 43) hx hb xd_Mo_weights_43 rfl (lv_at hl 0 rfl) ?_
        refine xr_get (pc := 44) (v := .ref (G.1 9 5)) hC hR xo_M0 xf_Mo_32 rfl xd_Mo_weights_44 ?_
        refine lv_iconst (pc := 47) (v := (1 : Int32)) hx hb xd_Mo_weights_47 (by decide) ?_
        refine lv_iload_n (pc := 48) hx hb xd_Mo_weights_48 rfl (lv_at hl 2 rfl) ?_
        refine xr_iast (pc := 49) hC hR hS xo_M5 (by unfold vp_in; decide) xd_Mo_weights_49 (fun H locs hR hS => ?_)
        refine lv_aload_n (pc := 50) hx hb xd_Mo_weights_50 rfl (lv_at hl 0 rfl) ?_
        refine xr_get (pc := 51) (v := .ref (G.1 9 5)) hC hR xo_M0 xf_Mo_32 rfl xd_Mo_weights_51 ?_
        refine lv_iconst (pc := 54) (v := (2 : Int32)) hx hb xd_Mo_weights_54 (by decide) ?_
        refine lv_iload_n (pc := 55) hx hb xd_Mo_weights_55 rfl (lv_at hl 3 rfl) ?_
        refine xr_iast (pc := 56) hC hR hS xo_M5 (by unfold vp_in; decide) xd_Mo_weights_56 (fun H locs hR hS => ?_)
        refine lv_aload_n (pc := 57) hx hb xd_Mo_weights_57 rfl (lv_at hl 0 rfl) ?_
        refine lv_iconst (pc := 58) (v := (0 : Int32)) hx hb xd_Mo_weights_58 (by decide) ?_
        refine xr_callV (pc := 59) (As := [.int (0 : Int32)]) (rest := []) hC hR hS (xc_Mo_ends l G  h) xo_M0 xv_Mo_89 ⟨rfl, rfl, Nat.le_of_ble_eq_true rfl, Nat.le_of_ble_eq_true rfl⟩ rfl hl.1 rfl (Nat.le_of_ble_eq_true rfl) xd_Mo_weights_59 (fun r12 M11 H locs h hR hS => ?_)
        exact xr_iret hC hr hlk hR hS h xd_Mo_weights_62
      · have h := h.2 hq
        exact kJ30_2  M9 H locs ls h hR hS (lv_sub hl [0] rfl)
