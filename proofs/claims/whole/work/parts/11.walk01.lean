/-! ColoursApart$Eyes.lookWithAll(I[II)V -/
theorem xd_Ey_lookWithAll_0 : decode b_Ey_lookWithAll 0 = .ok (.iconst 0, 1) := by decide +kernel
theorem xd_Ey_lookWithAll_1 : decode b_Ey_lookWithAll 1 = .ok (.istore 4, 2) := by decide +kernel
theorem xd_Ey_lookWithAll_3 : decode b_Ey_lookWithAll 3 = .ok (.iload 4, 2) := by decide +kernel
theorem xd_Ey_lookWithAll_5 : decode b_Ey_lookWithAll 5 = .ok (.bipush 6, 2) := by decide +kernel
theorem xd_Ey_lookWithAll_7 : decode b_Ey_lookWithAll 7 = .ok (.if_icmp .ge 34, 3) := by decide +kernel
theorem xd_Ey_lookWithAll_10 : decode b_Ey_lookWithAll 10 = .ok (.aload_n 0, 1) := by decide +kernel
theorem xd_Ey_lookWithAll_11 : decode b_Ey_lookWithAll 11 = .ok (.iload 4, 2) := by decide +kernel
theorem xd_Ey_lookWithAll_13 : decode b_Ey_lookWithAll 13 = .ok (.invokevirtual 80, 3) := by decide +kernel
theorem xd_Ey_lookWithAll_16 : decode b_Ey_lookWithAll 16 = .ok (.ifCond .eq 19, 3) := by decide +kernel
theorem xd_Ey_lookWithAll_19 : decode b_Ey_lookWithAll 19 = .ok (.aload_n 2, 1) := by decide +kernel
theorem xd_Ey_lookWithAll_20 : decode b_Ey_lookWithAll 20 = .ok (.iload_n 3, 1) := by decide +kernel
theorem xd_Ey_lookWithAll_21 : decode b_Ey_lookWithAll 21 = .ok (.bipush 6, 2) := by decide +kernel
theorem xd_Ey_lookWithAll_23 : decode b_Ey_lookWithAll 23 = .ok (.imul, 1) := by decide +kernel
theorem xd_Ey_lookWithAll_24 : decode b_Ey_lookWithAll 24 = .ok (.iload 4, 2) := by decide +kernel
theorem xd_Ey_lookWithAll_26 : decode b_Ey_lookWithAll 26 = .ok (.iadd, 1) := by decide +kernel
theorem xd_Ey_lookWithAll_27 : decode b_Ey_lookWithAll 27 = .ok (.aload_n 0, 1) := by decide +kernel
theorem xd_Ey_lookWithAll_28 : decode b_Ey_lookWithAll 28 = .ok (.iload 4, 2) := by decide +kernel
theorem xd_Ey_lookWithAll_30 : decode b_Ey_lookWithAll 30 = .ok (.iload_n 1, 1) := by decide +kernel
theorem xd_Ey_lookWithAll_31 : decode b_Ey_lookWithAll 31 = .ok (.invokevirtual 84, 3) := by decide +kernel
theorem xd_Ey_lookWithAll_34 : decode b_Ey_lookWithAll 34 = .ok (.iastore, 1) := by decide +kernel
theorem xd_Ey_lookWithAll_35 : decode b_Ey_lookWithAll 35 = .ok (.iinc 4 1, 3) := by decide +kernel
theorem xd_Ey_lookWithAll_38 : decode b_Ey_lookWithAll 38 = .ok (.goto (-35), 3) := by decide +kernel
theorem xd_Ey_lookWithAll_41 : decode b_Ey_lookWithAll 41 = .ok (.return_, 1) := by decide +kernel
abbrev rm_Ey_lookWithAll : Room := { frames := 3, cells := 0, slots := 0, locals := 70 }
def xw_Ey_lookWithAll_3 (g : Nat) (ga2 ia2 na2 : Nat) (x1 : Int32) (x3 : Int32) (post : xM → Prop) (k41 : Int32 → xM → Prop) : Nat → Int32 → xM → Prop
  | 0, _, _ => False
  | n3 + 1, x4, M => (((6 : Int32) ≤ x4) → (k41 x4 M)) ∧ ((¬ (6 : Int32) ≤ x4) → (xw_Ey_counts g x4 M (fun (r2 : Int32) (M1 : xM) => ((r2 = 0) → (xw_Ey_lookWithAll_3 g ga2 ia2 na2 x1 x3 post k41 n3 (x4 + (1 : Int32)) M1)) ∧ ((¬ r2 = 0) → (xw_Ey_look g x4 x1 M1 (fun (r4 : Int32) (M3 : xM) => (vp_in ((x3 * (6 : Int32)) + x4) na2) ∧ (xw_Ey_lookWithAll_3 g ga2 ia2 na2 x1 x3 post k41 n3 (x4 + (1 : Int32)) (us M3 ga2 ia2 ((x3 * (6 : Int32)) + x4).toNatClampNeg r4))))))))
def xw_Ey_lookWithAll (g : Nat) (a1 : Int32) (ga2 ia2 na2 : Nat) (a3 : Int32) (M : xM) (post : xM → Prop) : Prop :=
  ∃ n3 : Nat, xw_Ey_lookWithAll_3 g ga2 ia2 na2 a1 a3 post (fun (y5 : Int32) (M6 : xM) => post M6) n3 (0 : Int32) M
set_option maxHeartbeats 4000000 in
set_option maxRecDepth 100000 in
theorem xt_Ey_lookWithAll_3 {p : Program} {l : Launch} {e : Env} {s : State} {m : MethodId} {args : Array Value} {below : List Frame} {meth : Method} {c : Code} {G : xG} (hC : xC p s m args c b_Ey_lookWithAll R_Ey 5 G) (hr : meth.sig.returnType = none) (hlk : meth.locks = false) {g : Nat} {ga2 : Nat} {ia2 : Nat} {na2 : Nat} (hg : g < 4) (hla2 : xlay ga2 ia2 = some (.inr (na2, .inl false))) {x1 : Int32} {x3 : Int32} {post : xM → Prop} {k41 : Int32 → xM → Prop} (hk41 : ∀ (x4 : Int32) (M : xM) (H : Heap) (locs : List Loc) (ls : Array Slot), k41 x4 M → xRp G M H → va_S (xA G) s.heap H locs → lv_has ls 5 [(0, .ref (G.1 g 1)), (1, .int x1), (2, .ref (G.1 ga2 ia2)), (3, .int x3), (4, .int x4)] → W p l e rm_Ey_lookWithAll s m args below meth c H locs 0 0 (MQ below (xPv G post) args s 0 0 (xA G)) (F0 m 41 ls [])) : ∀ (n : Nat) (x4 : Int32) (M : xM) (H : Heap) (locs : List Loc) (ls : Array Slot), xw_Ey_lookWithAll_3 g ga2 ia2 na2 x1 x3 post k41 n x4 M → xRp G M H → va_S (xA G) s.heap H locs → lv_has ls 5 [(0, .ref (G.1 g 1)), (1, .int x1), (2, .ref (G.1 ga2 ia2)), (3, .int x3), (4, .int x4)] → W p l e rm_Ey_lookWithAll s m args below meth c H locs 0 0 (MQ below (xPv G post) args s 0 0 (xA G)) (F0 m 3 ls []) := by
  have hx := hC.1
  have hb := hC.2.1
  intro n
  induction n with
  | zero => intro x4 M H locs ls; exact fun h => h.elim
  | succ n ih =>
    intro x4 M H locs ls h hR hS hl
    refine lv_iload (pc := 3) hx hb xd_Ey_lookWithAll_3 (lv_at hl 4 rfl) ?_
    refine lv_bipush (pc := 5) (v := (6 : Int32)) hx hb xd_Ey_lookWithAll_5 (by decide) ?_
    refine lv_icmp_ge (pc := 7) (tgt := 41) hx hb xd_Ey_lookWithAll_7 (by decide) (fun hq => ?_) (fun hq => ?_)
    · have h := h.1 hq
      exact hk41 x4 M H locs ls h hR hS (lv_sub hl [0, 1, 2, 3, 4] rfl)
    · have h := h.2 hq
      refine lv_aload_n (pc := 10) hx hb xd_Ey_lookWithAll_10 rfl (lv_at hl 0 rfl) ?_
      refine lv_iload (pc := 11) hx hb xd_Ey_lookWithAll_11 (lv_at hl 4 rfl) ?_
      refine xr_callV (pc := 13) (As := [.int x4]) (rest := []) hC hR hS (xc_Ey_counts l G hg h) (xo_K1 hg) xv_Ey_80 ⟨rfl, rfl, Nat.le_of_ble_eq_true rfl, Nat.le_of_ble_eq_true rfl⟩ rfl hl.1 rfl (Nat.le_of_ble_eq_true rfl) xd_Ey_lookWithAll_13 (fun r2 M1 H locs h hR hS => ?_)
      refine lv_if_eq (pc := 16) (tgt := 35) hx hb xd_Ey_lookWithAll_16 (by decide) (fun hq => ?_) (fun hq => ?_)
      · have h := h.1 hq
        refine lv_iinc (pc := 35) (v := (x4 + (1 : Int32))) (lv' := [(4, .int (x4 + (1 : Int32))), (0, .ref (G.1 g 1)), (1, .int x1), (2, .ref (G.1 ga2 ia2)), (3, .int x3)]) hx hb xd_Ey_lookWithAll_35 hl (k := 4) rfl rfl (by decide) rfl (fun ls hl => ?_)
        refine lv_goto (pc := 38) (tgt := 3) hx hb xd_Ey_lookWithAll_38 (by decide) ?_
        exact ih (x4 + (1 : Int32)) M1 H locs ls h hR hS (lv_sub hl [1, 2, 3, 4, 0] rfl)
      · have h := h.2 hq
        refine lv_aload_n (pc := 19) hx hb xd_Ey_lookWithAll_19 rfl (lv_at hl 2 rfl) ?_
        refine lv_iload_n (pc := 20) hx hb xd_Ey_lookWithAll_20 rfl (lv_at hl 3 rfl) ?_
        refine lv_bipush (pc := 21) (v := (6 : Int32)) hx hb xd_Ey_lookWithAll_21 (by decide) ?_
        refine lv_imul (pc := 23) hx hb xd_Ey_lookWithAll_23 ?_
        refine lv_iload (pc := 24) hx hb xd_Ey_lookWithAll_24 (lv_at hl 4 rfl) ?_
        refine lv_iadd (pc := 26) hx hb xd_Ey_lookWithAll_26 ?_
        refine lv_aload_n (pc := 27) hx hb xd_Ey_lookWithAll_27 rfl (lv_at hl 0 rfl) ?_
        refine lv_iload (pc := 28) hx hb xd_Ey_lookWithAll_28 (lv_at hl 4 rfl) ?_
        refine lv_iload_n (pc := 30) hx hb xd_Ey_lookWithAll_30 rfl (lv_at hl 1 rfl) ?_
        refine xr_callV (pc := 31) (As := [.int x4, .int x1]) (rest := [.int ((x3 * (6 : Int32)) + x4), .ref (G.1 ga2 ia2)]) hC hR hS (xc_Ey_look l G hg h) (xo_K1 hg) xv_Ey_84 ⟨rfl, rfl, Nat.le_of_ble_eq_true rfl, Nat.le_of_ble_eq_true rfl⟩ rfl hl.1 rfl (Nat.le_of_ble_eq_true rfl) xd_Ey_lookWithAll_31 (fun r4 M3 H locs h hR hS => ?_)
        obtain ⟨hq, h⟩ := h
        refine xr_iast (pc := 34) hC hR hS hla2 hq xd_Ey_lookWithAll_34 (fun H locs hR hS => ?_)
        refine lv_iinc (pc := 35) (v := (x4 + (1 : Int32))) (lv' := [(4, .int (x4 + (1 : Int32))), (0, .ref (G.1 g 1)), (1, .int x1), (2, .ref (G.1 ga2 ia2)), (3, .int x3)]) hx hb xd_Ey_lookWithAll_35 hl (k := 4) rfl rfl (by decide) rfl (fun ls hl => ?_)
        refine lv_goto (pc := 38) (tgt := 3) hx hb xd_Ey_lookWithAll_38 (by decide) ?_
        exact ih (x4 + (1 : Int32)) (us M3 ga2 ia2 ((x3 * (6 : Int32)) + x4).toNatClampNeg r4) H locs ls h hR hS (lv_sub hl [1, 2, 3, 4, 0] rfl)
set_option maxHeartbeats 4000000 in
set_option maxRecDepth 100000 in
theorem xc_Ey_lookWithAll (l : Launch) (G : xG) {g : Nat} {ga2 ia2 na2 : Nat} {a1 : Int32} {a3 : Int32} (hg : g < 4) (hla2 : xlay ga2 ia2 = some (.inr (na2, .inl false))) {M : xM} {post : xM → Prop} (h : xw_Ey_lookWithAll g a1 ga2 ia2 na2 a3 M post) : Met l y_Ey_lookWithAll (Cond.code y_Ey_lookWithAll b_Ey_lookWithAll 5 none :: xTG) rm_Ey_lookWithAll (xPre G M [.ref (G.1 g 1), .int a1, .ref (G.1 ga2 ia2), .int a3]) (xPv G post) 0 0 (xA G) := by
  refine xMet (own := R_Ey) [.ref (G.1 g 1), .int a1, .ref (G.1 ga2 ia2), .int a3] (Or.inl (by decide)) rfl (Nat.le_of_ble_eq_true rfl) (fun p e s m args below meth c ls hC hr hlk hR hS hl => ?_)
  have hx := hC.1
  have hb := hC.2.1
  have hl : lv_has ls 5 [(0, .ref (G.1 g 1)), (1, .int a1), (2, .ref (G.1 ga2 ia2)), (3, .int a3)] := hl
  obtain ⟨H, eH⟩ : ∃ H : Heap, H = s.heap := ⟨_, rfl⟩
  obtain ⟨locs, eL⟩ : ∃ locs : List Loc, locs = [] := ⟨_, rfl⟩
  rw [← eH] at hR
  replace hS : va_S (xA G) s.heap H locs := by rw [eH, eL]; exact hS
  suffices hh : W p l e rm_Ey_lookWithAll s m args below meth c H locs 0 0 (MQ below (xPv G post) args s 0 0 (xA G)) (F0 m 0 ls []) from by rw [eH, eL] at hh; exact hh
  unfold xw_Ey_lookWithAll at h
  refine lv_iconst (pc := 0) (v := (0 : Int32)) hx hb xd_Ey_lookWithAll_0 (by decide) ?_
  refine lv_istore (pc := 1) (lv' := [(4, .int (0 : Int32)), (0, .ref (G.1 g 1)), (1, .int a1), (2, .ref (G.1 ga2 ia2)), (3, .int a3)]) hx hb xd_Ey_lookWithAll_1 hl (by decide) rfl (fun ls hl => ?_)
  obtain ⟨n, h⟩ := h
  refine xt_Ey_lookWithAll_3 hC hr hlk hg hla2 (fun y5 M6 H locs ls h hR hS hl => ?_) n (0 : Int32) M H locs ls h hR hS (lv_sub hl [1, 2, 3, 4, 0] rfl)
  exact xr_vret hC hr hlk hR hS h xd_Ey_lookWithAll_41

/-! ColoursApart$Chooser.lookAtPlaces(LColoursApart$Kept;)V -/
theorem xd_Ch_lookAtPlaces_0 : decode b_Ch_lookAtPlaces 0 = .ok (.iconst 0, 1) := by decide +kernel
theorem xd_Ch_lookAtPlaces_1 : decode b_Ch_lookAtPlaces 1 = .ok (.istore_n 2, 1) := by decide +kernel
theorem xd_Ch_lookAtPlaces_2 : decode b_Ch_lookAtPlaces 2 = .ok (.iload_n 2, 1) := by decide +kernel
theorem xd_Ch_lookAtPlaces_3 : decode b_Ch_lookAtPlaces 3 = .ok (.aload_n 0, 1) := by decide +kernel
theorem xd_Ch_lookAtPlaces_4 : decode b_Ch_lookAtPlaces 4 = .ok (.getfield 36, 3) := by decide +kernel
theorem xd_Ch_lookAtPlaces_7 : decode b_Ch_lookAtPlaces 7 = .ok (.if_icmp .ge 37, 3) := by decide +kernel
theorem xd_Ch_lookAtPlaces_10 : decode b_Ch_lookAtPlaces 10 = .ok (.aload_n 1, 1) := by decide +kernel
theorem xd_Ch_lookAtPlaces_11 : decode b_Ch_lookAtPlaces 11 = .ok (.getfield 58, 3) := by decide +kernel
theorem xd_Ch_lookAtPlaces_14 : decode b_Ch_lookAtPlaces 14 = .ok (.aload_n 1, 1) := by decide +kernel
theorem xd_Ch_lookAtPlaces_15 : decode b_Ch_lookAtPlaces 15 = .ok (.getfield 42, 3) := by decide +kernel
theorem xd_Ch_lookAtPlaces_18 : decode b_Ch_lookAtPlaces 18 = .ok (.iload_n 2, 1) := by decide +kernel
theorem xd_Ch_lookAtPlaces_19 : decode b_Ch_lookAtPlaces 19 = .ok (.invokevirtual 71, 3) := by decide +kernel
theorem xd_Ch_lookAtPlaces_22 : decode b_Ch_lookAtPlaces 22 = .ok (.aload_n 0, 1) := by decide +kernel
theorem xd_Ch_lookAtPlaces_23 : decode b_Ch_lookAtPlaces 23 = .ok (.getfield 11, 3) := by decide +kernel
theorem xd_Ch_lookAtPlaces_26 : decode b_Ch_lookAtPlaces 26 = .ok (.iload_n 2, 1) := by decide +kernel
theorem xd_Ch_lookAtPlaces_27 : decode b_Ch_lookAtPlaces 27 = .ok (.invokevirtual 75, 3) := by decide +kernel
theorem xd_Ch_lookAtPlaces_30 : decode b_Ch_lookAtPlaces 30 = .ok (.aload_n 0, 1) := by decide +kernel
theorem xd_Ch_lookAtPlaces_31 : decode b_Ch_lookAtPlaces 31 = .ok (.getfield 20, 3) := by decide +kernel
theorem xd_Ch_lookAtPlaces_34 : decode b_Ch_lookAtPlaces 34 = .ok (.iload_n 2, 1) := by decide +kernel
theorem xd_Ch_lookAtPlaces_35 : decode b_Ch_lookAtPlaces 35 = .ok (.ldc 66, 2) := by decide +kernel
theorem xd_Ch_lookAtPlaces_37 : decode b_Ch_lookAtPlaces 37 = .ok (.iastore, 1) := by decide +kernel
theorem xd_Ch_lookAtPlaces_38 : decode b_Ch_lookAtPlaces 38 = .ok (.iinc 2 1, 3) := by decide +kernel
theorem xd_Ch_lookAtPlaces_41 : decode b_Ch_lookAtPlaces 41 = .ok (.goto (-39), 3) := by decide +kernel
theorem xd_Ch_lookAtPlaces_44 : decode b_Ch_lookAtPlaces 44 = .ok (.return_, 1) := by decide +kernel
abbrev rm_Ch_lookAtPlaces : Room := { frames := 4, cells := 0, slots := 0, locals := 94 }
def xw_Ch_lookAtPlaces_2 (g1 : Nat) (post : xM → Prop) (k44 : Int32 → xM → Prop) : Nat → Int32 → xM → Prop
  | 0, _, _ => False
  | n2 + 1, x2, M => (((M 8 4 7) ≤ x2) → (k44 x2 M)) ∧ ((¬ (M 8 4 7) ≤ x2) → (xw_Gr_colourAt g1 x2 M (fun (r2 : Int32) (M1 : xM) => xw_Ey_lookWithAll g1 r2 8 5 384 x2 M1 (fun (M3 : xM) => (vp_in x2 64) ∧ (xw_Ch_lookAtPlaces_2 g1 post k44 n2 (x2 + (1 : Int32)) (us M3 8 7 x2.toNatClampNeg (2000000 : Int32)))))))
def xw_Ch_lookAtPlaces (g1 : Nat) (M : xM) (post : xM → Prop) : Prop :=
  ∃ n2 : Nat, xw_Ch_lookAtPlaces_2 g1 post (fun (y4 : Int32) (M5 : xM) => post M5) n2 (0 : Int32) M
set_option maxHeartbeats 4000000 in
set_option maxRecDepth 100000 in
theorem xt_Ch_lookAtPlaces_2 {p : Program} {l : Launch} {e : Env} {s : State} {m : MethodId} {args : Array Value} {below : List Frame} {meth : Method} {c : Code} {G : xG} (hC : xC p s m args c b_Ch_lookAtPlaces R_Ch 3 G) (hr : meth.sig.returnType = none) (hlk : meth.locks = false) {g1 : Nat} (hg1 : g1 < 4) {post : xM → Prop} {k44 : Int32 → xM → Prop} (hk44 : ∀ (x2 : Int32) (M : xM) (H : Heap) (locs : List Loc) (ls : Array Slot), k44 x2 M → xRp G M H → va_S (xA G) s.heap H locs → lv_has ls 3 [(0, .ref (G.1 8 4)), (1, .ref (G.1 g1 0)), (2, .int x2)] → W p l e rm_Ch_lookAtPlaces s m args below meth c H locs 0 0 (MQ below (xPv G post) args s 0 0 (xA G)) (F0 m 44 ls [])) : ∀ (n : Nat) (x2 : Int32) (M : xM) (H : Heap) (locs : List Loc) (ls : Array Slot), xw_Ch_lookAtPlaces_2 g1 post k44 n x2 M → xRp G M H → va_S (xA G) s.heap H locs → lv_has ls 3 [(0, .ref (G.1 8 4)), (1, .ref (G.1 g1 0)), (2, .int x2)] → W p l e rm_Ch_lookAtPlaces s m args below meth c H locs 0 0 (MQ below (xPv G post) args s 0 0 (xA G)) (F0 m 2 ls []) := by
  have hx := hC.1
  have hb := hC.2.1
  intro n
  induction n with
  | zero => intro x2 M H locs ls; exact fun h => h.elim
  | succ n ih =>
    intro x2 M H locs ls h hR hS hl
    refine lv_iload_n (pc := 2) hx hb xd_Ch_lookAtPlaces_2 rfl (lv_at hl 2 rfl) ?_
    refine lv_aload_n (pc := 3) hx hb xd_Ch_lookAtPlaces_3 rfl (lv_at hl 0 rfl) ?_
    refine xr_get (pc := 4) (v := .int (M 8 4 7)) hC hR xo_C4 xf_Ch_36 rfl xd_Ch_lookAtPlaces_4 ?_
    refine lv_icmp_ge (pc := 7) (tgt := 44) hx hb xd_Ch_lookAtPlaces_7 (by decide) (fun hq => ?_) (fun hq => ?_)
    · have h := h.1 hq
      exact hk44 x2 M H locs ls h hR hS (lv_sub hl [0, 1, 2] rfl)
    · have h := h.2 hq
      refine lv_aload_n (pc := 10) hx hb xd_Ch_lookAtPlaces_10 rfl (lv_at hl 1 rfl) ?_
      refine xr_get (pc := 11) (v := .ref (G.1 g1 1)) hC hR (xo_K0 hg1) xf_Ch_58 rfl xd_Ch_lookAtPlaces_11 ?_
      refine lv_aload_n (pc := 14) hx hb xd_Ch_lookAtPlaces_14 rfl (lv_at hl 1 rfl) ?_
      refine xr_get (pc := 15) (v := .ref (G.1 g1 12)) hC hR (xo_K0 hg1) xf_Ch_42 rfl xd_Ch_lookAtPlaces_15 ?_
      refine lv_iload_n (pc := 18) hx hb xd_Ch_lookAtPlaces_18 rfl (lv_at hl 2 rfl) ?_
      refine xr_callV (pc := 19) (As := [.int x2]) (rest := [.ref (G.1 g1 1)]) hC hR hS (xc_Gr_colourAt l G hg1 h) (xo_K12 hg1) xv_Ch_71 ⟨rfl, rfl, Nat.le_of_ble_eq_true rfl, Nat.le_of_ble_eq_true rfl⟩ rfl hl.1 rfl (Nat.le_of_ble_eq_true rfl) xd_Ch_lookAtPlaces_19 (fun r2 M1 H locs h hR hS => ?_)
      refine lv_aload_n (pc := 22) hx hb xd_Ch_lookAtPlaces_22 rfl (lv_at hl 0 rfl) ?_
      refine xr_get (pc := 23) (v := .ref (G.1 8 5)) hC hR xo_C4 xf_Ch_11 rfl xd_Ch_lookAtPlaces_23 ?_
      refine lv_iload_n (pc := 26) hx hb xd_Ch_lookAtPlaces_26 rfl (lv_at hl 2 rfl) ?_
      refine xr_callVv (pc := 27) (As := [.int r2, .ref (G.1 8 5), .int x2]) (rest := []) hC hR hS (xc_Ey_lookWithAll l G hg1 xo_C5 h) (xo_K1 hg1) xv_Ch_75 ⟨rfl, rfl, Nat.le_of_ble_eq_true rfl, Nat.le_of_ble_eq_true rfl⟩ rfl hl.1 rfl (Nat.le_of_ble_eq_true rfl) xd_Ch_lookAtPlaces_27 (fun M3 H locs h hR hS => ?_)
      refine lv_aload_n (pc := 30) hx hb xd_Ch_lookAtPlaces_30 rfl (lv_at hl 0 rfl) ?_
      refine xr_get (pc := 31) (v := .ref (G.1 8 7)) hC hR xo_C4 xf_Ch_20 rfl xd_Ch_lookAtPlaces_31 ?_
      refine lv_iload_n (pc := 34) hx hb xd_Ch_lookAtPlaces_34 rfl (lv_at hl 2 rfl) ?_
      refine lv_ldc (pc := 35) (v := (2000000 : Int32)) hx hb hC.2.2.2.1 (hC.2.2.2.2.1 _ xk_Ch_66) xd_Ch_lookAtPlaces_35 ?_
      obtain ⟨hq, h⟩ := h
      refine xr_iast (pc := 37) hC hR hS xo_C7 hq xd_Ch_lookAtPlaces_37 (fun H locs hR hS => ?_)
      refine lv_iinc (pc := 38) (v := (x2 + (1 : Int32))) (lv' := [(2, .int (x2 + (1 : Int32))), (0, .ref (G.1 8 4)), (1, .ref (G.1 g1 0))]) hx hb xd_Ch_lookAtPlaces_38 hl (k := 2) rfl rfl (by decide) rfl (fun ls hl => ?_)
      refine lv_goto (pc := 41) (tgt := 2) hx hb xd_Ch_lookAtPlaces_41 (by decide) ?_
      exact ih (x2 + (1 : Int32)) (us M3 8 7 x2.toNatClampNeg (2000000 : Int32)) H locs ls h hR hS (lv_sub hl [1, 2, 0] rfl)
set_option maxHeartbeats 4000000 in
set_option maxRecDepth 100000 in
theorem xc_Ch_lookAtPlaces (l : Launch) (G : xG) {g1 : Nat} (hg1 : g1 < 4) {M : xM} {post : xM → Prop} (h : xw_Ch_lookAtPlaces g1 M post) : Met l y_Ch_lookAtPlaces (Cond.code y_Ch_lookAtPlaces b_Ch_lookAtPlaces 3 none :: xTG) rm_Ch_lookAtPlaces (xPre G M [.ref (G.1 8 4), .ref (G.1 g1 0)]) (xPv G post) 0 0 (xA G) := by
  refine xMet (own := R_Ch) [.ref (G.1 8 4), .ref (G.1 g1 0)] (Or.inl (by decide)) rfl (Nat.le_of_ble_eq_true rfl) (fun p e s m args below meth c ls hC hr hlk hR hS hl => ?_)
  have hx := hC.1
  have hb := hC.2.1
  have hl : lv_has ls 3 [(0, .ref (G.1 8 4)), (1, .ref (G.1 g1 0))] := hl
  obtain ⟨H, eH⟩ : ∃ H : Heap, H = s.heap := ⟨_, rfl⟩
  obtain ⟨locs, eL⟩ : ∃ locs : List Loc, locs = [] := ⟨_, rfl⟩
  rw [← eH] at hR
  replace hS : va_S (xA G) s.heap H locs := by rw [eH, eL]; exact hS
  suffices hh : W p l e rm_Ch_lookAtPlaces s m args below meth c H locs 0 0 (MQ below (xPv G post) args s 0 0 (xA G)) (F0 m 0 ls []) from by rw [eH, eL] at hh; exact hh
  unfold xw_Ch_lookAtPlaces at h
  refine lv_iconst (pc := 0) (v := (0 : Int32)) hx hb xd_Ch_lookAtPlaces_0 (by decide) ?_
  refine lv_istore_n (pc := 1) (lv' := [(2, .int (0 : Int32)), (0, .ref (G.1 8 4)), (1, .ref (G.1 g1 0))]) hx hb xd_Ch_lookAtPlaces_1 rfl hl (by decide) rfl (fun ls hl => ?_)
  obtain ⟨n, h⟩ := h
  refine xt_Ch_lookAtPlaces_2 hC hr hlk hg1 (fun y4 M5 H locs ls h hR hS hl => ?_) n (0 : Int32) M H locs ls h hR hS (lv_sub hl [1, 2, 0] rfl)
  exact xr_vret hC hr hlk hR hS h xd_Ch_lookAtPlaces_44

/-! ColoursApart$Eyes.weighed(II)I -/
theorem xd_Ey_weighed_0 : decode b_Ey_weighed 0 = .ok (.iload_n 1, 1) := by decide +kernel
theorem xd_Ey_weighed_1 : decode b_Ey_weighed 1 = .ok (.invokestatic 56, 3) := by decide +kernel
theorem xd_Ey_weighed_4 : decode b_Ey_weighed 4 = .ok (.iload_n 2, 1) := by decide +kernel
theorem xd_Ey_weighed_5 : decode b_Ey_weighed 5 = .ok (.invokestatic 56, 3) := by decide +kernel
theorem xd_Ey_weighed_8 : decode b_Ey_weighed 8 = .ok (.isub, 1) := by decide +kernel
theorem xd_Ey_weighed_9 : decode b_Ey_weighed 9 = .ok (.istore_n 3, 1) := by decide +kernel
theorem xd_Ey_weighed_10 : decode b_Ey_weighed 10 = .ok (.iload_n 1, 1) := by decide +kernel
theorem xd_Ey_weighed_11 : decode b_Ey_weighed 11 = .ok (.invokestatic 62, 3) := by decide +kernel
theorem xd_Ey_weighed_14 : decode b_Ey_weighed 14 = .ok (.iload_n 2, 1) := by decide +kernel
theorem xd_Ey_weighed_15 : decode b_Ey_weighed 15 = .ok (.invokestatic 62, 3) := by decide +kernel
theorem xd_Ey_weighed_18 : decode b_Ey_weighed 18 = .ok (.isub, 1) := by decide +kernel
theorem xd_Ey_weighed_19 : decode b_Ey_weighed 19 = .ok (.istore 4, 2) := by decide +kernel
theorem xd_Ey_weighed_21 : decode b_Ey_weighed 21 = .ok (.iload_n 1, 1) := by decide +kernel
theorem xd_Ey_weighed_22 : decode b_Ey_weighed 22 = .ok (.invokestatic 65, 3) := by decide +kernel
theorem xd_Ey_weighed_25 : decode b_Ey_weighed 25 = .ok (.iload_n 2, 1) := by decide +kernel
theorem xd_Ey_weighed_26 : decode b_Ey_weighed 26 = .ok (.invokestatic 65, 3) := by decide +kernel
theorem xd_Ey_weighed_29 : decode b_Ey_weighed 29 = .ok (.isub, 1) := by decide +kernel
theorem xd_Ey_weighed_30 : decode b_Ey_weighed 30 = .ok (.istore 5, 2) := by decide +kernel
theorem xd_Ey_weighed_32 : decode b_Ey_weighed 32 = .ok (.aload_n 0, 1) := by decide +kernel
theorem xd_Ey_weighed_33 : decode b_Ey_weighed 33 = .ok (.getfield 19, 3) := by decide +kernel
theorem xd_Ey_weighed_36 : decode b_Ey_weighed 36 = .ok (.iload_n 3, 1) := by decide +kernel
theorem xd_Ey_weighed_37 : decode b_Ey_weighed 37 = .ok (.imul, 1) := by decide +kernel
theorem xd_Ey_weighed_38 : decode b_Ey_weighed 38 = .ok (.iload_n 3, 1) := by decide +kernel
theorem xd_Ey_weighed_39 : decode b_Ey_weighed 39 = .ok (.imul, 1) := by decide +kernel
theorem xd_Ey_weighed_40 : decode b_Ey_weighed 40 = .ok (.aload_n 0, 1) := by decide +kernel
theorem xd_Ey_weighed_41 : decode b_Ey_weighed 41 = .ok (.getfield 22, 3) := by decide +kernel
theorem xd_Ey_weighed_44 : decode b_Ey_weighed 44 = .ok (.iload 4, 2) := by decide +kernel
theorem xd_Ey_weighed_46 : decode b_Ey_weighed 46 = .ok (.imul, 1) := by decide +kernel
theorem xd_Ey_weighed_47 : decode b_Ey_weighed 47 = .ok (.iload 4, 2) := by decide +kernel
theorem xd_Ey_weighed_49 : decode b_Ey_weighed 49 = .ok (.imul, 1) := by decide +kernel
theorem xd_Ey_weighed_50 : decode b_Ey_weighed 50 = .ok (.iadd, 1) := by decide +kernel
theorem xd_Ey_weighed_51 : decode b_Ey_weighed 51 = .ok (.aload_n 0, 1) := by decide +kernel
theorem xd_Ey_weighed_52 : decode b_Ey_weighed 52 = .ok (.getfield 25, 3) := by decide +kernel
theorem xd_Ey_weighed_55 : decode b_Ey_weighed 55 = .ok (.iload 5, 2) := by decide +kernel
theorem xd_Ey_weighed_57 : decode b_Ey_weighed 57 = .ok (.imul, 1) := by decide +kernel
theorem xd_Ey_weighed_58 : decode b_Ey_weighed 58 = .ok (.iload 5, 2) := by decide +kernel
theorem xd_Ey_weighed_60 : decode b_Ey_weighed 60 = .ok (.imul, 1) := by decide +kernel
theorem xd_Ey_weighed_61 : decode b_Ey_weighed 61 = .ok (.iadd, 1) := by decide +kernel
theorem xd_Ey_weighed_62 : decode b_Ey_weighed 62 = .ok (.ireturn, 1) := by decide +kernel
abbrev rm_Ey_weighed : Room := { frames := 1, cells := 0, slots := 0, locals := 20 }
def xw_Ey_weighed (g : Nat) (a1 : Int32) (a2 : Int32) (M : xM) (post : Int32 → xM → Prop) : Prop :=
  xw_Rg_red a1 M (fun (r2 : Int32) (M1 : xM) => xw_Rg_red a2 M1 (fun (r4 : Int32) (M3 : xM) => xw_Rg_green a1 M3 (fun (r6 : Int32) (M5 : xM) => xw_Rg_green a2 M5 (fun (r8 : Int32) (M7 : xM) => xw_Rg_blue a1 M7 (fun (r10 : Int32) (M9 : xM) => xw_Rg_blue a2 M9 (fun (r12 : Int32) (M11 : xM) => post (((((M11 g 1 2) * (r2 - r4)) * (r2 - r4)) + (((M11 g 1 3) * (r6 - r8)) * (r6 - r8))) + (((M11 g 1 4) * (r10 - r12)) * (r10 - r12))) M11))))))
set_option maxHeartbeats 4000000 in
set_option maxRecDepth 100000 in
theorem xc_Ey_weighed (l : Launch) (G : xG) {g : Nat} {a1 : Int32} {a2 : Int32} (hg : g < 4) {M : xM} {post : Int32 → xM → Prop} (h : xw_Ey_weighed g a1 a2 M post) : Met l y_Ey_weighed (Cond.code y_Ey_weighed b_Ey_weighed 6 (some .int) :: xTG) rm_Ey_weighed (xPre G M [.ref (G.1 g 1), .int a1, .int a2]) (xPi G post) 0 0 (xA G) := by
  refine xMet (own := R_Ey) [.ref (G.1 g 1), .int a1, .int a2] (Or.inl (by decide)) rfl (Nat.le_of_ble_eq_true rfl) (fun p e s m args below meth c ls hC hr hlk hR hS hl => ?_)
  have hx := hC.1
  have hb := hC.2.1
  have hl : lv_has ls 6 [(0, .ref (G.1 g 1)), (1, .int a1), (2, .int a2)] := hl
  obtain ⟨H, eH⟩ : ∃ H : Heap, H = s.heap := ⟨_, rfl⟩
  obtain ⟨locs, eL⟩ : ∃ locs : List Loc, locs = [] := ⟨_, rfl⟩
  rw [← eH] at hR
  replace hS : va_S (xA G) s.heap H locs := by rw [eH, eL]; exact hS
  suffices hh : W p l e rm_Ey_weighed s m args below meth c H locs 0 0 (MQ below (xPi G post) args s 0 0 (xA G)) (F0 m 0 ls []) from by rw [eH, eL] at hh; exact hh
  unfold xw_Ey_weighed at h
  refine lv_iload_n (pc := 0) hx hb xd_Ey_weighed_0 rfl (lv_at hl 1 rfl) ?_
  refine xr_callS (pc := 1) (As := [.int a1]) (rest := []) hC hR hS (xc_Rg_red l G  h) xv_Ey_56 ⟨rfl, rfl, Nat.le_of_ble_eq_true rfl, Nat.le_of_ble_eq_true rfl⟩ rfl hl.1 rfl (Nat.le_of_ble_eq_true rfl) xd_Ey_weighed_1 (fun r2 M1 H locs h hR hS => ?_)
  refine lv_iload_n (pc := 4) hx hb xd_Ey_weighed_4 rfl (lv_at hl 2 rfl) ?_
  refine xr_callS (pc := 5) (As := [.int a2]) (rest := [.int r2]) hC hR hS (xc_Rg_red l G  h) xv_Ey_56 ⟨rfl, rfl, Nat.le_of_ble_eq_true rfl, Nat.le_of_ble_eq_true rfl⟩ rfl hl.1 rfl (Nat.le_of_ble_eq_true rfl) xd_Ey_weighed_5 (fun r4 M3 H locs h hR hS => ?_)
  refine lv_isub (pc := 8) hx hb xd_Ey_weighed_8 ?_
  refine lv_istore_n (pc := 9) (lv' := [(3, .int (r2 - r4)), (0, .ref (G.1 g 1)), (1, .int a1), (2, .int a2)]) hx hb xd_Ey_weighed_9 rfl hl (by decide) rfl (fun ls hl => ?_)
  refine lv_iload_n (pc := 10) hx hb xd_Ey_weighed_10 rfl (lv_at hl 2 rfl) ?_
  refine xr_callS (pc := 11) (As := [.int a1]) (rest := []) hC hR hS (xc_Rg_green l G  h) xv_Ey_62 ⟨rfl, rfl, Nat.le_of_ble_eq_true rfl, Nat.le_of_ble_eq_true rfl⟩ rfl hl.1 rfl (Nat.le_of_ble_eq_true rfl) xd_Ey_weighed_11 (fun r6 M5 H locs h hR hS => ?_)
  refine lv_iload_n (pc := 14) hx hb xd_Ey_weighed_14 rfl (lv_at hl 3 rfl) ?_
  refine xr_callS (pc := 15) (As := [.int a2]) (rest := [.int r6]) hC hR hS (xc_Rg_green l G  h) xv_Ey_62 ⟨rfl, rfl, Nat.le_of_ble_eq_true rfl, Nat.le_of_ble_eq_true rfl⟩ rfl hl.1 rfl (Nat.le_of_ble_eq_true rfl) xd_Ey_weighed_15 (fun r8 M7 H locs h hR hS => ?_)
  refine lv_isub (pc := 18) hx hb xd_Ey_weighed_18 ?_
  refine lv_istore (pc := 19) (lv' := [(4, .int (r6 - r8)), (3, .int (r2 - r4)), (0, .ref (G.1 g 1)), (1, .int a1), (2, .int a2)]) hx hb xd_Ey_weighed_19 hl (by decide) rfl (fun ls hl => ?_)
  refine lv_iload_n (pc := 21) hx hb xd_Ey_weighed_21 rfl (lv_at hl 3 rfl) ?_
  refine xr_callS (pc := 22) (As := [.int a1]) (rest := []) hC hR hS (xc_Rg_blue l G  h) xv_Ey_65 ⟨rfl, rfl, Nat.le_of_ble_eq_true rfl, Nat.le_of_ble_eq_true rfl⟩ rfl hl.1 rfl (Nat.le_of_ble_eq_true rfl) xd_Ey_weighed_22 (fun r10 M9 H locs h hR hS => ?_)
  refine lv_iload_n (pc := 25) hx hb xd_Ey_weighed_25 rfl (lv_at hl 4 rfl) ?_
  refine xr_callS (pc := 26) (As := [.int a2]) (rest := [.int r10]) hC hR hS (xc_Rg_blue l G  h) xv_Ey_65 ⟨rfl, rfl, Nat.le_of_ble_eq_true rfl, Nat.le_of_ble_eq_true rfl⟩ rfl hl.1 rfl (Nat.le_of_ble_eq_true rfl) xd_Ey_weighed_26 (fun r12 M11 H locs h hR hS => ?_)
  refine lv_isub (pc := 29) hx hb xd_Ey_weighed_29 ?_
  refine lv_istore (pc := 30) (lv' := [(5, .int (r10 - r12)), (4, .int (r6 - r8)), (3, .int (r2 - r4)), (0, .ref (G.1 g 1)), (1, .int a1), (2, .int a2)]) hx hb xd_Ey_weighed_30 hl (by decide) rfl (fun ls hl => ?_)
  refine lv_aload_n (pc := 32) hx hb xd_Ey_weighed_32 rfl (lv_at hl 3 rfl) ?_
  refine xr_get (pc := 33) (v := .int (M11 g 1 2)) hC hR (xo_K1 hg) xf_Ey_19 rfl xd_Ey_weighed_33 ?_
  refine lv_iload_n (pc := 36) hx hb xd_Ey_weighed_36 rfl (lv_at hl 2 rfl) ?_
  refine lv_imul (pc := 37) hx hb xd_Ey_weighed_37 ?_
  refine lv_iload_n (pc := 38) hx hb xd_Ey_weighed_38 rfl (lv_at hl 2 rfl) ?_
  refine lv_imul (pc := 39) hx hb xd_Ey_weighed_39 ?_
  refine lv_aload_n (pc := 40) hx hb xd_Ey_weighed_40 rfl (lv_at hl 3 rfl) ?_
  refine xr_get (pc := 41) (v := .int (M11 g 1 3)) hC hR (xo_K1 hg) xf_Ey_22 rfl xd_Ey_weighed_41 ?_
  refine lv_iload (pc := 44) hx hb xd_Ey_weighed_44 (lv_at hl 1 rfl) ?_
  refine lv_imul (pc := 46) hx hb xd_Ey_weighed_46 ?_
  refine lv_iload (pc := 47) hx hb xd_Ey_weighed_47 (lv_at hl 1 rfl) ?_
  refine lv_imul (pc := 49) hx hb xd_Ey_weighed_49 ?_
  refine lv_iadd (pc := 50) hx hb xd_Ey_weighed_50 ?_
  refine lv_aload_n (pc := 51) hx hb xd_Ey_weighed_51 rfl (lv_at hl 3 rfl) ?_
  refine xr_get (pc := 52) (v := .int (M11 g 1 4)) hC hR (xo_K1 hg) xf_Ey_25 rfl xd_Ey_weighed_52 ?_
  refine lv_iload (pc := 55) hx hb xd_Ey_weighed_55 (lv_at hl 0 rfl) ?_
  refine lv_imul (pc := 57) hx hb xd_Ey_weighed_57 ?_
  refine lv_iload (pc := 58) hx hb xd_Ey_weighed_58 (lv_at hl 0 rfl) ?_
  refine lv_imul (pc := 60) hx hb xd_Ey_weighed_60 ?_
  refine lv_iadd (pc := 61) hx hb xd_Ey_weighed_61 ?_
  exact xr_iret hC hr hlk hR hS h xd_Ey_weighed_62

/-! ColoursApart$Eyes.leastOfViews([II[II)I -/
theorem xd_Ey_leastOfViews_0 : decode b_Ey_leastOfViews 0 = .ok (.ldc 79, 2) := by decide +kernel
theorem xd_Ey_leastOfViews_2 : decode b_Ey_leastOfViews 2 = .ok (.istore 5, 2) := by decide +kernel
theorem xd_Ey_leastOfViews_4 : decode b_Ey_leastOfViews 4 = .ok (.iconst 0, 1) := by decide +kernel
theorem xd_Ey_leastOfViews_5 : decode b_Ey_leastOfViews 5 = .ok (.istore 6, 2) := by decide +kernel
theorem xd_Ey_leastOfViews_7 : decode b_Ey_leastOfViews 7 = .ok (.iload 6, 2) := by decide +kernel
theorem xd_Ey_leastOfViews_9 : decode b_Ey_leastOfViews 9 = .ok (.bipush 6, 2) := by decide +kernel
theorem xd_Ey_leastOfViews_11 : decode b_Ey_leastOfViews 11 = .ok (.if_icmp .ge 52, 3) := by decide +kernel
theorem xd_Ey_leastOfViews_14 : decode b_Ey_leastOfViews 14 = .ok (.aload_n 0, 1) := by decide +kernel
theorem xd_Ey_leastOfViews_15 : decode b_Ey_leastOfViews 15 = .ok (.iload 6, 2) := by decide +kernel
theorem xd_Ey_leastOfViews_17 : decode b_Ey_leastOfViews 17 = .ok (.invokevirtual 80, 3) := by decide +kernel
theorem xd_Ey_leastOfViews_20 : decode b_Ey_leastOfViews 20 = .ok (.ifCond .eq 37, 3) := by decide +kernel
theorem xd_Ey_leastOfViews_23 : decode b_Ey_leastOfViews 23 = .ok (.aload_n 0, 1) := by decide +kernel
theorem xd_Ey_leastOfViews_24 : decode b_Ey_leastOfViews 24 = .ok (.aload_n 1, 1) := by decide +kernel
theorem xd_Ey_leastOfViews_25 : decode b_Ey_leastOfViews 25 = .ok (.iload_n 2, 1) := by decide +kernel
theorem xd_Ey_leastOfViews_26 : decode b_Ey_leastOfViews 26 = .ok (.bipush 6, 2) := by decide +kernel
theorem xd_Ey_leastOfViews_28 : decode b_Ey_leastOfViews 28 = .ok (.imul, 1) := by decide +kernel
theorem xd_Ey_leastOfViews_29 : decode b_Ey_leastOfViews 29 = .ok (.iload 6, 2) := by decide +kernel
theorem xd_Ey_leastOfViews_31 : decode b_Ey_leastOfViews 31 = .ok (.iadd, 1) := by decide +kernel
theorem xd_Ey_leastOfViews_32 : decode b_Ey_leastOfViews 32 = .ok (.iaload, 1) := by decide +kernel
theorem xd_Ey_leastOfViews_33 : decode b_Ey_leastOfViews 33 = .ok (.aload_n 3, 1) := by decide +kernel
theorem xd_Ey_leastOfViews_34 : decode b_Ey_leastOfViews 34 = .ok (.iload 4, 2) := by decide +kernel
theorem xd_Ey_leastOfViews_36 : decode b_Ey_leastOfViews 36 = .ok (.bipush 6, 2) := by decide +kernel
theorem xd_Ey_leastOfViews_38 : decode b_Ey_leastOfViews 38 = .ok (.imul, 1) := by decide +kernel
theorem xd_Ey_leastOfViews_39 : decode b_Ey_leastOfViews 39 = .ok (.iload 6, 2) := by decide +kernel
theorem xd_Ey_leastOfViews_41 : decode b_Ey_leastOfViews 41 = .ok (.iadd, 1) := by decide +kernel
theorem xd_Ey_leastOfViews_42 : decode b_Ey_leastOfViews 42 = .ok (.iaload, 1) := by decide +kernel
theorem xd_Ey_leastOfViews_43 : decode b_Ey_leastOfViews 43 = .ok (.invokevirtual 87, 3) := by decide +kernel
theorem xd_Ey_leastOfViews_46 : decode b_Ey_leastOfViews 46 = .ok (.istore 7, 2) := by decide +kernel
theorem xd_Ey_leastOfViews_48 : decode b_Ey_leastOfViews 48 = .ok (.iload 5, 2) := by decide +kernel
theorem xd_Ey_leastOfViews_50 : decode b_Ey_leastOfViews 50 = .ok (.iload 7, 2) := by decide +kernel
theorem xd_Ey_leastOfViews_52 : decode b_Ey_leastOfViews 52 = .ok (.invokestatic 73, 3) := by decide +kernel
theorem xd_Ey_leastOfViews_55 : decode b_Ey_leastOfViews 55 = .ok (.istore 5, 2) := by decide +kernel
theorem xd_Ey_leastOfViews_57 : decode b_Ey_leastOfViews 57 = .ok (.iinc 6 1, 3) := by decide +kernel
theorem xd_Ey_leastOfViews_60 : decode b_Ey_leastOfViews 60 = .ok (.goto (-53), 3) := by decide +kernel
theorem xd_Ey_leastOfViews_63 : decode b_Ey_leastOfViews 63 = .ok (.iload 5, 2) := by decide +kernel
theorem xd_Ey_leastOfViews_65 : decode b_Ey_leastOfViews 65 = .ok (.ireturn, 1) := by decide +kernel
abbrev rm_Ey_leastOfViews : Room := { frames := 2, cells := 0, slots := 0, locals := 45 }
def xw_Ey_leastOfViews_7 (g : Nat) (ga1 ia1 na1 : Nat) (ga3 ia3 na3 : Nat) (x2 : Int32) (x4 : Int32) (post : Int32 → xM → Prop) (k63 : Int32 → Int32 → xM → Prop) : Nat → Int32 → Int32 → xM → Prop
  | 0, _, _, _ => False
  | n7 + 1, x5, x6, M => (((6 : Int32) ≤ x6) → (k63 x5 x6 M)) ∧ ((¬ (6 : Int32) ≤ x6) → (xw_Ey_counts g x6 M (fun (r2 : Int32) (M1 : xM) => ((r2 = 0) → (xw_Ey_leastOfViews_7 g ga1 ia1 na1 ga3 ia3 na3 x2 x4 post k63 n7 x5 (x6 + (1 : Int32)) M1)) ∧ ((¬ r2 = 0) → ((vp_in ((x2 * (6 : Int32)) + x6) na1) ∧ ((vp_in ((x4 * (6 : Int32)) + x6) na3) ∧ (xw_Ey_weighed g (M1 ga1 ia1 ((x2 * (6 : Int32)) + x6).toNatClampNeg) (M1 ga3 ia3 ((x4 * (6 : Int32)) + x6).toNatClampNeg) M1 (fun (r4 : Int32) (M3 : xM) => xw_Ey_leastOfViews_7 g ga1 ia1 na1 ga3 ia3 na3 x2 x4 post k63 n7 (if r4 < x5 then r4 else x5) (x6 + (1 : Int32)) M3))))))))
def xw_Ey_leastOfViews (g : Nat) (ga1 ia1 na1 : Nat) (a2 : Int32) (ga3 ia3 na3 : Nat) (a4 : Int32) (M : xM) (post : Int32 → xM → Prop) : Prop :=
  ∃ n7 : Nat, xw_Ey_leastOfViews_7 g ga1 ia1 na1 ga3 ia3 na3 a2 a4 post (fun (y5 : Int32) (y6 : Int32) (M7 : xM) => post y5 M7) n7 (2000000 : Int32) (0 : Int32) M
set_option maxHeartbeats 4000000 in
set_option maxRecDepth 100000 in
theorem xt_Ey_leastOfViews_7 {p : Program} {l : Launch} {e : Env} {s : State} {m : MethodId} {args : Array Value} {below : List Frame} {meth : Method} {c : Code} {G : xG} (hC : xC p s m args c b_Ey_leastOfViews R_Ey 8 G) (hr : meth.sig.returnType = (some .int)) (hlk : meth.locks = false) {g : Nat} {ga1 : Nat} {ia1 : Nat} {na1 : Nat} {ga3 : Nat} {ia3 : Nat} {na3 : Nat} (hg : g < 4) (hla1 : xlay ga1 ia1 = some (.inr (na1, .inl false))) (hla3 : xlay ga3 ia3 = some (.inr (na3, .inl false))) {x2 : Int32} {x4 : Int32} {post : Int32 → xM → Prop} {k63 : Int32 → Int32 → xM → Prop} (hk63 : ∀ (x5 : Int32) (x6 : Int32) (M : xM) (H : Heap) (locs : List Loc) (ls : Array Slot), k63 x5 x6 M → xRp G M H → va_S (xA G) s.heap H locs → lv_has ls 8 [(0, .ref (G.1 g 1)), (1, .ref (G.1 ga1 ia1)), (2, .int x2), (3, .ref (G.1 ga3 ia3)), (4, .int x4), (5, .int x5), (6, .int x6)] → W p l e rm_Ey_leastOfViews s m args below meth c H locs 0 0 (MQ below (xPi G post) args s 0 0 (xA G)) (F0 m 63 ls [])) : ∀ (n : Nat) (x5 : Int32) (x6 : Int32) (M : xM) (H : Heap) (locs : List Loc) (ls : Array Slot), xw_Ey_leastOfViews_7 g ga1 ia1 na1 ga3 ia3 na3 x2 x4 post k63 n x5 x6 M → xRp G M H → va_S (xA G) s.heap H locs → lv_has ls 8 [(0, .ref (G.1 g 1)), (1, .ref (G.1 ga1 ia1)), (2, .int x2), (3, .ref (G.1 ga3 ia3)), (4, .int x4), (5, .int x5), (6, .int x6)] → W p l e rm_Ey_leastOfViews s m args below meth c H locs 0 0 (MQ below (xPi G post) args s 0 0 (xA G)) (F0 m 7 ls []) := by
  have hx := hC.1
  have hb := hC.2.1
  intro n
  induction n with
  | zero => intro x5 x6 M H locs ls; exact fun h => h.elim
  | succ n ih =>
    intro x5 x6 M H locs ls h hR hS hl
    refine lv_iload (pc := 7) hx hb xd_Ey_leastOfViews_7 (lv_at hl 6 rfl) ?_
    refine lv_bipush (pc := 9) (v := (6 : Int32)) hx hb xd_Ey_leastOfViews_9 (by decide) ?_
    refine lv_icmp_ge (pc := 11) (tgt := 63) hx hb xd_Ey_leastOfViews_11 (by decide) (fun hq => ?_) (fun hq => ?_)
    · have h := h.1 hq
      exact hk63 x5 x6 M H locs ls h hR hS (lv_sub hl [0, 1, 2, 3, 4, 5, 6] rfl)
    · have h := h.2 hq
      refine lv_aload_n (pc := 14) hx hb xd_Ey_leastOfViews_14 rfl (lv_at hl 0 rfl) ?_
      refine lv_iload (pc := 15) hx hb xd_Ey_leastOfViews_15 (lv_at hl 6 rfl) ?_
      refine xr_callV (pc := 17) (As := [.int x6]) (rest := []) hC hR hS (xc_Ey_counts l G hg h) (xo_K1 hg) xv_Ey_80 ⟨rfl, rfl, Nat.le_of_ble_eq_true rfl, Nat.le_of_ble_eq_true rfl⟩ rfl hl.1 rfl (Nat.le_of_ble_eq_true rfl) xd_Ey_leastOfViews_17 (fun r2 M1 H locs h hR hS => ?_)
      refine lv_if_eq (pc := 20) (tgt := 57) hx hb xd_Ey_leastOfViews_20 (by decide) (fun hq => ?_) (fun hq => ?_)
      · have h := h.1 hq
        refine lv_iinc (pc := 57) (v := (x6 + (1 : Int32))) (lv' := [(6, .int (x6 + (1 : Int32))), (0, .ref (G.1 g 1)), (1, .ref (G.1 ga1 ia1)), (2, .int x2), (3, .ref (G.1 ga3 ia3)), (4, .int x4), (5, .int x5)]) hx hb xd_Ey_leastOfViews_57 hl (k := 6) rfl rfl (by decide) rfl (fun ls hl => ?_)
        refine lv_goto (pc := 60) (tgt := 7) hx hb xd_Ey_leastOfViews_60 (by decide) ?_
        exact ih x5 (x6 + (1 : Int32)) M1 H locs ls h hR hS (lv_sub hl [1, 2, 3, 4, 5, 6, 0] rfl)
      · have h := h.2 hq
        refine lv_aload_n (pc := 23) hx hb xd_Ey_leastOfViews_23 rfl (lv_at hl 0 rfl) ?_
        refine lv_aload_n (pc := 24) hx hb xd_Ey_leastOfViews_24 rfl (lv_at hl 1 rfl) ?_
        refine lv_iload_n (pc := 25) hx hb xd_Ey_leastOfViews_25 rfl (lv_at hl 2 rfl) ?_
        refine lv_bipush (pc := 26) (v := (6 : Int32)) hx hb xd_Ey_leastOfViews_26 (by decide) ?_
        refine lv_imul (pc := 28) hx hb xd_Ey_leastOfViews_28 ?_
        refine lv_iload (pc := 29) hx hb xd_Ey_leastOfViews_29 (lv_at hl 6 rfl) ?_
        refine lv_iadd (pc := 31) hx hb xd_Ey_leastOfViews_31 ?_
        obtain ⟨hq, h⟩ := h
        refine xr_iald (pc := 32) hC hR hla1 hq xd_Ey_leastOfViews_32 ?_
        refine lv_aload_n (pc := 33) hx hb xd_Ey_leastOfViews_33 rfl (lv_at hl 3 rfl) ?_
        refine lv_iload (pc := 34) hx hb xd_Ey_leastOfViews_34 (lv_at hl 4 rfl) ?_
        refine lv_bipush (pc := 36) (v := (6 : Int32)) hx hb xd_Ey_leastOfViews_36 (by decide) ?_
        refine lv_imul (pc := 38) hx hb xd_Ey_leastOfViews_38 ?_
        refine lv_iload (pc := 39) hx hb xd_Ey_leastOfViews_39 (lv_at hl 6 rfl) ?_
        refine lv_iadd (pc := 41) hx hb xd_Ey_leastOfViews_41 ?_
        obtain ⟨hq, h⟩ := h
        refine xr_iald (pc := 42) hC hR hla3 hq xd_Ey_leastOfViews_42 ?_
        refine xr_callV (pc := 43) (As := [.int (M1 ga1 ia1 ((x2 * (6 : Int32)) + x6).toNatClampNeg), .int (M1 ga3 ia3 ((x4 * (6 : Int32)) + x6).toNatClampNeg)]) (rest := []) hC hR hS (xc_Ey_weighed l G hg h) (xo_K1 hg) xv_Ey_87 ⟨rfl, rfl, Nat.le_of_ble_eq_true rfl, Nat.le_of_ble_eq_true rfl⟩ rfl hl.1 rfl (Nat.le_of_ble_eq_true rfl) xd_Ey_leastOfViews_43 (fun r4 M3 H locs h hR hS => ?_)
        refine lv_istore (pc := 46) (lv' := [(7, .int r4), (0, .ref (G.1 g 1)), (1, .ref (G.1 ga1 ia1)), (2, .int x2), (3, .ref (G.1 ga3 ia3)), (4, .int x4), (5, .int x5), (6, .int x6)]) hx hb xd_Ey_leastOfViews_46 hl (by decide) rfl (fun ls hl => ?_)
        refine lv_iload (pc := 48) hx hb xd_Ey_leastOfViews_48 (lv_at hl 6 rfl) ?_
        refine lv_iload (pc := 50) hx hb xd_Ey_leastOfViews_50 (lv_at hl 0 rfl) ?_
        refine xr_min (pc := 52) hC xk_Ey_73 hl.1 (Nat.le_of_ble_eq_true rfl) (Nat.le_of_ble_eq_true rfl) xd_Ey_leastOfViews_52 ?_
        refine lv_istore (pc := 55) (lv' := [(5, .int (if r4 < x5 then r4 else x5)), (7, .int r4), (0, .ref (G.1 g 1)), (1, .ref (G.1 ga1 ia1)), (2, .int x2), (3, .ref (G.1 ga3 ia3)), (4, .int x4), (6, .int x6)]) hx hb xd_Ey_leastOfViews_55 hl (by decide) rfl (fun ls hl => ?_)
        refine lv_iinc (pc := 57) (v := (x6 + (1 : Int32))) (lv' := [(6, .int (x6 + (1 : Int32))), (5, .int (if r4 < x5 then r4 else x5)), (7, .int r4), (0, .ref (G.1 g 1)), (1, .ref (G.1 ga1 ia1)), (2, .int x2), (3, .ref (G.1 ga3 ia3)), (4, .int x4)]) hx hb xd_Ey_leastOfViews_57 hl (k := 7) rfl rfl (by decide) rfl (fun ls hl => ?_)
        refine lv_goto (pc := 60) (tgt := 7) hx hb xd_Ey_leastOfViews_60 (by decide) ?_
        exact ih (if r4 < x5 then r4 else x5) (x6 + (1 : Int32)) M3 H locs ls h hR hS (lv_sub hl [3, 4, 5, 6, 7, 1, 0] rfl)
set_option maxHeartbeats 4000000 in
set_option maxRecDepth 100000 in
theorem xc_Ey_leastOfViews (l : Launch) (G : xG) {g : Nat} {ga1 ia1 na1 : Nat} {ga3 ia3 na3 : Nat} {a2 : Int32} {a4 : Int32} (hg : g < 4) (hla1 : xlay ga1 ia1 = some (.inr (na1, .inl false))) (hla3 : xlay ga3 ia3 = some (.inr (na3, .inl false))) {M : xM} {post : Int32 → xM → Prop} (h : xw_Ey_leastOfViews g ga1 ia1 na1 a2 ga3 ia3 na3 a4 M post) : Met l y_Ey_leastOfViews (Cond.code y_Ey_leastOfViews b_Ey_leastOfViews 8 (some .int) :: xTG) rm_Ey_leastOfViews (xPre G M [.ref (G.1 g 1), .ref (G.1 ga1 ia1), .int a2, .ref (G.1 ga3 ia3), .int a4]) (xPi G post) 0 0 (xA G) := by
  refine xMet (own := R_Ey) [.ref (G.1 g 1), .ref (G.1 ga1 ia1), .int a2, .ref (G.1 ga3 ia3), .int a4] (Or.inl (by decide)) rfl (Nat.le_of_ble_eq_true rfl) (fun p e s m args below meth c ls hC hr hlk hR hS hl => ?_)
  have hx := hC.1
  have hb := hC.2.1
  have hl : lv_has ls 8 [(0, .ref (G.1 g 1)), (1, .ref (G.1 ga1 ia1)), (2, .int a2), (3, .ref (G.1 ga3 ia3)), (4, .int a4)] := hl
  obtain ⟨H, eH⟩ : ∃ H : Heap, H = s.heap := ⟨_, rfl⟩
  obtain ⟨locs, eL⟩ : ∃ locs : List Loc, locs = [] := ⟨_, rfl⟩
  rw [← eH] at hR
  replace hS : va_S (xA G) s.heap H locs := by rw [eH, eL]; exact hS
  suffices hh : W p l e rm_Ey_leastOfViews s m args below meth c H locs 0 0 (MQ below (xPi G post) args s 0 0 (xA G)) (F0 m 0 ls []) from by rw [eH, eL] at hh; exact hh
  unfold xw_Ey_leastOfViews at h
  refine lv_ldc (pc := 0) (v := (2000000 : Int32)) hx hb hC.2.2.2.1 (hC.2.2.2.2.1 _ xk_Ey_79) xd_Ey_leastOfViews_0 ?_
  refine lv_istore (pc := 2) (lv' := [(5, .int (2000000 : Int32)), (0, .ref (G.1 g 1)), (1, .ref (G.1 ga1 ia1)), (2, .int a2), (3, .ref (G.1 ga3 ia3)), (4, .int a4)]) hx hb xd_Ey_leastOfViews_2 hl (by decide) rfl (fun ls hl => ?_)
  refine lv_iconst (pc := 4) (v := (0 : Int32)) hx hb xd_Ey_leastOfViews_4 (by decide) ?_
  refine lv_istore (pc := 5) (lv' := [(6, .int (0 : Int32)), (5, .int (2000000 : Int32)), (0, .ref (G.1 g 1)), (1, .ref (G.1 ga1 ia1)), (2, .int a2), (3, .ref (G.1 ga3 ia3)), (4, .int a4)]) hx hb xd_Ey_leastOfViews_5 hl (by decide) rfl (fun ls hl => ?_)
  obtain ⟨n, h⟩ := h
  refine xt_Ey_leastOfViews_7 hC hr hlk hg hla1 hla3 (fun y5 y6 M7 H locs ls h hR hS hl => ?_) n (2000000 : Int32) (0 : Int32) M H locs ls h hR hS (lv_sub hl [2, 3, 4, 5, 6, 1, 0] rfl)
  refine lv_iload (pc := 63) hx hb xd_Ey_leastOfViews_63 (lv_at hl 5 rfl) ?_
  exact xr_iret hC hr hlk hR hS h xd_Ey_leastOfViews_65

/-! ColoursApart$Chooser.measureFromFixed(LColoursApart$Kept;)V -/
theorem xd_Ch_measureFromFixed_0 : decode b_Ch_measureFromFixed 0 = .ok (.iconst 0, 1) := by decide +kernel
theorem xd_Ch_measureFromFixed_1 : decode b_Ch_measureFromFixed 1 = .ok (.istore_n 2, 1) := by decide +kernel
theorem xd_Ch_measureFromFixed_2 : decode b_Ch_measureFromFixed 2 = .ok (.iload_n 2, 1) := by decide +kernel
theorem xd_Ch_measureFromFixed_3 : decode b_Ch_measureFromFixed 3 = .ok (.aload_n 1, 1) := by decide +kernel
theorem xd_Ch_measureFromFixed_4 : decode b_Ch_measureFromFixed 4 = .ok (.getfield 81, 3) := by decide +kernel
theorem xd_Ch_measureFromFixed_7 : decode b_Ch_measureFromFixed 7 = .ok (.getfield 85, 3) := by decide +kernel
theorem xd_Ch_measureFromFixed_10 : decode b_Ch_measureFromFixed 10 = .ok (.if_icmp .ge 94, 3) := by decide +kernel
theorem xd_Ch_measureFromFixed_13 : decode b_Ch_measureFromFixed 13 = .ok (.aload_n 1, 1) := by decide +kernel
theorem xd_Ch_measureFromFixed_14 : decode b_Ch_measureFromFixed 14 = .ok (.getfield 81, 3) := by decide +kernel
theorem xd_Ch_measureFromFixed_17 : decode b_Ch_measureFromFixed 17 = .ok (.getfield 90, 3) := by decide +kernel
theorem xd_Ch_measureFromFixed_20 : decode b_Ch_measureFromFixed 20 = .ok (.iload_n 2, 1) := by decide +kernel
theorem xd_Ch_measureFromFixed_21 : decode b_Ch_measureFromFixed 21 = .ok (.baload, 1) := by decide +kernel
theorem xd_Ch_measureFromFixed_22 : decode b_Ch_measureFromFixed 22 = .ok (.ifCond .eq 76, 3) := by decide +kernel
theorem xd_Ch_measureFromFixed_25 : decode b_Ch_measureFromFixed 25 = .ok (.aload_n 1, 1) := by decide +kernel
theorem xd_Ch_measureFromFixed_26 : decode b_Ch_measureFromFixed 26 = .ok (.getfield 58, 3) := by decide +kernel
theorem xd_Ch_measureFromFixed_29 : decode b_Ch_measureFromFixed 29 = .ok (.aload_n 1, 1) := by decide +kernel
theorem xd_Ch_measureFromFixed_30 : decode b_Ch_measureFromFixed 30 = .ok (.getfield 81, 3) := by decide +kernel
theorem xd_Ch_measureFromFixed_33 : decode b_Ch_measureFromFixed 33 = .ok (.getfield 94, 3) := by decide +kernel
theorem xd_Ch_measureFromFixed_36 : decode b_Ch_measureFromFixed 36 = .ok (.iload_n 2, 1) := by decide +kernel
theorem xd_Ch_measureFromFixed_37 : decode b_Ch_measureFromFixed 37 = .ok (.iaload, 1) := by decide +kernel
theorem xd_Ch_measureFromFixed_38 : decode b_Ch_measureFromFixed 38 = .ok (.aload_n 0, 1) := by decide +kernel
theorem xd_Ch_measureFromFixed_39 : decode b_Ch_measureFromFixed 39 = .ok (.getfield 17, 3) := by decide +kernel
theorem xd_Ch_measureFromFixed_42 : decode b_Ch_measureFromFixed 42 = .ok (.iconst 0, 1) := by decide +kernel
theorem xd_Ch_measureFromFixed_43 : decode b_Ch_measureFromFixed 43 = .ok (.invokevirtual 75, 3) := by decide +kernel
theorem xd_Ch_measureFromFixed_46 : decode b_Ch_measureFromFixed 46 = .ok (.iconst 0, 1) := by decide +kernel
theorem xd_Ch_measureFromFixed_47 : decode b_Ch_measureFromFixed 47 = .ok (.istore_n 3, 1) := by decide +kernel
theorem xd_Ch_measureFromFixed_48 : decode b_Ch_measureFromFixed 48 = .ok (.iload_n 3, 1) := by decide +kernel
theorem xd_Ch_measureFromFixed_49 : decode b_Ch_measureFromFixed 49 = .ok (.aload_n 0, 1) := by decide +kernel
theorem xd_Ch_measureFromFixed_50 : decode b_Ch_measureFromFixed 50 = .ok (.getfield 36, 3) := by decide +kernel
theorem xd_Ch_measureFromFixed_53 : decode b_Ch_measureFromFixed 53 = .ok (.if_icmp .ge 45, 3) := by decide +kernel
theorem xd_Ch_measureFromFixed_56 : decode b_Ch_measureFromFixed 56 = .ok (.aload_n 1, 1) := by decide +kernel
theorem xd_Ch_measureFromFixed_57 : decode b_Ch_measureFromFixed 57 = .ok (.getfield 58, 3) := by decide +kernel
theorem xd_Ch_measureFromFixed_60 : decode b_Ch_measureFromFixed 60 = .ok (.aload_n 0, 1) := by decide +kernel
theorem xd_Ch_measureFromFixed_61 : decode b_Ch_measureFromFixed 61 = .ok (.getfield 17, 3) := by decide +kernel
theorem xd_Ch_measureFromFixed_64 : decode b_Ch_measureFromFixed 64 = .ok (.iconst 0, 1) := by decide +kernel
theorem xd_Ch_measureFromFixed_65 : decode b_Ch_measureFromFixed 65 = .ok (.aload_n 0, 1) := by decide +kernel
theorem xd_Ch_measureFromFixed_66 : decode b_Ch_measureFromFixed 66 = .ok (.getfield 11, 3) := by decide +kernel
theorem xd_Ch_measureFromFixed_69 : decode b_Ch_measureFromFixed 69 = .ok (.iload_n 3, 1) := by decide +kernel
theorem xd_Ch_measureFromFixed_70 : decode b_Ch_measureFromFixed 70 = .ok (.invokevirtual 97, 3) := by decide +kernel
theorem xd_Ch_measureFromFixed_73 : decode b_Ch_measureFromFixed 73 = .ok (.istore 4, 2) := by decide +kernel
theorem xd_Ch_measureFromFixed_75 : decode b_Ch_measureFromFixed 75 = .ok (.aload_n 0, 1) := by decide +kernel
theorem xd_Ch_measureFromFixed_76 : decode b_Ch_measureFromFixed 76 = .ok (.getfield 20, 3) := by decide +kernel
theorem xd_Ch_measureFromFixed_79 : decode b_Ch_measureFromFixed 79 = .ok (.iload_n 3, 1) := by decide +kernel
theorem xd_Ch_measureFromFixed_80 : decode b_Ch_measureFromFixed 80 = .ok (.aload_n 0, 1) := by decide +kernel
theorem xd_Ch_measureFromFixed_81 : decode b_Ch_measureFromFixed 81 = .ok (.getfield 20, 3) := by decide +kernel
theorem xd_Ch_measureFromFixed_84 : decode b_Ch_measureFromFixed 84 = .ok (.iload_n 3, 1) := by decide +kernel
theorem xd_Ch_measureFromFixed_85 : decode b_Ch_measureFromFixed 85 = .ok (.iaload, 1) := by decide +kernel
theorem xd_Ch_measureFromFixed_86 : decode b_Ch_measureFromFixed 86 = .ok (.iload 4, 2) := by decide +kernel
theorem xd_Ch_measureFromFixed_88 : decode b_Ch_measureFromFixed 88 = .ok (.invokestatic 101, 3) := by decide +kernel
theorem xd_Ch_measureFromFixed_91 : decode b_Ch_measureFromFixed 91 = .ok (.iastore, 1) := by decide +kernel
theorem xd_Ch_measureFromFixed_92 : decode b_Ch_measureFromFixed 92 = .ok (.iinc 3 1, 3) := by decide +kernel
theorem xd_Ch_measureFromFixed_95 : decode b_Ch_measureFromFixed 95 = .ok (.goto (-47), 3) := by decide +kernel
theorem xd_Ch_measureFromFixed_98 : decode b_Ch_measureFromFixed 98 = .ok (.iinc 2 1, 3) := by decide +kernel
theorem xd_Ch_measureFromFixed_101 : decode b_Ch_measureFromFixed 101 = .ok (.goto (-99), 3) := by decide +kernel
theorem xd_Ch_measureFromFixed_104 : decode b_Ch_measureFromFixed 104 = .ok (.return_, 1) := by decide +kernel
abbrev rm_Ch_measureFromFixed : Room := { frames := 4, cells := 0, slots := 0, locals := 94 }
def xw_Ch_measureFromFixed_48 (g1 : Nat) (x2 : Int32) (post : xM → Prop) (k98 : Int32 → xM → Prop) : Nat → Int32 → xM → Prop
  | 0, _, _ => False
  | n48 + 1, x3, M => (((M 8 4 7) ≤ x3) → (k98 x3 M)) ∧ ((¬ (M 8 4 7) ≤ x3) → (xw_Ey_leastOfViews g1 8 6 6 (0 : Int32) 8 5 384 x3 M (fun (r3 : Int32) (M2 : xM) => (vp_in x3 64) ∧ ((vp_in x3 64) ∧ (xw_Ch_measureFromFixed_48 g1 x2 post k98 n48 (x3 + (1 : Int32)) (us M2 8 7 x3.toNatClampNeg (if r3 < (M2 8 7 x3.toNatClampNeg) then r3 else (M2 8 7 x3.toNatClampNeg))))))))
def xw_Ch_measureFromFixed_2 (g1 : Nat) (post : xM → Prop) (k104 : Int32 → xM → Prop) : Nat → Int32 → xM → Prop
  | 0, _, _ => False
  | n2 + 1, x2, M => (((M g1 3 0) ≤ x2) → (k104 x2 M)) ∧ ((¬ (M g1 3 0) ≤ x2) → ((vp_in x2 12) ∧ ((((M g1 5 x2.toNatClampNeg) = 0) → (xw_Ch_measureFromFixed_2 g1 post k104 n2 (x2 + (1 : Int32)) M)) ∧ ((¬ (M g1 5 x2.toNatClampNeg) = 0) → ((vp_in x2 12) ∧ (xw_Ey_lookWithAll g1 (M g1 4 x2.toNatClampNeg) 8 6 6 (0 : Int32) M (fun (M1 : xM) => ∃ n48 : Nat, xw_Ch_measureFromFixed_48 g1 x2 post (fun (y4 : Int32) (M5 : xM) => xw_Ch_measureFromFixed_2 g1 post k104 n2 (x2 + (1 : Int32)) M5) n48 (0 : Int32) M1)))))))
def xw_Ch_measureFromFixed (g1 : Nat) (M : xM) (post : xM → Prop) : Prop :=
  ∃ n2 : Nat, xw_Ch_measureFromFixed_2 g1 post (fun (y6 : Int32) (M7 : xM) => post M7) n2 (0 : Int32) M
set_option maxHeartbeats 4000000 in
set_option maxRecDepth 100000 in
theorem xt_Ch_measureFromFixed_48 {p : Program} {l : Launch} {e : Env} {s : State} {m : MethodId} {args : Array Value} {below : List Frame} {meth : Method} {c : Code} {G : xG} (hC : xC p s m args c b_Ch_measureFromFixed R_Ch 5 G) (hr : meth.sig.returnType = none) (hlk : meth.locks = false) {g1 : Nat} (hg1 : g1 < 4) {x2 : Int32} {post : xM → Prop} {k98 : Int32 → xM → Prop} (hk98 : ∀ (x3 : Int32) (M : xM) (H : Heap) (locs : List Loc) (ls : Array Slot), k98 x3 M → xRp G M H → va_S (xA G) s.heap H locs → lv_has ls 5 [(0, .ref (G.1 8 4)), (1, .ref (G.1 g1 0)), (2, .int x2), (3, .int x3)] → W p l e rm_Ch_measureFromFixed s m args below meth c H locs 0 0 (MQ below (xPv G post) args s 0 0 (xA G)) (F0 m 98 ls [])) : ∀ (n : Nat) (x3 : Int32) (M : xM) (H : Heap) (locs : List Loc) (ls : Array Slot), xw_Ch_measureFromFixed_48 g1 x2 post k98 n x3 M → xRp G M H → va_S (xA G) s.heap H locs → lv_has ls 5 [(0, .ref (G.1 8 4)), (1, .ref (G.1 g1 0)), (2, .int x2), (3, .int x3)] → W p l e rm_Ch_measureFromFixed s m args below meth c H locs 0 0 (MQ below (xPv G post) args s 0 0 (xA G)) (F0 m 48 ls []) := by
  have hx := hC.1
  have hb := hC.2.1
  intro n
  induction n with
  | zero => intro x3 M H locs ls; exact fun h => h.elim
  | succ n ih =>
    intro x3 M H locs ls h hR hS hl
    refine lv_iload_n (pc := 48) hx hb xd_Ch_measureFromFixed_48 rfl (lv_at hl 3 rfl) ?_
    refine lv_aload_n (pc := 49) hx hb xd_Ch_measureFromFixed_49 rfl (lv_at hl 0 rfl) ?_
    refine xr_get (pc := 50) (v := .int (M 8 4 7)) hC hR xo_C4 xf_Ch_36 rfl xd_Ch_measureFromFixed_50 ?_
    refine lv_icmp_ge (pc := 53) (tgt := 98) hx hb xd_Ch_measureFromFixed_53 (by decide) (fun hq => ?_) (fun hq => ?_)
    · have h := h.1 hq
      exact hk98 x3 M H locs ls h hR hS (lv_sub hl [0, 1, 2, 3] rfl)
    · have h := h.2 hq
      refine lv_aload_n (pc := 56) hx hb xd_Ch_measureFromFixed_56 rfl (lv_at hl 1 rfl) ?_
      refine xr_get (pc := 57) (v := .ref (G.1 g1 1)) hC hR (xo_K0 hg1) xf_Ch_58 rfl xd_Ch_measureFromFixed_57 ?_
      refine lv_aload_n (pc := 60) hx hb xd_Ch_measureFromFixed_60 rfl (lv_at hl 0 rfl) ?_
      refine xr_get (pc := 61) (v := .ref (G.1 8 6)) hC hR xo_C4 xf_Ch_17 rfl xd_Ch_measureFromFixed_61 ?_
      refine lv_iconst (pc := 64) (v := (0 : Int32)) hx hb xd_Ch_measureFromFixed_64 (by decide) ?_
      refine lv_aload_n (pc := 65) hx hb xd_Ch_measureFromFixed_65 rfl (lv_at hl 0 rfl) ?_
      refine xr_get (pc := 66) (v := .ref (G.1 8 5)) hC hR xo_C4 xf_Ch_11 rfl xd_Ch_measureFromFixed_66 ?_
      refine lv_iload_n (pc := 69) hx hb xd_Ch_measureFromFixed_69 rfl (lv_at hl 3 rfl) ?_
      refine xr_callV (pc := 70) (As := [.ref (G.1 8 6), .int (0 : Int32), .ref (G.1 8 5), .int x3]) (rest := []) hC hR hS (xc_Ey_leastOfViews l G hg1 xo_C6 xo_C5 h) (xo_K1 hg1) xv_Ch_97 ⟨rfl, rfl, Nat.le_of_ble_eq_true rfl, Nat.le_of_ble_eq_true rfl⟩ rfl hl.1 rfl (Nat.le_of_ble_eq_true rfl) xd_Ch_measureFromFixed_70 (fun r3 M2 H locs h hR hS => ?_)
      refine lv_istore (pc := 73) (lv' := [(4, .int r3), (0, .ref (G.1 8 4)), (1, .ref (G.1 g1 0)), (2, .int x2), (3, .int x3)]) hx hb xd_Ch_measureFromFixed_73 hl (by decide) rfl (fun ls hl => ?_)
      refine lv_aload_n (pc := 75) hx hb xd_Ch_measureFromFixed_75 rfl (lv_at hl 1 rfl) ?_
      refine xr_get (pc := 76) (v := .ref (G.1 8 7)) hC hR xo_C4 xf_Ch_20 rfl xd_Ch_measureFromFixed_76 ?_
      refine lv_iload_n (pc := 79) hx hb xd_Ch_measureFromFixed_79 rfl (lv_at hl 4 rfl) ?_
      refine lv_aload_n (pc := 80) hx hb xd_Ch_measureFromFixed_80 rfl (lv_at hl 1 rfl) ?_
      refine xr_get (pc := 81) (v := .ref (G.1 8 7)) hC hR xo_C4 xf_Ch_20 rfl xd_Ch_measureFromFixed_81 ?_
      refine lv_iload_n (pc := 84) hx hb xd_Ch_measureFromFixed_84 rfl (lv_at hl 4 rfl) ?_
      obtain ⟨hq, h⟩ := h
      refine xr_iald (pc := 85) hC hR xo_C7 hq xd_Ch_measureFromFixed_85 ?_
      refine lv_iload (pc := 86) hx hb xd_Ch_measureFromFixed_86 (lv_at hl 0 rfl) ?_
      refine xr_min (pc := 88) hC xk_Ch_101 hl.1 (Nat.le_of_ble_eq_true rfl) (Nat.le_of_ble_eq_true rfl) xd_Ch_measureFromFixed_88 ?_
      obtain ⟨hq, h⟩ := h
      refine xr_iast (pc := 91) hC hR hS xo_C7 hq xd_Ch_measureFromFixed_91 (fun H locs hR hS => ?_)
      refine lv_iinc (pc := 92) (v := (x3 + (1 : Int32))) (lv' := [(3, .int (x3 + (1 : Int32))), (4, .int r3), (0, .ref (G.1 8 4)), (1, .ref (G.1 g1 0)), (2, .int x2)]) hx hb xd_Ch_measureFromFixed_92 hl (k := 4) rfl rfl (by decide) rfl (fun ls hl => ?_)
      refine lv_goto (pc := 95) (tgt := 48) hx hb xd_Ch_measureFromFixed_95 (by decide) ?_
      exact ih (x3 + (1 : Int32)) (us M2 8 7 x3.toNatClampNeg (if r3 < (M2 8 7 x3.toNatClampNeg) then r3 else (M2 8 7 x3.toNatClampNeg))) H locs ls h hR hS (lv_sub hl [2, 3, 4, 0] rfl)
set_option maxHeartbeats 4000000 in
set_option maxRecDepth 100000 in
theorem xt_Ch_measureFromFixed_2 {p : Program} {l : Launch} {e : Env} {s : State} {m : MethodId} {args : Array Value} {below : List Frame} {meth : Method} {c : Code} {G : xG} (hC : xC p s m args c b_Ch_measureFromFixed R_Ch 5 G) (hr : meth.sig.returnType = none) (hlk : meth.locks = false) {g1 : Nat} (hg1 : g1 < 4) {post : xM → Prop} {k104 : Int32 → xM → Prop} (hk104 : ∀ (x2 : Int32) (M : xM) (H : Heap) (locs : List Loc) (ls : Array Slot), k104 x2 M → xRp G M H → va_S (xA G) s.heap H locs → lv_has ls 5 [(0, .ref (G.1 8 4)), (1, .ref (G.1 g1 0)), (2, .int x2)] → W p l e rm_Ch_measureFromFixed s m args below meth c H locs 0 0 (MQ below (xPv G post) args s 0 0 (xA G)) (F0 m 104 ls [])) : ∀ (n : Nat) (x2 : Int32) (M : xM) (H : Heap) (locs : List Loc) (ls : Array Slot), xw_Ch_measureFromFixed_2 g1 post k104 n x2 M → xRp G M H → va_S (xA G) s.heap H locs → lv_has ls 5 [(0, .ref (G.1 8 4)), (1, .ref (G.1 g1 0)), (2, .int x2)] → W p l e rm_Ch_measureFromFixed s m args below meth c H locs 0 0 (MQ below (xPv G post) args s 0 0 (xA G)) (F0 m 2 ls []) := by
  have hx := hC.1
  have hb := hC.2.1
  intro n
  induction n with
  | zero => intro x2 M H locs ls; exact fun h => h.elim
  | succ n ih =>
    intro x2 M H locs ls h hR hS hl
    refine lv_iload_n (pc := 2) hx hb xd_Ch_measureFromFixed_2 rfl (lv_at hl 2 rfl) ?_
    refine lv_aload_n (pc := 3) hx hb xd_Ch_measureFromFixed_3 rfl (lv_at hl 1 rfl) ?_
    refine xr_get (pc := 4) (v := .ref (G.1 g1 3)) hC hR (xo_K0 hg1) xf_Ch_81 rfl xd_Ch_measureFromFixed_4 ?_
    refine xr_get (pc := 7) (v := .int (M g1 3 0)) hC hR (xo_K3 hg1) xf_Ch_85 rfl xd_Ch_measureFromFixed_7 ?_
    refine lv_icmp_ge (pc := 10) (tgt := 104) hx hb xd_Ch_measureFromFixed_10 (by decide) (fun hq => ?_) (fun hq => ?_)
    · have h := h.1 hq
      exact hk104 x2 M H locs ls h hR hS (lv_sub hl [0, 1, 2] rfl)
    · have h := h.2 hq
      refine lv_aload_n (pc := 13) hx hb xd_Ch_measureFromFixed_13 rfl (lv_at hl 1 rfl) ?_
      refine xr_get (pc := 14) (v := .ref (G.1 g1 3)) hC hR (xo_K0 hg1) xf_Ch_81 rfl xd_Ch_measureFromFixed_14 ?_
      refine xr_get (pc := 17) (v := .ref (G.1 g1 5)) hC hR (xo_K3 hg1) xf_Ch_90 rfl xd_Ch_measureFromFixed_17 ?_
      refine lv_iload_n (pc := 20) hx hb xd_Ch_measureFromFixed_20 rfl (lv_at hl 2 rfl) ?_
      obtain ⟨hq, h⟩ := h
      refine xr_zald (pc := 21) hC hR (xo_K5 hg1) hq xd_Ch_measureFromFixed_21 ?_
      refine lv_if_eq (pc := 22) (tgt := 98) hx hb xd_Ch_measureFromFixed_22 (by decide) (fun hq => ?_) (fun hq => ?_)
      · have h := h.1 hq
        refine lv_iinc (pc := 98) (v := (x2 + (1 : Int32))) (lv' := [(2, .int (x2 + (1 : Int32))), (0, .ref (G.1 8 4)), (1, .ref (G.1 g1 0))]) hx hb xd_Ch_measureFromFixed_98 hl (k := 2) rfl rfl (by decide) rfl (fun ls hl => ?_)
        refine lv_goto (pc := 101) (tgt := 2) hx hb xd_Ch_measureFromFixed_101 (by decide) ?_
        exact ih (x2 + (1 : Int32)) M H locs ls h hR hS (lv_sub hl [1, 2, 0] rfl)
      · have h := h.2 hq
        refine lv_aload_n (pc := 25) hx hb xd_Ch_measureFromFixed_25 rfl (lv_at hl 1 rfl) ?_
        refine xr_get (pc := 26) (v := .ref (G.1 g1 1)) hC hR (xo_K0 hg1) xf_Ch_58 rfl xd_Ch_measureFromFixed_26 ?_
        refine lv_aload_n (pc := 29) hx hb xd_Ch_measureFromFixed_29 rfl (lv_at hl 1 rfl) ?_
        refine xr_get (pc := 30) (v := .ref (G.1 g1 3)) hC hR (xo_K0 hg1) xf_Ch_81 rfl xd_Ch_measureFromFixed_30 ?_
        refine xr_get (pc := 33) (v := .ref (G.1 g1 4)) hC hR (xo_K3 hg1) xf_Ch_94 rfl xd_Ch_measureFromFixed_33 ?_
        refine lv_iload_n (pc := 36) hx hb xd_Ch_measureFromFixed_36 rfl (lv_at hl 2 rfl) ?_
        obtain ⟨hq, h⟩ := h
        refine xr_iald (pc := 37) hC hR (xo_K4 hg1) hq xd_Ch_measureFromFixed_37 ?_
        refine lv_aload_n (pc := 38) hx hb xd_Ch_measureFromFixed_38 rfl (lv_at hl 0 rfl) ?_
        refine xr_get (pc := 39) (v := .ref (G.1 8 6)) hC hR xo_C4 xf_Ch_17 rfl xd_Ch_measureFromFixed_39 ?_
        refine lv_iconst (pc := 42) (v := (0 : Int32)) hx hb xd_Ch_measureFromFixed_42 (by decide) ?_
        refine xr_callVv (pc := 43) (As := [.int (M g1 4 x2.toNatClampNeg), .ref (G.1 8 6), .int (0 : Int32)]) (rest := []) hC hR hS (xc_Ey_lookWithAll l G hg1 xo_C6 h) (xo_K1 hg1) xv_Ch_75 ⟨rfl, rfl, Nat.le_of_ble_eq_true rfl, Nat.le_of_ble_eq_true rfl⟩ rfl hl.1 rfl (Nat.le_of_ble_eq_true rfl) xd_Ch_measureFromFixed_43 (fun M1 H locs h hR hS => ?_)
        refine lv_iconst (pc := 46) (v := (0 : Int32)) hx hb xd_Ch_measureFromFixed_46 (by decide) ?_
        refine lv_istore_n (pc := 47) (lv' := [(3, .int (0 : Int32)), (0, .ref (G.1 8 4)), (1, .ref (G.1 g1 0)), (2, .int x2)]) hx hb xd_Ch_measureFromFixed_47 rfl hl (by decide) rfl (fun ls hl => ?_)
        obtain ⟨n, h⟩ := h
        refine xt_Ch_measureFromFixed_48 hC hr hlk hg1 (fun y4 M5 H locs ls h hR hS hl => ?_) n (0 : Int32) M1 H locs ls h hR hS (lv_sub hl [1, 2, 3, 0] rfl)
        refine lv_iinc (pc := 98) (v := (x2 + (1 : Int32))) (lv' := [(2, .int (x2 + (1 : Int32))), (0, .ref (G.1 8 4)), (1, .ref (G.1 g1 0)), (3, .int y4)]) hx hb xd_Ch_measureFromFixed_98 hl (k := 2) rfl rfl (by decide) rfl (fun ls hl => ?_)
        refine lv_goto (pc := 101) (tgt := 2) hx hb xd_Ch_measureFromFixed_101 (by decide) ?_
        exact ih (x2 + (1 : Int32)) M5 H locs ls h hR hS (lv_sub hl [1, 2, 0] rfl)
set_option maxHeartbeats 4000000 in
set_option maxRecDepth 100000 in
theorem xc_Ch_measureFromFixed (l : Launch) (G : xG) {g1 : Nat} (hg1 : g1 < 4) {M : xM} {post : xM → Prop} (h : xw_Ch_measureFromFixed g1 M post) : Met l y_Ch_measureFromFixed (Cond.code y_Ch_measureFromFixed b_Ch_measureFromFixed 5 none :: xTG) rm_Ch_measureFromFixed (xPre G M [.ref (G.1 8 4), .ref (G.1 g1 0)]) (xPv G post) 0 0 (xA G) := by
  refine xMet (own := R_Ch) [.ref (G.1 8 4), .ref (G.1 g1 0)] (Or.inl (by decide)) rfl (Nat.le_of_ble_eq_true rfl) (fun p e s m args below meth c ls hC hr hlk hR hS hl => ?_)
  have hx := hC.1
  have hb := hC.2.1
  have hl : lv_has ls 5 [(0, .ref (G.1 8 4)), (1, .ref (G.1 g1 0))] := hl
  obtain ⟨H, eH⟩ : ∃ H : Heap, H = s.heap := ⟨_, rfl⟩
  obtain ⟨locs, eL⟩ : ∃ locs : List Loc, locs = [] := ⟨_, rfl⟩
  rw [← eH] at hR
  replace hS : va_S (xA G) s.heap H locs := by rw [eH, eL]; exact hS
  suffices hh : W p l e rm_Ch_measureFromFixed s m args below meth c H locs 0 0 (MQ below (xPv G post) args s 0 0 (xA G)) (F0 m 0 ls []) from by rw [eH, eL] at hh; exact hh
  unfold xw_Ch_measureFromFixed at h
  refine lv_iconst (pc := 0) (v := (0 : Int32)) hx hb xd_Ch_measureFromFixed_0 (by decide) ?_
  refine lv_istore_n (pc := 1) (lv' := [(2, .int (0 : Int32)), (0, .ref (G.1 8 4)), (1, .ref (G.1 g1 0))]) hx hb xd_Ch_measureFromFixed_1 rfl hl (by decide) rfl (fun ls hl => ?_)
  obtain ⟨n, h⟩ := h
  refine xt_Ch_measureFromFixed_2 hC hr hlk hg1 (fun y6 M7 H locs ls h hR hS hl => ?_) n (0 : Int32) M H locs ls h hR hS (lv_sub hl [1, 2, 0] rfl)
  exact xr_vret hC hr hlk hR hS h xd_Ch_measureFromFixed_104

/-! ColoursApart$Chooser.measureBetween(LColoursApart$Eyes;)V -/
theorem xd_Ch_measureBetween_0 : decode b_Ch_measureBetween 0 = .ok (.aload_n 0, 1) := by decide +kernel
theorem xd_Ch_measureBetween_1 : decode b_Ch_measureBetween 1 = .ok (.getfield 32, 3) := by decide +kernel
theorem xd_Ch_measureBetween_4 : decode b_Ch_measureBetween 4 = .ok (.iconst 1, 1) := by decide +kernel
theorem xd_Ch_measureBetween_5 : decode b_Ch_measureBetween 5 = .ok (.if_icmp .ne 4, 3) := by decide +kernel
theorem xd_Ch_measureBetween_8 : decode b_Ch_measureBetween 8 = .ok (.return_, 1) := by decide +kernel
theorem xd_Ch_measureBetween_9 : decode b_Ch_measureBetween 9 = .ok (.iconst 0, 1) := by decide +kernel
theorem xd_Ch_measureBetween_10 : decode b_Ch_measureBetween 10 = .ok (.istore_n 2, 1) := by decide +kernel
theorem xd_Ch_measureBetween_11 : decode b_Ch_measureBetween 11 = .ok (.iload_n 2, 1) := by decide +kernel
theorem xd_Ch_measureBetween_12 : decode b_Ch_measureBetween 12 = .ok (.aload_n 0, 1) := by decide +kernel
theorem xd_Ch_measureBetween_13 : decode b_Ch_measureBetween 13 = .ok (.getfield 36, 3) := by decide +kernel
theorem xd_Ch_measureBetween_16 : decode b_Ch_measureBetween 16 = .ok (.if_icmp .ge 52, 3) := by decide +kernel
theorem xd_Ch_measureBetween_19 : decode b_Ch_measureBetween 19 = .ok (.iload_n 2, 1) := by decide +kernel
theorem xd_Ch_measureBetween_20 : decode b_Ch_measureBetween 20 = .ok (.iconst 1, 1) := by decide +kernel
theorem xd_Ch_measureBetween_21 : decode b_Ch_measureBetween 21 = .ok (.iadd, 1) := by decide +kernel
theorem xd_Ch_measureBetween_22 : decode b_Ch_measureBetween 22 = .ok (.istore_n 3, 1) := by decide +kernel
theorem xd_Ch_measureBetween_23 : decode b_Ch_measureBetween 23 = .ok (.iload_n 3, 1) := by decide +kernel
theorem xd_Ch_measureBetween_24 : decode b_Ch_measureBetween 24 = .ok (.aload_n 0, 1) := by decide +kernel
theorem xd_Ch_measureBetween_25 : decode b_Ch_measureBetween 25 = .ok (.getfield 36, 3) := by decide +kernel
theorem xd_Ch_measureBetween_28 : decode b_Ch_measureBetween 28 = .ok (.if_icmp .ge 34, 3) := by decide +kernel
theorem xd_Ch_measureBetween_31 : decode b_Ch_measureBetween 31 = .ok (.aload_n 0, 1) := by decide +kernel
theorem xd_Ch_measureBetween_32 : decode b_Ch_measureBetween 32 = .ok (.getfield 23, 3) := by decide +kernel
theorem xd_Ch_measureBetween_35 : decode b_Ch_measureBetween 35 = .ok (.iload_n 2, 1) := by decide +kernel
theorem xd_Ch_measureBetween_36 : decode b_Ch_measureBetween 36 = .ok (.bipush 64, 2) := by decide +kernel
theorem xd_Ch_measureBetween_38 : decode b_Ch_measureBetween 38 = .ok (.imul, 1) := by decide +kernel
theorem xd_Ch_measureBetween_39 : decode b_Ch_measureBetween 39 = .ok (.iload_n 3, 1) := by decide +kernel
theorem xd_Ch_measureBetween_40 : decode b_Ch_measureBetween 40 = .ok (.iadd, 1) := by decide +kernel
theorem xd_Ch_measureBetween_41 : decode b_Ch_measureBetween 41 = .ok (.aload_n 1, 1) := by decide +kernel
theorem xd_Ch_measureBetween_42 : decode b_Ch_measureBetween 42 = .ok (.aload_n 0, 1) := by decide +kernel
theorem xd_Ch_measureBetween_43 : decode b_Ch_measureBetween 43 = .ok (.getfield 11, 3) := by decide +kernel
theorem xd_Ch_measureBetween_46 : decode b_Ch_measureBetween 46 = .ok (.iload_n 2, 1) := by decide +kernel
theorem xd_Ch_measureBetween_47 : decode b_Ch_measureBetween 47 = .ok (.aload_n 0, 1) := by decide +kernel
theorem xd_Ch_measureBetween_48 : decode b_Ch_measureBetween 48 = .ok (.getfield 11, 3) := by decide +kernel
theorem xd_Ch_measureBetween_51 : decode b_Ch_measureBetween 51 = .ok (.iload_n 3, 1) := by decide +kernel
theorem xd_Ch_measureBetween_52 : decode b_Ch_measureBetween 52 = .ok (.invokevirtual 97, 3) := by decide +kernel
theorem xd_Ch_measureBetween_55 : decode b_Ch_measureBetween 55 = .ok (.iastore, 1) := by decide +kernel
theorem xd_Ch_measureBetween_56 : decode b_Ch_measureBetween 56 = .ok (.iinc 3 1, 3) := by decide +kernel
theorem xd_Ch_measureBetween_59 : decode b_Ch_measureBetween 59 = .ok (.goto (-36), 3) := by decide +kernel
theorem xd_Ch_measureBetween_62 : decode b_Ch_measureBetween 62 = .ok (.iinc 2 1, 3) := by decide +kernel
theorem xd_Ch_measureBetween_65 : decode b_Ch_measureBetween 65 = .ok (.goto (-54), 3) := by decide +kernel
theorem xd_Ch_measureBetween_68 : decode b_Ch_measureBetween 68 = .ok (.return_, 1) := by decide +kernel
abbrev rm_Ch_measureBetween : Room := { frames := 3, cells := 0, slots := 0, locals := 72 }
def xw_Ch_measureBetween_23 (g1 : Nat) (x2 : Int32) (post : xM → Prop) (k62 : Int32 → xM → Prop) : Nat → Int32 → xM → Prop
  | 0, _, _ => False
  | n23 + 1, x3, M => (((M 8 4 7) ≤ x3) → (k62 x3 M)) ∧ ((¬ (M 8 4 7) ≤ x3) → (xw_Ey_leastOfViews g1 8 5 384 x2 8 5 384 x3 M (fun (r2 : Int32) (M1 : xM) => (vp_in ((x2 * (64 : Int32)) + x3) 4096) ∧ (xw_Ch_measureBetween_23 g1 x2 post k62 n23 (x3 + (1 : Int32)) (us M1 8 8 ((x2 * (64 : Int32)) + x3).toNatClampNeg r2)))))
def xw_Ch_measureBetween_11 (g1 : Nat) (post : xM → Prop) (k68 : Int32 → xM → Prop) : Nat → Int32 → xM → Prop
  | 0, _, _ => False
  | n11 + 1, x2, M => (((M 8 4 7) ≤ x2) → (k68 x2 M)) ∧ ((¬ (M 8 4 7) ≤ x2) → (∃ n23 : Nat, xw_Ch_measureBetween_23 g1 x2 post (fun (y3 : Int32) (M4 : xM) => xw_Ch_measureBetween_11 g1 post k68 n11 (x2 + (1 : Int32)) M4) n23 (x2 + (1 : Int32)) M))
def xw_Ch_measureBetween (g1 : Nat) (M : xM) (post : xM → Prop) : Prop :=
  ((¬ (M 8 4 6) = (1 : Int32)) → (∃ n11 : Nat, xw_Ch_measureBetween_11 g1 post (fun (y5 : Int32) (M6 : xM) => post M6) n11 (0 : Int32) M)) ∧ (((M 8 4 6) = (1 : Int32)) → (post M))
set_option maxHeartbeats 4000000 in
set_option maxRecDepth 100000 in
theorem xt_Ch_measureBetween_23 {p : Program} {l : Launch} {e : Env} {s : State} {m : MethodId} {args : Array Value} {below : List Frame} {meth : Method} {c : Code} {G : xG} (hC : xC p s m args c b_Ch_measureBetween R_Ch 4 G) (hr : meth.sig.returnType = none) (hlk : meth.locks = false) {g1 : Nat} (hg1 : g1 < 4) {x2 : Int32} {post : xM → Prop} {k62 : Int32 → xM → Prop} (hk62 : ∀ (x3 : Int32) (M : xM) (H : Heap) (locs : List Loc) (ls : Array Slot), k62 x3 M → xRp G M H → va_S (xA G) s.heap H locs → lv_has ls 4 [(0, .ref (G.1 8 4)), (1, .ref (G.1 g1 1)), (2, .int x2), (3, .int x3)] → W p l e rm_Ch_measureBetween s m args below meth c H locs 0 0 (MQ below (xPv G post) args s 0 0 (xA G)) (F0 m 62 ls [])) : ∀ (n : Nat) (x3 : Int32) (M : xM) (H : Heap) (locs : List Loc) (ls : Array Slot), xw_Ch_measureBetween_23 g1 x2 post k62 n x3 M → xRp G M H → va_S (xA G) s.heap H locs → lv_has ls 4 [(0, .ref (G.1 8 4)), (1, .ref (G.1 g1 1)), (2, .int x2), (3, .int x3)] → W p l e rm_Ch_measureBetween s m args below meth c H locs 0 0 (MQ below (xPv G post) args s 0 0 (xA G)) (F0 m 23 ls []) := by
  have hx := hC.1
  have hb := hC.2.1
  intro n
  induction n with
  | zero => intro x3 M H locs ls; exact fun h => h.elim
  | succ n ih =>
    intro x3 M H locs ls h hR hS hl
    refine lv_iload_n (pc := 23) hx hb xd_Ch_measureBetween_23 rfl (lv_at hl 3 rfl) ?_
    refine lv_aload_n (pc := 24) hx hb xd_Ch_measureBetween_24 rfl (lv_at hl 0 rfl) ?_
    refine xr_get (pc := 25) (v := .int (M 8 4 7)) hC hR xo_C4 xf_Ch_36 rfl xd_Ch_measureBetween_25 ?_
    refine lv_icmp_ge (pc := 28) (tgt := 62) hx hb xd_Ch_measureBetween_28 (by decide) (fun hq => ?_) (fun hq => ?_)
    · have h := h.1 hq
      exact hk62 x3 M H locs ls h hR hS (lv_sub hl [0, 1, 2, 3] rfl)
    · have h := h.2 hq
      refine lv_aload_n (pc := 31) hx hb xd_Ch_measureBetween_31 rfl (lv_at hl 0 rfl) ?_
      refine xr_get (pc := 32) (v := .ref (G.1 8 8)) hC hR xo_C4 xf_Ch_23 rfl xd_Ch_measureBetween_32 ?_
      refine lv_iload_n (pc := 35) hx hb xd_Ch_measureBetween_35 rfl (lv_at hl 2 rfl) ?_
      refine lv_bipush (pc := 36) (v := (64 : Int32)) hx hb xd_Ch_measureBetween_36 (by decide) ?_
      refine lv_imul (pc := 38) hx hb xd_Ch_measureBetween_38 ?_
      refine lv_iload_n (pc := 39) hx hb xd_Ch_measureBetween_39 rfl (lv_at hl 3 rfl) ?_
      refine lv_iadd (pc := 40) hx hb xd_Ch_measureBetween_40 ?_
      refine lv_aload_n (pc := 41) hx hb xd_Ch_measureBetween_41 rfl (lv_at hl 1 rfl) ?_
      refine lv_aload_n (pc := 42) hx hb xd_Ch_measureBetween_42 rfl (lv_at hl 0 rfl) ?_
      refine xr_get (pc := 43) (v := .ref (G.1 8 5)) hC hR xo_C4 xf_Ch_11 rfl xd_Ch_measureBetween_43 ?_
      refine lv_iload_n (pc := 46) hx hb xd_Ch_measureBetween_46 rfl (lv_at hl 2 rfl) ?_
      refine lv_aload_n (pc := 47) hx hb xd_Ch_measureBetween_47 rfl (lv_at hl 0 rfl) ?_
      refine xr_get (pc := 48) (v := .ref (G.1 8 5)) hC hR xo_C4 xf_Ch_11 rfl xd_Ch_measureBetween_48 ?_
      refine lv_iload_n (pc := 51) hx hb xd_Ch_measureBetween_51 rfl (lv_at hl 3 rfl) ?_
      refine xr_callV (pc := 52) (As := [.ref (G.1 8 5), .int x2, .ref (G.1 8 5), .int x3]) (rest := [.int ((x2 * (64 : Int32)) + x3), .ref (G.1 8 8)]) hC hR hS (xc_Ey_leastOfViews l G hg1 xo_C5 xo_C5 h) (xo_K1 hg1) xv_Ch_97 ⟨rfl, rfl, Nat.le_of_ble_eq_true rfl, Nat.le_of_ble_eq_true rfl⟩ rfl hl.1 rfl (Nat.le_of_ble_eq_true rfl) xd_Ch_measureBetween_52 (fun r2 M1 H locs h hR hS => ?_)
      obtain ⟨hq, h⟩ := h
      refine xr_iast (pc := 55) hC hR hS xo_C8 hq xd_Ch_measureBetween_55 (fun H locs hR hS => ?_)
      refine lv_iinc (pc := 56) (v := (x3 + (1 : Int32))) (lv' := [(3, .int (x3 + (1 : Int32))), (0, .ref (G.1 8 4)), (1, .ref (G.1 g1 1)), (2, .int x2)]) hx hb xd_Ch_measureBetween_56 hl (k := 3) rfl rfl (by decide) rfl (fun ls hl => ?_)
      refine lv_goto (pc := 59) (tgt := 23) hx hb xd_Ch_measureBetween_59 (by decide) ?_
      exact ih (x3 + (1 : Int32)) (us M1 8 8 ((x2 * (64 : Int32)) + x3).toNatClampNeg r2) H locs ls h hR hS (lv_sub hl [1, 2, 3, 0] rfl)
set_option maxHeartbeats 4000000 in
set_option maxRecDepth 100000 in
theorem xt_Ch_measureBetween_11 {p : Program} {l : Launch} {e : Env} {s : State} {m : MethodId} {args : Array Value} {below : List Frame} {meth : Method} {c : Code} {G : xG} (hC : xC p s m args c b_Ch_measureBetween R_Ch 4 G) (hr : meth.sig.returnType = none) (hlk : meth.locks = false) {g1 : Nat} (hg1 : g1 < 4) {post : xM → Prop} {k68 : Int32 → xM → Prop} (hk68 : ∀ (x2 : Int32) (M : xM) (H : Heap) (locs : List Loc) (ls : Array Slot), k68 x2 M → xRp G M H → va_S (xA G) s.heap H locs → lv_has ls 4 [(0, .ref (G.1 8 4)), (1, .ref (G.1 g1 1)), (2, .int x2)] → W p l e rm_Ch_measureBetween s m args below meth c H locs 0 0 (MQ below (xPv G post) args s 0 0 (xA G)) (F0 m 68 ls [])) : ∀ (n : Nat) (x2 : Int32) (M : xM) (H : Heap) (locs : List Loc) (ls : Array Slot), xw_Ch_measureBetween_11 g1 post k68 n x2 M → xRp G M H → va_S (xA G) s.heap H locs → lv_has ls 4 [(0, .ref (G.1 8 4)), (1, .ref (G.1 g1 1)), (2, .int x2)] → W p l e rm_Ch_measureBetween s m args below meth c H locs 0 0 (MQ below (xPv G post) args s 0 0 (xA G)) (F0 m 11 ls []) := by
  have hx := hC.1
  have hb := hC.2.1
  intro n
  induction n with
  | zero => intro x2 M H locs ls; exact fun h => h.elim
  | succ n ih =>
    intro x2 M H locs ls h hR hS hl
    refine lv_iload_n (pc := 11) hx hb xd_Ch_measureBetween_11 rfl (lv_at hl 2 rfl) ?_
    refine lv_aload_n (pc := 12) hx hb xd_Ch_measureBetween_12 rfl (lv_at hl 0 rfl) ?_
    refine xr_get (pc := 13) (v := .int (M 8 4 7)) hC hR xo_C4 xf_Ch_36 rfl xd_Ch_measureBetween_13 ?_
    refine lv_icmp_ge (pc := 16) (tgt := 68) hx hb xd_Ch_measureBetween_16 (by decide) (fun hq => ?_) (fun hq => ?_)
    · have h := h.1 hq
      exact hk68 x2 M H locs ls h hR hS (lv_sub hl [0, 1, 2] rfl)
    · have h := h.2 hq
      refine lv_iload_n (pc := 19) hx hb xd_Ch_measureBetween_19 rfl (lv_at hl 2 rfl) ?_
      refine lv_iconst (pc := 20) (v := (1 : Int32)) hx hb xd_Ch_measureBetween_20 (by decide) ?_
      refine lv_iadd (pc := 21) hx hb xd_Ch_measureBetween_21 ?_
      refine lv_istore_n (pc := 22) (lv' := [(3, .int (x2 + (1 : Int32))), (0, .ref (G.1 8 4)), (1, .ref (G.1 g1 1)), (2, .int x2)]) hx hb xd_Ch_measureBetween_22 rfl hl (by decide) rfl (fun ls hl => ?_)
      obtain ⟨n, h⟩ := h
      refine xt_Ch_measureBetween_23 hC hr hlk hg1 (fun y3 M4 H locs ls h hR hS hl => ?_) n (x2 + (1 : Int32)) M H locs ls h hR hS (lv_sub hl [1, 2, 3, 0] rfl)
      refine lv_iinc (pc := 62) (v := (x2 + (1 : Int32))) (lv' := [(2, .int (x2 + (1 : Int32))), (0, .ref (G.1 8 4)), (1, .ref (G.1 g1 1)), (3, .int y3)]) hx hb xd_Ch_measureBetween_62 hl (k := 2) rfl rfl (by decide) rfl (fun ls hl => ?_)
      refine lv_goto (pc := 65) (tgt := 11) hx hb xd_Ch_measureBetween_65 (by decide) ?_
      exact ih (x2 + (1 : Int32)) M4 H locs ls h hR hS (lv_sub hl [1, 2, 0] rfl)
set_option maxHeartbeats 4000000 in
set_option maxRecDepth 100000 in
theorem xc_Ch_measureBetween (l : Launch) (G : xG) {g1 : Nat} (hg1 : g1 < 4) {M : xM} {post : xM → Prop} (h : xw_Ch_measureBetween g1 M post) : Met l y_Ch_measureBetween (Cond.code y_Ch_measureBetween b_Ch_measureBetween 4 none :: xTG) rm_Ch_measureBetween (xPre G M [.ref (G.1 8 4), .ref (G.1 g1 1)]) (xPv G post) 0 0 (xA G) := by
  refine xMet (own := R_Ch) [.ref (G.1 8 4), .ref (G.1 g1 1)] (Or.inl (by decide)) rfl (Nat.le_of_ble_eq_true rfl) (fun p e s m args below meth c ls hC hr hlk hR hS hl => ?_)
  have hx := hC.1
  have hb := hC.2.1
  have hl : lv_has ls 4 [(0, .ref (G.1 8 4)), (1, .ref (G.1 g1 1))] := hl
  obtain ⟨H, eH⟩ : ∃ H : Heap, H = s.heap := ⟨_, rfl⟩
  obtain ⟨locs, eL⟩ : ∃ locs : List Loc, locs = [] := ⟨_, rfl⟩
  rw [← eH] at hR
  replace hS : va_S (xA G) s.heap H locs := by rw [eH, eL]; exact hS
  suffices hh : W p l e rm_Ch_measureBetween s m args below meth c H locs 0 0 (MQ below (xPv G post) args s 0 0 (xA G)) (F0 m 0 ls []) from by rw [eH, eL] at hh; exact hh
  unfold xw_Ch_measureBetween at h
  refine lv_aload_n (pc := 0) hx hb xd_Ch_measureBetween_0 rfl (lv_at hl 0 rfl) ?_
  refine xr_get (pc := 1) (v := .int (M 8 4 6)) hC hR xo_C4 xf_Ch_32 rfl xd_Ch_measureBetween_1 ?_
  refine lv_iconst (pc := 4) (v := (1 : Int32)) hx hb xd_Ch_measureBetween_4 (by decide) ?_
  refine lv_icmp_ne (pc := 5) (tgt := 9) hx hb xd_Ch_measureBetween_5 (by decide) (fun hq => ?_) (fun hq => ?_)
  · have h := h.1 hq
    refine lv_iconst (pc := 9) (v := (0 : Int32)) hx hb xd_Ch_measureBetween_9 (by decide) ?_
    refine lv_istore_n (pc := 10) (lv' := [(2, .int (0 : Int32)), (0, .ref (G.1 8 4)), (1, .ref (G.1 g1 1))]) hx hb xd_Ch_measureBetween_10 rfl hl (by decide) rfl (fun ls hl => ?_)
    obtain ⟨n, h⟩ := h
    refine xt_Ch_measureBetween_11 hC hr hlk hg1 (fun y5 M6 H locs ls h hR hS hl => ?_) n (0 : Int32) M H locs ls h hR hS (lv_sub hl [1, 2, 0] rfl)
    exact xr_vret hC hr hlk hR hS h xd_Ch_measureBetween_68
  · have h := h.2 hq
    exact xr_vret hC hr hlk hR hS h xd_Ch_measureBetween_8

/-! ColoursApart$Chooser.leastWith(III)I -/
theorem xd_Ch_leastWith_0 : decode b_Ch_leastWith 0 = .ok (.iload_n 3, 1) := by decide +kernel
theorem xd_Ch_leastWith_1 : decode b_Ch_leastWith 1 = .ok (.istore 4, 2) := by decide +kernel
theorem xd_Ch_leastWith_3 : decode b_Ch_leastWith 3 = .ok (.iconst 0, 1) := by decide +kernel
theorem xd_Ch_leastWith_4 : decode b_Ch_leastWith 4 = .ok (.istore 5, 2) := by decide +kernel
theorem xd_Ch_leastWith_6 : decode b_Ch_leastWith 6 = .ok (.iload 5, 2) := by decide +kernel
theorem xd_Ch_leastWith_8 : decode b_Ch_leastWith 8 = .ok (.iload_n 1, 1) := by decide +kernel
theorem xd_Ch_leastWith_9 : decode b_Ch_leastWith 9 = .ok (.if_icmp .ge 42, 3) := by decide +kernel
theorem xd_Ch_leastWith_12 : decode b_Ch_leastWith 12 = .ok (.iload 4, 2) := by decide +kernel
theorem xd_Ch_leastWith_14 : decode b_Ch_leastWith 14 = .ok (.aload_n 0, 1) := by decide +kernel
theorem xd_Ch_leastWith_15 : decode b_Ch_leastWith 15 = .ok (.getfield 39, 3) := by decide +kernel
theorem xd_Ch_leastWith_18 : decode b_Ch_leastWith 18 = .ok (.if_icmp .le 33, 3) := by decide +kernel
theorem xd_Ch_leastWith_21 : decode b_Ch_leastWith 21 = .ok (.iload 4, 2) := by decide +kernel
theorem xd_Ch_leastWith_23 : decode b_Ch_leastWith 23 = .ok (.aload_n 0, 1) := by decide +kernel
theorem xd_Ch_leastWith_24 : decode b_Ch_leastWith 24 = .ok (.getfield 23, 3) := by decide +kernel
theorem xd_Ch_leastWith_27 : decode b_Ch_leastWith 27 = .ok (.aload_n 0, 1) := by decide +kernel
theorem xd_Ch_leastWith_28 : decode b_Ch_leastWith 28 = .ok (.getfield 26, 3) := by decide +kernel
theorem xd_Ch_leastWith_31 : decode b_Ch_leastWith 31 = .ok (.iload 5, 2) := by decide +kernel
theorem xd_Ch_leastWith_33 : decode b_Ch_leastWith 33 = .ok (.iaload, 1) := by decide +kernel
theorem xd_Ch_leastWith_34 : decode b_Ch_leastWith 34 = .ok (.bipush 64, 2) := by decide +kernel
theorem xd_Ch_leastWith_36 : decode b_Ch_leastWith 36 = .ok (.imul, 1) := by decide +kernel
theorem xd_Ch_leastWith_37 : decode b_Ch_leastWith 37 = .ok (.iload_n 2, 1) := by decide +kernel
theorem xd_Ch_leastWith_38 : decode b_Ch_leastWith 38 = .ok (.iadd, 1) := by decide +kernel
theorem xd_Ch_leastWith_39 : decode b_Ch_leastWith 39 = .ok (.iaload, 1) := by decide +kernel
theorem xd_Ch_leastWith_40 : decode b_Ch_leastWith 40 = .ok (.invokestatic 101, 3) := by decide +kernel
theorem xd_Ch_leastWith_43 : decode b_Ch_leastWith 43 = .ok (.istore 4, 2) := by decide +kernel
theorem xd_Ch_leastWith_45 : decode b_Ch_leastWith 45 = .ok (.iinc 5 1, 3) := by decide +kernel
theorem xd_Ch_leastWith_48 : decode b_Ch_leastWith 48 = .ok (.goto (-42), 3) := by decide +kernel
theorem xd_Ch_leastWith_51 : decode b_Ch_leastWith 51 = .ok (.iload 4, 2) := by decide +kernel
theorem xd_Ch_leastWith_53 : decode b_Ch_leastWith 53 = .ok (.ireturn, 1) := by decide +kernel
abbrev rm_Ch_leastWith : Room := { frames := 1, cells := 0, slots := 0, locals := 24 }
def xw_Ch_leastWith_6 (x1 : Int32) (x2 : Int32) (post : Int32 → xM → Prop) (k51 : Int32 → Int32 → xM → Prop) : Nat → Int32 → Int32 → xM → Prop
  | 0, _, _, _ => False
  | n6 + 1, x4, x5, M => ((x1 ≤ x5) → (k51 x4 x5 M)) ∧ ((¬ x1 ≤ x5) → (((x4 ≤ (M 8 4 8)) → (k51 x4 x5 M)) ∧ ((¬ x4 ≤ (M 8 4 8)) → ((vp_in x5 5) ∧ ((vp_in (((M 8 9 x5.toNatClampNeg) * (64 : Int32)) + x2) 4096) ∧ (xw_Ch_leastWith_6 x1 x2 post k51 n6 (if (M 8 8 (((M 8 9 x5.toNatClampNeg) * (64 : Int32)) + x2).toNatClampNeg) < x4 then (M 8 8 (((M 8 9 x5.toNatClampNeg) * (64 : Int32)) + x2).toNatClampNeg) else x4) (x5 + (1 : Int32)) M))))))
def xw_Ch_leastWith (a1 : Int32) (a2 : Int32) (a3 : Int32) (M : xM) (post : Int32 → xM → Prop) : Prop :=
  ∃ n6 : Nat, xw_Ch_leastWith_6 a1 a2 post (fun (y1 : Int32) (y2 : Int32) (M3 : xM) => post y1 M3) n6 a3 (0 : Int32) M
set_option maxHeartbeats 4000000 in
set_option maxRecDepth 100000 in
theorem xt_Ch_leastWith_6 {p : Program} {l : Launch} {e : Env} {s : State} {m : MethodId} {args : Array Value} {below : List Frame} {meth : Method} {c : Code} {G : xG} (hC : xC p s m args c b_Ch_leastWith R_Ch 6 G) (hr : meth.sig.returnType = (some .int)) (hlk : meth.locks = false) {x1 : Int32} {x2 : Int32} {post : Int32 → xM → Prop} {k51 : Int32 → Int32 → xM → Prop} (hk51 : ∀ (x4 : Int32) (x5 : Int32) (M : xM) (H : Heap) (locs : List Loc) (ls : Array Slot), k51 x4 x5 M → xRp G M H → va_S (xA G) s.heap H locs → lv_has ls 6 [(0, .ref (G.1 8 4)), (1, .int x1), (2, .int x2), (4, .int x4), (5, .int x5)] → W p l e rm_Ch_leastWith s m args below meth c H locs 0 0 (MQ below (xPi G post) args s 0 0 (xA G)) (F0 m 51 ls [])) : ∀ (n : Nat) (x4 : Int32) (x5 : Int32) (M : xM) (H : Heap) (locs : List Loc) (ls : Array Slot), xw_Ch_leastWith_6 x1 x2 post k51 n x4 x5 M → xRp G M H → va_S (xA G) s.heap H locs → lv_has ls 6 [(0, .ref (G.1 8 4)), (1, .int x1), (2, .int x2), (4, .int x4), (5, .int x5)] → W p l e rm_Ch_leastWith s m args below meth c H locs 0 0 (MQ below (xPi G post) args s 0 0 (xA G)) (F0 m 6 ls []) := by
  have hx := hC.1
  have hb := hC.2.1
  intro n
  induction n with
  | zero => intro x4 x5 M H locs ls; exact fun h => h.elim
  | succ n ih =>
    intro x4 x5 M H locs ls h hR hS hl
    refine lv_iload (pc := 6) hx hb xd_Ch_leastWith_6 (lv_at hl 4 rfl) ?_
    refine lv_iload_n (pc := 8) hx hb xd_Ch_leastWith_8 rfl (lv_at hl 1 rfl) ?_
    refine lv_icmp_ge (pc := 9) (tgt := 51) hx hb xd_Ch_leastWith_9 (by decide) (fun hq => ?_) (fun hq => ?_)
    · have h := h.1 hq
      exact hk51 x4 x5 M H locs ls h hR hS (lv_sub hl [0, 1, 2, 3, 4] rfl)
    · have h := h.2 hq
      refine lv_iload (pc := 12) hx hb xd_Ch_leastWith_12 (lv_at hl 3 rfl) ?_
      refine lv_aload_n (pc := 14) hx hb xd_Ch_leastWith_14 rfl (lv_at hl 0 rfl) ?_
      refine xr_get (pc := 15) (v := .int (M 8 4 8)) hC hR xo_C4 xf_Ch_39 rfl xd_Ch_leastWith_15 ?_
      refine lv_icmp_le (pc := 18) (tgt := 51) hx hb xd_Ch_leastWith_18 (by decide) (fun hq => ?_) (fun hq => ?_)
      · have h := h.1 hq
        exact hk51 x4 x5 M H locs ls h hR hS (lv_sub hl [0, 1, 2, 3, 4] rfl)
      · have h := h.2 hq
        refine lv_iload (pc := 21) hx hb xd_Ch_leastWith_21 (lv_at hl 3 rfl) ?_
        refine lv_aload_n (pc := 23) hx hb xd_Ch_leastWith_23 rfl (lv_at hl 0 rfl) ?_
        refine xr_get (pc := 24) (v := .ref (G.1 8 8)) hC hR xo_C4 xf_Ch_23 rfl xd_Ch_leastWith_24 ?_
        refine lv_aload_n (pc := 27) hx hb xd_Ch_leastWith_27 rfl (lv_at hl 0 rfl) ?_
        refine xr_get (pc := 28) (v := .ref (G.1 8 9)) hC hR xo_C4 xf_Ch_26 rfl xd_Ch_leastWith_28 ?_
        refine lv_iload (pc := 31) hx hb xd_Ch_leastWith_31 (lv_at hl 4 rfl) ?_
        obtain ⟨hq, h⟩ := h
        refine xr_iald (pc := 33) hC hR xo_C9 hq xd_Ch_leastWith_33 ?_
        refine lv_bipush (pc := 34) (v := (64 : Int32)) hx hb xd_Ch_leastWith_34 (by decide) ?_
        refine lv_imul (pc := 36) hx hb xd_Ch_leastWith_36 ?_
        refine lv_iload_n (pc := 37) hx hb xd_Ch_leastWith_37 rfl (lv_at hl 2 rfl) ?_
        refine lv_iadd (pc := 38) hx hb xd_Ch_leastWith_38 ?_
        obtain ⟨hq, h⟩ := h
        refine xr_iald (pc := 39) hC hR xo_C8 hq xd_Ch_leastWith_39 ?_
        refine xr_min (pc := 40) hC xk_Ch_101 hl.1 (Nat.le_of_ble_eq_true rfl) (Nat.le_of_ble_eq_true rfl) xd_Ch_leastWith_40 ?_
        refine lv_istore (pc := 43) (lv' := [(4, .int (if (M 8 8 (((M 8 9 x5.toNatClampNeg) * (64 : Int32)) + x2).toNatClampNeg) < x4 then (M 8 8 (((M 8 9 x5.toNatClampNeg) * (64 : Int32)) + x2).toNatClampNeg) else x4)), (0, .ref (G.1 8 4)), (1, .int x1), (2, .int x2), (5, .int x5)]) hx hb xd_Ch_leastWith_43 hl (by decide) rfl (fun ls hl => ?_)
        refine lv_iinc (pc := 45) (v := (x5 + (1 : Int32))) (lv' := [(5, .int (x5 + (1 : Int32))), (4, .int (if (M 8 8 (((M 8 9 x5.toNatClampNeg) * (64 : Int32)) + x2).toNatClampNeg) < x4 then (M 8 8 (((M 8 9 x5.toNatClampNeg) * (64 : Int32)) + x2).toNatClampNeg) else x4)), (0, .ref (G.1 8 4)), (1, .int x1), (2, .int x2)]) hx hb xd_Ch_leastWith_45 hl (k := 4) rfl rfl (by decide) rfl (fun ls hl => ?_)
        refine lv_goto (pc := 48) (tgt := 6) hx hb xd_Ch_leastWith_48 (by decide) ?_
        exact ih (if (M 8 8 (((M 8 9 x5.toNatClampNeg) * (64 : Int32)) + x2).toNatClampNeg) < x4 then (M 8 8 (((M 8 9 x5.toNatClampNeg) * (64 : Int32)) + x2).toNatClampNeg) else x4) (x5 + (1 : Int32)) M H locs ls h hR hS (lv_sub hl [2, 3, 4, 1, 0] rfl)
set_option maxHeartbeats 4000000 in
set_option maxRecDepth 100000 in
theorem xc_Ch_leastWith (l : Launch) (G : xG) {a1 : Int32} {a2 : Int32} {a3 : Int32}  {M : xM} {post : Int32 → xM → Prop} (h : xw_Ch_leastWith a1 a2 a3 M post) : Met l y_Ch_leastWith (Cond.code y_Ch_leastWith b_Ch_leastWith 6 (some .int) :: xTG) rm_Ch_leastWith (xPre G M [.ref (G.1 8 4), .int a1, .int a2, .int a3]) (xPi G post) 0 0 (xA G) := by
  refine xMet (own := R_Ch) [.ref (G.1 8 4), .int a1, .int a2, .int a3] (Or.inl (by decide)) rfl (Nat.le_of_ble_eq_true rfl) (fun p e s m args below meth c ls hC hr hlk hR hS hl => ?_)
  have hx := hC.1
  have hb := hC.2.1
  have hl : lv_has ls 6 [(0, .ref (G.1 8 4)), (1, .int a1), (2, .int a2), (3, .int a3)] := hl
  obtain ⟨H, eH⟩ : ∃ H : Heap, H = s.heap := ⟨_, rfl⟩
  obtain ⟨locs, eL⟩ : ∃ locs : List Loc, locs = [] := ⟨_, rfl⟩
  rw [← eH] at hR
  replace hS : va_S (xA G) s.heap H locs := by rw [eH, eL]; exact hS
  suffices hh : W p l e rm_Ch_leastWith s m args below meth c H locs 0 0 (MQ below (xPi G post) args s 0 0 (xA G)) (F0 m 0 ls []) from by rw [eH, eL] at hh; exact hh
  unfold xw_Ch_leastWith at h
  refine lv_iload_n (pc := 0) hx hb xd_Ch_leastWith_0 rfl (lv_at hl 3 rfl) ?_
  refine lv_istore (pc := 1) (lv' := [(4, .int a3), (0, .ref (G.1 8 4)), (1, .int a1), (2, .int a2), (3, .int a3)]) hx hb xd_Ch_leastWith_1 hl (by decide) rfl (fun ls hl => ?_)
  refine lv_iconst (pc := 3) (v := (0 : Int32)) hx hb xd_Ch_leastWith_3 (by decide) ?_
  refine lv_istore (pc := 4) (lv' := [(5, .int (0 : Int32)), (4, .int a3), (0, .ref (G.1 8 4)), (1, .int a1), (2, .int a2), (3, .int a3)]) hx hb xd_Ch_leastWith_4 hl (by decide) rfl (fun ls hl => ?_)
  obtain ⟨n, h⟩ := h
  refine xt_Ch_leastWith_6 hC hr hlk  (fun y1 y2 M3 H locs ls h hR hS hl => ?_) n a3 (0 : Int32) M H locs ls h hR hS (lv_sub hl [2, 3, 4, 1, 0] rfl)
  refine lv_iload (pc := 51) hx hb xd_Ch_leastWith_51 (lv_at hl 3 rfl) ?_
  exact xr_iret hC hr hlk hR hS h xd_Ch_leastWith_53

/-! ColoursApart$Chooser.keepTrial(I)V -/
theorem xd_Ch_keepTrial_0 : decode b_Ch_keepTrial 0 = .ok (.aload_n 0, 1) := by decide +kernel
theorem xd_Ch_keepTrial_1 : decode b_Ch_keepTrial 1 = .ok (.iload_n 1, 1) := by decide +kernel
theorem xd_Ch_keepTrial_2 : decode b_Ch_keepTrial 2 = .ok (.putfield 39, 3) := by decide +kernel
theorem xd_Ch_keepTrial_5 : decode b_Ch_keepTrial 5 = .ok (.aload_n 0, 1) := by decide +kernel
theorem xd_Ch_keepTrial_6 : decode b_Ch_keepTrial 6 = .ok (.getfield 26, 3) := by decide +kernel
theorem xd_Ch_keepTrial_9 : decode b_Ch_keepTrial 9 = .ok (.iconst 0, 1) := by decide +kernel
theorem xd_Ch_keepTrial_10 : decode b_Ch_keepTrial 10 = .ok (.aload_n 0, 1) := by decide +kernel
theorem xd_Ch_keepTrial_11 : decode b_Ch_keepTrial 11 = .ok (.getfield 29, 3) := by decide +kernel
theorem xd_Ch_keepTrial_14 : decode b_Ch_keepTrial 14 = .ok (.iconst 0, 1) := by decide +kernel
theorem xd_Ch_keepTrial_15 : decode b_Ch_keepTrial 15 = .ok (.aload_n 0, 1) := by decide +kernel
theorem xd_Ch_keepTrial_16 : decode b_Ch_keepTrial 16 = .ok (.getfield 32, 3) := by decide +kernel
theorem xd_Ch_keepTrial_19 : decode b_Ch_keepTrial 19 = .ok (.invokestatic 115, 3) := by decide +kernel
theorem xd_Ch_keepTrial_22 : decode b_Ch_keepTrial 22 = .ok (.return_, 1) := by decide +kernel
abbrev rm_Ch_keepTrial : Room := { frames := 1, cells := 0, slots := 0, locals := 30 }
def xw_Ch_keepTrial (a1 : Int32) (M : xM) (post : xM → Prop) : Prop :=
  (¬ (8 = 8 ∧ 9 = 10)) ∧ (¬ (0 : Int32) < 0 ∧ ¬ (0 : Int32) < 0 ∧ ¬ ((us M 8 4 8 a1) 8 4 6) < 0 ∧ (0 : Int32).toNatClampNeg + ((us M 8 4 8 a1) 8 4 6).toNatClampNeg ≤ 5 ∧ (0 : Int32).toNatClampNeg + ((us M 8 4 8 a1) 8 4 6).toNatClampNeg ≤ 5) ∧ (post (uc (us M 8 4 8 a1) 8 10 (va_cpy ((us M 8 4 8 a1) 8 9) ((us M 8 4 8 a1) 8 10) (0 : Int32).toNatClampNeg (0 : Int32).toNatClampNeg ((us M 8 4 8 a1) 8 4 6).toNatClampNeg)))
set_option maxHeartbeats 4000000 in
set_option maxRecDepth 100000 in
theorem xc_Ch_keepTrial (l : Launch) (G : xG) {a1 : Int32}  {M : xM} {post : xM → Prop} (h : xw_Ch_keepTrial a1 M post) : Met l y_Ch_keepTrial (Cond.code y_Ch_keepTrial b_Ch_keepTrial 2 none :: xTG) rm_Ch_keepTrial (xPre G M [.ref (G.1 8 4), .int a1]) (xPv G post) 0 0 (xA G) := by
  refine xMet (own := R_Ch) [.ref (G.1 8 4), .int a1] (Or.inl (by decide)) rfl (Nat.le_of_ble_eq_true rfl) (fun p e s m args below meth c ls hC hr hlk hR hS hl => ?_)
  have hx := hC.1
  have hb := hC.2.1
  have hl : lv_has ls 2 [(0, .ref (G.1 8 4)), (1, .int a1)] := hl
  obtain ⟨H, eH⟩ : ∃ H : Heap, H = s.heap := ⟨_, rfl⟩
  obtain ⟨locs, eL⟩ : ∃ locs : List Loc, locs = [] := ⟨_, rfl⟩
  rw [← eH] at hR
  replace hS : va_S (xA G) s.heap H locs := by rw [eH, eL]; exact hS
  suffices hh : W p l e rm_Ch_keepTrial s m args below meth c H locs 0 0 (MQ below (xPv G post) args s 0 0 (xA G)) (F0 m 0 ls []) from by rw [eH, eL] at hh; exact hh
  unfold xw_Ch_keepTrial at h
  refine lv_aload_n (pc := 0) hx hb xd_Ch_keepTrial_0 rfl (lv_at hl 0 rfl) ?_
  refine lv_iload_n (pc := 1) hx hb xd_Ch_keepTrial_1 rfl (lv_at hl 1 rfl) ?_
  refine xr_put (pc := 2) hC hR hS xo_C4 xf_Ch_39 xp_0_8 rfl rfl rfl xd_Ch_keepTrial_2 (fun H locs hR hS => ?_)
  refine lv_aload_n (pc := 5) hx hb xd_Ch_keepTrial_5 rfl (lv_at hl 0 rfl) ?_
  refine xr_get (pc := 6) (v := .ref (G.1 8 9)) hC hR xo_C4 xf_Ch_26 rfl xd_Ch_keepTrial_6 ?_
  refine lv_iconst (pc := 9) (v := (0 : Int32)) hx hb xd_Ch_keepTrial_9 (by decide) ?_
  refine lv_aload_n (pc := 10) hx hb xd_Ch_keepTrial_10 rfl (lv_at hl 0 rfl) ?_
  refine xr_get (pc := 11) (v := .ref (G.1 8 10)) hC hR xo_C4 xf_Ch_29 rfl xd_Ch_keepTrial_11 ?_
  refine lv_iconst (pc := 14) (v := (0 : Int32)) hx hb xd_Ch_keepTrial_14 (by decide) ?_
  refine lv_aload_n (pc := 15) hx hb xd_Ch_keepTrial_15 rfl (lv_at hl 0 rfl) ?_
  refine xr_get (pc := 16) (v := .int ((us M 8 4 8 a1) 8 4 6)) hC hR xo_C4 xf_Ch_32 rfl xd_Ch_keepTrial_16 ?_
  obtain ⟨hq, hz, h⟩ := h
  refine xr_copy (pc := 19) hC hR hS xk_Ch_115 xo_C9 xo_C10 (fun e9 => hq (hC.2.2.2.2.2.2.2.2.2.2 _ _ _ _ _ _ xo_C9 xo_C10 e9)) hz.1 hz.2.1 hz.2.2.1 hz.2.2.2.1 hz.2.2.2.2 hl.1 (Nat.le_of_ble_eq_true rfl) (Nat.le_of_ble_eq_true rfl) xd_Ch_keepTrial_19 (fun H locs hR hS => ?_)
  exact xr_vret hC hr hlk hR hS h xd_Ch_keepTrial_22

/-! ColoursApart$Chooser.extend(LColoursApart$Chooser;III)V -/
theorem xd_Ch_extend_0 : decode b_Ch_extend 0 = .ok (.iload_n 1, 1) := by decide +kernel
theorem xd_Ch_extend_1 : decode b_Ch_extend 1 = .ok (.iconst 5, 1) := by decide +kernel
theorem xd_Ch_extend_2 : decode b_Ch_extend 2 = .ok (.if_icmp .lt 4, 3) := by decide +kernel
theorem xd_Ch_extend_5 : decode b_Ch_extend 5 = .ok (.return_, 1) := by decide +kernel
theorem xd_Ch_extend_6 : decode b_Ch_extend 6 = .ok (.aload_n 0, 1) := by decide +kernel
theorem xd_Ch_extend_7 : decode b_Ch_extend 7 = .ok (.getfield 36, 3) := by decide +kernel
theorem xd_Ch_extend_10 : decode b_Ch_extend 10 = .ok (.aload_n 0, 1) := by decide +kernel
theorem xd_Ch_extend_11 : decode b_Ch_extend 11 = .ok (.getfield 32, 3) := by decide +kernel
theorem xd_Ch_extend_14 : decode b_Ch_extend 14 = .ok (.iload_n 1, 1) := by decide +kernel
theorem xd_Ch_extend_15 : decode b_Ch_extend 15 = .ok (.isub, 1) := by decide +kernel
theorem xd_Ch_extend_16 : decode b_Ch_extend 16 = .ok (.isub, 1) := by decide +kernel
theorem xd_Ch_extend_17 : decode b_Ch_extend 17 = .ok (.istore 4, 2) := by decide +kernel
theorem xd_Ch_extend_19 : decode b_Ch_extend 19 = .ok (.iload_n 2, 1) := by decide +kernel
theorem xd_Ch_extend_20 : decode b_Ch_extend 20 = .ok (.istore 5, 2) := by decide +kernel
theorem xd_Ch_extend_22 : decode b_Ch_extend 22 = .ok (.iload 5, 2) := by decide +kernel
theorem xd_Ch_extend_24 : decode b_Ch_extend 24 = .ok (.iload 4, 2) := by decide +kernel
theorem xd_Ch_extend_26 : decode b_Ch_extend 26 = .ok (.if_icmp .gt 86, 3) := by decide +kernel
theorem xd_Ch_extend_29 : decode b_Ch_extend 29 = .ok (.iload_n 3, 1) := by decide +kernel
theorem xd_Ch_extend_30 : decode b_Ch_extend 30 = .ok (.aload_n 0, 1) := by decide +kernel
theorem xd_Ch_extend_31 : decode b_Ch_extend 31 = .ok (.getfield 39, 3) := by decide +kernel
theorem xd_Ch_extend_34 : decode b_Ch_extend 34 = .ok (.if_icmp .le 78, 3) := by decide +kernel
theorem xd_Ch_extend_37 : decode b_Ch_extend 37 = .ok (.aload_n 0, 1) := by decide +kernel
theorem xd_Ch_extend_38 : decode b_Ch_extend 38 = .ok (.iload_n 1, 1) := by decide +kernel
theorem xd_Ch_extend_39 : decode b_Ch_extend 39 = .ok (.iload 5, 2) := by decide +kernel
theorem xd_Ch_extend_41 : decode b_Ch_extend 41 = .ok (.iload_n 3, 1) := by decide +kernel
theorem xd_Ch_extend_42 : decode b_Ch_extend 42 = .ok (.aload_n 0, 1) := by decide +kernel
theorem xd_Ch_extend_43 : decode b_Ch_extend 43 = .ok (.getfield 20, 3) := by decide +kernel
theorem xd_Ch_extend_46 : decode b_Ch_extend 46 = .ok (.iload 5, 2) := by decide +kernel
theorem xd_Ch_extend_48 : decode b_Ch_extend 48 = .ok (.iaload, 1) := by decide +kernel
theorem xd_Ch_extend_49 : decode b_Ch_extend 49 = .ok (.invokestatic 101, 3) := by decide +kernel
theorem xd_Ch_extend_52 : decode b_Ch_extend 52 = .ok (.invokevirtual 107, 3) := by decide +kernel
theorem xd_Ch_extend_55 : decode b_Ch_extend 55 = .ok (.istore 6, 2) := by decide +kernel
theorem xd_Ch_extend_57 : decode b_Ch_extend 57 = .ok (.iload 6, 2) := by decide +kernel
theorem xd_Ch_extend_59 : decode b_Ch_extend 59 = .ok (.aload_n 0, 1) := by decide +kernel
theorem xd_Ch_extend_60 : decode b_Ch_extend 60 = .ok (.getfield 39, 3) := by decide +kernel
theorem xd_Ch_extend_63 : decode b_Ch_extend 63 = .ok (.if_icmp .le 43, 3) := by decide +kernel
theorem xd_Ch_extend_66 : decode b_Ch_extend 66 = .ok (.aload_n 0, 1) := by decide +kernel
theorem xd_Ch_extend_67 : decode b_Ch_extend 67 = .ok (.getfield 26, 3) := by decide +kernel
theorem xd_Ch_extend_70 : decode b_Ch_extend 70 = .ok (.iload_n 1, 1) := by decide +kernel
theorem xd_Ch_extend_71 : decode b_Ch_extend 71 = .ok (.iload 5, 2) := by decide +kernel
theorem xd_Ch_extend_73 : decode b_Ch_extend 73 = .ok (.iastore, 1) := by decide +kernel
theorem xd_Ch_extend_74 : decode b_Ch_extend 74 = .ok (.iload_n 1, 1) := by decide +kernel
theorem xd_Ch_extend_75 : decode b_Ch_extend 75 = .ok (.iconst 1, 1) := by decide +kernel
theorem xd_Ch_extend_76 : decode b_Ch_extend 76 = .ok (.iadd, 1) := by decide +kernel
theorem xd_Ch_extend_77 : decode b_Ch_extend 77 = .ok (.aload_n 0, 1) := by decide +kernel
theorem xd_Ch_extend_78 : decode b_Ch_extend 78 = .ok (.getfield 32, 3) := by decide +kernel
theorem xd_Ch_extend_81 : decode b_Ch_extend 81 = .ok (.if_icmp .ge 19, 3) := by decide +kernel
theorem xd_Ch_extend_84 : decode b_Ch_extend 84 = .ok (.aload_n 0, 1) := by decide +kernel
theorem xd_Ch_extend_85 : decode b_Ch_extend 85 = .ok (.iload_n 1, 1) := by decide +kernel
theorem xd_Ch_extend_86 : decode b_Ch_extend 86 = .ok (.iconst 1, 1) := by decide +kernel
theorem xd_Ch_extend_87 : decode b_Ch_extend 87 = .ok (.iadd, 1) := by decide +kernel
theorem xd_Ch_extend_88 : decode b_Ch_extend 88 = .ok (.iload 5, 2) := by decide +kernel
theorem xd_Ch_extend_90 : decode b_Ch_extend 90 = .ok (.iconst 1, 1) := by decide +kernel
theorem xd_Ch_extend_91 : decode b_Ch_extend 91 = .ok (.iadd, 1) := by decide +kernel
theorem xd_Ch_extend_92 : decode b_Ch_extend 92 = .ok (.iload 6, 2) := by decide +kernel
theorem xd_Ch_extend_94 : decode b_Ch_extend 94 = .ok (.invokestatic 67, 3) := by decide +kernel
theorem xd_Ch_extend_97 : decode b_Ch_extend 97 = .ok (.goto 9, 3) := by decide +kernel
theorem xd_Ch_extend_100 : decode b_Ch_extend 100 = .ok (.aload_n 0, 1) := by decide +kernel
theorem xd_Ch_extend_101 : decode b_Ch_extend 101 = .ok (.iload 6, 2) := by decide +kernel
theorem xd_Ch_extend_103 : decode b_Ch_extend 103 = .ok (.invokevirtual 111, 3) := by decide +kernel
theorem xd_Ch_extend_106 : decode b_Ch_extend 106 = .ok (.iinc 5 1, 3) := by decide +kernel
theorem xd_Ch_extend_109 : decode b_Ch_extend 109 = .ok (.goto (-87), 3) := by decide +kernel
theorem xd_Ch_extend_112 : decode b_Ch_extend 112 = .ok (.return_, 1) := by decide +kernel
def rmx (d : Nat) : Room := { frames := 4 + d, cells := 0, slots := 0, locals := 60 + 40 * d }
def xw_Ch_extend_22 (x1 : Int32) (x3 : Int32) (x4 : Int32) (rec : Int32 → Int32 → Int32 → xM → (xM → Prop) → Prop) (post : xM → Prop) (k112 : Int32 → xM → Prop) : Nat → Int32 → xM → Prop
  | 0, _, _ => False
  | n22 + 1, x5, M => ((x4 < x5) → (k112 x5 M)) ∧ ((¬ x4 < x5) → (((x3 ≤ (M 8 4 8)) → (k112 x5 M)) ∧ ((¬ x3 ≤ (M 8 4 8)) → ((vp_in x5 64) ∧ (xw_Ch_leastWith x1 x5 (if (M 8 7 x5.toNatClampNeg) < x3 then (M 8 7 x5.toNatClampNeg) else x3) M (fun (r2 : Int32) (M1 : xM) => ((r2 ≤ (M1 8 4 8)) → (xw_Ch_extend_22 x1 x3 x4 rec post k112 n22 (x5 + (1 : Int32)) M1)) ∧ ((¬ r2 ≤ (M1 8 4 8)) → ((vp_in x1 5) ∧ (((((us M1 8 9 x1.toNatClampNeg x5) 8 4 6) ≤ (x1 + (1 : Int32))) → (xw_Ch_keepTrial r2 (us M1 8 9 x1.toNatClampNeg x5) (fun (M3 : xM) => xw_Ch_extend_22 x1 x3 x4 rec post k112 n22 (x5 + (1 : Int32)) M3))) ∧ ((¬ ((us M1 8 9 x1.toNatClampNeg x5) 8 4 6) ≤ (x1 + (1 : Int32))) → (rec (x1 + (1 : Int32)) (x5 + (1 : Int32)) r2 (us M1 8 9 x1.toNatClampNeg x5) (fun (M4 : xM) => xw_Ch_extend_22 x1 x3 x4 rec post k112 n22 (x5 + (1 : Int32)) M4))))))))))))
def xw_Ch_extend : Nat → Int32 → Int32 → Int32 → xM → (xM → Prop) → Prop
  | 0, _, _, _, _, _ => False
  | d9 + 1, a1, a2, a3, M, post => ((a1 < (5 : Int32)) → (∃ n22 : Nat, xw_Ch_extend_22 a1 a3 ((M 8 4 7) - ((M 8 4 6) - a1)) (xw_Ch_extend d9) post (fun (y5 : Int32) (M6 : xM) => post M6) n22 a2 M)) ∧ ((¬ a1 < (5 : Int32)) → (post M))
set_option maxHeartbeats 4000000 in
set_option maxRecDepth 100000 in
theorem xt_Ch_extend_22 {p : Program} {l : Launch} {e : Env} {s : State} {m : MethodId} {args : Array Value} {below : List Frame} {meth : Method} {c : Code} {G : xG} (hC : xC p s m args c b_Ch_extend R_Ch 7 G) (hr : meth.sig.returnType = none) (hlk : meth.locks = false) {x1 : Int32} {x3 : Int32} {x4 : Int32} {d9 : Nat} {rec : Int32 → Int32 → Int32 → xM → (xM → Prop) → Prop} (hrec : ∀ (a1 a2 a3 : Int32) (M : xM) (post : xM → Prop), rec a1 a2 a3 M post → Met l y_Ch_extend (Cond.code y_Ch_extend b_Ch_extend 7 none :: xTG) (rmx d9) (xPre G M [.ref (G.1 8 4), .int a1, .int a2, .int a3]) (xPv G post) 0 0 (xA G)) {post : xM → Prop} {k112 : Int32 → xM → Prop} (hk112 : ∀ (x5 : Int32) (M : xM) (H : Heap) (locs : List Loc) (ls : Array Slot), k112 x5 M → xRp G M H → va_S (xA G) s.heap H locs → lv_has ls 7 [(0, .ref (G.1 8 4)), (1, .int x1), (3, .int x3), (4, .int x4), (5, .int x5)] → W p l e (rmx (d9 + 1)) s m args below meth c H locs 0 0 (MQ below (xPv G post) args s 0 0 (xA G)) (F0 m 112 ls [])) : ∀ (n : Nat) (x5 : Int32) (M : xM) (H : Heap) (locs : List Loc) (ls : Array Slot), xw_Ch_extend_22 x1 x3 x4 rec post k112 n x5 M → xRp G M H → va_S (xA G) s.heap H locs → lv_has ls 7 [(0, .ref (G.1 8 4)), (1, .int x1), (3, .int x3), (4, .int x4), (5, .int x5)] → W p l e (rmx (d9 + 1)) s m args below meth c H locs 0 0 (MQ below (xPv G post) args s 0 0 (xA G)) (F0 m 22 ls []) := by
  have hx := hC.1
  have hb := hC.2.1
  intro n
  induction n with
  | zero => intro x5 M H locs ls; exact fun h => h.elim
  | succ n ih =>
    intro x5 M H locs ls h hR hS hl
    refine lv_iload (pc := 22) hx hb xd_Ch_extend_22 (lv_at hl 4 rfl) ?_
    refine lv_iload (pc := 24) hx hb xd_Ch_extend_24 (lv_at hl 3 rfl) ?_
    refine lv_icmp_gt (pc := 26) (tgt := 112) hx hb xd_Ch_extend_26 (by decide) (fun hq => ?_) (fun hq => ?_)
    · have h := h.1 hq
      exact hk112 x5 M H locs ls h hR hS (lv_sub hl [0, 1, 2, 3, 4] rfl)
    · have h := h.2 hq
      refine lv_iload_n (pc := 29) hx hb xd_Ch_extend_29 rfl (lv_at hl 2 rfl) ?_
      refine lv_aload_n (pc := 30) hx hb xd_Ch_extend_30 rfl (lv_at hl 0 rfl) ?_
      refine xr_get (pc := 31) (v := .int (M 8 4 8)) hC hR xo_C4 xf_Ch_39 rfl xd_Ch_extend_31 ?_
      refine lv_icmp_le (pc := 34) (tgt := 112) hx hb xd_Ch_extend_34 (by decide) (fun hq => ?_) (fun hq => ?_)
      · have h := h.1 hq
        exact hk112 x5 M H locs ls h hR hS (lv_sub hl [0, 1, 2, 3, 4] rfl)
      · have h := h.2 hq
        refine lv_aload_n (pc := 37) hx hb xd_Ch_extend_37 rfl (lv_at hl 0 rfl) ?_
        refine lv_iload_n (pc := 38) hx hb xd_Ch_extend_38 rfl (lv_at hl 1 rfl) ?_
        refine lv_iload (pc := 39) hx hb xd_Ch_extend_39 (lv_at hl 4 rfl) ?_
        refine lv_iload_n (pc := 41) hx hb xd_Ch_extend_41 rfl (lv_at hl 2 rfl) ?_
        refine lv_aload_n (pc := 42) hx hb xd_Ch_extend_42 rfl (lv_at hl 0 rfl) ?_
        refine xr_get (pc := 43) (v := .ref (G.1 8 7)) hC hR xo_C4 xf_Ch_20 rfl xd_Ch_extend_43 ?_
        refine lv_iload (pc := 46) hx hb xd_Ch_extend_46 (lv_at hl 4 rfl) ?_
        obtain ⟨hq, h⟩ := h
        refine xr_iald (pc := 48) hC hR xo_C7 hq xd_Ch_extend_48 ?_
        refine xr_min (pc := 49) hC xk_Ch_101 hl.1 (by show 1 ≤ 4 + (d9 + 1); omega) (Nat.le_trans (m := 24) (Nat.le_of_ble_eq_true rfl) (by show 24 ≤ 60 + 40 * (d9 + 1); omega)) xd_Ch_extend_49 ?_
        refine xr_callV (pc := 52) (As := [.int x1, .int x5, .int (if (M 8 7 x5.toNatClampNeg) < x3 then (M 8 7 x5.toNatClampNeg) else x3)]) (rest := []) hC hR hS (xc_Ch_leastWith l G  h) xo_C4 xv_Ch_107 ⟨rfl, rfl, by show 1 + 1 ≤ 4 + (d9 + 1); omega, by show 8 + (6 + 11) + 24 ≤ 60 + 40 * (d9 + 1); omega⟩ rfl hl.1 rfl (Nat.le_of_ble_eq_true rfl) xd_Ch_extend_52 (fun r2 M1 H locs h hR hS => ?_)
        refine lv_istore (pc := 55) (lv' := [(6, .int r2), (0, .ref (G.1 8 4)), (1, .int x1), (3, .int x3), (4, .int x4), (5, .int x5)]) hx hb xd_Ch_extend_55 hl (by decide) rfl (fun ls hl => ?_)
        refine lv_iload (pc := 57) hx hb xd_Ch_extend_57 (lv_at hl 0 rfl) ?_
        refine lv_aload_n (pc := 59) hx hb xd_Ch_extend_59 rfl (lv_at hl 1 rfl) ?_
        refine xr_get (pc := 60) (v := .int (M1 8 4 8)) hC hR xo_C4 xf_Ch_39 rfl xd_Ch_extend_60 ?_
        refine lv_icmp_le (pc := 63) (tgt := 106) hx hb xd_Ch_extend_63 (by decide) (fun hq => ?_) (fun hq => ?_)
        · have h := h.1 hq
          refine lv_iinc (pc := 106) (v := (x5 + (1 : Int32))) (lv' := [(5, .int (x5 + (1 : Int32))), (6, .int r2), (0, .ref (G.1 8 4)), (1, .int x1), (3, .int x3), (4, .int x4)]) hx hb xd_Ch_extend_106 hl (k := 5) rfl rfl (by decide) rfl (fun ls hl => ?_)
          refine lv_goto (pc := 109) (tgt := 22) hx hb xd_Ch_extend_109 (by decide) ?_
          exact ih (x5 + (1 : Int32)) M1 H locs ls h hR hS (lv_sub hl [2, 3, 4, 5, 0] rfl)
        · have h := h.2 hq
          refine lv_aload_n (pc := 66) hx hb xd_Ch_extend_66 rfl (lv_at hl 1 rfl) ?_
          refine xr_get (pc := 67) (v := .ref (G.1 8 9)) hC hR xo_C4 xf_Ch_26 rfl xd_Ch_extend_67 ?_
          refine lv_iload_n (pc := 70) hx hb xd_Ch_extend_70 rfl (lv_at hl 2 rfl) ?_
          refine lv_iload (pc := 71) hx hb xd_Ch_extend_71 (lv_at hl 5 rfl) ?_
          obtain ⟨hq, h⟩ := h
          refine xr_iast (pc := 73) hC hR hS xo_C9 hq xd_Ch_extend_73 (fun H locs hR hS => ?_)
          refine lv_iload_n (pc := 74) hx hb xd_Ch_extend_74 rfl (lv_at hl 2 rfl) ?_
          refine lv_iconst (pc := 75) (v := (1 : Int32)) hx hb xd_Ch_extend_75 (by decide) ?_
          refine lv_iadd (pc := 76) hx hb xd_Ch_extend_76 ?_
          refine lv_aload_n (pc := 77) hx hb xd_Ch_extend_77 rfl (lv_at hl 1 rfl) ?_
          refine xr_get (pc := 78) (v := .int ((us M1 8 9 x1.toNatClampNeg x5) 8 4 6)) hC hR xo_C4 xf_Ch_32 rfl xd_Ch_extend_78 ?_
          refine lv_icmp_ge (pc := 81) (tgt := 100) hx hb xd_Ch_extend_81 (by decide) (fun hq => ?_) (fun hq => ?_)
          · have h := h.1 hq
            refine lv_aload_n (pc := 100) hx hb xd_Ch_extend_100 rfl (lv_at hl 1 rfl) ?_
            refine lv_iload (pc := 101) hx hb xd_Ch_extend_101 (lv_at hl 0 rfl) ?_
            refine xr_callVv (pc := 103) (As := [.int r2]) (rest := []) hC hR hS (xc_Ch_keepTrial l G  h) xo_C4 xv_Ch_111 ⟨rfl, rfl, by show 1 + 1 ≤ 4 + (d9 + 1); omega, by show 8 + (2 + 11) + 30 ≤ 60 + 40 * (d9 + 1); omega⟩ rfl hl.1 rfl (Nat.le_of_ble_eq_true rfl) xd_Ch_extend_103 (fun M3 H locs h hR hS => ?_)
            refine lv_iinc (pc := 106) (v := (x5 + (1 : Int32))) (lv' := [(5, .int (x5 + (1 : Int32))), (6, .int r2), (0, .ref (G.1 8 4)), (1, .int x1), (3, .int x3), (4, .int x4)]) hx hb xd_Ch_extend_106 hl (k := 5) rfl rfl (by decide) rfl (fun ls hl => ?_)
            refine lv_goto (pc := 109) (tgt := 22) hx hb xd_Ch_extend_109 (by decide) ?_
            exact ih (x5 + (1 : Int32)) M3 H locs ls h hR hS (lv_sub hl [2, 3, 4, 5, 0] rfl)
          · have h := h.2 hq
            refine lv_aload_n (pc := 84) hx hb xd_Ch_extend_84 rfl (lv_at hl 1 rfl) ?_
            refine lv_iload_n (pc := 85) hx hb xd_Ch_extend_85 rfl (lv_at hl 2 rfl) ?_
            refine lv_iconst (pc := 86) (v := (1 : Int32)) hx hb xd_Ch_extend_86 (by decide) ?_
            refine lv_iadd (pc := 87) hx hb xd_Ch_extend_87 ?_
            refine lv_iload (pc := 88) hx hb xd_Ch_extend_88 (lv_at hl 5 rfl) ?_
            refine lv_iconst (pc := 90) (v := (1 : Int32)) hx hb xd_Ch_extend_90 (by decide) ?_
            refine lv_iadd (pc := 91) hx hb xd_Ch_extend_91 ?_
            refine lv_iload (pc := 92) hx hb xd_Ch_extend_92 (lv_at hl 0 rfl) ?_
            refine xr_callSv (pc := 94) (As := [.ref (G.1 8 4), .int (x1 + (1 : Int32)), .int (x5 + (1 : Int32)), .int r2]) (rest := []) hC hR hS (hrec (x1 + (1 : Int32)) (x5 + (1 : Int32)) r2 (us M1 8 9 x1.toNatClampNeg x5) _ h) xv_Ch_67 ⟨rfl, rfl, by show 4 + d9 + 1 ≤ 4 + (d9 + 1); omega, by show 8 + (7 + 11) + (60 + 40 * d9) ≤ 60 + 40 * (d9 + 1); omega⟩ rfl hl.1 rfl (Nat.le_of_ble_eq_true rfl) xd_Ch_extend_94 (fun M4 H locs h hR hS => ?_)
            refine lv_goto (pc := 97) (tgt := 106) hx hb xd_Ch_extend_97 (by decide) ?_
            refine lv_iinc (pc := 106) (v := (x5 + (1 : Int32))) (lv' := [(5, .int (x5 + (1 : Int32))), (6, .int r2), (0, .ref (G.1 8 4)), (1, .int x1), (3, .int x3), (4, .int x4)]) hx hb xd_Ch_extend_106 hl (k := 5) rfl rfl (by decide) rfl (fun ls hl => ?_)
            refine lv_goto (pc := 109) (tgt := 22) hx hb xd_Ch_extend_109 (by decide) ?_
            exact ih (x5 + (1 : Int32)) M4 H locs ls h hR hS (lv_sub hl [2, 3, 4, 5, 0] rfl)
set_option maxHeartbeats 4000000 in
set_option maxRecDepth 100000 in
theorem xc_Ch_extend (l : Launch) (G : xG) : ∀ (d : Nat) (a1 a2 a3 : Int32) (M : xM) (post : xM → Prop), xw_Ch_extend d a1 a2 a3 M post → Met l y_Ch_extend (Cond.code y_Ch_extend b_Ch_extend 7 none :: xTG) (rmx d) (xPre G M [.ref (G.1 8 4), .int a1, .int a2, .int a3]) (xPv G post) 0 0 (xA G) := by
  intro d
  induction d with
  | zero => intro a1 a2 a3 M post h; exact h.elim
  | succ d9 hrec =>
    intro a1 a2 a3 M post h
    refine xMet (own := R_Ch) [.ref (G.1 8 4), .int a1, .int a2, .int a3] (Or.inl (by decide)) rfl (Nat.le_of_ble_eq_true rfl) (fun p e s m args below meth c ls hC hr hlk hR hS hl => ?_)
    have hx := hC.1
    have hb := hC.2.1
    have hl : lv_has ls 7 [(0, .ref (G.1 8 4)), (1, .int a1), (2, .int a2), (3, .int a3)] := hl
    obtain ⟨H, eH⟩ : ∃ H : Heap, H = s.heap := ⟨_, rfl⟩
    obtain ⟨locs, eL⟩ : ∃ locs : List Loc, locs = [] := ⟨_, rfl⟩
    rw [← eH] at hR
    replace hS : va_S (xA G) s.heap H locs := by rw [eH, eL]; exact hS
    suffices hh : W p l e (rmx (d9 + 1)) s m args below meth c H locs 0 0 (MQ below (xPv G post) args s 0 0 (xA G)) (F0 m 0 ls []) from by rw [eH, eL] at hh; exact hh
    unfold xw_Ch_extend at h
    refine lv_iload_n (pc := 0) hx hb xd_Ch_extend_0 rfl (lv_at hl 1 rfl) ?_
    refine lv_iconst (pc := 1) (v := (5 : Int32)) hx hb xd_Ch_extend_1 (by decide) ?_
    refine lv_icmp_lt (pc := 2) (tgt := 6) hx hb xd_Ch_extend_2 (by decide) (fun hq => ?_) (fun hq => ?_)
    · have h := h.1 hq
      refine lv_aload_n (pc := 6) hx hb xd_Ch_extend_6 rfl (lv_at hl 0 rfl) ?_
      refine xr_get (pc := 7) (v := .int (M 8 4 7)) hC hR xo_C4 xf_Ch_36 rfl xd_Ch_extend_7 ?_
      refine lv_aload_n (pc := 10) hx hb xd_Ch_extend_10 rfl (lv_at hl 0 rfl) ?_
      refine xr_get (pc := 11) (v := .int (M 8 4 6)) hC hR xo_C4 xf_Ch_32 rfl xd_Ch_extend_11 ?_
      refine lv_iload_n (pc := 14) hx hb xd_Ch_extend_14 rfl (lv_at hl 1 rfl) ?_
      refine lv_isub (pc := 15) hx hb xd_Ch_extend_15 ?_
      refine lv_isub (pc := 16) hx hb xd_Ch_extend_16 ?_
      refine lv_istore (pc := 17) (lv' := [(4, .int ((M 8 4 7) - ((M 8 4 6) - a1))), (0, .ref (G.1 8 4)), (1, .int a1), (2, .int a2), (3, .int a3)]) hx hb xd_Ch_extend_17 hl (by decide) rfl (fun ls hl => ?_)
      refine lv_iload_n (pc := 19) hx hb xd_Ch_extend_19 rfl (lv_at hl 3 rfl) ?_
      refine lv_istore (pc := 20) (lv' := [(5, .int a2), (4, .int ((M 8 4 7) - ((M 8 4 6) - a1))), (0, .ref (G.1 8 4)), (1, .int a1), (2, .int a2), (3, .int a3)]) hx hb xd_Ch_extend_20 hl (by decide) rfl (fun ls hl => ?_)
      obtain ⟨n, h⟩ := h
      refine xt_Ch_extend_22 hC hr hlk hrec (fun y5 M6 H locs ls h hR hS hl => ?_) n a2 M H locs ls h hR hS (lv_sub hl [2, 3, 5, 1, 0] rfl)
      exact xr_vret hC hr hlk hR hS h xd_Ch_extend_112
    · have h := h.2 hq
      exact xr_vret hC hr hlk hR hS h xd_Ch_extend_5
