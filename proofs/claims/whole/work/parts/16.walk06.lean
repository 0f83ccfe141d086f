/-! ColoursApart$Rgb.isColour(I)Z -/
theorem xd_Rg_isColour_0 : decode b_Rg_isColour 0 = .ok (.iload_n 0, 1) := by decide +kernel
theorem xd_Rg_isColour_1 : decode b_Rg_isColour 1 = .ok (.ifCond .lt 13, 3) := by decide +kernel
theorem xd_Rg_isColour_4 : decode b_Rg_isColour 4 = .ok (.iload_n 0, 1) := by decide +kernel
theorem xd_Rg_isColour_5 : decode b_Rg_isColour 5 = .ok (.ldc 9, 2) := by decide +kernel
theorem xd_Rg_isColour_7 : decode b_Rg_isColour 7 = .ok (.if_icmp .gt 7, 3) := by decide +kernel
theorem xd_Rg_isColour_10 : decode b_Rg_isColour 10 = .ok (.iconst 1, 1) := by decide +kernel
theorem xd_Rg_isColour_11 : decode b_Rg_isColour 11 = .ok (.goto 4, 3) := by decide +kernel
theorem xd_Rg_isColour_14 : decode b_Rg_isColour 14 = .ok (.iconst 0, 1) := by decide +kernel
theorem xd_Rg_isColour_15 : decode b_Rg_isColour 15 = .ok (.ireturn, 1) := by decide +kernel
abbrev rm_Rg_isColour : Room := { frames := 0, cells := 0, slots := 0, locals := 0 }
def xw_Rg_isColour (a0 : Int32) (M : xM) (post : Int32 → xM → Prop) : Prop :=
  ((a0 < 0) → (post (0 : Int32) M)) ∧ ((¬ a0 < 0) → ((((16777215 : Int32) < a0) → (post (0 : Int32) M)) ∧ ((¬ (16777215 : Int32) < a0) → (post (1 : Int32) M))))
set_option maxHeartbeats 4000000 in
set_option maxRecDepth 100000 in
theorem xc_Rg_isColour (l : Launch) (G : xG) {a0 : Int32}  {M : xM} {post : Int32 → xM → Prop} (h : xw_Rg_isColour a0 M post) : Met l y_Rg_isColour (Cond.code y_Rg_isColour b_Rg_isColour 1 (some .boolean) :: xTG) rm_Rg_isColour (xPre G M [.int a0]) (xPi G post) 0 0 (xA G) := by
  refine xMet (own := R_Rg) [.int a0] (Or.inl (by decide)) rfl (Nat.le_of_ble_eq_true rfl) (fun p e s m args below meth c ls hC hr hlk hR hS hl => ?_)
  have hx := hC.1
  have hb := hC.2.1
  have hl : lv_has ls 1 [(0, .int a0)] := hl
  obtain ⟨H, eH⟩ : ∃ H : Heap, H = s.heap := ⟨_, rfl⟩
  obtain ⟨locs, eL⟩ : ∃ locs : List Loc, locs = [] := ⟨_, rfl⟩
  rw [← eH] at hR
  replace hS : va_S (xA G) s.heap H locs := by rw [eH, eL]; exact hS
  suffices hh : W p l e rm_Rg_isColour s m args below meth c H locs 0 0 (MQ below (xPi G post) args s 0 0 (xA G)) (F0 m 0 ls []) from by rw [eH, eL] at hh; exact hh
  unfold xw_Rg_isColour at h
  refine lv_iload_n (pc := 0) hx hb xd_Rg_isColour_0 rfl (lv_at hl 0 rfl) ?_
  refine lv_if_lt (pc := 1) (tgt := 14) hx hb xd_Rg_isColour_1 (by decide) (fun hq => ?_) (fun hq => ?_)
  · have h := h.1 hq
    refine lv_iconst (pc := 14) (v := (0 : Int32)) hx hb xd_Rg_isColour_14 (by decide) ?_
    exact xr_zret hC hr hlk hR hS (by decide) h xd_Rg_isColour_15
  · have h := h.2 hq
    refine lv_iload_n (pc := 4) hx hb xd_Rg_isColour_4 rfl (lv_at hl 0 rfl) ?_
    refine lv_ldc (pc := 5) (v := (16777215 : Int32)) hx hb hC.2.2.2.1 (hC.2.2.2.2.1 _ xk_Rg_9) xd_Rg_isColour_5 ?_
    refine lv_icmp_gt (pc := 7) (tgt := 14) hx hb xd_Rg_isColour_7 (by decide) (fun hq => ?_) (fun hq => ?_)
    · have h := h.1 hq
      refine lv_iconst (pc := 14) (v := (0 : Int32)) hx hb xd_Rg_isColour_14 (by decide) ?_
      exact xr_zret hC hr hlk hR hS (by decide) h xd_Rg_isColour_15
    · have h := h.2 hq
      refine lv_iconst (pc := 10) (v := (1 : Int32)) hx hb xd_Rg_isColour_10 (by decide) ?_
      refine lv_goto (pc := 11) (tgt := 15) hx hb xd_Rg_isColour_11 (by decide) ?_
      exact xr_zret hC hr hlk hR hS (by decide) h xd_Rg_isColour_15

/-! ColoursApart$Sheet.layOut(II)V -/
theorem xd_Sh_layOut_0 : decode b_Sh_layOut 0 = .ok (.aload_n 0, 1) := by decide +kernel
theorem xd_Sh_layOut_1 : decode b_Sh_layOut 1 = .ok (.iload_n 1, 1) := by decide +kernel
theorem xd_Sh_layOut_2 : decode b_Sh_layOut 2 = .ok (.putfield 15, 3) := by decide +kernel
theorem xd_Sh_layOut_5 : decode b_Sh_layOut 5 = .ok (.aload_n 0, 1) := by decide +kernel
theorem xd_Sh_layOut_6 : decode b_Sh_layOut 6 = .ok (.iload_n 2, 1) := by decide +kernel
theorem xd_Sh_layOut_7 : decode b_Sh_layOut 7 = .ok (.putfield 19, 3) := by decide +kernel
theorem xd_Sh_layOut_10 : decode b_Sh_layOut 10 = .ok (.iconst 0, 1) := by decide +kernel
theorem xd_Sh_layOut_11 : decode b_Sh_layOut 11 = .ok (.istore_n 3, 1) := by decide +kernel
theorem xd_Sh_layOut_12 : decode b_Sh_layOut 12 = .ok (.iload_n 3, 1) := by decide +kernel
theorem xd_Sh_layOut_13 : decode b_Sh_layOut 13 = .ok (.bipush 60, 2) := by decide +kernel
theorem xd_Sh_layOut_15 : decode b_Sh_layOut 15 = .ok (.if_icmp .ge 16, 3) := by decide +kernel
theorem xd_Sh_layOut_18 : decode b_Sh_layOut 18 = .ok (.aload_n 0, 1) := by decide +kernel
theorem xd_Sh_layOut_19 : decode b_Sh_layOut 19 = .ok (.getfield 11, 3) := by decide +kernel
theorem xd_Sh_layOut_22 : decode b_Sh_layOut 22 = .ok (.iload_n 3, 1) := by decide +kernel
theorem xd_Sh_layOut_23 : decode b_Sh_layOut 23 = .ok (.iconst 0, 1) := by decide +kernel
theorem xd_Sh_layOut_24 : decode b_Sh_layOut 24 = .ok (.iastore, 1) := by decide +kernel
theorem xd_Sh_layOut_25 : decode b_Sh_layOut 25 = .ok (.iinc 3 1, 3) := by decide +kernel
theorem xd_Sh_layOut_28 : decode b_Sh_layOut 28 = .ok (.goto (-16), 3) := by decide +kernel
theorem xd_Sh_layOut_31 : decode b_Sh_layOut 31 = .ok (.return_, 1) := by decide +kernel
abbrev rm_Sh_layOut : Room := { frames := 0, cells := 0, slots := 0, locals := 0 }
def xw_Sh_layOut_12 (g : Nat) (post : xM → Prop) (k31 : Int32 → xM → Prop) : Nat → Int32 → xM → Prop
  | 0, _, _ => False
  | n12 + 1, x3, M => (((60 : Int32) ≤ x3) → (k31 x3 M)) ∧ ((¬ (60 : Int32) ≤ x3) → ((vp_in x3 60) ∧ (xw_Sh_layOut_12 g post k31 n12 (x3 + (1 : Int32)) (us M g 1 x3.toNatClampNeg (0 : Int32)))))
def xw_Sh_layOut (g : Nat) (a1 : Int32) (a2 : Int32) (M : xM) (post : xM → Prop) : Prop :=
  ∃ n12 : Nat, xw_Sh_layOut_12 g post (fun (y1 : Int32) (M2 : xM) => post M2) n12 (0 : Int32) (us (us M g 0 1 a1) g 0 2 a2)
set_option maxHeartbeats 4000000 in
set_option maxRecDepth 100000 in
theorem xt_Sh_layOut_12 {p : Program} {l : Launch} {e : Env} {s : State} {m : MethodId} {args : Array Value} {below : List Frame} {meth : Method} {c : Code} {G : xG} (hC : xC p s m args c b_Sh_layOut R_Sh 4 G) (hr : meth.sig.returnType = none) (hlk : meth.locks = false) {g : Nat} (hg : 4 ≤ g ∧ g < 8) {post : xM → Prop} {k31 : Int32 → xM → Prop} (hk31 : ∀ (x3 : Int32) (M : xM) (H : Heap) (locs : List Loc) (ls : Array Slot), k31 x3 M → xRp G M H → va_S (xA G) s.heap H locs → lv_has ls 4 [(0, .ref (G.1 g 0)), (3, .int x3)] → W p l e rm_Sh_layOut s m args below meth c H locs 0 0 (MQ below (xPv G post) args s 0 0 (xA G)) (F0 m 31 ls [])) : ∀ (n : Nat) (x3 : Int32) (M : xM) (H : Heap) (locs : List Loc) (ls : Array Slot), xw_Sh_layOut_12 g post k31 n x3 M → xRp G M H → va_S (xA G) s.heap H locs → lv_has ls 4 [(0, .ref (G.1 g 0)), (3, .int x3)] → W p l e rm_Sh_layOut s m args below meth c H locs 0 0 (MQ below (xPv G post) args s 0 0 (xA G)) (F0 m 12 ls []) := by
  have hx := hC.1
  have hb := hC.2.1
  intro n
  induction n with
  | zero => intro x3 M H locs ls; exact fun h => h.elim
  | succ n ih =>
    intro x3 M H locs ls h hR hS hl
    refine lv_iload_n (pc := 12) hx hb xd_Sh_layOut_12 rfl (lv_at hl 1 rfl) ?_
    refine lv_bipush (pc := 13) (v := (60 : Int32)) hx hb xd_Sh_layOut_13 (by decide) ?_
    refine lv_icmp_ge (pc := 15) (tgt := 31) hx hb xd_Sh_layOut_15 (by decide) (fun hq => ?_) (fun hq => ?_)
    · have h := h.1 hq
      exact hk31 x3 M H locs ls h hR hS (lv_sub hl [0, 1] rfl)
    · have h := h.2 hq
      refine lv_aload_n (pc := 18) hx hb xd_Sh_layOut_18 rfl (lv_at hl 0 rfl) ?_
      refine xr_get (pc := 19) (v := .ref (G.1 g 1)) hC hR (xo_S0 hg) xf_Sh_11 rfl xd_Sh_layOut_19 ?_
      refine lv_iload_n (pc := 22) hx hb xd_Sh_layOut_22 rfl (lv_at hl 1 rfl) ?_
      refine lv_iconst (pc := 23) (v := (0 : Int32)) hx hb xd_Sh_layOut_23 (by decide) ?_
      obtain ⟨hq, h⟩ := h
      refine xr_iast (pc := 24) hC hR hS (xo_S1 hg) hq xd_Sh_layOut_24 (fun H locs hR hS => ?_)
      refine lv_iinc (pc := 25) (v := (x3 + (1 : Int32))) (lv' := [(3, .int (x3 + (1 : Int32))), (0, .ref (G.1 g 0))]) hx hb xd_Sh_layOut_25 hl (k := 1) rfl rfl (by decide) rfl (fun ls hl => ?_)
      refine lv_goto (pc := 28) (tgt := 12) hx hb xd_Sh_layOut_28 (by decide) ?_
      exact ih (x3 + (1 : Int32)) (us M g 1 x3.toNatClampNeg (0 : Int32)) H locs ls h hR hS (lv_sub hl [1, 0] rfl)
set_option maxHeartbeats 4000000 in
set_option maxRecDepth 100000 in
theorem xc_Sh_layOut (l : Launch) (G : xG) {g : Nat} {a1 : Int32} {a2 : Int32} (hg : 4 ≤ g ∧ g < 8) {M : xM} {post : xM → Prop} (h : xw_Sh_layOut g a1 a2 M post) : Met l y_Sh_layOut (Cond.code y_Sh_layOut b_Sh_layOut 4 none :: xTG) rm_Sh_layOut (xPre G M [.ref (G.1 g 0), .int a1, .int a2]) (xPv G post) 0 0 (xA G) := by
  refine xMet (own := R_Sh) [.ref (G.1 g 0), .int a1, .int a2] (Or.inl (by decide)) rfl (Nat.le_of_ble_eq_true rfl) (fun p e s m args below meth c ls hC hr hlk hR hS hl => ?_)
  have hx := hC.1
  have hb := hC.2.1
  have hl : lv_has ls 4 [(0, .ref (G.1 g 0)), (1, .int a1), (2, .int a2)] := hl
  obtain ⟨H, eH⟩ : ∃ H : Heap, H = s.heap := ⟨_, rfl⟩
  obtain ⟨locs, eL⟩ : ∃ locs : List Loc, locs = [] := ⟨_, rfl⟩
  rw [← eH] at hR
  replace hS : va_S (xA G) s.heap H locs := by rw [eH, eL]; exact hS
  suffices hh : W p l e rm_Sh_layOut s m args below meth c H locs 0 0 (MQ below (xPv G post) args s 0 0 (xA G)) (F0 m 0 ls []) from by rw [eH, eL] at hh; exact hh
  unfold xw_Sh_layOut at h
  refine lv_aload_n (pc := 0) hx hb xd_Sh_layOut_0 rfl (lv_at hl 0 rfl) ?_
  refine lv_iload_n (pc := 1) hx hb xd_Sh_layOut_1 rfl (lv_at hl 1 rfl) ?_
  refine xr_put (pc := 2) hC hR hS (xo_S0 hg) xf_Sh_15 xp_8_1 rfl rfl rfl xd_Sh_layOut_2 (fun H locs hR hS => ?_)
  refine lv_aload_n (pc := 5) hx hb xd_Sh_layOut_5 rfl (lv_at hl 0 rfl) ?_
  refine lv_iload_n (pc := 6) hx hb xd_Sh_layOut_6 rfl (lv_at hl 2 rfl) ?_
  refine xr_put (pc := 7) hC hR hS (xo_S0 hg) xf_Sh_19 xp_8_2 rfl rfl rfl xd_Sh_layOut_7 (fun H locs hR hS => ?_)
  refine lv_iconst (pc := 10) (v := (0 : Int32)) hx hb xd_Sh_layOut_10 (by decide) ?_
  refine lv_istore_n (pc := 11) (lv' := [(3, .int (0 : Int32)), (0, .ref (G.1 g 0)), (1, .int a1), (2, .int a2)]) hx hb xd_Sh_layOut_11 rfl hl (by decide) rfl (fun ls hl => ?_)
  obtain ⟨n, h⟩ := h
  refine xt_Sh_layOut_12 hC hr hlk hg (fun y1 M2 H locs ls h hR hS hl => ?_) n (0 : Int32) (us (us M g 0 1 a1) g 0 2 a2) H locs ls h hR hS (lv_sub hl [1, 0] rfl)
  exact xr_vret hC hr hlk hR hS h xd_Sh_layOut_31

/-! ColoursApart$Sheet.takeAway()V -/
theorem xd_Sh_takeAway_0 : decode b_Sh_takeAway 0 = .ok (.aload_n 0, 1) := by decide +kernel
theorem xd_Sh_takeAway_1 : decode b_Sh_takeAway 1 = .ok (.iconst (-1), 1) := by decide +kernel
theorem xd_Sh_takeAway_2 : decode b_Sh_takeAway 2 = .ok (.putfield 19, 3) := by decide +kernel
theorem xd_Sh_takeAway_5 : decode b_Sh_takeAway 5 = .ok (.return_, 1) := by decide +kernel
abbrev rm_Sh_takeAway : Room := { frames := 0, cells := 0, slots := 0, locals := 0 }
def xw_Sh_takeAway (g : Nat) (M : xM) (post : xM → Prop) : Prop :=
  post (us M g 0 2 (-1 : Int32))
set_option maxHeartbeats 4000000 in
set_option maxRecDepth 100000 in
theorem xc_Sh_takeAway (l : Launch) (G : xG) {g : Nat} (hg : 4 ≤ g ∧ g < 8) {M : xM} {post : xM → Prop} (h : xw_Sh_takeAway g M post) : Met l y_Sh_takeAway (Cond.code y_Sh_takeAway b_Sh_takeAway 1 none :: xTG) rm_Sh_takeAway (xPre G M [.ref (G.1 g 0)]) (xPv G post) 0 0 (xA G) := by
  refine xMet (own := R_Sh) [.ref (G.1 g 0)] (Or.inl (by decide)) rfl (Nat.le_of_ble_eq_true rfl) (fun p e s m args below meth c ls hC hr hlk hR hS hl => ?_)
  have hx := hC.1
  have hb := hC.2.1
  have hl : lv_has ls 1 [(0, .ref (G.1 g 0))] := hl
  obtain ⟨H, eH⟩ : ∃ H : Heap, H = s.heap := ⟨_, rfl⟩
  obtain ⟨locs, eL⟩ : ∃ locs : List Loc, locs = [] := ⟨_, rfl⟩
  rw [← eH] at hR
  replace hS : va_S (xA G) s.heap H locs := by rw [eH, eL]; exact hS
  suffices hh : W p l e rm_Sh_takeAway s m args below meth c H locs 0 0 (MQ below (xPv G post) args s 0 0 (xA G)) (F0 m 0 ls []) from by rw [eH, eL] at hh; exact hh
  unfold xw_Sh_takeAway at h
  refine lv_aload_n (pc := 0) hx hb xd_Sh_takeAway_0 rfl (lv_at hl 0 rfl) ?_
  refine lv_iconst (pc := 1) (v := (-1 : Int32)) hx hb xd_Sh_takeAway_1 (by decide) ?_
  refine xr_put (pc := 2) hC hR hS (xo_S0 hg) xf_Sh_19 xp_8_2 rfl rfl rfl xd_Sh_takeAway_2 (fun H locs hR hS => ?_)
  exact xr_vret hC hr hlk hR hS h xd_Sh_takeAway_5

/-! ColoursApart$Sheet.isThere()Z -/
theorem xd_Sh_isThere_0 : decode b_Sh_isThere 0 = .ok (.aload_n 0, 1) := by decide +kernel
theorem xd_Sh_isThere_1 : decode b_Sh_isThere 1 = .ok (.getfield 19, 3) := by decide +kernel
theorem xd_Sh_isThere_4 : decode b_Sh_isThere 4 = .ok (.iconst (-1), 1) := by decide +kernel
theorem xd_Sh_isThere_5 : decode b_Sh_isThere 5 = .ok (.if_icmp .eq 7, 3) := by decide +kernel
theorem xd_Sh_isThere_8 : decode b_Sh_isThere 8 = .ok (.iconst 1, 1) := by decide +kernel
theorem xd_Sh_isThere_9 : decode b_Sh_isThere 9 = .ok (.goto 4, 3) := by decide +kernel
theorem xd_Sh_isThere_12 : decode b_Sh_isThere 12 = .ok (.iconst 0, 1) := by decide +kernel
theorem xd_Sh_isThere_13 : decode b_Sh_isThere 13 = .ok (.ireturn, 1) := by decide +kernel
abbrev rm_Sh_isThere : Room := { frames := 0, cells := 0, slots := 0, locals := 0 }
def xw_Sh_isThere (g : Nat) (M : xM) (post : Int32 → xM → Prop) : Prop :=
  (((M g 0 2) = (-1 : Int32)) → (post (0 : Int32) M)) ∧ ((¬ (M g 0 2) = (-1 : Int32)) → (post (1 : Int32) M))
set_option maxHeartbeats 4000000 in
set_option maxRecDepth 100000 in
theorem xc_Sh_isThere (l : Launch) (G : xG) {g : Nat} (hg : 4 ≤ g ∧ g < 8) {M : xM} {post : Int32 → xM → Prop} (h : xw_Sh_isThere g M post) : Met l y_Sh_isThere (Cond.code y_Sh_isThere b_Sh_isThere 1 (some .boolean) :: xTG) rm_Sh_isThere (xPre G M [.ref (G.1 g 0)]) (xPi G post) 0 0 (xA G) := by
  refine xMet (own := R_Sh) [.ref (G.1 g 0)] (Or.inl (by decide)) rfl (Nat.le_of_ble_eq_true rfl) (fun p e s m args below meth c ls hC hr hlk hR hS hl => ?_)
  have hx := hC.1
  have hb := hC.2.1
  have hl : lv_has ls 1 [(0, .ref (G.1 g 0))] := hl
  obtain ⟨H, eH⟩ : ∃ H : Heap, H = s.heap := ⟨_, rfl⟩
  obtain ⟨locs, eL⟩ : ∃ locs : List Loc, locs = [] := ⟨_, rfl⟩
  rw [← eH] at hR
  replace hS : va_S (xA G) s.heap H locs := by rw [eH, eL]; exact hS
  suffices hh : W p l e rm_Sh_isThere s m args below meth c H locs 0 0 (MQ below (xPi G post) args s 0 0 (xA G)) (F0 m 0 ls []) from by rw [eH, eL] at hh; exact hh
  unfold xw_Sh_isThere at h
  refine lv_aload_n (pc := 0) hx hb xd_Sh_isThere_0 rfl (lv_at hl 0 rfl) ?_
  refine xr_get (pc := 1) (v := .int (M g 0 2)) hC hR (xo_S0 hg) xf_Sh_19 rfl xd_Sh_isThere_1 ?_
  refine lv_iconst (pc := 4) (v := (-1 : Int32)) hx hb xd_Sh_isThere_4 (by decide) ?_
  refine lv_icmp_eq (pc := 5) (tgt := 12) hx hb xd_Sh_isThere_5 (by decide) (fun hq => ?_) (fun hq => ?_)
  · have h := h.1 hq
    refine lv_iconst (pc := 12) (v := (0 : Int32)) hx hb xd_Sh_isThere_12 (by decide) ?_
    exact xr_zret hC hr hlk hR hS (by decide) h xd_Sh_isThere_13
  · have h := h.2 hq
    refine lv_iconst (pc := 8) (v := (1 : Int32)) hx hb xd_Sh_isThere_8 (by decide) ?_
    refine lv_goto (pc := 9) (tgt := 13) hx hb xd_Sh_isThere_9 (by decide) ?_
    exact xr_zret hC hr hlk hR hS (by decide) h xd_Sh_isThere_13

/-! ColoursApart$Sheet.put(II)V -/
theorem xd_Sh_put_0 : decode b_Sh_put 0 = .ok (.aload_n 0, 1) := by decide +kernel
theorem xd_Sh_put_1 : decode b_Sh_put 1 = .ok (.getfield 15, 3) := by decide +kernel
theorem xd_Sh_put_4 : decode b_Sh_put 4 = .ok (.ifCond .ne 17, 3) := by decide +kernel
theorem xd_Sh_put_7 : decode b_Sh_put 7 = .ok (.aload_n 0, 1) := by decide +kernel
theorem xd_Sh_put_8 : decode b_Sh_put 8 = .ok (.getfield 11, 3) := by decide +kernel
theorem xd_Sh_put_11 : decode b_Sh_put 11 = .ok (.iload_n 1, 1) := by decide +kernel
theorem xd_Sh_put_12 : decode b_Sh_put 12 = .ok (.iload_n 2, 1) := by decide +kernel
theorem xd_Sh_put_13 : decode b_Sh_put 13 = .ok (.sipush 255, 3) := by decide +kernel
theorem xd_Sh_put_16 : decode b_Sh_put 16 = .ok (.iand, 1) := by decide +kernel
theorem xd_Sh_put_17 : decode b_Sh_put 17 = .ok (.iastore, 1) := by decide +kernel
theorem xd_Sh_put_18 : decode b_Sh_put 18 = .ok (.goto 29, 3) := by decide +kernel
theorem xd_Sh_put_21 : decode b_Sh_put 21 = .ok (.aload_n 0, 1) := by decide +kernel
theorem xd_Sh_put_22 : decode b_Sh_put 22 = .ok (.getfield 15, 3) := by decide +kernel
theorem xd_Sh_put_25 : decode b_Sh_put 25 = .ok (.iconst 1, 1) := by decide +kernel
theorem xd_Sh_put_26 : decode b_Sh_put 26 = .ok (.if_icmp .ne 14, 3) := by decide +kernel
theorem xd_Sh_put_29 : decode b_Sh_put 29 = .ok (.aload_n 0, 1) := by decide +kernel
theorem xd_Sh_put_30 : decode b_Sh_put 30 = .ok (.getfield 11, 3) := by decide +kernel
theorem xd_Sh_put_33 : decode b_Sh_put 33 = .ok (.iload_n 1, 1) := by decide +kernel
theorem xd_Sh_put_34 : decode b_Sh_put 34 = .ok (.iload_n 2, 1) := by decide +kernel
theorem xd_Sh_put_35 : decode b_Sh_put 35 = .ok (.i2s, 1) := by decide +kernel
theorem xd_Sh_put_36 : decode b_Sh_put 36 = .ok (.iastore, 1) := by decide +kernel
theorem xd_Sh_put_37 : decode b_Sh_put 37 = .ok (.goto 10, 3) := by decide +kernel
theorem xd_Sh_put_40 : decode b_Sh_put 40 = .ok (.aload_n 0, 1) := by decide +kernel
theorem xd_Sh_put_41 : decode b_Sh_put 41 = .ok (.getfield 11, 3) := by decide +kernel
theorem xd_Sh_put_44 : decode b_Sh_put 44 = .ok (.iload_n 1, 1) := by decide +kernel
theorem xd_Sh_put_45 : decode b_Sh_put 45 = .ok (.iload_n 2, 1) := by decide +kernel
theorem xd_Sh_put_46 : decode b_Sh_put 46 = .ok (.iastore, 1) := by decide +kernel
theorem xd_Sh_put_47 : decode b_Sh_put 47 = .ok (.return_, 1) := by decide +kernel
abbrev rm_Sh_put : Room := { frames := 0, cells := 0, slots := 0, locals := 0 }
def xw_Sh_put (g : Nat) (a1 : Int32) (a2 : Int32) (M : xM) (post : xM → Prop) : Prop :=
  ((¬ (M g 0 1) = 0) → (((¬ (M g 0 1) = (1 : Int32)) → ((vp_in a1 60) ∧ (post (us M g 1 a1.toNatClampNeg a2)))) ∧ (((M g 0 1) = (1 : Int32)) → ((vp_in a1 60) ∧ (post (us M g 1 a1.toNatClampNeg ((a2).toInt16.toInt32))))))) ∧ (((M g 0 1) = 0) → ((vp_in a1 60) ∧ (post (us M g 1 a1.toNatClampNeg (a2 &&& (255 : Int32))))))
set_option maxHeartbeats 4000000 in
set_option maxRecDepth 100000 in
theorem xc_Sh_put (l : Launch) (G : xG) {g : Nat} {a1 : Int32} {a2 : Int32} (hg : 4 ≤ g ∧ g < 8) {M : xM} {post : xM → Prop} (h : xw_Sh_put g a1 a2 M post) : Met l y_Sh_put (Cond.code y_Sh_put b_Sh_put 3 none :: xTG) rm_Sh_put (xPre G M [.ref (G.1 g 0), .int a1, .int a2]) (xPv G post) 0 0 (xA G) := by
  refine xMet (own := R_Sh) [.ref (G.1 g 0), .int a1, .int a2] (Or.inl (by decide)) rfl (Nat.le_of_ble_eq_true rfl) (fun p e s m args below meth c ls hC hr hlk hR hS hl => ?_)
  have hx := hC.1
  have hb := hC.2.1
  have hl : lv_has ls 3 [(0, .ref (G.1 g 0)), (1, .int a1), (2, .int a2)] := hl
  obtain ⟨H, eH⟩ : ∃ H : Heap, H = s.heap := ⟨_, rfl⟩
  obtain ⟨locs, eL⟩ : ∃ locs : List Loc, locs = [] := ⟨_, rfl⟩
  rw [← eH] at hR
  replace hS : va_S (xA G) s.heap H locs := by rw [eH, eL]; exact hS
  suffices hh : W p l e rm_Sh_put s m args below meth c H locs 0 0 (MQ below (xPv G post) args s 0 0 (xA G)) (F0 m 0 ls []) from by rw [eH, eL] at hh; exact hh
  unfold xw_Sh_put at h
  refine lv_aload_n (pc := 0) hx hb xd_Sh_put_0 rfl (lv_at hl 0 rfl) ?_
  refine xr_get (pc := 1) (v := .int (M g 0 1)) hC hR (xo_S0 hg) xf_Sh_15 rfl xd_Sh_put_1 ?_
  refine lv_if_ne (pc := 4) (tgt := 21) hx hb xd_Sh_put_4 (by decide) (fun hq => ?_) (fun hq => ?_)
  · have h := h.1 hq
    refine lv_aload_n (pc := 21) hx hb xd_Sh_put_21 rfl (lv_at hl 0 rfl) ?_
    refine xr_get (pc := 22) (v := .int (M g 0 1)) hC hR (xo_S0 hg) xf_Sh_15 rfl xd_Sh_put_22 ?_
    refine lv_iconst (pc := 25) (v := (1 : Int32)) hx hb xd_Sh_put_25 (by decide) ?_
    refine lv_icmp_ne (pc := 26) (tgt := 40) hx hb xd_Sh_put_26 (by decide) (fun hq => ?_) (fun hq => ?_)
    · have h := h.1 hq
      refine lv_aload_n (pc := 40) hx hb xd_Sh_put_40 rfl (lv_at hl 0 rfl) ?_
      refine xr_get (pc := 41) (v := .ref (G.1 g 1)) hC hR (xo_S0 hg) xf_Sh_11 rfl xd_Sh_put_41 ?_
      refine lv_iload_n (pc := 44) hx hb xd_Sh_put_44 rfl (lv_at hl 1 rfl) ?_
      refine lv_iload_n (pc := 45) hx hb xd_Sh_put_45 rfl (lv_at hl 2 rfl) ?_
      obtain ⟨hq, h⟩ := h
      refine xr_iast (pc := 46) hC hR hS (xo_S1 hg) hq xd_Sh_put_46 (fun H locs hR hS => ?_)
      exact xr_vret hC hr hlk hR hS h xd_Sh_put_47
    · have h := h.2 hq
      refine lv_aload_n (pc := 29) hx hb xd_Sh_put_29 rfl (lv_at hl 0 rfl) ?_
      refine xr_get (pc := 30) (v := .ref (G.1 g 1)) hC hR (xo_S0 hg) xf_Sh_11 rfl xd_Sh_put_30 ?_
      refine lv_iload_n (pc := 33) hx hb xd_Sh_put_33 rfl (lv_at hl 1 rfl) ?_
      refine lv_iload_n (pc := 34) hx hb xd_Sh_put_34 rfl (lv_at hl 2 rfl) ?_
      refine lv_i2s (pc := 35) (v := (a2).toInt16.toInt32) hx hb xd_Sh_put_35 rfl ?_
      obtain ⟨hq, h⟩ := h
      refine xr_iast (pc := 36) hC hR hS (xo_S1 hg) hq xd_Sh_put_36 (fun H locs hR hS => ?_)
      refine lv_goto (pc := 37) (tgt := 47) hx hb xd_Sh_put_37 (by decide) ?_
      exact xr_vret hC hr hlk hR hS h xd_Sh_put_47
  · have h := h.2 hq
    refine lv_aload_n (pc := 7) hx hb xd_Sh_put_7 rfl (lv_at hl 0 rfl) ?_
    refine xr_get (pc := 8) (v := .ref (G.1 g 1)) hC hR (xo_S0 hg) xf_Sh_11 rfl xd_Sh_put_8 ?_
    refine lv_iload_n (pc := 11) hx hb xd_Sh_put_11 rfl (lv_at hl 1 rfl) ?_
    refine lv_iload_n (pc := 12) hx hb xd_Sh_put_12 rfl (lv_at hl 2 rfl) ?_
    refine lv_sipush (pc := 13) (v := (255 : Int32)) hx hb xd_Sh_put_13 (by decide) ?_
    refine lv_iand (pc := 16) hx hb xd_Sh_put_16 ?_
    obtain ⟨hq, h⟩ := h
    refine xr_iast (pc := 17) hC hR hS (xo_S1 hg) hq xd_Sh_put_17 (fun H locs hR hS => ?_)
    refine lv_goto (pc := 18) (tgt := 47) hx hb xd_Sh_put_18 (by decide) ?_
    exact xr_vret hC hr hlk hR hS h xd_Sh_put_47

/-! ColoursApart.isSheet(I)Z -/
theorem xd_CA_isSheet_0 : decode b_CA_isSheet 0 = .ok (.iload_n 0, 1) := by decide +kernel
theorem xd_CA_isSheet_1 : decode b_CA_isSheet 1 = .ok (.ifCond .lt 12, 3) := by decide +kernel
theorem xd_CA_isSheet_4 : decode b_CA_isSheet 4 = .ok (.iload_n 0, 1) := by decide +kernel
theorem xd_CA_isSheet_5 : decode b_CA_isSheet 5 = .ok (.iconst 4, 1) := by decide +kernel
theorem xd_CA_isSheet_6 : decode b_CA_isSheet 6 = .ok (.if_icmp .ge 7, 3) := by decide +kernel
theorem xd_CA_isSheet_9 : decode b_CA_isSheet 9 = .ok (.iconst 1, 1) := by decide +kernel
theorem xd_CA_isSheet_10 : decode b_CA_isSheet 10 = .ok (.goto 4, 3) := by decide +kernel
theorem xd_CA_isSheet_13 : decode b_CA_isSheet 13 = .ok (.iconst 0, 1) := by decide +kernel
theorem xd_CA_isSheet_14 : decode b_CA_isSheet 14 = .ok (.ireturn, 1) := by decide +kernel
abbrev rm_CA_isSheet : Room := { frames := 0, cells := 0, slots := 0, locals := 0 }
def xw_CA_isSheet (a0 : Int32) (M : xM) (post : Int32 → xM → Prop) : Prop :=
  ((a0 < 0) → (post (0 : Int32) M)) ∧ ((¬ a0 < 0) → ((((4 : Int32) ≤ a0) → (post (0 : Int32) M)) ∧ ((¬ (4 : Int32) ≤ a0) → (post (1 : Int32) M))))
set_option maxHeartbeats 4000000 in
set_option maxRecDepth 100000 in
theorem xc_CA_isSheet (l : Launch) (G : xG) {a0 : Int32}  {M : xM} {post : Int32 → xM → Prop} (h : xw_CA_isSheet a0 M post) : Met l y_CA_isSheet (Cond.code y_CA_isSheet b_CA_isSheet 1 (some .boolean) :: xTG) rm_CA_isSheet (xPre G M [.int a0]) (xPi G post) 0 0 (xA G) := by
  refine xMet (own := R_CA) [.int a0] (Or.inl (by decide)) rfl (Nat.le_of_ble_eq_true rfl) (fun p e s m args below meth c ls hC hr hlk hR hS hl => ?_)
  have hx := hC.1
  have hb := hC.2.1
  have hl : lv_has ls 1 [(0, .int a0)] := hl
  obtain ⟨H, eH⟩ : ∃ H : Heap, H = s.heap := ⟨_, rfl⟩
  obtain ⟨locs, eL⟩ : ∃ locs : List Loc, locs = [] := ⟨_, rfl⟩
  rw [← eH] at hR
  replace hS : va_S (xA G) s.heap H locs := by rw [eH, eL]; exact hS
  suffices hh : W p l e rm_CA_isSheet s m args below meth c H locs 0 0 (MQ below (xPi G post) args s 0 0 (xA G)) (F0 m 0 ls []) from by rw [eH, eL] at hh; exact hh
  unfold xw_CA_isSheet at h
  refine lv_iload_n (pc := 0) hx hb xd_CA_isSheet_0 rfl (lv_at hl 0 rfl) ?_
  refine lv_if_lt (pc := 1) (tgt := 13) hx hb xd_CA_isSheet_1 (by decide) (fun hq => ?_) (fun hq => ?_)
  · have h := h.1 hq
    refine lv_iconst (pc := 13) (v := (0 : Int32)) hx hb xd_CA_isSheet_13 (by decide) ?_
    exact xr_zret hC hr hlk hR hS (by decide) h xd_CA_isSheet_14
  · have h := h.2 hq
    refine lv_iload_n (pc := 4) hx hb xd_CA_isSheet_4 rfl (lv_at hl 0 rfl) ?_
    refine lv_iconst (pc := 5) (v := (4 : Int32)) hx hb xd_CA_isSheet_5 (by decide) ?_
    refine lv_icmp_ge (pc := 6) (tgt := 13) hx hb xd_CA_isSheet_6 (by decide) (fun hq => ?_) (fun hq => ?_)
    · have h := h.1 hq
      refine lv_iconst (pc := 13) (v := (0 : Int32)) hx hb xd_CA_isSheet_13 (by decide) ?_
      exact xr_zret hC hr hlk hR hS (by decide) h xd_CA_isSheet_14
    · have h := h.2 hq
      refine lv_iconst (pc := 9) (v := (1 : Int32)) hx hb xd_CA_isSheet_9 (by decide) ?_
      refine lv_goto (pc := 10) (tgt := 14) hx hb xd_CA_isSheet_10 (by decide) ?_
      exact xr_zret hC hr hlk hR hS (by decide) h xd_CA_isSheet_14

/-! ColoursApart.refused(I)I -/
theorem xd_CA_refused_0 : decode b_CA_refused 0 = .ok (.aload_n 0, 1) := by decide +kernel
theorem xd_CA_refused_1 : decode b_CA_refused 1 = .ok (.iload_n 1, 1) := by decide +kernel
theorem xd_CA_refused_2 : decode b_CA_refused 2 = .ok (.putfield 58, 3) := by decide +kernel
theorem xd_CA_refused_5 : decode b_CA_refused 5 = .ok (.iload_n 1, 1) := by decide +kernel
theorem xd_CA_refused_6 : decode b_CA_refused 6 = .ok (.ireturn, 1) := by decide +kernel
abbrev rm_CA_refused : Room := { frames := 0, cells := 0, slots := 0, locals := 0 }
def xw_CA_refused (a1 : Int32) (M : xM) (post : Int32 → xM → Prop) : Prop :=
  post a1 (us M 8 0 8 a1)
set_option maxHeartbeats 4000000 in
set_option maxRecDepth 100000 in
theorem xc_CA_refused (l : Launch) (G : xG) {a1 : Int32}  {M : xM} {post : Int32 → xM → Prop} (h : xw_CA_refused a1 M post) : Met l y_CA_refused (Cond.code y_CA_refused b_CA_refused 2 (some .int) :: xTG) rm_CA_refused (xPre G M [.ref (G.1 8 0), .int a1]) (xPi G post) 0 0 (xA G) := by
  refine xMet (own := R_CA) [.ref (G.1 8 0), .int a1] (Or.inl (by decide)) rfl (Nat.le_of_ble_eq_true rfl) (fun p e s m args below meth c ls hC hr hlk hR hS hl => ?_)
  have hx := hC.1
  have hb := hC.2.1
  have hl : lv_has ls 2 [(0, .ref (G.1 8 0)), (1, .int a1)] := hl
  obtain ⟨H, eH⟩ : ∃ H : Heap, H = s.heap := ⟨_, rfl⟩
  obtain ⟨locs, eL⟩ : ∃ locs : List Loc, locs = [] := ⟨_, rfl⟩
  rw [← eH] at hR
  replace hS : va_S (xA G) s.heap H locs := by rw [eH, eL]; exact hS
  suffices hh : W p l e rm_CA_refused s m args below meth c H locs 0 0 (MQ below (xPi G post) args s 0 0 (xA G)) (F0 m 0 ls []) from by rw [eH, eL] at hh; exact hh
  unfold xw_CA_refused at h
  refine lv_aload_n (pc := 0) hx hb xd_CA_refused_0 rfl (lv_at hl 0 rfl) ?_
  refine lv_iload_n (pc := 1) hx hb xd_CA_refused_1 rfl (lv_at hl 1 rfl) ?_
  refine xr_put (pc := 2) hC hR hS xo_C0 xf_CA_58 xp_9_8 rfl rfl rfl xd_CA_refused_2 (fun H locs hR hS => ?_)
  refine lv_iload_n (pc := 5) hx hb xd_CA_refused_5 rfl (lv_at hl 1 rfl) ?_
  exact xr_iret hC hr hlk hR hS h xd_CA_refused_6

/-! ColoursApart.taken(I)I -/
theorem xd_CA_taken_0 : decode b_CA_taken 0 = .ok (.aload_n 0, 1) := by decide +kernel
theorem xd_CA_taken_1 : decode b_CA_taken 1 = .ok (.iconst 0, 1) := by decide +kernel
theorem xd_CA_taken_2 : decode b_CA_taken 2 = .ok (.putfield 58, 3) := by decide +kernel
theorem xd_CA_taken_5 : decode b_CA_taken 5 = .ok (.iload_n 1, 1) := by decide +kernel
theorem xd_CA_taken_6 : decode b_CA_taken 6 = .ok (.ireturn, 1) := by decide +kernel
abbrev rm_CA_taken : Room := { frames := 0, cells := 0, slots := 0, locals := 0 }
def xw_CA_taken (a1 : Int32) (M : xM) (post : Int32 → xM → Prop) : Prop :=
  post a1 (us M 8 0 8 (0 : Int32))
set_option maxHeartbeats 4000000 in
set_option maxRecDepth 100000 in
theorem xc_CA_taken (l : Launch) (G : xG) {a1 : Int32}  {M : xM} {post : Int32 → xM → Prop} (h : xw_CA_taken a1 M post) : Met l y_CA_taken (Cond.code y_CA_taken b_CA_taken 2 (some .int) :: xTG) rm_CA_taken (xPre G M [.ref (G.1 8 0), .int a1]) (xPi G post) 0 0 (xA G) := by
  refine xMet (own := R_CA) [.ref (G.1 8 0), .int a1] (Or.inl (by decide)) rfl (Nat.le_of_ble_eq_true rfl) (fun p e s m args below meth c ls hC hr hlk hR hS hl => ?_)
  have hx := hC.1
  have hb := hC.2.1
  have hl : lv_has ls 2 [(0, .ref (G.1 8 0)), (1, .int a1)] := hl
  obtain ⟨H, eH⟩ : ∃ H : Heap, H = s.heap := ⟨_, rfl⟩
  obtain ⟨locs, eL⟩ : ∃ locs : List Loc, locs = [] := ⟨_, rfl⟩
  rw [← eH] at hR
  replace hS : va_S (xA G) s.heap H locs := by rw [eH, eL]; exact hS
  suffices hh : W p l e rm_CA_taken s m args below meth c H locs 0 0 (MQ below (xPi G post) args s 0 0 (xA G)) (F0 m 0 ls []) from by rw [eH, eL] at hh; exact hh
  unfold xw_CA_taken at h
  refine lv_aload_n (pc := 0) hx hb xd_CA_taken_0 rfl (lv_at hl 0 rfl) ?_
  refine lv_iconst (pc := 1) (v := (0 : Int32)) hx hb xd_CA_taken_1 (by decide) ?_
  refine xr_put (pc := 2) hC hR hS xo_C0 xf_CA_58 xp_9_8 rfl rfl rfl xd_CA_taken_2 (fun H locs hR hS => ?_)
  refine lv_iload_n (pc := 5) hx hb xd_CA_taken_5 rfl (lv_at hl 1 rfl) ?_
  exact xr_iret hC hr hlk hR hS h xd_CA_taken_6

/-! ColoursApart.sheet(III)I -/
theorem xd_CA_sheet_0 : decode b_CA_sheet 0 = .ok (.iload_n 1, 1) := by decide +kernel
theorem xd_CA_sheet_1 : decode b_CA_sheet 1 = .ok (.invokestatic 63, 3) := by decide +kernel
theorem xd_CA_sheet_4 : decode b_CA_sheet 4 = .ok (.ifCond .eq 18, 3) := by decide +kernel
theorem xd_CA_sheet_7 : decode b_CA_sheet 7 = .ok (.iload_n 2, 1) := by decide +kernel
theorem xd_CA_sheet_8 : decode b_CA_sheet 8 = .ok (.ifCond .lt 14, 3) := by decide +kernel
theorem xd_CA_sheet_11 : decode b_CA_sheet 11 = .ok (.iload_n 2, 1) := by decide +kernel
theorem xd_CA_sheet_12 : decode b_CA_sheet 12 = .ok (.iconst 2, 1) := by decide +kernel
theorem xd_CA_sheet_13 : decode b_CA_sheet 13 = .ok (.if_icmp .gt 9, 3) := by decide +kernel
theorem xd_CA_sheet_16 : decode b_CA_sheet 16 = .ok (.iload_n 3, 1) := by decide +kernel
theorem xd_CA_sheet_17 : decode b_CA_sheet 17 = .ok (.bipush 60, 2) := by decide +kernel
theorem xd_CA_sheet_19 : decode b_CA_sheet 19 = .ok (.if_icmp .le 9, 3) := by decide +kernel
theorem xd_CA_sheet_22 : decode b_CA_sheet 22 = .ok (.aload_n 0, 1) := by decide +kernel
theorem xd_CA_sheet_23 : decode b_CA_sheet 23 = .ok (.iconst (-1), 1) := by decide +kernel
theorem xd_CA_sheet_24 : decode b_CA_sheet 24 = .ok (.invokevirtual 67, 3) := by decide +kernel
theorem xd_CA_sheet_27 : decode b_CA_sheet 27 = .ok (.ireturn, 1) := by decide +kernel
theorem xd_CA_sheet_28 : decode b_CA_sheet 28 = .ok (.iload_n 3, 1) := by decide +kernel
theorem xd_CA_sheet_29 : decode b_CA_sheet 29 = .ok (.ifCond .ge 19, 3) := by decide +kernel
theorem xd_CA_sheet_32 : decode b_CA_sheet 32 = .ok (.aload_n 0, 1) := by decide +kernel
theorem xd_CA_sheet_33 : decode b_CA_sheet 33 = .ok (.getfield 26, 3) := by decide +kernel
theorem xd_CA_sheet_36 : decode b_CA_sheet 36 = .ok (.iload_n 1, 1) := by decide +kernel
theorem xd_CA_sheet_37 : decode b_CA_sheet 37 = .ok (.aaload, 1) := by decide +kernel
theorem xd_CA_sheet_38 : decode b_CA_sheet 38 = .ok (.invokevirtual 71, 3) := by decide +kernel
theorem xd_CA_sheet_41 : decode b_CA_sheet 41 = .ok (.aload_n 0, 1) := by decide +kernel
theorem xd_CA_sheet_42 : decode b_CA_sheet 42 = .ok (.bipush (-4), 2) := by decide +kernel
theorem xd_CA_sheet_44 : decode b_CA_sheet 44 = .ok (.invokevirtual 67, 3) := by decide +kernel
theorem xd_CA_sheet_47 : decode b_CA_sheet 47 = .ok (.ireturn, 1) := by decide +kernel
theorem xd_CA_sheet_48 : decode b_CA_sheet 48 = .ok (.aload_n 0, 1) := by decide +kernel
theorem xd_CA_sheet_49 : decode b_CA_sheet 49 = .ok (.getfield 26, 3) := by decide +kernel
theorem xd_CA_sheet_52 : decode b_CA_sheet 52 = .ok (.iload_n 1, 1) := by decide +kernel
theorem xd_CA_sheet_53 : decode b_CA_sheet 53 = .ok (.aaload, 1) := by decide +kernel
theorem xd_CA_sheet_54 : decode b_CA_sheet 54 = .ok (.iload_n 2, 1) := by decide +kernel
theorem xd_CA_sheet_55 : decode b_CA_sheet 55 = .ok (.iload_n 3, 1) := by decide +kernel
theorem xd_CA_sheet_56 : decode b_CA_sheet 56 = .ok (.invokevirtual 74, 3) := by decide +kernel
theorem xd_CA_sheet_59 : decode b_CA_sheet 59 = .ok (.aload_n 0, 1) := by decide +kernel
theorem xd_CA_sheet_60 : decode b_CA_sheet 60 = .ok (.iload_n 3, 1) := by decide +kernel
theorem xd_CA_sheet_61 : decode b_CA_sheet 61 = .ok (.invokevirtual 78, 3) := by decide +kernel
theorem xd_CA_sheet_64 : decode b_CA_sheet 64 = .ok (.ireturn, 1) := by decide +kernel
abbrev rm_CA_sheet : Room := { frames := 1, cells := 0, slots := 0, locals := 23 }
def xw_CA_sheet (a1 : Int32) (a2 : Int32) (a3 : Int32) (M : xM) (post : Int32 → xM → Prop) : Prop :=
  xw_CA_isSheet a1 M (fun (r2 : Int32) (M1 : xM) => xj (fun (J22_2 : xM → Prop) => ((r2 = 0) → (J22_2  M1)) ∧ ((¬ r2 = 0) → (((a2 < 0) → (J22_2  M1)) ∧ ((¬ a2 < 0) → ((((2 : Int32) < a2) → (J22_2  M1)) ∧ ((¬ (2 : Int32) < a2) → (((a3 ≤ (60 : Int32)) → (((0 ≤ a3) → ((vp_in a1 4) ∧ (xw_Sh_layOut (4 + a1.toNatClampNeg) a2 a3 M1 (fun (M8 : xM) => xw_CA_taken a3 M8 (fun (r10 : Int32) (M9 : xM) => post r10 M9))))) ∧ ((¬ 0 ≤ a3) → ((vp_in a1 4) ∧ (xw_Sh_takeAway (4 + a1.toNatClampNeg) M1 (fun (M12 : xM) => xw_CA_refused (-4 : Int32) M12 (fun (r14 : Int32) (M13 : xM) => post r14 M13))))))) ∧ ((¬ a3 ≤ (60 : Int32)) → (J22_2  M1))))))))) (fun (M4 : xM) => xw_CA_refused (-1 : Int32) M4 (fun (r6 : Int32) (M5 : xM) => post r6 M5)))
set_option maxHeartbeats 4000000 in
set_option maxRecDepth 100000 in
theorem xc_CA_sheet (l : Launch) (G : xG) {a1 : Int32} {a2 : Int32} {a3 : Int32}  {M : xM} {post : Int32 → xM → Prop} (h : xw_CA_sheet a1 a2 a3 M post) : Met l y_CA_sheet (Cond.code y_CA_sheet b_CA_sheet 4 (some .int) :: xTG) rm_CA_sheet (xPre G M [.ref (G.1 8 0), .int a1, .int a2, .int a3]) (xPi G post) 0 0 (xA G) := by
  refine xMet (own := R_CA) [.ref (G.1 8 0), .int a1, .int a2, .int a3] (Or.inl (by decide)) rfl (Nat.le_of_ble_eq_true rfl) (fun p e s m args below meth c ls hC hr hlk hR hS hl => ?_)
  have hx := hC.1
  have hb := hC.2.1
  have hl : lv_has ls 4 [(0, .ref (G.1 8 0)), (1, .int a1), (2, .int a2), (3, .int a3)] := hl
  obtain ⟨H, eH⟩ : ∃ H : Heap, H = s.heap := ⟨_, rfl⟩
  obtain ⟨locs, eL⟩ : ∃ locs : List Loc, locs = [] := ⟨_, rfl⟩
  rw [← eH] at hR
  replace hS : va_S (xA G) s.heap H locs := by rw [eH, eL]; exact hS
  suffices hh : W p l e rm_CA_sheet s m args below meth c H locs 0 0 (MQ below (xPi G post) args s 0 0 (xA G)) (F0 m 0 ls []) from by rw [eH, eL] at hh; exact hh
  unfold xw_CA_sheet at h
  refine lv_iload_n (pc := 0) hx hb xd_CA_sheet_0 rfl (lv_at hl 1 rfl) ?_
  refine xr_callS (pc := 1) (As := [.int a1]) (rest := []) hC hR hS (xc_CA_isSheet l G  h) xv_CA_63 ⟨rfl, rfl, Nat.le_of_ble_eq_true rfl, Nat.le_of_ble_eq_true rfl⟩ rfl hl.1 rfl (Nat.le_of_ble_eq_true rfl) xd_CA_sheet_1 (fun r2 M1 H locs h hR hS => ?_)
  obtain ⟨J22_2, eJ22_2, h⟩ := xj_open h
  have kJ22_2 : ∀ (M4 : xM) (H : Heap) (locs : List Loc) (ls : Array Slot), J22_2 M4 → xRp G M4 H → va_S (xA G) s.heap H locs → lv_has ls 4 [(0, .ref (G.1 8 0))] → W p l e rm_CA_sheet s m args below meth c H locs 0 0 (MQ below (xPi G post) args s 0 0 (xA G)) (F0 m 22 ls []) := by
    intro M4 H locs ls h hR hS hl
    rw [eJ22_2] at h
    refine lv_aload_n (pc := 22) hx hb xd_CA_sheet_22 rfl (lv_at hl 0 rfl) ?_
    refine lv_iconst (pc := 23) (v := (-1 : Int32)) hx hb xd_CA_sheet_23 (by decide) ?_
    refine xr_callV (pc := 24) (As := [.int (-1 : Int32)]) (rest := []) hC hR hS (xc_CA_refused l G  h) xo_C0 xv_CA_67 ⟨rfl, rfl, Nat.le_of_ble_eq_true rfl, Nat.le_of_ble_eq_true rfl⟩ rfl hl.1 rfl (Nat.le_of_ble_eq_true rfl) xd_CA_sheet_24 (fun r6 M5 H locs h hR hS => ?_)
    exact xr_iret hC hr hlk hR hS h xd_CA_sheet_27
  refine lv_if_eq (pc := 4) (tgt := 22) hx hb xd_CA_sheet_4 (by decide) (fun hq => ?_) (fun hq => ?_)
  · have h := h.1 hq
    exact kJ22_2  M1 H locs ls h hR hS (lv_sub hl [0] rfl)
  · have h := h.2 hq
    refine lv_iload_n (pc := 7) hx hb xd_CA_sheet_7 rfl (lv_at hl 2 rfl) ?_
    refine lv_if_lt (pc := 8) (tgt := 22) hx hb xd_CA_sheet_8 (by decide) (fun hq => ?_) (fun hq => ?_)
    · have h := h.1 hq
      exact kJ22_2  M1 H locs ls h hR hS (lv_sub hl [0] rfl)
    · have h := h.2 hq
      refine lv_iload_n (pc := 11) hx hb xd_CA_sheet_11 rfl (lv_at hl 2 rfl) ?_
      refine lv_iconst (pc := 12) (v := (2 : Int32)) hx hb xd_CA_sheet_12 (by decide) ?_
      refine lv_icmp_gt (pc := 13) (tgt := 22) hx hb xd_CA_sheet_13 (by decide) (fun hq => ?_) (fun hq => ?_)
      · have h := h.1 hq
        exact kJ22_2  M1 H locs ls h hR hS (lv_sub hl [0] rfl)
      · have h := h.2 hq
        refine lv_iload_n (pc := 16) hx hb xd_CA_sheet_16 rfl (lv_at hl 3 rfl) ?_
        refine lv_bipush (pc := 17) (v := (60 : Int32)) hx hb xd_CA_sheet_17 (by decide) ?_
        refine lv_icmp_le (pc := 19) (tgt := 28) hx hb xd_CA_sheet_19 (by decide) (fun hq => ?_) (fun hq => ?_)
        · have h := h.1 hq
          refine lv_iload_n (pc := 28) hx hb xd_CA_sheet_28 rfl (lv_at hl 3 rfl) ?_
          refine lv_if_ge (pc := 29) (tgt := 48) hx hb xd_CA_sheet_29 (by decide) (fun hq => ?_) (fun hq => ?_)
          · have h := h.1 hq
            refine lv_aload_n (pc := 48) hx hb xd_CA_sheet_48 rfl (lv_at hl 0 rfl) ?_
            refine xr_get (pc := 49) (v := .ref (G.1 8 3)) hC hR xo_C0 xf_CA_26 rfl xd_CA_sheet_49 ?_
            refine lv_iload_n (pc := 52) hx hb xd_CA_sheet_52 rfl (lv_at hl 1 rfl) ?_
            obtain ⟨hq, h⟩ := h
            have hg7 := xin4 hq
            refine xr_aald (pc := 53) hC hR xo_C3 hq xd_CA_sheet_53 ?_
            refine lv_iload_n (pc := 54) hx hb xd_CA_sheet_54 rfl (lv_at hl 2 rfl) ?_
            refine lv_iload_n (pc := 55) hx hb xd_CA_sheet_55 rfl (lv_at hl 3 rfl) ?_
            refine xr_callVv (pc := 56) (As := [.int a2, .int a3]) (rest := []) hC hR hS (xc_Sh_layOut l G hg7 h) (xo_S0 hg7) xv_CA_74 ⟨rfl, rfl, Nat.le_of_ble_eq_true rfl, Nat.le_of_ble_eq_true rfl⟩ rfl hl.1 rfl (Nat.le_of_ble_eq_true rfl) xd_CA_sheet_56 (fun M8 H locs h hR hS => ?_)
            refine lv_aload_n (pc := 59) hx hb xd_CA_sheet_59 rfl (lv_at hl 0 rfl) ?_
            refine lv_iload_n (pc := 60) hx hb xd_CA_sheet_60 rfl (lv_at hl 3 rfl) ?_
            refine xr_callV (pc := 61) (As := [.int a3]) (rest := []) hC hR hS (xc_CA_taken l G  h) xo_C0 xv_CA_78 ⟨rfl, rfl, Nat.le_of_ble_eq_true rfl, Nat.le_of_ble_eq_true rfl⟩ rfl hl.1 rfl (Nat.le_of_ble_eq_true rfl) xd_CA_sheet_61 (fun r10 M9 H locs h hR hS => ?_)
            exact xr_iret hC hr hlk hR hS h xd_CA_sheet_64
          · have h := h.2 hq
            refine lv_aload_n (pc := 32) hx hb xd_CA_sheet_32 rfl (lv_at hl 0 rfl) ?_
            refine xr_get (pc := 33) (v := .ref (G.1 8 3)) hC hR xo_C0 xf_CA_26 rfl xd_CA_sheet_33 ?_
            refine lv_iload_n (pc := 36) hx hb xd_CA_sheet_36 rfl (lv_at hl 1 rfl) ?_
            obtain ⟨hq, h⟩ := h
            have hg11 := xin4 hq
            refine xr_aald (pc := 37) hC hR xo_C3 hq xd_CA_sheet_37 ?_
            refine xr_callVv (pc := 38) (As := []) (rest := []) hC hR hS (xc_Sh_takeAway l G hg11 h) (xo_S0 hg11) xv_CA_71 ⟨rfl, rfl, Nat.le_of_ble_eq_true rfl, Nat.le_of_ble_eq_true rfl⟩ rfl hl.1 rfl (Nat.le_of_ble_eq_true rfl) xd_CA_sheet_38 (fun M12 H locs h hR hS => ?_)
            refine lv_aload_n (pc := 41) hx hb xd_CA_sheet_41 rfl (lv_at hl 0 rfl) ?_
            refine lv_bipush (pc := 42) (v := (-4 : Int32)) hx hb xd_CA_sheet_42 (by decide) ?_
            refine xr_callV (pc := 44) (As := [.int (-4 : Int32)]) (rest := []) hC hR hS (xc_CA_refused l G  h) xo_C0 xv_CA_67 ⟨rfl, rfl, Nat.le_of_ble_eq_true rfl, Nat.le_of_ble_eq_true rfl⟩ rfl hl.1 rfl (Nat.le_of_ble_eq_true rfl) xd_CA_sheet_44 (fun r14 M13 H locs h hR hS => ?_)
            exact xr_iret hC hr hlk hR hS h xd_CA_sheet_47
        · have h := h.2 hq
          exact kJ22_2  M1 H locs ls h hR hS (lv_sub hl [0] rfl)

/-! ColoursApart.write(III)I -/
theorem xd_CA_write_0 : decode b_CA_write 0 = .ok (.iload_n 1, 1) := by decide +kernel
theorem xd_CA_write_1 : decode b_CA_write 1 = .ok (.invokestatic 63, 3) := by decide +kernel
theorem xd_CA_write_4 : decode b_CA_write 4 = .ok (.ifCond .ne 9, 3) := by decide +kernel
theorem xd_CA_write_7 : decode b_CA_write 7 = .ok (.aload_n 0, 1) := by decide +kernel
theorem xd_CA_write_8 : decode b_CA_write 8 = .ok (.iconst (-1), 1) := by decide +kernel
theorem xd_CA_write_9 : decode b_CA_write 9 = .ok (.invokevirtual 67, 3) := by decide +kernel
theorem xd_CA_write_12 : decode b_CA_write 12 = .ok (.ireturn, 1) := by decide +kernel
theorem xd_CA_write_13 : decode b_CA_write 13 = .ok (.aload_n 0, 1) := by decide +kernel
theorem xd_CA_write_14 : decode b_CA_write 14 = .ok (.getfield 26, 3) := by decide +kernel
theorem xd_CA_write_17 : decode b_CA_write 17 = .ok (.iload_n 1, 1) := by decide +kernel
theorem xd_CA_write_18 : decode b_CA_write 18 = .ok (.aaload, 1) := by decide +kernel
theorem xd_CA_write_19 : decode b_CA_write 19 = .ok (.invokevirtual 81, 3) := by decide +kernel
theorem xd_CA_write_22 : decode b_CA_write 22 = .ok (.ifCond .ne 10, 3) := by decide +kernel
theorem xd_CA_write_25 : decode b_CA_write 25 = .ok (.aload_n 0, 1) := by decide +kernel
theorem xd_CA_write_26 : decode b_CA_write 26 = .ok (.bipush (-2), 2) := by decide +kernel
theorem xd_CA_write_28 : decode b_CA_write 28 = .ok (.invokevirtual 67, 3) := by decide +kernel
theorem xd_CA_write_31 : decode b_CA_write 31 = .ok (.ireturn, 1) := by decide +kernel
theorem xd_CA_write_32 : decode b_CA_write 32 = .ok (.aload_n 0, 1) := by decide +kernel
theorem xd_CA_write_33 : decode b_CA_write 33 = .ok (.getfield 26, 3) := by decide +kernel
theorem xd_CA_write_36 : decode b_CA_write 36 = .ok (.iload_n 1, 1) := by decide +kernel
theorem xd_CA_write_37 : decode b_CA_write 37 = .ok (.aaload, 1) := by decide +kernel
theorem xd_CA_write_38 : decode b_CA_write 38 = .ok (.iload_n 2, 1) := by decide +kernel
theorem xd_CA_write_39 : decode b_CA_write 39 = .ok (.invokevirtual 85, 3) := by decide +kernel
theorem xd_CA_write_42 : decode b_CA_write 42 = .ok (.ifCond .ne 10, 3) := by decide +kernel
theorem xd_CA_write_45 : decode b_CA_write 45 = .ok (.aload_n 0, 1) := by decide +kernel
theorem xd_CA_write_46 : decode b_CA_write 46 = .ok (.bipush (-3), 2) := by decide +kernel
theorem xd_CA_write_48 : decode b_CA_write 48 = .ok (.invokevirtual 67, 3) := by decide +kernel
theorem xd_CA_write_51 : decode b_CA_write 51 = .ok (.ireturn, 1) := by decide +kernel
theorem xd_CA_write_52 : decode b_CA_write 52 = .ok (.aload_n 0, 1) := by decide +kernel
theorem xd_CA_write_53 : decode b_CA_write 53 = .ok (.getfield 26, 3) := by decide +kernel
theorem xd_CA_write_56 : decode b_CA_write 56 = .ok (.iload_n 1, 1) := by decide +kernel
theorem xd_CA_write_57 : decode b_CA_write 57 = .ok (.aaload, 1) := by decide +kernel
theorem xd_CA_write_58 : decode b_CA_write 58 = .ok (.iload_n 2, 1) := by decide +kernel
theorem xd_CA_write_59 : decode b_CA_write 59 = .ok (.iload_n 3, 1) := by decide +kernel
theorem xd_CA_write_60 : decode b_CA_write 60 = .ok (.invokevirtual 88, 3) := by decide +kernel
theorem xd_CA_write_63 : decode b_CA_write 63 = .ok (.aload_n 0, 1) := by decide +kernel
theorem xd_CA_write_64 : decode b_CA_write 64 = .ok (.iconst 0, 1) := by decide +kernel
theorem xd_CA_write_65 : decode b_CA_write 65 = .ok (.invokevirtual 78, 3) := by decide +kernel
theorem xd_CA_write_68 : decode b_CA_write 68 = .ok (.ireturn, 1) := by decide +kernel
abbrev rm_CA_write : Room := { frames := 1, cells := 0, slots := 0, locals := 22 }
def xw_CA_write (a1 : Int32) (a2 : Int32) (a3 : Int32) (M : xM) (post : Int32 → xM → Prop) : Prop :=
  xw_CA_isSheet a1 M (fun (r2 : Int32) (M1 : xM) => ((¬ r2 = 0) → ((vp_in a1 4) ∧ (xw_Sh_isThere (4 + a1.toNatClampNeg) M1 (fun (r5 : Int32) (M4 : xM) => ((¬ r5 = 0) → ((vp_in a1 4) ∧ (xw_Sh_has (4 + a1.toNatClampNeg) a2 M4 (fun (r8 : Int32) (M7 : xM) => ((¬ r8 = 0) → ((vp_in a1 4) ∧ (xw_Sh_put (4 + a1.toNatClampNeg) a2 a3 M7 (fun (M10 : xM) => xw_CA_taken (0 : Int32) M10 (fun (r12 : Int32) (M11 : xM) => post r12 M11))))) ∧ ((r8 = 0) → (xw_CA_refused (-3 : Int32) M7 (fun (r14 : Int32) (M13 : xM) => post r14 M13))))))) ∧ ((r5 = 0) → (xw_CA_refused (-2 : Int32) M4 (fun (r16 : Int32) (M15 : xM) => post r16 M15))))))) ∧ ((r2 = 0) → (xw_CA_refused (-1 : Int32) M1 (fun (r18 : Int32) (M17 : xM) => post r18 M17))))
set_option maxHeartbeats 4000000 in
set_option maxRecDepth 100000 in
theorem xc_CA_write (l : Launch) (G : xG) {a1 : Int32} {a2 : Int32} {a3 : Int32}  {M : xM} {post : Int32 → xM → Prop} (h : xw_CA_write a1 a2 a3 M post) : Met l y_CA_write (Cond.code y_CA_write b_CA_write 4 (some .int) :: xTG) rm_CA_write (xPre G M [.ref (G.1 8 0), .int a1, .int a2, .int a3]) (xPi G post) 0 0 (xA G) := by
  refine xMet (own := R_CA) [.ref (G.1 8 0), .int a1, .int a2, .int a3] (Or.inl (by decide)) rfl (Nat.le_of_ble_eq_true rfl) (fun p e s m args below meth c ls hC hr hlk hR hS hl => ?_)
  have hx := hC.1
  have hb := hC.2.1
  have hl : lv_has ls 4 [(0, .ref (G.1 8 0)), (1, .int a1), (2, .int a2), (3, .int a3)] := hl
  obtain ⟨H, eH⟩ : ∃ H : Heap, H = s.heap := ⟨_, rfl⟩
  obtain ⟨locs, eL⟩ : ∃ locs : List Loc, locs = [] := ⟨_, rfl⟩
  rw [← eH] at hR
  replace hS : va_S (xA G) s.heap H locs := by rw [eH, eL]; exact hS
  suffices hh : W p l e rm_CA_write s m args below meth c H locs 0 0 (MQ below (xPi G post) args s 0 0 (xA G)) (F0 m 0 ls []) from by rw [eH, eL] at hh; exact hh
  unfold xw_CA_write at h
  refine lv_iload_n (pc := 0) hx hb xd_CA_write_0 rfl (lv_at hl 1 rfl) ?_
  refine xr_callS (pc := 1) (As := [.int a1]) (rest := []) hC hR hS (xc_CA_isSheet l G  h) xv_CA_63 ⟨rfl, rfl, Nat.le_of_ble_eq_true rfl, Nat.le_of_ble_eq_true rfl⟩ rfl hl.1 rfl (Nat.le_of_ble_eq_true rfl) xd_CA_write_1 (fun r2 M1 H locs h hR hS => ?_)
  refine lv_if_ne (pc := 4) (tgt := 13) hx hb xd_CA_write_4 (by decide) (fun hq => ?_) (fun hq => ?_)
  · have h := h.1 hq
    refine lv_aload_n (pc := 13) hx hb xd_CA_write_13 rfl (lv_at hl 0 rfl) ?_
    refine xr_get (pc := 14) (v := .ref (G.1 8 3)) hC hR xo_C0 xf_CA_26 rfl xd_CA_write_14 ?_
    refine lv_iload_n (pc := 17) hx hb xd_CA_write_17 rfl (lv_at hl 1 rfl) ?_
    obtain ⟨hq, h⟩ := h
    have hg3 := xin4 hq
    refine xr_aald (pc := 18) hC hR xo_C3 hq xd_CA_write_18 ?_
    refine xr_callV (pc := 19) (As := []) (rest := []) hC hR hS (xc_Sh_isThere l G hg3 h) (xo_S0 hg3) xv_CA_81 ⟨rfl, rfl, Nat.le_of_ble_eq_true rfl, Nat.le_of_ble_eq_true rfl⟩ rfl hl.1 rfl (Nat.le_of_ble_eq_true rfl) xd_CA_write_19 (fun r5 M4 H locs h hR hS => ?_)
    refine lv_if_ne (pc := 22) (tgt := 32) hx hb xd_CA_write_22 (by decide) (fun hq => ?_) (fun hq => ?_)
    · have h := h.1 hq
      refine lv_aload_n (pc := 32) hx hb xd_CA_write_32 rfl (lv_at hl 0 rfl) ?_
      refine xr_get (pc := 33) (v := .ref (G.1 8 3)) hC hR xo_C0 xf_CA_26 rfl xd_CA_write_33 ?_
      refine lv_iload_n (pc := 36) hx hb xd_CA_write_36 rfl (lv_at hl 1 rfl) ?_
      obtain ⟨hq, h⟩ := h
      have hg6 := xin4 hq
      refine xr_aald (pc := 37) hC hR xo_C3 hq xd_CA_write_37 ?_
      refine lv_iload_n (pc := 38) hx hb xd_CA_write_38 rfl (lv_at hl 2 rfl) ?_
      refine xr_callV (pc := 39) (As := [.int a2]) (rest := []) hC hR hS (xc_Sh_has l G hg6 h) (xo_S0 hg6) xv_CA_85 ⟨rfl, rfl, Nat.le_of_ble_eq_true rfl, Nat.le_of_ble_eq_true rfl⟩ rfl hl.1 rfl (Nat.le_of_ble_eq_true rfl) xd_CA_write_39 (fun r8 M7 H locs h hR hS => ?_)
      refine lv_if_ne (pc := 42) (tgt := 52) hx hb xd_CA_write_42 (by decide) (fun hq => ?_) (fun hq => ?_)
      · have h := h.1 hq
        refine lv_aload_n (pc := 52) hx hb xd_CA_write_52 rfl (lv_at hl 0 rfl) ?_
        refine xr_get (pc := 53) (v := .ref (G.1 8 3)) hC hR xo_C0 xf_CA_26 rfl xd_CA_write_53 ?_
        refine lv_iload_n (pc := 56) hx hb xd_CA_write_56 rfl (lv_at hl 1 rfl) ?_
        obtain ⟨hq, h⟩ := h
        have hg9 := xin4 hq
        refine xr_aald (pc := 57) hC hR xo_C3 hq xd_CA_write_57 ?_
        refine lv_iload_n (pc := 58) hx hb xd_CA_write_58 rfl (lv_at hl 2 rfl) ?_
        refine lv_iload_n (pc := 59) hx hb xd_CA_write_59 rfl (lv_at hl 3 rfl) ?_
        refine xr_callVv (pc := 60) (As := [.int a2, .int a3]) (rest := []) hC hR hS (xc_Sh_put l G hg9 h) (xo_S0 hg9) xv_CA_88 ⟨rfl, rfl, Nat.le_of_ble_eq_true rfl, Nat.le_of_ble_eq_true rfl⟩ rfl hl.1 rfl (Nat.le_of_ble_eq_true rfl) xd_CA_write_60 (fun M10 H locs h hR hS => ?_)
        refine lv_aload_n (pc := 63) hx hb xd_CA_write_63 rfl (lv_at hl 0 rfl) ?_
        refine lv_iconst (pc := 64) (v := (0 : Int32)) hx hb xd_CA_write_64 (by decide) ?_
        refine xr_callV (pc := 65) (As := [.int (0 : Int32)]) (rest := []) hC hR hS (xc_CA_taken l G  h) xo_C0 xv_CA_78 ⟨rfl, rfl, Nat.le_of_ble_eq_true rfl, Nat.le_of_ble_eq_true rfl⟩ rfl hl.1 rfl (Nat.le_of_ble_eq_true rfl) xd_CA_write_65 (fun r12 M11 H locs h hR hS => ?_)
        exact xr_iret hC hr hlk hR hS h xd_CA_write_68
      · have h := h.2 hq
        refine lv_aload_n (pc := 45) hx hb xd_CA_write_45 rfl (lv_at hl 0 rfl) ?_
        refine lv_bipush (pc := 46) (v := (-3 : Int32)) hx hb xd_CA_write_46 (by decide) ?_
        refine xr_callV (pc := 48) (As := [.int (-3 : Int32)]) (rest := []) hC hR hS (xc_CA_refused l G  h) xo_C0 xv_CA_67 ⟨rfl, rfl, Nat.le_of_ble_eq_true rfl, Nat.le_of_ble_eq_true rfl⟩ rfl hl.1 rfl (Nat.le_of_ble_eq_true rfl) xd_CA_write_48 (fun r14 M13 H locs h hR hS => ?_)
        exact xr_iret hC hr hlk hR hS h xd_CA_write_51
    · have h := h.2 hq
      refine lv_aload_n (pc := 25) hx hb xd_CA_write_25 rfl (lv_at hl 0 rfl) ?_
      refine lv_bipush (pc := 26) (v := (-2 : Int32)) hx hb xd_CA_write_26 (by decide) ?_
      refine xr_callV (pc := 28) (As := [.int (-2 : Int32)]) (rest := []) hC hR hS (xc_CA_refused l G  h) xo_C0 xv_CA_67 ⟨rfl, rfl, Nat.le_of_ble_eq_true rfl, Nat.le_of_ble_eq_true rfl⟩ rfl hl.1 rfl (Nat.le_of_ble_eq_true rfl) xd_CA_write_28 (fun r16 M15 H locs h hR hS => ?_)
      exact xr_iret hC hr hlk hR hS h xd_CA_write_31
  · have h := h.2 hq
    refine lv_aload_n (pc := 7) hx hb xd_CA_write_7 rfl (lv_at hl 0 rfl) ?_
    refine lv_iconst (pc := 8) (v := (-1 : Int32)) hx hb xd_CA_write_8 (by decide) ?_
    refine xr_callV (pc := 9) (As := [.int (-1 : Int32)]) (rest := []) hC hR hS (xc_CA_refused l G  h) xo_C0 xv_CA_67 ⟨rfl, rfl, Nat.le_of_ble_eq_true rfl, Nat.le_of_ble_eq_true rfl⟩ rfl hl.1 rfl (Nat.le_of_ble_eq_true rfl) xd_CA_write_9 (fun r18 M17 H locs h hR hS => ?_)
    exact xr_iret hC hr hlk hR hS h xd_CA_write_12

/-! ColoursApart.weak(III)I -/
theorem xd_CA_weak_0 : decode b_CA_weak 0 = .ok (.iload_n 1, 1) := by decide +kernel
theorem xd_CA_weak_1 : decode b_CA_weak 1 = .ok (.iconst 1, 1) := by decide +kernel
theorem xd_CA_weak_2 : decode b_CA_weak 2 = .ok (.if_icmp .lt 19, 3) := by decide +kernel
theorem xd_CA_weak_5 : decode b_CA_weak 5 = .ok (.iload_n 1, 1) := by decide +kernel
theorem xd_CA_weak_6 : decode b_CA_weak 6 = .ok (.iconst 3, 1) := by decide +kernel
theorem xd_CA_weak_7 : decode b_CA_weak 7 = .ok (.if_icmp .gt 14, 3) := by decide +kernel
theorem xd_CA_weak_10 : decode b_CA_weak 10 = .ok (.iload_n 2, 1) := by decide +kernel
theorem xd_CA_weak_11 : decode b_CA_weak 11 = .ok (.invokestatic 63, 3) := by decide +kernel
theorem xd_CA_weak_14 : decode b_CA_weak 14 = .ok (.ifCond .eq 7, 3) := by decide +kernel
theorem xd_CA_weak_17 : decode b_CA_weak 17 = .ok (.iload_n 3, 1) := by decide +kernel
theorem xd_CA_weak_18 : decode b_CA_weak 18 = .ok (.ifCond .ge 9, 3) := by decide +kernel
theorem xd_CA_weak_21 : decode b_CA_weak 21 = .ok (.aload_n 0, 1) := by decide +kernel
theorem xd_CA_weak_22 : decode b_CA_weak 22 = .ok (.iconst (-1), 1) := by decide +kernel
theorem xd_CA_weak_23 : decode b_CA_weak 23 = .ok (.invokevirtual 67, 3) := by decide +kernel
theorem xd_CA_weak_26 : decode b_CA_weak 26 = .ok (.ireturn, 1) := by decide +kernel
theorem xd_CA_weak_27 : decode b_CA_weak 27 = .ok (.aload_n 0, 1) := by decide +kernel
theorem xd_CA_weak_28 : decode b_CA_weak 28 = .ok (.getfield 26, 3) := by decide +kernel
theorem xd_CA_weak_31 : decode b_CA_weak 31 = .ok (.iload_n 2, 1) := by decide +kernel
theorem xd_CA_weak_32 : decode b_CA_weak 32 = .ok (.aaload, 1) := by decide +kernel
theorem xd_CA_weak_33 : decode b_CA_weak 33 = .ok (.invokevirtual 81, 3) := by decide +kernel
theorem xd_CA_weak_36 : decode b_CA_weak 36 = .ok (.ifCond .ne 10, 3) := by decide +kernel
theorem xd_CA_weak_39 : decode b_CA_weak 39 = .ok (.aload_n 0, 1) := by decide +kernel
theorem xd_CA_weak_40 : decode b_CA_weak 40 = .ok (.bipush (-2), 2) := by decide +kernel
theorem xd_CA_weak_42 : decode b_CA_weak 42 = .ok (.invokevirtual 67, 3) := by decide +kernel
theorem xd_CA_weak_45 : decode b_CA_weak 45 = .ok (.ireturn, 1) := by decide +kernel
theorem xd_CA_weak_46 : decode b_CA_weak 46 = .ok (.aload_n 0, 1) := by decide +kernel
theorem xd_CA_weak_47 : decode b_CA_weak 47 = .ok (.getfield 26, 3) := by decide +kernel
theorem xd_CA_weak_50 : decode b_CA_weak 50 = .ok (.iload_n 2, 1) := by decide +kernel
theorem xd_CA_weak_51 : decode b_CA_weak 51 = .ok (.aaload, 1) := by decide +kernel
theorem xd_CA_weak_52 : decode b_CA_weak 52 = .ok (.iload_n 3, 1) := by decide +kernel
theorem xd_CA_weak_53 : decode b_CA_weak 53 = .ok (.invokestatic 91, 3) := by decide +kernel
theorem xd_CA_weak_56 : decode b_CA_weak 56 = .ok (.ifCond .ne 9, 3) := by decide +kernel
theorem xd_CA_weak_59 : decode b_CA_weak 59 = .ok (.aload_n 0, 1) := by decide +kernel
theorem xd_CA_weak_60 : decode b_CA_weak 60 = .ok (.iconst (-1), 1) := by decide +kernel
theorem xd_CA_weak_61 : decode b_CA_weak 61 = .ok (.invokevirtual 67, 3) := by decide +kernel
theorem xd_CA_weak_64 : decode b_CA_weak 64 = .ok (.ireturn, 1) := by decide +kernel
theorem xd_CA_weak_65 : decode b_CA_weak 65 = .ok (.aload_n 0, 1) := by decide +kernel
theorem xd_CA_weak_66 : decode b_CA_weak 66 = .ok (.getfield 10, 3) := by decide +kernel
theorem xd_CA_weak_69 : decode b_CA_weak 69 = .ok (.getfield 97, 3) := by decide +kernel
theorem xd_CA_weak_72 : decode b_CA_weak 72 = .ok (.iload_n 1, 1) := by decide +kernel
theorem xd_CA_weak_73 : decode b_CA_weak 73 = .ok (.aload_n 0, 1) := by decide +kernel
theorem xd_CA_weak_74 : decode b_CA_weak 74 = .ok (.getfield 26, 3) := by decide +kernel
theorem xd_CA_weak_77 : decode b_CA_weak 77 = .ok (.iload_n 2, 1) := by decide +kernel
theorem xd_CA_weak_78 : decode b_CA_weak 78 = .ok (.aaload, 1) := by decide +kernel
theorem xd_CA_weak_79 : decode b_CA_weak 79 = .ok (.iload_n 3, 1) := by decide +kernel
theorem xd_CA_weak_80 : decode b_CA_weak 80 = .ok (.invokevirtual 101, 3) := by decide +kernel
theorem xd_CA_weak_83 : decode b_CA_weak 83 = .ok (.aload_n 0, 1) := by decide +kernel
theorem xd_CA_weak_84 : decode b_CA_weak 84 = .ok (.iconst 0, 1) := by decide +kernel
theorem xd_CA_weak_85 : decode b_CA_weak 85 = .ok (.invokevirtual 78, 3) := by decide +kernel
theorem xd_CA_weak_88 : decode b_CA_weak 88 = .ok (.ireturn, 1) := by decide +kernel
abbrev rm_CA_weak : Room := { frames := 3, cells := 0, slots := 0, locals := 66 }
def xw_CA_weak (a1 : Int32) (a2 : Int32) (a3 : Int32) (M : xM) (post : Int32 → xM → Prop) : Prop :=
  xj (fun (J21_0 : xM → Prop) => ((a1 < (1 : Int32)) → (J21_0  M)) ∧ ((¬ a1 < (1 : Int32)) → ((((3 : Int32) < a1) → (J21_0  M)) ∧ ((¬ (3 : Int32) < a1) → (xw_CA_isSheet a2 M (fun (r6 : Int32) (M5 : xM) => ((r6 = 0) → (J21_0  M5)) ∧ ((¬ r6 = 0) → (((0 ≤ a3) → ((vp_in a2 4) ∧ (xw_Sh_isThere (4 + a2.toNatClampNeg) M5 (fun (r9 : Int32) (M8 : xM) => ((¬ r9 = 0) → ((vp_in a2 4) ∧ (xw_Ey_areWeakNumbers (4 + a2.toNatClampNeg) a3 M8 (fun (r12 : Int32) (M11 : xM) => ((¬ r12 = 0) → ((vp_in a2 4) ∧ (xw_Ey_weaken 0 a1 (4 + a2.toNatClampNeg) a3 M11 (fun (M14 : xM) => xw_CA_taken (0 : Int32) M14 (fun (r16 : Int32) (M15 : xM) => post r16 M15))))) ∧ ((r12 = 0) → (xw_CA_refused (-1 : Int32) M11 (fun (r18 : Int32) (M17 : xM) => post r18 M17))))))) ∧ ((r9 = 0) → (xw_CA_refused (-2 : Int32) M8 (fun (r20 : Int32) (M19 : xM) => post r20 M19))))))) ∧ ((¬ 0 ≤ a3) → (J21_0  M5)))))))))) (fun (M2 : xM) => xw_CA_refused (-1 : Int32) M2 (fun (r4 : Int32) (M3 : xM) => post r4 M3))
set_option maxHeartbeats 4000000 in
set_option maxRecDepth 100000 in
theorem xc_CA_weak (l : Launch) (G : xG) {a1 : Int32} {a2 : Int32} {a3 : Int32}  {M : xM} {post : Int32 → xM → Prop} (h : xw_CA_weak a1 a2 a3 M post) : Met l y_CA_weak (Cond.code y_CA_weak b_CA_weak 4 (some .int) :: xTG) rm_CA_weak (xPre G M [.ref (G.1 8 0), .int a1, .int a2, .int a3]) (xPi G post) 0 0 (xA G) := by
  refine xMet (own := R_CA) [.ref (G.1 8 0), .int a1, .int a2, .int a3] (Or.inl (by decide)) rfl (Nat.le_of_ble_eq_true rfl) (fun p e s m args below meth c ls hC hr hlk hR hS hl => ?_)
  have hx := hC.1
  have hb := hC.2.1
  have hl : lv_has ls 4 [(0, .ref (G.1 8 0)), (1, .int a1), (2, .int a2), (3, .int a3)] := hl
  obtain ⟨H, eH⟩ : ∃ H : Heap, H = s.heap := ⟨_, rfl⟩
  obtain ⟨locs, eL⟩ : ∃ locs : List Loc, locs = [] := ⟨_, rfl⟩
  rw [← eH] at hR
  replace hS : va_S (xA G) s.heap H locs := by rw [eH, eL]; exact hS
  suffices hh : W p l e rm_CA_weak s m args below meth c H locs 0 0 (MQ below (xPi G post) args s 0 0 (xA G)) (F0 m 0 ls []) from by rw [eH, eL] at hh; exact hh
  unfold xw_CA_weak at h
  refine lv_iload_n (pc := 0) hx hb xd_CA_weak_0 rfl (lv_at hl 1 rfl) ?_
  refine lv_iconst (pc := 1) (v := (1 : Int32)) hx hb xd_CA_weak_1 (by decide) ?_
  obtain ⟨J21_0, eJ21_0, h⟩ := xj_open h
  have kJ21_0 : ∀ (M2 : xM) (H : Heap) (locs : List Loc) (ls : Array Slot), J21_0 M2 → xRp G M2 H → va_S (xA G) s.heap H locs → lv_has ls 4 [(0, .ref (G.1 8 0))] → W p l e rm_CA_weak s m args below meth c H locs 0 0 (MQ below (xPi G post) args s 0 0 (xA G)) (F0 m 21 ls []) := by
    intro M2 H locs ls h hR hS hl
    rw [eJ21_0] at h
    refine lv_aload_n (pc := 21) hx hb xd_CA_weak_21 rfl (lv_at hl 0 rfl) ?_
    refine lv_iconst (pc := 22) (v := (-1 : Int32)) hx hb xd_CA_weak_22 (by decide) ?_
    refine xr_callV (pc := 23) (As := [.int (-1 : Int32)]) (rest := []) hC hR hS (xc_CA_refused l G  h) xo_C0 xv_CA_67 ⟨rfl, rfl, Nat.le_of_ble_eq_true rfl, Nat.le_of_ble_eq_true rfl⟩ rfl hl.1 rfl (Nat.le_of_ble_eq_true rfl) xd_CA_weak_23 (fun r4 M3 H locs h hR hS => ?_)
    exact xr_iret hC hr hlk hR hS h xd_CA_weak_26
  refine lv_icmp_lt (pc := 2) (tgt := 21) hx hb xd_CA_weak_2 (by decide) (fun hq => ?_) (fun hq => ?_)
  · have h := h.1 hq
    exact kJ21_0  M H locs ls h hR hS (lv_sub hl [0] rfl)
  · have h := h.2 hq
    refine lv_iload_n (pc := 5) hx hb xd_CA_weak_5 rfl (lv_at hl 1 rfl) ?_
    refine lv_iconst (pc := 6) (v := (3 : Int32)) hx hb xd_CA_weak_6 (by decide) ?_
    refine lv_icmp_gt (pc := 7) (tgt := 21) hx hb xd_CA_weak_7 (by decide) (fun hq => ?_) (fun hq => ?_)
    · have h := h.1 hq
      exact kJ21_0  M H locs ls h hR hS (lv_sub hl [0] rfl)
    · have h := h.2 hq
      refine lv_iload_n (pc := 10) hx hb xd_CA_weak_10 rfl (lv_at hl 2 rfl) ?_
      refine xr_callS (pc := 11) (As := [.int a2]) (rest := []) hC hR hS (xc_CA_isSheet l G  h) xv_CA_63 ⟨rfl, rfl, Nat.le_of_ble_eq_true rfl, Nat.le_of_ble_eq_true rfl⟩ rfl hl.1 rfl (Nat.le_of_ble_eq_true rfl) xd_CA_weak_11 (fun r6 M5 H locs h hR hS => ?_)
      refine lv_if_eq (pc := 14) (tgt := 21) hx hb xd_CA_weak_14 (by decide) (fun hq => ?_) (fun hq => ?_)
      · have h := h.1 hq
        exact kJ21_0  M5 H locs ls h hR hS (lv_sub hl [0] rfl)
      · have h := h.2 hq
        refine lv_iload_n (pc := 17) hx hb xd_CA_weak_17 rfl (lv_at hl 3 rfl) ?_
        refine lv_if_ge (pc := 18) (tgt := 27) hx hb xd_CA_weak_18 (by decide) (fun hq => ?_) (fun hq => ?_)
        · have h := h.1 hq
          refine lv_aload_n (pc := 27) hx hb xd_CA_weak_27 rfl (lv_at hl 0 rfl) ?_
          refine xr_get (pc := 28) (v := .ref (G.1 8 3)) hC hR xo_C0 xf_CA_26 rfl xd_CA_weak_28 ?_
          refine lv_iload_n (pc := 31) hx hb xd_CA_weak_31 rfl (lv_at hl 2 rfl) ?_
          obtain ⟨hq, h⟩ := h
          have hg7 := xin4 hq
          refine xr_aald (pc := 32) hC hR xo_C3 hq xd_CA_weak_32 ?_
          refine xr_callV (pc := 33) (As := []) (rest := []) hC hR hS (xc_Sh_isThere l G hg7 h) (xo_S0 hg7) xv_CA_81 ⟨rfl, rfl, Nat.le_of_ble_eq_true rfl, Nat.le_of_ble_eq_true rfl⟩ rfl hl.1 rfl (Nat.le_of_ble_eq_true rfl) xd_CA_weak_33 (fun r9 M8 H locs h hR hS => ?_)
          refine lv_if_ne (pc := 36) (tgt := 46) hx hb xd_CA_weak_36 (by decide) (fun hq => ?_) (fun hq => ?_)
          · have h := h.1 hq
            refine lv_aload_n (pc := 46) hx hb xd_CA_weak_46 rfl (lv_at hl 0 rfl) ?_
            refine xr_get (pc := 47) (v := .ref (G.1 8 3)) hC hR xo_C0 xf_CA_26 rfl xd_CA_weak_47 ?_
            refine lv_iload_n (pc := 50) hx hb xd_CA_weak_50 rfl (lv_at hl 2 rfl) ?_
            obtain ⟨hq, h⟩ := h
            have hg10 := xin4 hq
            refine xr_aald (pc := 51) hC hR xo_C3 hq xd_CA_weak_51 ?_
            refine lv_iload_n (pc := 52) hx hb xd_CA_weak_52 rfl (lv_at hl 3 rfl) ?_
            refine xr_callS (pc := 53) (As := [.ref (G.1 (4 + a2.toNatClampNeg) 0), .int a3]) (rest := []) hC hR hS (xc_Ey_areWeakNumbers l G hg10 h) xv_CA_91 ⟨rfl, rfl, Nat.le_of_ble_eq_true rfl, Nat.le_of_ble_eq_true rfl⟩ rfl hl.1 rfl (Nat.le_of_ble_eq_true rfl) xd_CA_weak_53 (fun r12 M11 H locs h hR hS => ?_)
            refine lv_if_ne (pc := 56) (tgt := 65) hx hb xd_CA_weak_56 (by decide) (fun hq => ?_) (fun hq => ?_)
            · have h := h.1 hq
              refine lv_aload_n (pc := 65) hx hb xd_CA_weak_65 rfl (lv_at hl 0 rfl) ?_
              refine xr_get (pc := 66) (v := .ref (G.1 0 0)) hC hR xo_C0 xf_CA_10 rfl xd_CA_weak_66 ?_
              refine xr_get (pc := 69) (v := .ref (G.1 0 1)) hC hR (xo_K0 xg0) xf_CA_97 rfl xd_CA_weak_69 ?_
              refine lv_iload_n (pc := 72) hx hb xd_CA_weak_72 rfl (lv_at hl 1 rfl) ?_
              refine lv_aload_n (pc := 73) hx hb xd_CA_weak_73 rfl (lv_at hl 0 rfl) ?_
              refine xr_get (pc := 74) (v := .ref (G.1 8 3)) hC hR xo_C0 xf_CA_26 rfl xd_CA_weak_74 ?_
              refine lv_iload_n (pc := 77) hx hb xd_CA_weak_77 rfl (lv_at hl 2 rfl) ?_
              obtain ⟨hq, h⟩ := h
              have hg13 := xin4 hq
              refine xr_aald (pc := 78) hC hR xo_C3 hq xd_CA_weak_78 ?_
              refine lv_iload_n (pc := 79) hx hb xd_CA_weak_79 rfl (lv_at hl 3 rfl) ?_
              refine xr_callVv (pc := 80) (As := [.int a1, .ref (G.1 (4 + a2.toNatClampNeg) 0), .int a3]) (rest := []) hC hR hS (xc_Ey_weaken l G xg0 hg13 h) (xo_K1 xg0) xv_CA_101 ⟨rfl, rfl, Nat.le_of_ble_eq_true rfl, Nat.le_of_ble_eq_true rfl⟩ rfl hl.1 rfl (Nat.le_of_ble_eq_true rfl) xd_CA_weak_80 (fun M14 H locs h hR hS => ?_)
              refine lv_aload_n (pc := 83) hx hb xd_CA_weak_83 rfl (lv_at hl 0 rfl) ?_
              refine lv_iconst (pc := 84) (v := (0 : Int32)) hx hb xd_CA_weak_84 (by decide) ?_
              refine xr_callV (pc := 85) (As := [.int (0 : Int32)]) (rest := []) hC hR hS (xc_CA_taken l G  h) xo_C0 xv_CA_78 ⟨rfl, rfl, Nat.le_of_ble_eq_true rfl, Nat.le_of_ble_eq_true rfl⟩ rfl hl.1 rfl (Nat.le_of_ble_eq_true rfl) xd_CA_weak_85 (fun r16 M15 H locs h hR hS => ?_)
              exact xr_iret hC hr hlk hR hS h xd_CA_weak_88
            · have h := h.2 hq
              refine lv_aload_n (pc := 59) hx hb xd_CA_weak_59 rfl (lv_at hl 0 rfl) ?_
              refine lv_iconst (pc := 60) (v := (-1 : Int32)) hx hb xd_CA_weak_60 (by decide) ?_
              refine xr_callV (pc := 61) (As := [.int (-1 : Int32)]) (rest := []) hC hR hS (xc_CA_refused l G  h) xo_C0 xv_CA_67 ⟨rfl, rfl, Nat.le_of_ble_eq_true rfl, Nat.le_of_ble_eq_true rfl⟩ rfl hl.1 rfl (Nat.le_of_ble_eq_true rfl) xd_CA_weak_61 (fun r18 M17 H locs h hR hS => ?_)
              exact xr_iret hC hr hlk hR hS h xd_CA_weak_64
          · have h := h.2 hq
            refine lv_aload_n (pc := 39) hx hb xd_CA_weak_39 rfl (lv_at hl 0 rfl) ?_
            refine lv_bipush (pc := 40) (v := (-2 : Int32)) hx hb xd_CA_weak_40 (by decide) ?_
            refine xr_callV (pc := 42) (As := [.int (-2 : Int32)]) (rest := []) hC hR hS (xc_CA_refused l G  h) xo_C0 xv_CA_67 ⟨rfl, rfl, Nat.le_of_ble_eq_true rfl, Nat.le_of_ble_eq_true rfl⟩ rfl hl.1 rfl (Nat.le_of_ble_eq_true rfl) xd_CA_weak_42 (fun r20 M19 H locs h hR hS => ?_)
            exact xr_iret hC hr hlk hR hS h xd_CA_weak_45
        · have h := h.2 hq
          exact kJ21_0  M5 H locs ls h hR hS (lv_sub hl [0] rfl)

/-! ColoursApart.levels(I)I -/
theorem xd_CA_levels_0 : decode b_CA_levels 0 = .ok (.iload_n 1, 1) := by decide +kernel
theorem xd_CA_levels_1 : decode b_CA_levels 1 = .ok (.iconst 2, 1) := by decide +kernel
theorem xd_CA_levels_2 : decode b_CA_levels 2 = .ok (.if_icmp .lt 9, 3) := by decide +kernel
theorem xd_CA_levels_5 : decode b_CA_levels 5 = .ok (.iload_n 1, 1) := by decide +kernel
theorem xd_CA_levels_6 : decode b_CA_levels 6 = .ok (.bipush 16, 2) := by decide +kernel
theorem xd_CA_levels_8 : decode b_CA_levels 8 = .ok (.if_icmp .le 9, 3) := by decide +kernel
theorem xd_CA_levels_11 : decode b_CA_levels 11 = .ok (.aload_n 0, 1) := by decide +kernel
theorem xd_CA_levels_12 : decode b_CA_levels 12 = .ok (.iconst (-1), 1) := by decide +kernel
theorem xd_CA_levels_13 : decode b_CA_levels 13 = .ok (.invokevirtual 67, 3) := by decide +kernel
theorem xd_CA_levels_16 : decode b_CA_levels 16 = .ok (.ireturn, 1) := by decide +kernel
theorem xd_CA_levels_17 : decode b_CA_levels 17 = .ok (.aload_n 0, 1) := by decide +kernel
theorem xd_CA_levels_18 : decode b_CA_levels 18 = .ok (.getfield 10, 3) := by decide +kernel
theorem xd_CA_levels_21 : decode b_CA_levels 21 = .ok (.getfield 97, 3) := by decide +kernel
theorem xd_CA_levels_24 : decode b_CA_levels 24 = .ok (.getfield 105, 3) := by decide +kernel
theorem xd_CA_levels_27 : decode b_CA_levels 27 = .ok (.istore_n 2, 1) := by decide +kernel
theorem xd_CA_levels_28 : decode b_CA_levels 28 = .ok (.aload_n 0, 1) := by decide +kernel
theorem xd_CA_levels_29 : decode b_CA_levels 29 = .ok (.getfield 10, 3) := by decide +kernel
theorem xd_CA_levels_32 : decode b_CA_levels 32 = .ok (.getfield 97, 3) := by decide +kernel
theorem xd_CA_levels_35 : decode b_CA_levels 35 = .ok (.iload_n 1, 1) := by decide +kernel
theorem xd_CA_levels_36 : decode b_CA_levels 36 = .ok (.putfield 105, 3) := by decide +kernel
theorem xd_CA_levels_39 : decode b_CA_levels 39 = .ok (.aload_n 0, 1) := by decide +kernel
theorem xd_CA_levels_40 : decode b_CA_levels 40 = .ok (.iload_n 2, 1) := by decide +kernel
theorem xd_CA_levels_41 : decode b_CA_levels 41 = .ok (.invokevirtual 78, 3) := by decide +kernel
theorem xd_CA_levels_44 : decode b_CA_levels 44 = .ok (.ireturn, 1) := by decide +kernel
abbrev rm_CA_levels : Room := { frames := 1, cells := 0, slots := 0, locals := 21 }
def xw_CA_levels (a1 : Int32) (M : xM) (post : Int32 → xM → Prop) : Prop :=
  xj (fun (J11_0 : xM → Prop) => ((a1 < (2 : Int32)) → (J11_0  M)) ∧ ((¬ a1 < (2 : Int32)) → (((a1 ≤ (16 : Int32)) → (xw_CA_taken (M 0 1 1) (us M 0 1 1 a1) (fun (r6 : Int32) (M5 : xM) => post r6 M5))) ∧ ((¬ a1 ≤ (16 : Int32)) → (J11_0  M))))) (fun (M2 : xM) => xw_CA_refused (-1 : Int32) M2 (fun (r4 : Int32) (M3 : xM) => post r4 M3))
set_option maxHeartbeats 4000000 in
set_option maxRecDepth 100000 in
theorem xc_CA_levels (l : Launch) (G : xG) {a1 : Int32}  {M : xM} {post : Int32 → xM → Prop} (h : xw_CA_levels a1 M post) : Met l y_CA_levels (Cond.code y_CA_levels b_CA_levels 3 (some .int) :: xTG) rm_CA_levels (xPre G M [.ref (G.1 8 0), .int a1]) (xPi G post) 0 0 (xA G) := by
  refine xMet (own := R_CA) [.ref (G.1 8 0), .int a1] (Or.inl (by decide)) rfl (Nat.le_of_ble_eq_true rfl) (fun p e s m args below meth c ls hC hr hlk hR hS hl => ?_)
  have hx := hC.1
  have hb := hC.2.1
  have hl : lv_has ls 3 [(0, .ref (G.1 8 0)), (1, .int a1)] := hl
  obtain ⟨H, eH⟩ : ∃ H : Heap, H = s.heap := ⟨_, rfl⟩
  obtain ⟨locs, eL⟩ : ∃ locs : List Loc, locs = [] := ⟨_, rfl⟩
  rw [← eH] at hR
  replace hS : va_S (xA G) s.heap H locs := by rw [eH, eL]; exact hS
  suffices hh : W p l e rm_CA_levels s m args below meth c H locs 0 0 (MQ below (xPi G post) args s 0 0 (xA G)) (F0 m 0 ls []) from by rw [eH, eL] at hh; exact hh
  unfold xw_CA_levels at h
  refine lv_iload_n (pc := 0) hx hb xd_CA_levels_0 rfl (lv_at hl 1 rfl) ?_
  refine lv_iconst (pc := 1) (v := (2 : Int32)) hx hb xd_CA_levels_1 (by decide) ?_
  obtain ⟨J11_0, eJ11_0, h⟩ := xj_open h
  have kJ11_0 : ∀ (M2 : xM) (H : Heap) (locs : List Loc) (ls : Array Slot), J11_0 M2 → xRp G M2 H → va_S (xA G) s.heap H locs → lv_has ls 3 [(0, .ref (G.1 8 0))] → W p l e rm_CA_levels s m args below meth c H locs 0 0 (MQ below (xPi G post) args s 0 0 (xA G)) (F0 m 11 ls []) := by
    intro M2 H locs ls h hR hS hl
    rw [eJ11_0] at h
    refine lv_aload_n (pc := 11) hx hb xd_CA_levels_11 rfl (lv_at hl 0 rfl) ?_
    refine lv_iconst (pc := 12) (v := (-1 : Int32)) hx hb xd_CA_levels_12 (by decide) ?_
    refine xr_callV (pc := 13) (As := [.int (-1 : Int32)]) (rest := []) hC hR hS (xc_CA_refused l G  h) xo_C0 xv_CA_67 ⟨rfl, rfl, Nat.le_of_ble_eq_true rfl, Nat.le_of_ble_eq_true rfl⟩ rfl hl.1 rfl (Nat.le_of_ble_eq_true rfl) xd_CA_levels_13 (fun r4 M3 H locs h hR hS => ?_)
    exact xr_iret hC hr hlk hR hS h xd_CA_levels_16
  refine lv_icmp_lt (pc := 2) (tgt := 11) hx hb xd_CA_levels_2 (by decide) (fun hq => ?_) (fun hq => ?_)
  · have h := h.1 hq
    exact kJ11_0  M H locs ls h hR hS (lv_sub hl [0] rfl)
  · have h := h.2 hq
    refine lv_iload_n (pc := 5) hx hb xd_CA_levels_5 rfl (lv_at hl 1 rfl) ?_
    refine lv_bipush (pc := 6) (v := (16 : Int32)) hx hb xd_CA_levels_6 (by decide) ?_
    refine lv_icmp_le (pc := 8) (tgt := 17) hx hb xd_CA_levels_8 (by decide) (fun hq => ?_) (fun hq => ?_)
    · have h := h.1 hq
      refine lv_aload_n (pc := 17) hx hb xd_CA_levels_17 rfl (lv_at hl 0 rfl) ?_
      refine xr_get (pc := 18) (v := .ref (G.1 0 0)) hC hR xo_C0 xf_CA_10 rfl xd_CA_levels_18 ?_
      refine xr_get (pc := 21) (v := .ref (G.1 0 1)) hC hR (xo_K0 xg0) xf_CA_97 rfl xd_CA_levels_21 ?_
      refine xr_get (pc := 24) (v := .int (M 0 1 1)) hC hR (xo_K1 xg0) xf_CA_105 rfl xd_CA_levels_24 ?_
      refine lv_istore_n (pc := 27) (lv' := [(2, .int (M 0 1 1)), (0, .ref (G.1 8 0)), (1, .int a1)]) hx hb xd_CA_levels_27 rfl hl (by decide) rfl (fun ls hl => ?_)
      refine lv_aload_n (pc := 28) hx hb xd_CA_levels_28 rfl (lv_at hl 1 rfl) ?_
      refine xr_get (pc := 29) (v := .ref (G.1 0 0)) hC hR xo_C0 xf_CA_10 rfl xd_CA_levels_29 ?_
      refine xr_get (pc := 32) (v := .ref (G.1 0 1)) hC hR (xo_K0 xg0) xf_CA_97 rfl xd_CA_levels_32 ?_
      refine lv_iload_n (pc := 35) hx hb xd_CA_levels_35 rfl (lv_at hl 2 rfl) ?_
      refine xr_put (pc := 36) hC hR hS (xo_K1 xg0) xf_CA_105 xp_1_1 rfl rfl rfl xd_CA_levels_36 (fun H locs hR hS => ?_)
      refine lv_aload_n (pc := 39) hx hb xd_CA_levels_39 rfl (lv_at hl 1 rfl) ?_
      refine lv_iload_n (pc := 40) hx hb xd_CA_levels_40 rfl (lv_at hl 0 rfl) ?_
      refine xr_callV (pc := 41) (As := [.int (M 0 1 1)]) (rest := []) hC hR hS (xc_CA_taken l G  h) xo_C0 xv_CA_78 ⟨rfl, rfl, Nat.le_of_ble_eq_true rfl, Nat.le_of_ble_eq_true rfl⟩ rfl hl.1 rfl (Nat.le_of_ble_eq_true rfl) xd_CA_levels_41 (fun r6 M5 H locs h hR hS => ?_)
      exact xr_iret hC hr hlk hR hS h xd_CA_levels_44
    · have h := h.2 hq
      exact kJ11_0  M H locs ls h hR hS (lv_sub hl [0] rfl)

/-! ColoursApart.weights(III)I -/
theorem xd_CA_weights_0 : decode b_CA_weights 0 = .ok (.iload_n 1, 1) := by decide +kernel
theorem xd_CA_weights_1 : decode b_CA_weights 1 = .ok (.invokestatic 108, 3) := by decide +kernel
theorem xd_CA_weights_4 : decode b_CA_weights 4 = .ok (.ifCond .eq 17, 3) := by decide +kernel
theorem xd_CA_weights_7 : decode b_CA_weights 7 = .ok (.iload_n 2, 1) := by decide +kernel
theorem xd_CA_weights_8 : decode b_CA_weights 8 = .ok (.invokestatic 108, 3) := by decide +kernel
theorem xd_CA_weights_11 : decode b_CA_weights 11 = .ok (.ifCond .eq 10, 3) := by decide +kernel
theorem xd_CA_weights_14 : decode b_CA_weights 14 = .ok (.iload_n 3, 1) := by decide +kernel
theorem xd_CA_weights_15 : decode b_CA_weights 15 = .ok (.invokestatic 108, 3) := by decide +kernel
theorem xd_CA_weights_18 : decode b_CA_weights 18 = .ok (.ifCond .ne 9, 3) := by decide +kernel
theorem xd_CA_weights_21 : decode b_CA_weights 21 = .ok (.aload_n 0, 1) := by decide +kernel
theorem xd_CA_weights_22 : decode b_CA_weights 22 = .ok (.iconst (-1), 1) := by decide +kernel
theorem xd_CA_weights_23 : decode b_CA_weights 23 = .ok (.invokevirtual 67, 3) := by decide +kernel
theorem xd_CA_weights_26 : decode b_CA_weights 26 = .ok (.ireturn, 1) := by decide +kernel
theorem xd_CA_weights_27 : decode b_CA_weights 27 = .ok (.aload_n 0, 1) := by decide +kernel
theorem xd_CA_weights_28 : decode b_CA_weights 28 = .ok (.getfield 10, 3) := by decide +kernel
theorem xd_CA_weights_31 : decode b_CA_weights 31 = .ok (.getfield 97, 3) := by decide +kernel
theorem xd_CA_weights_34 : decode b_CA_weights 34 = .ok (.iload_n 1, 1) := by decide +kernel
theorem xd_CA_weights_35 : decode b_CA_weights 35 = .ok (.putfield 111, 3) := by decide +kernel
theorem xd_CA_weights_38 : decode b_CA_weights 38 = .ok (.aload_n 0, 1) := by decide +kernel
theorem xd_CA_weights_39 : decode b_CA_weights 39 = .ok (.getfield 10, 3) := by decide +kernel
theorem xd_CA_weights_42 : decode b_CA_weights 42 = .ok (.getfield 97, 3) := by decide +kernel
theorem xd_CA_weights_45 : decode b_CA_weights 45 = .ok (.iload_n 2, 1) := by decide +kernel
theorem xd_CA_weights_46 : decode b_CA_weights 46 = .ok (.putfield 114, 3) := by decide +kernel
theorem xd_CA_weights_49 : decode b_CA_weights 49 = .ok (.aload_n 0, 1) := by decide +kernel
theorem xd_CA_weights_50 : decode b_CA_weights 50 = .ok (.getfield 10, 3) := by decide +kernel
theorem xd_CA_weights_53 : decode b_CA_weights 53 = .ok (.getfield 97, 3) := by decide +kernel
theorem xd_CA_weights_56 : decode b_CA_weights 56 = .ok (.iload_n 3, 1) := by decide +kernel
theorem xd_CA_weights_57 : decode b_CA_weights 57 = .ok (.putfield 117, 3) := by decide +kernel
theorem xd_CA_weights_60 : decode b_CA_weights 60 = .ok (.aload_n 0, 1) := by decide +kernel
theorem xd_CA_weights_61 : decode b_CA_weights 61 = .ok (.iconst 0, 1) := by decide +kernel
theorem xd_CA_weights_62 : decode b_CA_weights 62 = .ok (.invokevirtual 78, 3) := by decide +kernel
theorem xd_CA_weights_65 : decode b_CA_weights 65 = .ok (.ireturn, 1) := by decide +kernel
abbrev rm_CA_weights : Room := { frames := 1, cells := 0, slots := 0, locals := 21 }
def xw_CA_weights (a1 : Int32) (a2 : Int32) (a3 : Int32) (M : xM) (post : Int32 → xM → Prop) : Prop :=
  xw_Ey_isWeight a1 M (fun (r2 : Int32) (M1 : xM) => xj (fun (J21_2 : xM → Prop) => ((r2 = 0) → (J21_2  M1)) ∧ ((¬ r2 = 0) → (xw_Ey_isWeight a2 M1 (fun (r8 : Int32) (M7 : xM) => ((r8 = 0) → (J21_2  M7)) ∧ ((¬ r8 = 0) → (xw_Ey_isWeight a3 M7 (fun (r10 : Int32) (M9 : xM) => ((¬ r10 = 0) → (xw_CA_taken (0 : Int32) (us (us (us M9 0 1 2 a1) 0 1 3 a2) 0 1 4 a3) (fun (r12 : Int32) (M11 : xM) => post r12 M11))) ∧ ((r10 = 0) → (J21_2  M9))))))))) (fun (M4 : xM) => xw_CA_refused (-1 : Int32) M4 (fun (r6 : Int32) (M5 : xM) => post r6 M5)))
set_option maxHeartbeats 4000000 in
set_option maxRecDepth 100000 in
theorem xc_CA_weights (l : Launch) (G : xG) {a1 : Int32} {a2 : Int32} {a3 : Int32}  {M : xM} {post : Int32 → xM → Prop} (h : xw_CA_weights a1 a2 a3 M post) : Met l y_CA_weights (Cond.code y_CA_weights b_CA_weights 4 (some .int) :: xTG) rm_CA_weights (xPre G M [.ref (G.1 8 0), .int a1, .int a2, .int a3]) (xPi G post) 0 0 (xA G) := by
  refine xMet (own := R_CA) [.ref (G.1 8 0), .int a1, .int a2, .int a3] (Or.inl (by decide)) rfl (Nat.le_of_ble_eq_true rfl) (fun p e s m args below meth c ls hC hr hlk hR hS hl => ?_)
  have hx := hC.1
  have hb := hC.2.1
  have hl : lv_has ls 4 [(0, .ref (G.1 8 0)), (1, .int a1), (2, .int a2), (3, .int a3)] := hl
  obtain ⟨H, eH⟩ : ∃ H : Heap, H = s.heap := ⟨_, rfl⟩
  obtain ⟨locs, eL⟩ : ∃ locs : List Loc, locs = [] := ⟨_, rfl⟩
  rw [← eH] at hR
  replace hS : va_S (xA G) s.heap H locs := by rw [eH, eL]; exact hS
  suffices hh : W p l e rm_CA_weights s m args below meth c H locs 0 0 (MQ below (xPi G post) args s 0 0 (xA G)) (F0 m 0 ls []) from by rw [eH, eL] at hh; exact hh
  unfold xw_CA_weights at h
  refine lv_iload_n (pc := 0) hx hb xd_CA_weights_0 rfl (lv_at hl 1 rfl) ?_
  refine xr_callS (pc := 1) (As := [.int a1]) (rest := []) hC hR hS (xc_Ey_isWeight l G  h) xv_CA_108 ⟨rfl, rfl, Nat.le_of_ble_eq_true rfl, Nat.le_of_ble_eq_true rfl⟩ rfl hl.1 rfl (Nat.le_of_ble_eq_true rfl) xd_CA_weights_1 (fun r2 M1 H locs h hR hS => ?_)
  obtain ⟨J21_2, eJ21_2, h⟩ := xj_open h
  have kJ21_2 : ∀ (M4 : xM) (H : Heap) (locs : List Loc) (ls : Array Slot), J21_2 M4 → xRp G M4 H → va_S (xA G) s.heap H locs → lv_has ls 4 [(0, .ref (G.1 8 0))] → W p l e rm_CA_weights s m args below meth c H locs 0 0 (MQ below (xPi G post) args s 0 0 (xA G)) (F0 m 21 ls []) := by
    intro M4 H locs ls h hR hS hl
    rw [eJ21_2] at h
    refine lv_aload_n (pc := 21) hx hb xd_CA_weights_21 rfl (lv_at hl 0 rfl) ?_
    refine lv_iconst (pc := 22) (v := (-1 : Int32)) hx hb xd_CA_weights_22 (by decide) ?_
    refine xr_callV (pc := 23) (As := [.int (-1 : Int32)]) (rest := []) hC hR hS (xc_CA_refused l G  h) xo_C0 xv_CA_67 ⟨rfl, rfl, Nat.le_of_ble_eq_true rfl, Nat.le_of_ble_eq_true rfl⟩ rfl hl.1 rfl (Nat.le_of_ble_eq_true rfl) xd_CA_weights_23 (fun r6 M5 H locs h hR hS => ?_)
    exact xr_iret hC hr hlk hR hS h xd_CA_weights_26
  refine lv_if_eq (pc := 4) (tgt := 21) hx hb xd_CA_weights_4 (by decide) (fun hq => ?_) (fun hq => ?_)
  · have h := h.1 hq
    exact kJ21_2  M1 H locs ls h hR hS (lv_sub hl [0] rfl)
  · have h := h.2 hq
    refine lv_iload_n (pc := 7) hx hb xd_CA_weights_7 rfl (lv_at hl 2 rfl) ?_
    refine xr_callS (pc := 8) (As := [.int a2]) (rest := []) hC hR hS (xc_Ey_isWeight l G  h) xv_CA_108 ⟨rfl, rfl, Nat.le_of_ble_eq_true rfl, Nat.le_of_ble_eq_true rfl⟩ rfl hl.1 rfl (Nat.le_of_ble_eq_true rfl) xd_CA_weights_8 (fun r8 M7 H locs h hR hS => ?_)
    refine lv_if_eq (pc := 11) (tgt := 21) hx hb xd_CA_weights_11 (by decide) (fun hq => ?_) (fun hq => ?_)
    · have h := h.1 hq
      exact kJ21_2  M7 H locs ls h hR hS (lv_sub hl [0] rfl)
    · have h := h.2 hq
      refine lv_iload_n (pc := 14) hx hb xd_CA_weights_14 rfl (lv_at hl 3 rfl) ?_
      refine xr_callS (pc := 15) (As := [.int a3]) (rest := []) hC hR hS (xc_Ey_isWeight l G  h) xv_CA_108 ⟨rfl, rfl, Nat.le_of_ble_eq_true rfl, Nat.le_of_ble_eq_true rfl⟩ rfl hl.1 rfl (Nat.le_of_ble_eq_true rfl) xd_CA_weights_15 (fun r10 M9 H locs h hR hS => ?_)
      refine lv_if_ne (pc := 18) (tgt := 27) hx hb xd_CA_weights_18 (by decide) (fun hq => ?_) (fun hq => ?_)
      · have h := h.1 hq
        refine lv_aload_n (pc := 27) hx hb xd_CA_weights_27 rfl (lv_at hl 0 rfl) ?_
        refine xr_get (pc := 28) (v := .ref (G.1 0 0)) hC hR xo_C0 xf_CA_10 rfl xd_CA_weights_28 ?_
        refine xr_get (pc := 31) (v := .ref (G.1 0 1)) hC hR (xo_K0 xg0) xf_CA_97 rfl xd_CA_weights_31 ?_
        refine lv_iload_n (pc := 34) hx hb xd_CA_weights_34 rfl (lv_at hl 1 rfl) ?_
        refine xr_put (pc := 35) hC hR hS (xo_K1 xg0) xf_CA_111 xp_1_2 rfl rfl rfl xd_CA_weights_35 (fun H locs hR hS => ?_)
        refine lv_aload_n (pc := 38) hx hb xd_CA_weights_38 rfl (lv_at hl 0 rfl) ?_
        refine xr_get (pc := 39) (v := .ref (G.1 0 0)) hC hR xo_C0 xf_CA_10 rfl xd_CA_weights_39 ?_
        refine xr_get (pc := 42) (v := .ref (G.1 0 1)) hC hR (xo_K0 xg0) xf_CA_97 rfl xd_CA_weights_42 ?_
        refine lv_iload_n (pc := 45) hx hb xd_CA_weights_45 rfl (lv_at hl 2 rfl) ?_
        refine xr_put (pc := 46) hC hR hS (xo_K1 xg0) xf_CA_114 xp_1_3 rfl rfl rfl xd_CA_weights_46 (fun H locs hR hS => ?_)
        refine lv_aload_n (pc := 49) hx hb xd_CA_weights_49 rfl (lv_at hl 0 rfl) ?_
        refine xr_get (pc := 50) (v := .ref (G.1 0 0)) hC hR xo_C0 xf_CA_10 rfl xd_CA_weights_50 ?_
        refine xr_get (pc := 53) (v := .ref (G.1 0 1)) hC hR (xo_K0 xg0) xf_CA_97 rfl xd_CA_weights_53 ?_
        refine lv_iload_n (pc := 56) hx hb xd_CA_weights_56 rfl (lv_at hl 3 rfl) ?_
        refine xr_put (pc := 57) hC hR hS (xo_K1 xg0) xf_CA_117 xp_1_4 rfl rfl rfl xd_CA_weights_57 (fun H locs hR hS => ?_)
        refine lv_aload_n (pc := 60) hx hb xd_CA_weights_60 rfl (lv_at hl 0 rfl) ?_
        refine lv_iconst (pc := 61) (v := (0 : Int32)) hx hb xd_CA_weights_61 (by decide) ?_
        refine xr_callV (pc := 62) (As := [.int (0 : Int32)]) (rest := []) hC hR hS (xc_CA_taken l G  h) xo_C0 xv_CA_78 ⟨rfl, rfl, Nat.le_of_ble_eq_true rfl, Nat.le_of_ble_eq_true rfl⟩ rfl hl.1 rfl (Nat.le_of_ble_eq_true rfl) xd_CA_weights_62 (fun r12 M11 H locs h hR hS => ?_)
        exact xr_iret hC hr hlk hR hS h xd_CA_weights_65
      · have h := h.2 hq
        exact kJ21_2  M9 H locs ls h hR hS (lv_sub hl [0] rfl)
