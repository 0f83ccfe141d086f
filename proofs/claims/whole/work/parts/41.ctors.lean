/-! the constructor of ColoursApart$Sheet -/
theorem xd_Sh_init_0 : decode b_Sh_init 0 = .ok (.aload_n 0, 1) := by decide +kernel
theorem xd_Sh_init_1 : decode b_Sh_init 1 = .ok (.invokespecial 3, 3) := by decide +kernel
theorem xd_Sh_init_4 : decode b_Sh_init 4 = .ok (.aload_n 0, 1) := by decide +kernel
theorem xd_Sh_init_5 : decode b_Sh_init 5 = .ok (.bipush 60, 2) := by decide +kernel
theorem xd_Sh_init_7 : decode b_Sh_init 7 = .ok (.newarray .int, 2) := by decide +kernel
theorem xd_Sh_init_9 : decode b_Sh_init 9 = .ok (.putfield 11, 3) := by decide +kernel
theorem xd_Sh_init_12 : decode b_Sh_init 12 = .ok (.aload_n 0, 1) := by decide +kernel
theorem xd_Sh_init_13 : decode b_Sh_init 13 = .ok (.iconst 2, 1) := by decide +kernel
theorem xd_Sh_init_14 : decode b_Sh_init 14 = .ok (.putfield 15, 3) := by decide +kernel
theorem xd_Sh_init_17 : decode b_Sh_init 17 = .ok (.aload_n 0, 1) := by decide +kernel
theorem xd_Sh_init_18 : decode b_Sh_init 18 = .ok (.iconst (-1), 1) := by decide +kernel
theorem xd_Sh_init_19 : decode b_Sh_init 19 = .ok (.putfield 19, 3) := by decide +kernel
theorem xd_Sh_init_22 : decode b_Sh_init 22 = .ok (.return_, 1) := by decide +kernel
abbrev rm_Sh_init : Room := { frames := 1, cells := 1, slots := 60, locals := 40 }
def at_Sh (dC : Nat → ClassId) (dI : Nat → Nat → Nat) (A : Nat → Prop) (h0 : Nat) (_ : Unit) (t : State) : Prop := ∃ (q1 : Nat) (c2 : ClassId) , va_P (dC, dI) xcl [(h0, .inr (8, [.ref q1, .int (2 : Int32), .int (-1 : Int32)])), (q1, .inl (c2, 60, .inl (fun _ => 0)))] t.heap ∧ va_K (dC, dI) xcl [(c2, .int)] t ∧ va_D A [(h0, .inr (8, [.ref q1, .int (2 : Int32), .int (-1 : Int32)])), (q1, .inl (c2, 60, .inl (fun _ => 0)))]
set_option maxHeartbeats 8000000 in
set_option maxRecDepth 100000 in
theorem ci_Sh (l : Launch) (dC : Nat → ClassId) (dI : Nat → Nat → Nat) (h0 sz : Nat) : Met l y_Sh_init (Cond.code y_Sh_init b_Sh_init 1 none :: xTG) rm_Sh_init (va_Pc [.ref h0] (xI dC dI [(h0, .inr (8, [.null, .int 0, .int 0]))] sz)) (va_Qv (fun _ : Unit => True) (at_Sh dC dI (va_A [(h0, .inr (8, [.null, .int 0, .int 0]))] sz) h0) (va_A [(h0, .inr (8, [.null, .int 0, .int 0]))] sz)) 1 60 (va_A [(h0, .inr (8, [.null, .int 0, .int 0]))] sz) := by
  refine Met.ofW (cc := b_Sh_init) (maxL := 1) (ret := none) (by decide) rfl ?_
  intro p e s m args below meth c s₁ B hml hv
  obtain ⟨rfl, hsz, hP, hK, hNA, hD0⟩ := hv
  have hx := B.exec
  have hb := B.bytes
  have hr := B.returns
  have hts0 := atoms_spec (ws := Cond.code y_Sh_init b_Sh_init 1 none :: xTG) B.pre
  have hts : ∀ w ∈ xTG, w.before ([.ref h0] : List Value).toArray s = true := fun w hw => hts0 w (List.mem_cons_of_mem _ hw)
  have hown : s.vm.findClass R_Sh = some m.cls := findClass_of_methodNamed B.named
  have hlocks := B.notSynchronized
  have hin : meth.name = "<init>" := (name_of_methodNamed B.named B.method).1
  subst hsz
  have hD := hD0.self (sz := s.heap.size)
  generalize hAe : va_A [(h0, .inr (8, [.null, .int 0, .int 0]))] s.heap.size = A at hD ⊢
  have hA : ∀ q : Nat, s.heap.size ≤ q → A q := fun q h => by rw [← hAe]; exact Or.inr h
  have hS : va_S A s.heap s.heap [] := va_S.rf
  have hl := lv_entry ([.ref h0]) (n := 1) (Nat.le_of_ble_eq_true rfl)
  rw [lg_entry_eq]
  generalize (lg_sl ([.ref h0]) ++ List.replicate (1 - (lg_sl ([.ref h0])).length) Slot.unset).toArray = ls at hl ⊢
  have hl : lv_has ls 1 [(0, .ref h0)] := hl
  refine lv_aload_n (pc := 0) hx hb xd_Sh_init_0 rfl (lv_at hl 0 rfl) ?_
  refine W.objInit hx hb hown (hts _ xob_Sh_3) (hts _ xob_i) (hts _ xob_c) rfl (by rw [hml]; exact hl.1) rfl xd_Sh_init_1 (Nat.le_of_ble_eq_true rfl) (Nat.le_of_ble_eq_true rfl) ?_
  refine W.eq (g2 := F0 m 4 ls []) rfl ?_
  refine lv_aload_n (pc := 4) hx hb xd_Sh_init_4 rfl (lv_at hl 0 rfl) ?_
  refine lv_bipush (pc := 5) (v := (60 : Int32)) hx hb xd_Sh_init_5 (by decide) ?_
  refine va_newa (pc := 7) (atype := .int) (a0 := (60, .inl (fun _ => 0))) (ty := .int) (N' := 60) hx hb (hts _ xac_int) rfl hK hP hD hS hA (fun _ => rfl) (by decide) (by decide) (by decide) (Nat.le_of_ble_eq_true rfl) (Nat.le_of_ble_eq_true rfl) xd_Sh_init_7 (fun q1 c2 H hK hP hD hS => ?_)
  have hP : va_P (dC, dI) xcl [(h0, .inr (8, [.null, .int 0, .int 0])), (q1, .inl (c2, 60, .inl (fun _ => 0)))] H := hP
  have hD : va_D A [(h0, .inr (8, [.null, .int 0, .int 0])), (q1, .inl (c2, 60, .inl (fun _ => 0)))] := hD
  have hK : va_K (dC, dI) xcl [(c2, .int)] s := hK
  refine W.widen (k := 1) (n := 60) (by omega) (by omega) ?_
  refine va_putF (pc := 9) (D := (dC, dI)) (ci := 8) (v := .ref q1) (ty := .array (.int)) (C := R_Sh) (T := T_Sh) (N := 3) hx hb hts xi_Sh ty_Sh tyok_Sh nm_Sh hown hK hP hD hS 0 rfl rfl 0 (by decide) (hts _ xl_Sh_11) (fun _ h9 => h9) rfl hin rfl (by decide +kernel) rfl rfl (Nat.le_of_ble_eq_true rfl) xd_Sh_init_9 (fun H locs hP hD hS => ?_)
  have hP : va_P (dC, dI) xcl [(h0, .inr (8, [.ref q1, .int 0, .int 0])), (q1, .inl (c2, 60, .inl (fun _ => 0)))] H := hP
  have hD : va_D A [(h0, .inr (8, [.ref q1, .int 0, .int 0])), (q1, .inl (c2, 60, .inl (fun _ => 0)))] := hD
  refine lv_aload_n (pc := 12) hx hb xd_Sh_init_12 rfl (lv_at hl 0 rfl) ?_
  refine lv_iconst (pc := 13) (v := (2 : Int32)) hx hb xd_Sh_init_13 (by decide) ?_
  refine va_put (pc := 14) (D := (dC, dI)) (ci := 8) (v := .int (2 : Int32)) (ty := .int) (C := R_Sh) (T := T_Sh) (N := 3) hx hb hts xi_Sh ty_Sh tyok_Sh nm_Sh hown hK hP hD hS 0 rfl rfl 1 (by decide) (hts _ xl_Sh_15) (fun _ h9 => h9) rfl (by decide +kernel) rfl rfl (Nat.le_of_ble_eq_true rfl) xd_Sh_init_14 (fun H locs hP hD hS => ?_)
  have hP : va_P (dC, dI) xcl [(h0, .inr (8, [.ref q1, .int (2 : Int32), .int 0])), (q1, .inl (c2, 60, .inl (fun _ => 0)))] H := hP
  have hD : va_D A [(h0, .inr (8, [.ref q1, .int (2 : Int32), .int 0])), (q1, .inl (c2, 60, .inl (fun _ => 0)))] := hD
  refine lv_aload_n (pc := 17) hx hb xd_Sh_init_17 rfl (lv_at hl 0 rfl) ?_
  refine lv_iconst (pc := 18) (v := (-1 : Int32)) hx hb xd_Sh_init_18 (by decide) ?_
  refine va_put (pc := 19) (D := (dC, dI)) (ci := 8) (v := .int (-1 : Int32)) (ty := .int) (C := R_Sh) (T := T_Sh) (N := 3) hx hb hts xi_Sh ty_Sh tyok_Sh nm_Sh hown hK hP hD hS 0 rfl rfl 2 (by decide) (hts _ xl_Sh_19) (fun _ h9 => h9) rfl (by decide +kernel) rfl rfl (Nat.le_of_ble_eq_true rfl) xd_Sh_init_19 (fun H locs hP hD hS => ?_)
  have hP : va_P (dC, dI) xcl [(h0, .inr (8, [.ref q1, .int (2 : Int32), .int (-1 : Int32)])), (q1, .inl (c2, 60, .inl (fun _ => 0)))] H := hP
  have hD : va_D A [(h0, .inr (8, [.ref q1, .int (2 : Int32), .int (-1 : Int32)])), (q1, .inl (c2, 60, .inl (fun _ => 0)))] := hD
  have hP9 := hP.sub (ws' := [(h0, .inr (8, [.ref q1, .int (2 : Int32), .int (-1 : Int32)])), (q1, .inl (c2, 60, .inl (fun _ => 0)))]) [0, 1] rfl
  have hD9 := hD.sub (ws' := [(h0, .inr (8, [.ref q1, .int (2 : Int32), .int (-1 : Int32)])), (q1, .inl (c2, 60, .inl (fun _ => 0)))]) [0, 1] (by decide) rfl
  refine W.widen (k := 1) (n := 60) (by omega) (by omega) ?_
  exact W.vret hx hb hr (fun t ht hW => ⟨⟨(), rfl, trivial, q1, c2, by rw [ht]; exact hP9, va_K.moved hW.alike hK, hD9⟩, hS.F ht⟩) hS.2.2 xd_Sh_init_22

/-! the constructor of ColoursApart$Eyes -/
theorem xd_Ey_init_0 : decode b_Ey_init 0 = .ok (.aload_n 0, 1) := by decide +kernel
theorem xd_Ey_init_1 : decode b_Ey_init 1 = .ok (.invokespecial 3, 3) := by decide +kernel
theorem xd_Ey_init_4 : decode b_Ey_init 4 = .ok (.aload_n 0, 1) := by decide +kernel
theorem xd_Ey_init_5 : decode b_Ey_init 5 = .ok (.bipush 27, 2) := by decide +kernel
theorem xd_Ey_init_7 : decode b_Ey_init 7 = .ok (.newarray .int, 2) := by decide +kernel
theorem xd_Ey_init_9 : decode b_Ey_init 9 = .ok (.putfield 11, 3) := by decide +kernel
theorem xd_Ey_init_12 : decode b_Ey_init 12 = .ok (.aload_n 0, 1) := by decide +kernel
theorem xd_Ey_init_13 : decode b_Ey_init 13 = .ok (.iconst 5, 1) := by decide +kernel
theorem xd_Ey_init_14 : decode b_Ey_init 14 = .ok (.putfield 15, 3) := by decide +kernel
theorem xd_Ey_init_17 : decode b_Ey_init 17 = .ok (.aload_n 0, 1) := by decide +kernel
theorem xd_Ey_init_18 : decode b_Ey_init 18 = .ok (.iconst 1, 1) := by decide +kernel
theorem xd_Ey_init_19 : decode b_Ey_init 19 = .ok (.putfield 19, 3) := by decide +kernel
theorem xd_Ey_init_22 : decode b_Ey_init 22 = .ok (.aload_n 0, 1) := by decide +kernel
theorem xd_Ey_init_23 : decode b_Ey_init 23 = .ok (.iconst 1, 1) := by decide +kernel
theorem xd_Ey_init_24 : decode b_Ey_init 24 = .ok (.putfield 22, 3) := by decide +kernel
theorem xd_Ey_init_27 : decode b_Ey_init 27 = .ok (.aload_n 0, 1) := by decide +kernel
theorem xd_Ey_init_28 : decode b_Ey_init 28 = .ok (.iconst 1, 1) := by decide +kernel
theorem xd_Ey_init_29 : decode b_Ey_init 29 = .ok (.putfield 25, 3) := by decide +kernel
theorem xd_Ey_init_32 : decode b_Ey_init 32 = .ok (.aload_n 0, 1) := by decide +kernel
theorem xd_Ey_init_33 : decode b_Ey_init 33 = .ok (.iconst 1, 1) := by decide +kernel
theorem xd_Ey_init_34 : decode b_Ey_init 34 = .ok (.putfield 28, 3) := by decide +kernel
theorem xd_Ey_init_37 : decode b_Ey_init 37 = .ok (.iconst 0, 1) := by decide +kernel
theorem xd_Ey_init_38 : decode b_Ey_init 38 = .ok (.istore_n 1, 1) := by decide +kernel
theorem xd_Ey_init_39 : decode b_Ey_init 39 = .ok (.iload_n 1, 1) := by decide +kernel
theorem xd_Ey_init_40 : decode b_Ey_init 40 = .ok (.iconst 3, 1) := by decide +kernel
theorem xd_Ey_init_41 : decode b_Ey_init 41 = .ok (.if_icmp .ge 38, 3) := by decide +kernel
theorem xd_Ey_init_44 : decode b_Ey_init 44 = .ok (.iconst 0, 1) := by decide +kernel
theorem xd_Ey_init_45 : decode b_Ey_init 45 = .ok (.istore_n 2, 1) := by decide +kernel
theorem xd_Ey_init_46 : decode b_Ey_init 46 = .ok (.iload_n 2, 1) := by decide +kernel
theorem xd_Ey_init_47 : decode b_Ey_init 47 = .ok (.iconst 3, 1) := by decide +kernel
theorem xd_Ey_init_48 : decode b_Ey_init 48 = .ok (.if_icmp .ge 25, 3) := by decide +kernel
theorem xd_Ey_init_51 : decode b_Ey_init 51 = .ok (.aload_n 0, 1) := by decide +kernel
theorem xd_Ey_init_52 : decode b_Ey_init 52 = .ok (.getfield 11, 3) := by decide +kernel
theorem xd_Ey_init_55 : decode b_Ey_init 55 = .ok (.iload_n 1, 1) := by decide +kernel
theorem xd_Ey_init_56 : decode b_Ey_init 56 = .ok (.bipush 9, 2) := by decide +kernel
theorem xd_Ey_init_58 : decode b_Ey_init 58 = .ok (.imul, 1) := by decide +kernel
theorem xd_Ey_init_59 : decode b_Ey_init 59 = .ok (.iload_n 2, 1) := by decide +kernel
theorem xd_Ey_init_60 : decode b_Ey_init 60 = .ok (.iconst 4, 1) := by decide +kernel
theorem xd_Ey_init_61 : decode b_Ey_init 61 = .ok (.imul, 1) := by decide +kernel
theorem xd_Ey_init_62 : decode b_Ey_init 62 = .ok (.iadd, 1) := by decide +kernel
theorem xd_Ey_init_63 : decode b_Ey_init 63 = .ok (.sipush 1000, 3) := by decide +kernel
theorem xd_Ey_init_66 : decode b_Ey_init 66 = .ok (.iastore, 1) := by decide +kernel
theorem xd_Ey_init_67 : decode b_Ey_init 67 = .ok (.iinc 2 1, 3) := by decide +kernel
theorem xd_Ey_init_70 : decode b_Ey_init 70 = .ok (.goto (-24), 3) := by decide +kernel
theorem xd_Ey_init_73 : decode b_Ey_init 73 = .ok (.iinc 1 1, 3) := by decide +kernel
theorem xd_Ey_init_76 : decode b_Ey_init 76 = .ok (.goto (-37), 3) := by decide +kernel
theorem xd_Ey_init_79 : decode b_Ey_init 79 = .ok (.return_, 1) := by decide +kernel
abbrev rm_Ey_init : Room := { frames := 1, cells := 1, slots := 27, locals := 40 }
def at_Ey (dC : Nat → ClassId) (dI : Nat → Nat → Nat) (A : Nat → Prop) (h0 : Nat) (_ : Unit) (t : State) : Prop := ∃ (q1 : Nat) (c2 : ClassId) , va_P (dC, dI) xcl [(h0, .inr (1, [.ref q1, .int (5 : Int32), .int (1 : Int32), .int (1 : Int32), .int (1 : Int32), .int (1 : Int32)])), (q1, .inl (c2, 27, .inl (upd (upd (upd (upd (upd (upd (upd (upd (upd (fun _ => 0) 0 (1000 : Int32)) 4 (1000 : Int32)) 8 (1000 : Int32)) 9 (1000 : Int32)) 13 (1000 : Int32)) 17 (1000 : Int32)) 18 (1000 : Int32)) 22 (1000 : Int32)) 26 (1000 : Int32))))] t.heap ∧ va_K (dC, dI) xcl [(c2, .int)] t ∧ va_D A [(h0, .inr (1, [.ref q1, .int (5 : Int32), .int (1 : Int32), .int (1 : Int32), .int (1 : Int32), .int (1 : Int32)])), (q1, .inl (c2, 27, .inl (upd (upd (upd (upd (upd (upd (upd (upd (upd (fun _ => 0) 0 (1000 : Int32)) 4 (1000 : Int32)) 8 (1000 : Int32)) 9 (1000 : Int32)) 13 (1000 : Int32)) 17 (1000 : Int32)) 18 (1000 : Int32)) 22 (1000 : Int32)) 26 (1000 : Int32))))]
set_option maxHeartbeats 8000000 in
set_option maxRecDepth 100000 in
theorem ci_Ey (l : Launch) (dC : Nat → ClassId) (dI : Nat → Nat → Nat) (h0 sz : Nat) : Met l y_Ey_init (Cond.code y_Ey_init b_Ey_init 3 none :: xTG) rm_Ey_init (va_Pc [.ref h0] (xI dC dI [(h0, .inr (1, [.null, .int 0, .int 0, .int 0, .int 0, .int 0]))] sz)) (va_Qv (fun _ : Unit => True) (at_Ey dC dI (va_A [(h0, .inr (1, [.null, .int 0, .int 0, .int 0, .int 0, .int 0]))] sz) h0) (va_A [(h0, .inr (1, [.null, .int 0, .int 0, .int 0, .int 0, .int 0]))] sz)) 1 27 (va_A [(h0, .inr (1, [.null, .int 0, .int 0, .int 0, .int 0, .int 0]))] sz) := by
  refine Met.ofW (cc := b_Ey_init) (maxL := 3) (ret := none) (by decide) rfl ?_
  intro p e s m args below meth c s₁ B hml hv
  obtain ⟨rfl, hsz, hP, hK, hNA, hD0⟩ := hv
  have hx := B.exec
  have hb := B.bytes
  have hr := B.returns
  have hts0 := atoms_spec (ws := Cond.code y_Ey_init b_Ey_init 3 none :: xTG) B.pre
  have hts : ∀ w ∈ xTG, w.before ([.ref h0] : List Value).toArray s = true := fun w hw => hts0 w (List.mem_cons_of_mem _ hw)
  have hown : s.vm.findClass R_Ey = some m.cls := findClass_of_methodNamed B.named
  have hlocks := B.notSynchronized
  have hin : meth.name = "<init>" := (name_of_methodNamed B.named B.method).1
  subst hsz
  have hD := hD0.self (sz := s.heap.size)
  generalize hAe : va_A [(h0, .inr (1, [.null, .int 0, .int 0, .int 0, .int 0, .int 0]))] s.heap.size = A at hD ⊢
  have hA : ∀ q : Nat, s.heap.size ≤ q → A q := fun q h => by rw [← hAe]; exact Or.inr h
  have hS : va_S A s.heap s.heap [] := va_S.rf
  have hl := lv_entry ([.ref h0]) (n := 3) (Nat.le_of_ble_eq_true rfl)
  rw [lg_entry_eq]
  generalize (lg_sl ([.ref h0]) ++ List.replicate (3 - (lg_sl ([.ref h0])).length) Slot.unset).toArray = ls at hl ⊢
  have hl : lv_has ls 3 [(0, .ref h0)] := hl
  refine lv_aload_n (pc := 0) hx hb xd_Ey_init_0 rfl (lv_at hl 0 rfl) ?_
  refine W.objInit hx hb hown (hts _ xob_Ey_3) (hts _ xob_i) (hts _ xob_c) rfl (by rw [hml]; exact hl.1) rfl xd_Ey_init_1 (Nat.le_of_ble_eq_true rfl) (Nat.le_of_ble_eq_true rfl) ?_
  refine W.eq (g2 := F0 m 4 ls []) rfl ?_
  refine lv_aload_n (pc := 4) hx hb xd_Ey_init_4 rfl (lv_at hl 0 rfl) ?_
  refine lv_bipush (pc := 5) (v := (27 : Int32)) hx hb xd_Ey_init_5 (by decide) ?_
  refine va_newa (pc := 7) (atype := .int) (a0 := (27, .inl (fun _ => 0))) (ty := .int) (N' := 27) hx hb (hts _ xac_int) rfl hK hP hD hS hA (fun _ => rfl) (by decide) (by decide) (by decide) (Nat.le_of_ble_eq_true rfl) (Nat.le_of_ble_eq_true rfl) xd_Ey_init_7 (fun q1 c2 H hK hP hD hS => ?_)
  have hP : va_P (dC, dI) xcl [(h0, .inr (1, [.null, .int 0, .int 0, .int 0, .int 0, .int 0])), (q1, .inl (c2, 27, .inl (fun _ => 0)))] H := hP
  have hD : va_D A [(h0, .inr (1, [.null, .int 0, .int 0, .int 0, .int 0, .int 0])), (q1, .inl (c2, 27, .inl (fun _ => 0)))] := hD
  have hK : va_K (dC, dI) xcl [(c2, .int)] s := hK
  refine W.widen (k := 1) (n := 27) (by omega) (by omega) ?_
  refine va_putF (pc := 9) (D := (dC, dI)) (ci := 1) (v := .ref q1) (ty := .array (.int)) (C := R_Ey) (T := T_Ey) (N := 6) hx hb hts xi_Ey ty_Ey tyok_Ey nm_Ey hown hK hP hD hS 0 rfl rfl 0 (by decide) (hts _ xl_Ey_11) (fun _ h9 => h9) rfl hin rfl (by decide +kernel) rfl rfl (Nat.le_of_ble_eq_true rfl) xd_Ey_init_9 (fun H locs hP hD hS => ?_)
  have hP : va_P (dC, dI) xcl [(h0, .inr (1, [.ref q1, .int 0, .int 0, .int 0, .int 0, .int 0])), (q1, .inl (c2, 27, .inl (fun _ => 0)))] H := hP
  have hD : va_D A [(h0, .inr (1, [.ref q1, .int 0, .int 0, .int 0, .int 0, .int 0])), (q1, .inl (c2, 27, .inl (fun _ => 0)))] := hD
  refine lv_aload_n (pc := 12) hx hb xd_Ey_init_12 rfl (lv_at hl 0 rfl) ?_
  refine lv_iconst (pc := 13) (v := (5 : Int32)) hx hb xd_Ey_init_13 (by decide) ?_
  refine va_put (pc := 14) (D := (dC, dI)) (ci := 1) (v := .int (5 : Int32)) (ty := .int) (C := R_Ey) (T := T_Ey) (N := 6) hx hb hts xi_Ey ty_Ey tyok_Ey nm_Ey hown hK hP hD hS 0 rfl rfl 1 (by decide) (hts _ xl_Ey_15) (fun _ h9 => h9) rfl (by decide +kernel) rfl rfl (Nat.le_of_ble_eq_true rfl) xd_Ey_init_14 (fun H locs hP hD hS => ?_)
  have hP : va_P (dC, dI) xcl [(h0, .inr (1, [.ref q1, .int (5 : Int32), .int 0, .int 0, .int 0, .int 0])), (q1, .inl (c2, 27, .inl (fun _ => 0)))] H := hP
  have hD : va_D A [(h0, .inr (1, [.ref q1, .int (5 : Int32), .int 0, .int 0, .int 0, .int 0])), (q1, .inl (c2, 27, .inl (fun _ => 0)))] := hD
  refine lv_aload_n (pc := 17) hx hb xd_Ey_init_17 rfl (lv_at hl 0 rfl) ?_
  refine lv_iconst (pc := 18) (v := (1 : Int32)) hx hb xd_Ey_init_18 (by decide) ?_
  refine va_put (pc := 19) (D := (dC, dI)) (ci := 1) (v := .int (1 : Int32)) (ty := .int) (C := R_Ey) (T := T_Ey) (N := 6) hx hb hts xi_Ey ty_Ey tyok_Ey nm_Ey hown hK hP hD hS 0 rfl rfl 2 (by decide) (hts _ xl_Ey_19) (fun _ h9 => h9) rfl (by decide +kernel) rfl rfl (Nat.le_of_ble_eq_true rfl) xd_Ey_init_19 (fun H locs hP hD hS => ?_)
  have hP : va_P (dC, dI) xcl [(h0, .inr (1, [.ref q1, .int (5 : Int32), .int (1 : Int32), .int 0, .int 0, .int 0])), (q1, .inl (c2, 27, .inl (fun _ => 0)))] H := hP
  have hD : va_D A [(h0, .inr (1, [.ref q1, .int (5 : Int32), .int (1 : Int32), .int 0, .int 0, .int 0])), (q1, .inl (c2, 27, .inl (fun _ => 0)))] := hD
  refine lv_aload_n (pc := 22) hx hb xd_Ey_init_22 rfl (lv_at hl 0 rfl) ?_
  refine lv_iconst (pc := 23) (v := (1 : Int32)) hx hb xd_Ey_init_23 (by decide) ?_
  refine va_put (pc := 24) (D := (dC, dI)) (ci := 1) (v := .int (1 : Int32)) (ty := .int) (C := R_Ey) (T := T_Ey) (N := 6) hx hb hts xi_Ey ty_Ey tyok_Ey nm_Ey hown hK hP hD hS 0 rfl rfl 3 (by decide) (hts _ xl_Ey_22) (fun _ h9 => h9) rfl (by decide +kernel) rfl rfl (Nat.le_of_ble_eq_true rfl) xd_Ey_init_24 (fun H locs hP hD hS => ?_)
  have hP : va_P (dC, dI) xcl [(h0, .inr (1, [.ref q1, .int (5 : Int32), .int (1 : Int32), .int (1 : Int32), .int 0, .int 0])), (q1, .inl (c2, 27, .inl (fun _ => 0)))] H := hP
  have hD : va_D A [(h0, .inr (1, [.ref q1, .int (5 : Int32), .int (1 : Int32), .int (1 : Int32), .int 0, .int 0])), (q1, .inl (c2, 27, .inl (fun _ => 0)))] := hD
  refine lv_aload_n (pc := 27) hx hb xd_Ey_init_27 rfl (lv_at hl 0 rfl) ?_
  refine lv_iconst (pc := 28) (v := (1 : Int32)) hx hb xd_Ey_init_28 (by decide) ?_
  refine va_put (pc := 29) (D := (dC, dI)) (ci := 1) (v := .int (1 : Int32)) (ty := .int) (C := R_Ey) (T := T_Ey) (N := 6) hx hb hts xi_Ey ty_Ey tyok_Ey nm_Ey hown hK hP hD hS 0 rfl rfl 4 (by decide) (hts _ xl_Ey_25) (fun _ h9 => h9) rfl (by decide +kernel) rfl rfl (Nat.le_of_ble_eq_true rfl) xd_Ey_init_29 (fun H locs hP hD hS => ?_)
  have hP : va_P (dC, dI) xcl [(h0, .inr (1, [.ref q1, .int (5 : Int32), .int (1 : Int32), .int (1 : Int32), .int (1 : Int32), .int 0])), (q1, .inl (c2, 27, .inl (fun _ => 0)))] H := hP
  have hD : va_D A [(h0, .inr (1, [.ref q1, .int (5 : Int32), .int (1 : Int32), .int (1 : Int32), .int (1 : Int32), .int 0])), (q1, .inl (c2, 27, .inl (fun _ => 0)))] := hD
  refine lv_aload_n (pc := 32) hx hb xd_Ey_init_32 rfl (lv_at hl 0 rfl) ?_
  refine lv_iconst (pc := 33) (v := (1 : Int32)) hx hb xd_Ey_init_33 (by decide) ?_
  refine va_put (pc := 34) (D := (dC, dI)) (ci := 1) (v := .int (1 : Int32)) (ty := .int) (C := R_Ey) (T := T_Ey) (N := 6) hx hb hts xi_Ey ty_Ey tyok_Ey nm_Ey hown hK hP hD hS 0 rfl rfl 5 (by decide) (hts _ xl_Ey_28) (fun _ h9 => h9) rfl (by decide +kernel) rfl rfl (Nat.le_of_ble_eq_true rfl) xd_Ey_init_34 (fun H locs hP hD hS => ?_)
  have hP : va_P (dC, dI) xcl [(h0, .inr (1, [.ref q1, .int (5 : Int32), .int (1 : Int32), .int (1 : Int32), .int (1 : Int32), .int (1 : Int32)])), (q1, .inl (c2, 27, .inl (fun _ => 0)))] H := hP
  have hD : va_D A [(h0, .inr (1, [.ref q1, .int (5 : Int32), .int (1 : Int32), .int (1 : Int32), .int (1 : Int32), .int (1 : Int32)])), (q1, .inl (c2, 27, .inl (fun _ => 0)))] := hD
  refine lv_iconst (pc := 37) (v := (0 : Int32)) hx hb xd_Ey_init_37 (by decide) ?_
  refine lv_istore_n (pc := 38) (lv' := [(1, .int (0 : Int32)), (0, .ref h0)]) hx hb xd_Ey_init_38 rfl hl (by decide) rfl (fun ls hl => ?_)
  refine lv_iload_n (pc := 39) hx hb xd_Ey_init_39 rfl (lv_at hl 0 rfl) ?_
  refine lv_iconst (pc := 40) (v := (3 : Int32)) hx hb xd_Ey_init_40 (by decide) ?_
  refine lv_icmp_ge (pc := 41) (tgt := 79) hx hb xd_Ey_init_41 (by decide) (fun hq => absurd hq (by decide)) (fun _ => ?_)
  refine lv_iconst (pc := 44) (v := (0 : Int32)) hx hb xd_Ey_init_44 (by decide) ?_
  refine lv_istore_n (pc := 45) (lv' := [(2, .int (0 : Int32)), (1, .int (0 : Int32)), (0, .ref h0)]) hx hb xd_Ey_init_45 rfl hl (by decide) rfl (fun ls hl => ?_)
  refine lv_iload_n (pc := 46) hx hb xd_Ey_init_46 rfl (lv_at hl 0 rfl) ?_
  refine lv_iconst (pc := 47) (v := (3 : Int32)) hx hb xd_Ey_init_47 (by decide) ?_
  refine lv_icmp_ge (pc := 48) (tgt := 73) hx hb xd_Ey_init_48 (by decide) (fun hq => absurd hq (by decide)) (fun _ => ?_)
  refine lv_aload_n (pc := 51) hx hb xd_Ey_init_51 rfl (lv_at hl 2 rfl) ?_
  refine va_get (pc := 52) (D := (dC, dI)) (ci := 1) (v := .ref q1) (C := R_Ey) (T := T_Ey) (N := 6) hx hb hts xi_Ey hown hK hP 0 rfl rfl 0 (by decide) (hts _ xl_Ey_11) (fun _ h9 => h9) rfl xd_Ey_init_52 ?_
  refine lv_iload_n (pc := 55) hx hb xd_Ey_init_55 rfl (lv_at hl 1 rfl) ?_
  refine lv_bipush (pc := 56) (v := (9 : Int32)) hx hb xd_Ey_init_56 (by decide) ?_
  refine lv_imul (pc := 58) hx hb xd_Ey_init_58 ?_
  rw [show ((0 : Int32) * (9 : Int32) : Int32) = (0 : Int32) by decide]
  refine lv_iload_n (pc := 59) hx hb xd_Ey_init_59 rfl (lv_at hl 0 rfl) ?_
  refine lv_iconst (pc := 60) (v := (4 : Int32)) hx hb xd_Ey_init_60 (by decide) ?_
  refine lv_imul (pc := 61) hx hb xd_Ey_init_61 ?_
  rw [show ((0 : Int32) * (4 : Int32) : Int32) = (0 : Int32) by decide]
  refine lv_iadd (pc := 62) hx hb xd_Ey_init_62 ?_
  rw [show ((0 : Int32) + (0 : Int32) : Int32) = (0 : Int32) by decide]
  refine lv_sipush (pc := 63) (v := (1000 : Int32)) hx hb xd_Ey_init_63 (by decide) ?_
  refine va_iast (pc := 66) (D := (dC, dI)) hx hb hK hP hD hS 1 0 rfl rfl (by unfold vp_in; decide) xd_Ey_init_66 (fun H locs hP hD hS => ?_)
  have hP : va_P (dC, dI) xcl [(h0, .inr (1, [.ref q1, .int (5 : Int32), .int (1 : Int32), .int (1 : Int32), .int (1 : Int32), .int (1 : Int32)])), (q1, .inl (c2, 27, .inl (upd (fun _ => 0) 0 (1000 : Int32))))] H := hP
  have hD : va_D A [(h0, .inr (1, [.ref q1, .int (5 : Int32), .int (1 : Int32), .int (1 : Int32), .int (1 : Int32), .int (1 : Int32)])), (q1, .inl (c2, 27, .inl (upd (fun _ => 0) 0 (1000 : Int32))))] := hD
  refine lv_iinc (pc := 67) (v := (1 : Int32)) (lv' := [(2, .int (1 : Int32)), (1, .int (0 : Int32)), (0, .ref h0)]) hx hb xd_Ey_init_67 hl (k := 0) rfl (by decide) (by decide) rfl (fun ls hl => ?_)
  refine lv_goto (pc := 70) (tgt := 46) hx hb xd_Ey_init_70 (by decide) ?_
  refine lv_iload_n (pc := 46) hx hb xd_Ey_init_46 rfl (lv_at hl 0 rfl) ?_
  refine lv_iconst (pc := 47) (v := (3 : Int32)) hx hb xd_Ey_init_47 (by decide) ?_
  refine lv_icmp_ge (pc := 48) (tgt := 73) hx hb xd_Ey_init_48 (by decide) (fun hq => absurd hq (by decide)) (fun _ => ?_)
  refine lv_aload_n (pc := 51) hx hb xd_Ey_init_51 rfl (lv_at hl 2 rfl) ?_
  refine va_get (pc := 52) (D := (dC, dI)) (ci := 1) (v := .ref q1) (C := R_Ey) (T := T_Ey) (N := 6) hx hb hts xi_Ey hown hK hP 0 rfl rfl 0 (by decide) (hts _ xl_Ey_11) (fun _ h9 => h9) rfl xd_Ey_init_52 ?_
  refine lv_iload_n (pc := 55) hx hb xd_Ey_init_55 rfl (lv_at hl 1 rfl) ?_
  refine lv_bipush (pc := 56) (v := (9 : Int32)) hx hb xd_Ey_init_56 (by decide) ?_
  refine lv_imul (pc := 58) hx hb xd_Ey_init_58 ?_
  rw [show ((0 : Int32) * (9 : Int32) : Int32) = (0 : Int32) by decide]
  refine lv_iload_n (pc := 59) hx hb xd_Ey_init_59 rfl (lv_at hl 0 rfl) ?_
  refine lv_iconst (pc := 60) (v := (4 : Int32)) hx hb xd_Ey_init_60 (by decide) ?_
  refine lv_imul (pc := 61) hx hb xd_Ey_init_61 ?_
  rw [show ((1 : Int32) * (4 : Int32) : Int32) = (4 : Int32) by decide]
  refine lv_iadd (pc := 62) hx hb xd_Ey_init_62 ?_
  rw [show ((0 : Int32) + (4 : Int32) : Int32) = (4 : Int32) by decide]
  refine lv_sipush (pc := 63) (v := (1000 : Int32)) hx hb xd_Ey_init_63 (by decide) ?_
  refine va_iast (pc := 66) (D := (dC, dI)) hx hb hK hP hD hS 1 0 rfl rfl (by unfold vp_in; decide) xd_Ey_init_66 (fun H locs hP hD hS => ?_)
  have hP : va_P (dC, dI) xcl [(h0, .inr (1, [.ref q1, .int (5 : Int32), .int (1 : Int32), .int (1 : Int32), .int (1 : Int32), .int (1 : Int32)])), (q1, .inl (c2, 27, .inl (upd (upd (fun _ => 0) 0 (1000 : Int32)) 4 (1000 : Int32))))] H := hP
  have hD : va_D A [(h0, .inr (1, [.ref q1, .int (5 : Int32), .int (1 : Int32), .int (1 : Int32), .int (1 : Int32), .int (1 : Int32)])), (q1, .inl (c2, 27, .inl (upd (upd (fun _ => 0) 0 (1000 : Int32)) 4 (1000 : Int32))))] := hD
  refine lv_iinc (pc := 67) (v := (2 : Int32)) (lv' := [(2, .int (2 : Int32)), (1, .int (0 : Int32)), (0, .ref h0)]) hx hb xd_Ey_init_67 hl (k := 0) rfl (by decide) (by decide) rfl (fun ls hl => ?_)
  refine lv_goto (pc := 70) (tgt := 46) hx hb xd_Ey_init_70 (by decide) ?_
  refine lv_iload_n (pc := 46) hx hb xd_Ey_init_46 rfl (lv_at hl 0 rfl) ?_
  refine lv_iconst (pc := 47) (v := (3 : Int32)) hx hb xd_Ey_init_47 (by decide) ?_
  refine lv_icmp_ge (pc := 48) (tgt := 73) hx hb xd_Ey_init_48 (by decide) (fun hq => absurd hq (by decide)) (fun _ => ?_)
  refine lv_aload_n (pc := 51) hx hb xd_Ey_init_51 rfl (lv_at hl 2 rfl) ?_
  refine va_get (pc := 52) (D := (dC, dI)) (ci := 1) (v := .ref q1) (C := R_Ey) (T := T_Ey) (N := 6) hx hb hts xi_Ey hown hK hP 0 rfl rfl 0 (by decide) (hts _ xl_Ey_11) (fun _ h9 => h9) rfl xd_Ey_init_52 ?_
  refine lv_iload_n (pc := 55) hx hb xd_Ey_init_55 rfl (lv_at hl 1 rfl) ?_
  refine lv_bipush (pc := 56) (v := (9 : Int32)) hx hb xd_Ey_init_56 (by decide) ?_
  refine lv_imul (pc := 58) hx hb xd_Ey_init_58 ?_
  rw [show ((0 : Int32) * (9 : Int32) : Int32) = (0 : Int32) by decide]
  refine lv_iload_n (pc := 59) hx hb xd_Ey_init_59 rfl (lv_at hl 0 rfl) ?_
  refine lv_iconst (pc := 60) (v := (4 : Int32)) hx hb xd_Ey_init_60 (by decide) ?_
  refine lv_imul (pc := 61) hx hb xd_Ey_init_61 ?_
  rw [show ((2 : Int32) * (4 : Int32) : Int32) = (8 : Int32) by decide]
  refine lv_iadd (pc := 62) hx hb xd_Ey_init_62 ?_
  rw [show ((0 : Int32) + (8 : Int32) : Int32) = (8 : Int32) by decide]
  refine lv_sipush (pc := 63) (v := (1000 : Int32)) hx hb xd_Ey_init_63 (by decide) ?_
  refine va_iast (pc := 66) (D := (dC, dI)) hx hb hK hP hD hS 1 0 rfl rfl (by unfold vp_in; decide) xd_Ey_init_66 (fun H locs hP hD hS => ?_)
  have hP : va_P (dC, dI) xcl [(h0, .inr (1, [.ref q1, .int (5 : Int32), .int (1 : Int32), .int (1 : Int32), .int (1 : Int32), .int (1 : Int32)])), (q1, .inl (c2, 27, .inl (upd (upd (upd (fun _ => 0) 0 (1000 : Int32)) 4 (1000 : Int32)) 8 (1000 : Int32))))] H := hP
  have hD : va_D A [(h0, .inr (1, [.ref q1, .int (5 : Int32), .int (1 : Int32), .int (1 : Int32), .int (1 : Int32), .int (1 : Int32)])), (q1, .inl (c2, 27, .inl (upd (upd (upd (fun _ => 0) 0 (1000 : Int32)) 4 (1000 : Int32)) 8 (1000 : Int32))))] := hD
  refine lv_iinc (pc := 67) (v := (3 : Int32)) (lv' := [(2, .int (3 : Int32)), (1, .int (0 : Int32)), (0, .ref h0)]) hx hb xd_Ey_init_67 hl (k := 0) rfl (by decide) (by decide) rfl (fun ls hl => ?_)
  refine lv_goto (pc := 70) (tgt := 46) hx hb xd_Ey_init_70 (by decide) ?_
  refine lv_iload_n (pc := 46) hx hb xd_Ey_init_46 rfl (lv_at hl 0 rfl) ?_
  refine lv_iconst (pc := 47) (v := (3 : Int32)) hx hb xd_Ey_init_47 (by decide) ?_
  refine lv_icmp_ge (pc := 48) (tgt := 73) hx hb xd_Ey_init_48 (by decide) (fun _ => ?_) (fun hq => absurd (by decide) hq)
  refine lv_iinc (pc := 73) (v := (1 : Int32)) (lv' := [(1, .int (1 : Int32)), (2, .int (3 : Int32)), (0, .ref h0)]) hx hb xd_Ey_init_73 hl (k := 1) rfl (by decide) (by decide) rfl (fun ls hl => ?_)
  refine lv_goto (pc := 76) (tgt := 39) hx hb xd_Ey_init_76 (by decide) ?_
  refine lv_iload_n (pc := 39) hx hb xd_Ey_init_39 rfl (lv_at hl 0 rfl) ?_
  refine lv_iconst (pc := 40) (v := (3 : Int32)) hx hb xd_Ey_init_40 (by decide) ?_
  refine lv_icmp_ge (pc := 41) (tgt := 79) hx hb xd_Ey_init_41 (by decide) (fun hq => absurd hq (by decide)) (fun _ => ?_)
  refine lv_iconst (pc := 44) (v := (0 : Int32)) hx hb xd_Ey_init_44 (by decide) ?_
  refine lv_istore_n (pc := 45) (lv' := [(2, .int (0 : Int32)), (1, .int (1 : Int32)), (0, .ref h0)]) hx hb xd_Ey_init_45 rfl hl (by decide) rfl (fun ls hl => ?_)
  refine lv_iload_n (pc := 46) hx hb xd_Ey_init_46 rfl (lv_at hl 0 rfl) ?_
  refine lv_iconst (pc := 47) (v := (3 : Int32)) hx hb xd_Ey_init_47 (by decide) ?_
  refine lv_icmp_ge (pc := 48) (tgt := 73) hx hb xd_Ey_init_48 (by decide) (fun hq => absurd hq (by decide)) (fun _ => ?_)
  refine lv_aload_n (pc := 51) hx hb xd_Ey_init_51 rfl (lv_at hl 2 rfl) ?_
  refine va_get (pc := 52) (D := (dC, dI)) (ci := 1) (v := .ref q1) (C := R_Ey) (T := T_Ey) (N := 6) hx hb hts xi_Ey hown hK hP 0 rfl rfl 0 (by decide) (hts _ xl_Ey_11) (fun _ h9 => h9) rfl xd_Ey_init_52 ?_
  refine lv_iload_n (pc := 55) hx hb xd_Ey_init_55 rfl (lv_at hl 1 rfl) ?_
  refine lv_bipush (pc := 56) (v := (9 : Int32)) hx hb xd_Ey_init_56 (by decide) ?_
  refine lv_imul (pc := 58) hx hb xd_Ey_init_58 ?_
  rw [show ((1 : Int32) * (9 : Int32) : Int32) = (9 : Int32) by decide]
  refine lv_iload_n (pc := 59) hx hb xd_Ey_init_59 rfl (lv_at hl 0 rfl) ?_
  refine lv_iconst (pc := 60) (v := (4 : Int32)) hx hb xd_Ey_init_60 (by decide) ?_
  refine lv_imul (pc := 61) hx hb xd_Ey_init_61 ?_
  rw [show ((0 : Int32) * (4 : Int32) : Int32) = (0 : Int32) by decide]
  refine lv_iadd (pc := 62) hx hb xd_Ey_init_62 ?_
  rw [show ((9 : Int32) + (0 : Int32) : Int32) = (9 : Int32) by decide]
  refine lv_sipush (pc := 63) (v := (1000 : Int32)) hx hb xd_Ey_init_63 (by decide) ?_
  refine va_iast (pc := 66) (D := (dC, dI)) hx hb hK hP hD hS 1 0 rfl rfl (by unfold vp_in; decide) xd_Ey_init_66 (fun H locs hP hD hS => ?_)
  have hP : va_P (dC, dI) xcl [(h0, .inr (1, [.ref q1, .int (5 : Int32), .int (1 : Int32), .int (1 : Int32), .int (1 : Int32), .int (1 : Int32)])), (q1, .inl (c2, 27, .inl (upd (upd (upd (upd (fun _ => 0) 0 (1000 : Int32)) 4 (1000 : Int32)) 8 (1000 : Int32)) 9 (1000 : Int32))))] H := hP
  have hD : va_D A [(h0, .inr (1, [.ref q1, .int (5 : Int32), .int (1 : Int32), .int (1 : Int32), .int (1 : Int32), .int (1 : Int32)])), (q1, .inl (c2, 27, .inl (upd (upd (upd (upd (fun _ => 0) 0 (1000 : Int32)) 4 (1000 : Int32)) 8 (1000 : Int32)) 9 (1000 : Int32))))] := hD
  refine lv_iinc (pc := 67) (v := (1 : Int32)) (lv' := [(2, .int (1 : Int32)), (1, .int (1 : Int32)), (0, .ref h0)]) hx hb xd_Ey_init_67 hl (k := 0) rfl (by decide) (by decide) rfl (fun ls hl => ?_)
  refine lv_goto (pc := 70) (tgt := 46) hx hb xd_Ey_init_70 (by decide) ?_
  refine lv_iload_n (pc := 46) hx hb xd_Ey_init_46 rfl (lv_at hl 0 rfl) ?_
  refine lv_iconst (pc := 47) (v := (3 : Int32)) hx hb xd_Ey_init_47 (by decide) ?_
  refine lv_icmp_ge (pc := 48) (tgt := 73) hx hb xd_Ey_init_48 (by decide) (fun hq => absurd hq (by decide)) (fun _ => ?_)
  refine lv_aload_n (pc := 51) hx hb xd_Ey_init_51 rfl (lv_at hl 2 rfl) ?_
  refine va_get (pc := 52) (D := (dC, dI)) (ci := 1) (v := .ref q1) (C := R_Ey) (T := T_Ey) (N := 6) hx hb hts xi_Ey hown hK hP 0 rfl rfl 0 (by decide) (hts _ xl_Ey_11) (fun _ h9 => h9) rfl xd_Ey_init_52 ?_
  refine lv_iload_n (pc := 55) hx hb xd_Ey_init_55 rfl (lv_at hl 1 rfl) ?_
  refine lv_bipush (pc := 56) (v := (9 : Int32)) hx hb xd_Ey_init_56 (by decide) ?_
  refine lv_imul (pc := 58) hx hb xd_Ey_init_58 ?_
  rw [show ((1 : Int32) * (9 : Int32) : Int32) = (9 : Int32) by decide]
  refine lv_iload_n (pc := 59) hx hb xd_Ey_init_59 rfl (lv_at hl 0 rfl) ?_
  refine lv_iconst (pc := 60) (v := (4 : Int32)) hx hb xd_Ey_init_60 (by decide) ?_
  refine lv_imul (pc := 61) hx hb xd_Ey_init_61 ?_
  rw [show ((1 : Int32) * (4 : Int32) : Int32) = (4 : Int32) by decide]
  refine lv_iadd (pc := 62) hx hb xd_Ey_init_62 ?_
  rw [show ((9 : Int32) + (4 : Int32) : Int32) = (13 : Int32) by decide]
  refine lv_sipush (pc := 63) (v := (1000 : Int32)) hx hb xd_Ey_init_63 (by decide) ?_
  refine va_iast (pc := 66) (D := (dC, dI)) hx hb hK hP hD hS 1 0 rfl rfl (by unfold vp_in; decide) xd_Ey_init_66 (fun H locs hP hD hS => ?_)
  have hP : va_P (dC, dI) xcl [(h0, .inr (1, [.ref q1, .int (5 : Int32), .int (1 : Int32), .int (1 : Int32), .int (1 : Int32), .int (1 : Int32)])), (q1, .inl (c2, 27, .inl (upd (upd (upd (upd (upd (fun _ => 0) 0 (1000 : Int32)) 4 (1000 : Int32)) 8 (1000 : Int32)) 9 (1000 : Int32)) 13 (1000 : Int32))))] H := hP
  have hD : va_D A [(h0, .inr (1, [.ref q1, .int (5 : Int32), .int (1 : Int32), .int (1 : Int32), .int (1 : Int32), .int (1 : Int32)])), (q1, .inl (c2, 27, .inl (upd (upd (upd (upd (upd (fun _ => 0) 0 (1000 : Int32)) 4 (1000 : Int32)) 8 (1000 : Int32)) 9 (1000 : Int32)) 13 (1000 : Int32))))] := hD
  refine lv_iinc (pc := 67) (v := (2 : Int32)) (lv' := [(2, .int (2 : Int32)), (1, .int (1 : Int32)), (0, .ref h0)]) hx hb xd_Ey_init_67 hl (k := 0) rfl (by decide) (by decide) rfl (fun ls hl => ?_)
  refine lv_goto (pc := 70) (tgt := 46) hx hb xd_Ey_init_70 (by decide) ?_
  refine lv_iload_n (pc := 46) hx hb xd_Ey_init_46 rfl (lv_at hl 0 rfl) ?_
  refine lv_iconst (pc := 47) (v := (3 : Int32)) hx hb xd_Ey_init_47 (by decide) ?_
  refine lv_icmp_ge (pc := 48) (tgt := 73) hx hb xd_Ey_init_48 (by decide) (fun hq => absurd hq (by decide)) (fun _ => ?_)
  refine lv_aload_n (pc := 51) hx hb xd_Ey_init_51 rfl (lv_at hl 2 rfl) ?_
  refine va_get (pc := 52) (D := (dC, dI)) (ci := 1) (v := .ref q1) (C := R_Ey) (T := T_Ey) (N := 6) hx hb hts xi_Ey hown hK hP 0 rfl rfl 0 (by decide) (hts _ xl_Ey_11) (fun _ h9 => h9) rfl xd_Ey_init_52 ?_
  refine lv_iload_n (pc := 55) hx hb xd_Ey_init_55 rfl (lv_at hl 1 rfl) ?_
  refine lv_bipush (pc := 56) (v := (9 : Int32)) hx hb xd_Ey_init_56 (by decide) ?_
  refine lv_imul (pc := 58) hx hb xd_Ey_init_58 ?_
  rw [show ((1 : Int32) * (9 : Int32) : Int32) = (9 : Int32) by decide]
  refine lv_iload_n (pc := 59) hx hb xd_Ey_init_59 rfl (lv_at hl 0 rfl) ?_
  refine lv_iconst (pc := 60) (v := (4 : Int32)) hx hb xd_Ey_init_60 (by decide) ?_
  refine lv_imul (pc := 61) hx hb xd_Ey_init_61 ?_
  rw [show ((2 : Int32) * (4 : Int32) : Int32) = (8 : Int32) by decide]
  refine lv_iadd (pc := 62) hx hb xd_Ey_init_62 ?_
  rw [show ((9 : Int32) + (8 : Int32) : Int32) = (17 : Int32) by decide]
  refine lv_sipush (pc := 63) (v := (1000 : Int32)) hx hb xd_Ey_init_63 (by decide) ?_
  refine va_iast (pc := 66) (D := (dC, dI)) hx hb hK hP hD hS 1 0 rfl rfl (by unfold vp_in; decide) xd_Ey_init_66 (fun H locs hP hD hS => ?_)
  have hP : va_P (dC, dI) xcl [(h0, .inr (1, [.ref q1, .int (5 : Int32), .int (1 : Int32), .int (1 : Int32), .int (1 : Int32), .int (1 : Int32)])), (q1, .inl (c2, 27, .inl (upd (upd (upd (upd (upd (upd (fun _ => 0) 0 (1000 : Int32)) 4 (1000 : Int32)) 8 (1000 : Int32)) 9 (1000 : Int32)) 13 (1000 : Int32)) 17 (1000 : Int32))))] H := hP
  have hD : va_D A [(h0, .inr (1, [.ref q1, .int (5 : Int32), .int (1 : Int32), .int (1 : Int32), .int (1 : Int32), .int (1 : Int32)])), (q1, .inl (c2, 27, .inl (upd (upd (upd (upd (upd (upd (fun _ => 0) 0 (1000 : Int32)) 4 (1000 : Int32)) 8 (1000 : Int32)) 9 (1000 : Int32)) 13 (1000 : Int32)) 17 (1000 : Int32))))] := hD
  refine lv_iinc (pc := 67) (v := (3 : Int32)) (lv' := [(2, .int (3 : Int32)), (1, .int (1 : Int32)), (0, .ref h0)]) hx hb xd_Ey_init_67 hl (k := 0) rfl (by decide) (by decide) rfl (fun ls hl => ?_)
  refine lv_goto (pc := 70) (tgt := 46) hx hb xd_Ey_init_70 (by decide) ?_
  refine lv_iload_n (pc := 46) hx hb xd_Ey_init_46 rfl (lv_at hl 0 rfl) ?_
  refine lv_iconst (pc := 47) (v := (3 : Int32)) hx hb xd_Ey_init_47 (by decide) ?_
  refine lv_icmp_ge (pc := 48) (tgt := 73) hx hb xd_Ey_init_48 (by decide) (fun _ => ?_) (fun hq => absurd (by decide) hq)
  refine lv_iinc (pc := 73) (v := (2 : Int32)) (lv' := [(1, .int (2 : Int32)), (2, .int (3 : Int32)), (0, .ref h0)]) hx hb xd_Ey_init_73 hl (k := 1) rfl (by decide) (by decide) rfl (fun ls hl => ?_)
  refine lv_goto (pc := 76) (tgt := 39) hx hb xd_Ey_init_76 (by decide) ?_
  refine lv_iload_n (pc := 39) hx hb xd_Ey_init_39 rfl (lv_at hl 0 rfl) ?_
  refine lv_iconst (pc := 40) (v := (3 : Int32)) hx hb xd_Ey_init_40 (by decide) ?_
  refine lv_icmp_ge (pc := 41) (tgt := 79) hx hb xd_Ey_init_41 (by decide) (fun hq => absurd hq (by decide)) (fun _ => ?_)
  refine lv_iconst (pc := 44) (v := (0 : Int32)) hx hb xd_Ey_init_44 (by decide) ?_
  refine lv_istore_n (pc := 45) (lv' := [(2, .int (0 : Int32)), (1, .int (2 : Int32)), (0, .ref h0)]) hx hb xd_Ey_init_45 rfl hl (by decide) rfl (fun ls hl => ?_)
  refine lv_iload_n (pc := 46) hx hb xd_Ey_init_46 rfl (lv_at hl 0 rfl) ?_
  refine lv_iconst (pc := 47) (v := (3 : Int32)) hx hb xd_Ey_init_47 (by decide) ?_
  refine lv_icmp_ge (pc := 48) (tgt := 73) hx hb xd_Ey_init_48 (by decide) (fun hq => absurd hq (by decide)) (fun _ => ?_)
  refine lv_aload_n (pc := 51) hx hb xd_Ey_init_51 rfl (lv_at hl 2 rfl) ?_
  refine va_get (pc := 52) (D := (dC, dI)) (ci := 1) (v := .ref q1) (C := R_Ey) (T := T_Ey) (N := 6) hx hb hts xi_Ey hown hK hP 0 rfl rfl 0 (by decide) (hts _ xl_Ey_11) (fun _ h9 => h9) rfl xd_Ey_init_52 ?_
  refine lv_iload_n (pc := 55) hx hb xd_Ey_init_55 rfl (lv_at hl 1 rfl) ?_
  refine lv_bipush (pc := 56) (v := (9 : Int32)) hx hb xd_Ey_init_56 (by decide) ?_
  refine lv_imul (pc := 58) hx hb xd_Ey_init_58 ?_
  rw [show ((2 : Int32) * (9 : Int32) : Int32) = (18 : Int32) by decide]
  refine lv_iload_n (pc := 59) hx hb xd_Ey_init_59 rfl (lv_at hl 0 rfl) ?_
  refine lv_iconst (pc := 60) (v := (4 : Int32)) hx hb xd_Ey_init_60 (by decide) ?_
  refine lv_imul (pc := 61) hx hb xd_Ey_init_61 ?_
  rw [show ((0 : Int32) * (4 : Int32) : Int32) = (0 : Int32) by decide]
  refine lv_iadd (pc := 62) hx hb xd_Ey_init_62 ?_
  rw [show ((18 : Int32) + (0 : Int32) : Int32) = (18 : Int32) by decide]
  refine lv_sipush (pc := 63) (v := (1000 : Int32)) hx hb xd_Ey_init_63 (by decide) ?_
  refine va_iast (pc := 66) (D := (dC, dI)) hx hb hK hP hD hS 1 0 rfl rfl (by unfold vp_in; decide) xd_Ey_init_66 (fun H locs hP hD hS => ?_)
  have hP : va_P (dC, dI) xcl [(h0, .inr (1, [.ref q1, .int (5 : Int32), .int (1 : Int32), .int (1 : Int32), .int (1 : Int32), .int (1 : Int32)])), (q1, .inl (c2, 27, .inl (upd (upd (upd (upd (upd (upd (upd (fun _ => 0) 0 (1000 : Int32)) 4 (1000 : Int32)) 8 (1000 : Int32)) 9 (1000 : Int32)) 13 (1000 : Int32)) 17 (1000 : Int32)) 18 (1000 : Int32))))] H := hP
  have hD : va_D A [(h0, .inr (1, [.ref q1, .int (5 : Int32), .int (1 : Int32), .int (1 : Int32), .int (1 : Int32), .int (1 : Int32)])), (q1, .inl (c2, 27, .inl (upd (upd (upd (upd (upd (upd (upd (fun _ => 0) 0 (1000 : Int32)) 4 (1000 : Int32)) 8 (1000 : Int32)) 9 (1000 : Int32)) 13 (1000 : Int32)) 17 (1000 : Int32)) 18 (1000 : Int32))))] := hD
  refine lv_iinc (pc := 67) (v := (1 : Int32)) (lv' := [(2, .int (1 : Int32)), (1, .int (2 : Int32)), (0, .ref h0)]) hx hb xd_Ey_init_67 hl (k := 0) rfl (by decide) (by decide) rfl (fun ls hl => ?_)
  refine lv_goto (pc := 70) (tgt := 46) hx hb xd_Ey_init_70 (by decide) ?_
  refine lv_iload_n (pc := 46) hx hb xd_Ey_init_46 rfl (lv_at hl 0 rfl) ?_
  refine lv_iconst (pc := 47) (v := (3 : Int32)) hx hb xd_Ey_init_47 (by decide) ?_
  refine lv_icmp_ge (pc := 48) (tgt := 73) hx hb xd_Ey_init_48 (by decide) (fun hq => absurd hq (by decide)) (fun _ => ?_)
  refine lv_aload_n (pc := 51) hx hb xd_Ey_init_51 rfl (lv_at hl 2 rfl) ?_
  refine va_get (pc := 52) (D := (dC, dI)) (ci := 1) (v := .ref q1) (C := R_Ey) (T := T_Ey) (N := 6) hx hb hts xi_Ey hown hK hP 0 rfl rfl 0 (by decide) (hts _ xl_Ey_11) (fun _ h9 => h9) rfl xd_Ey_init_52 ?_
  refine lv_iload_n (pc := 55) hx hb xd_Ey_init_55 rfl (lv_at hl 1 rfl) ?_
  refine lv_bipush (pc := 56) (v := (9 : Int32)) hx hb xd_Ey_init_56 (by decide) ?_
  refine lv_imul (pc := 58) hx hb xd_Ey_init_58 ?_
  rw [show ((2 : Int32) * (9 : Int32) : Int32) = (18 : Int32) by decide]
  refine lv_iload_n (pc := 59) hx hb xd_Ey_init_59 rfl (lv_at hl 0 rfl) ?_
  refine lv_iconst (pc := 60) (v := (4 : Int32)) hx hb xd_Ey_init_60 (by decide) ?_
  refine lv_imul (pc := 61) hx hb xd_Ey_init_61 ?_
  rw [show ((1 : Int32) * (4 : Int32) : Int32) = (4 : Int32) by decide]
  refine lv_iadd (pc := 62) hx hb xd_Ey_init_62 ?_
  rw [show ((18 : Int32) + (4 : Int32) : Int32) = (22 : Int32) by decide]
  refine lv_sipush (pc := 63) (v := (1000 : Int32)) hx hb xd_Ey_init_63 (by decide) ?_
  refine va_iast (pc := 66) (D := (dC, dI)) hx hb hK hP hD hS 1 0 rfl rfl (by unfold vp_in; decide) xd_Ey_init_66 (fun H locs hP hD hS => ?_)
  have hP : va_P (dC, dI) xcl [(h0, .inr (1, [.ref q1, .int (5 : Int32), .int (1 : Int32), .int (1 : Int32), .int (1 : Int32), .int (1 : Int32)])), (q1, .inl (c2, 27, .inl (upd (upd (upd (upd (upd (upd (upd (upd (fun _ => 0) 0 (1000 : Int32)) 4 (1000 : Int32)) 8 (1000 : Int32)) 9 (1000 : Int32)) 13 (1000 : Int32)) 17 (1000 : Int32)) 18 (1000 : Int32)) 22 (1000 : Int32))))] H := hP
  have hD : va_D A [(h0, .inr (1, [.ref q1, .int (5 : Int32), .int (1 : Int32), .int (1 : Int32), .int (1 : Int32), .int (1 : Int32)])), (q1, .inl (c2, 27, .inl (upd (upd (upd (upd (upd (upd (upd (upd (fun _ => 0) 0 (1000 : Int32)) 4 (1000 : Int32)) 8 (1000 : Int32)) 9 (1000 : Int32)) 13 (1000 : Int32)) 17 (1000 : Int32)) 18 (1000 : Int32)) 22 (1000 : Int32))))] := hD
  refine lv_iinc (pc := 67) (v := (2 : Int32)) (lv' := [(2, .int (2 : Int32)), (1, .int (2 : Int32)), (0, .ref h0)]) hx hb xd_Ey_init_67 hl (k := 0) rfl (by decide) (by decide) rfl (fun ls hl => ?_)
  refine lv_goto (pc := 70) (tgt := 46) hx hb xd_Ey_init_70 (by decide) ?_
  refine lv_iload_n (pc := 46) hx hb xd_Ey_init_46 rfl (lv_at hl 0 rfl) ?_
  refine lv_iconst (pc := 47) (v := (3 : Int32)) hx hb xd_Ey_init_47 (by decide) ?_
  refine lv_icmp_ge (pc := 48) (tgt := 73) hx hb xd_Ey_init_48 (by decide) (fun hq => absurd hq (by decide)) (fun _ => ?_)
  refine lv_aload_n (pc := 51) hx hb xd_Ey_init_51 rfl (lv_at hl 2 rfl) ?_
  refine va_get (pc := 52) (D := (dC, dI)) (ci := 1) (v := .ref q1) (C := R_Ey) (T := T_Ey) (N := 6) hx hb hts xi_Ey hown hK hP 0 rfl rfl 0 (by decide) (hts _ xl_Ey_11) (fun _ h9 => h9) rfl xd_Ey_init_52 ?_
  refine lv_iload_n (pc := 55) hx hb xd_Ey_init_55 rfl (lv_at hl 1 rfl) ?_
  refine lv_bipush (pc := 56) (v := (9 : Int32)) hx hb xd_Ey_init_56 (by decide) ?_
  refine lv_imul (pc := 58) hx hb xd_Ey_init_58 ?_
  rw [show ((2 : Int32) * (9 : Int32) : Int32) = (18 : Int32) by decide]
  refine lv_iload_n (pc := 59) hx hb xd_Ey_init_59 rfl (lv_at hl 0 rfl) ?_
  refine lv_iconst (pc := 60) (v := (4 : Int32)) hx hb xd_Ey_init_60 (by decide) ?_
  refine lv_imul (pc := 61) hx hb xd_Ey_init_61 ?_
  rw [show ((2 : Int32) * (4 : Int32) : Int32) = (8 : Int32) by decide]
  refine lv_iadd (pc := 62) hx hb xd_Ey_init_62 ?_
  rw [show ((18 : Int32) + (8 : Int32) : Int32) = (26 : Int32) by decide]
  refine lv_sipush (pc := 63) (v := (1000 : Int32)) hx hb xd_Ey_init_63 (by decide) ?_
  refine va_iast (pc := 66) (D := (dC, dI)) hx hb hK hP hD hS 1 0 rfl rfl (by unfold vp_in; decide) xd_Ey_init_66 (fun H locs hP hD hS => ?_)
  have hP : va_P (dC, dI) xcl [(h0, .inr (1, [.ref q1, .int (5 : Int32), .int (1 : Int32), .int (1 : Int32), .int (1 : Int32), .int (1 : Int32)])), (q1, .inl (c2, 27, .inl (upd (upd (upd (upd (upd (upd (upd (upd (upd (fun _ => 0) 0 (1000 : Int32)) 4 (1000 : Int32)) 8 (1000 : Int32)) 9 (1000 : Int32)) 13 (1000 : Int32)) 17 (1000 : Int32)) 18 (1000 : Int32)) 22 (1000 : Int32)) 26 (1000 : Int32))))] H := hP
  have hD : va_D A [(h0, .inr (1, [.ref q1, .int (5 : Int32), .int (1 : Int32), .int (1 : Int32), .int (1 : Int32), .int (1 : Int32)])), (q1, .inl (c2, 27, .inl (upd (upd (upd (upd (upd (upd (upd (upd (upd (fun _ => 0) 0 (1000 : Int32)) 4 (1000 : Int32)) 8 (1000 : Int32)) 9 (1000 : Int32)) 13 (1000 : Int32)) 17 (1000 : Int32)) 18 (1000 : Int32)) 22 (1000 : Int32)) 26 (1000 : Int32))))] := hD
  refine lv_iinc (pc := 67) (v := (3 : Int32)) (lv' := [(2, .int (3 : Int32)), (1, .int (2 : Int32)), (0, .ref h0)]) hx hb xd_Ey_init_67 hl (k := 0) rfl (by decide) (by decide) rfl (fun ls hl => ?_)
  refine lv_goto (pc := 70) (tgt := 46) hx hb xd_Ey_init_70 (by decide) ?_
  refine lv_iload_n (pc := 46) hx hb xd_Ey_init_46 rfl (lv_at hl 0 rfl) ?_
  refine lv_iconst (pc := 47) (v := (3 : Int32)) hx hb xd_Ey_init_47 (by decide) ?_
  refine lv_icmp_ge (pc := 48) (tgt := 73) hx hb xd_Ey_init_48 (by decide) (fun _ => ?_) (fun hq => absurd (by decide) hq)
  refine lv_iinc (pc := 73) (v := (3 : Int32)) (lv' := [(1, .int (3 : Int32)), (2, .int (3 : Int32)), (0, .ref h0)]) hx hb xd_Ey_init_73 hl (k := 1) rfl (by decide) (by decide) rfl (fun ls hl => ?_)
  refine lv_goto (pc := 76) (tgt := 39) hx hb xd_Ey_init_76 (by decide) ?_
  refine lv_iload_n (pc := 39) hx hb xd_Ey_init_39 rfl (lv_at hl 0 rfl) ?_
  refine lv_iconst (pc := 40) (v := (3 : Int32)) hx hb xd_Ey_init_40 (by decide) ?_
  refine lv_icmp_ge (pc := 41) (tgt := 79) hx hb xd_Ey_init_41 (by decide) (fun _ => ?_) (fun hq => absurd (by decide) hq)
  have hP9 := hP.sub (ws' := [(h0, .inr (1, [.ref q1, .int (5 : Int32), .int (1 : Int32), .int (1 : Int32), .int (1 : Int32), .int (1 : Int32)])), (q1, .inl (c2, 27, .inl (upd (upd (upd (upd (upd (upd (upd (upd (upd (fun _ => 0) 0 (1000 : Int32)) 4 (1000 : Int32)) 8 (1000 : Int32)) 9 (1000 : Int32)) 13 (1000 : Int32)) 17 (1000 : Int32)) 18 (1000 : Int32)) 22 (1000 : Int32)) 26 (1000 : Int32))))]) [0, 1] rfl
  have hD9 := hD.sub (ws' := [(h0, .inr (1, [.ref q1, .int (5 : Int32), .int (1 : Int32), .int (1 : Int32), .int (1 : Int32), .int (1 : Int32)])), (q1, .inl (c2, 27, .inl (upd (upd (upd (upd (upd (upd (upd (upd (upd (fun _ => 0) 0 (1000 : Int32)) 4 (1000 : Int32)) 8 (1000 : Int32)) 9 (1000 : Int32)) 13 (1000 : Int32)) 17 (1000 : Int32)) 18 (1000 : Int32)) 22 (1000 : Int32)) 26 (1000 : Int32))))]) [0, 1] (by decide) rfl
  refine W.widen (k := 1) (n := 27) (by omega) (by omega) ?_
  exact W.vret hx hb hr (fun t ht hW => ⟨⟨(), rfl, trivial, q1, c2, by rw [ht]; exact hP9, va_K.moved hW.alike hK, hD9⟩, hS.F ht⟩) hS.2.2 xd_Ey_init_79

/-! the constructor of ColoursApart$Grid -/
theorem xd_Gr_init_0 : decode b_Gr_init 0 = .ok (.aload_n 0, 1) := by decide +kernel
theorem xd_Gr_init_1 : decode b_Gr_init 1 = .ok (.invokespecial 1, 3) := by decide +kernel
theorem xd_Gr_init_4 : decode b_Gr_init 4 = .ok (.aload_n 0, 1) := by decide +kernel
theorem xd_Gr_init_5 : decode b_Gr_init 5 = .ok (.iconst 3, 1) := by decide +kernel
theorem xd_Gr_init_6 : decode b_Gr_init 6 = .ok (.putfield 7, 3) := by decide +kernel
theorem xd_Gr_init_9 : decode b_Gr_init 9 = .ok (.return_, 1) := by decide +kernel
abbrev rm_Gr_init : Room := { frames := 1, cells := 0, slots := 0, locals := 40 }
def at_Gr (dC : Nat → ClassId) (dI : Nat → Nat → Nat) (A : Nat → Prop) (h0 : Nat) (_ : Unit) (t : State) : Prop := va_P (dC, dI) xcl [(h0, .inr (2, [.int (3 : Int32)]))] t.heap ∧ va_K (dC, dI) xcl [] t ∧ va_D A [(h0, .inr (2, [.int (3 : Int32)]))]
set_option maxHeartbeats 8000000 in
set_option maxRecDepth 100000 in
theorem ci_Gr (l : Launch) (dC : Nat → ClassId) (dI : Nat → Nat → Nat) (h0 sz : Nat) : Met l y_Gr_init (Cond.code y_Gr_init b_Gr_init 1 none :: xTG) rm_Gr_init (va_Pc [.ref h0] (xI dC dI [(h0, .inr (2, [.int 0]))] sz)) (va_Qv (fun _ : Unit => True) (at_Gr dC dI (va_A [(h0, .inr (2, [.int 0]))] sz) h0) (va_A [(h0, .inr (2, [.int 0]))] sz)) 0 0 (va_A [(h0, .inr (2, [.int 0]))] sz) := by
  refine Met.ofW (cc := b_Gr_init) (maxL := 1) (ret := none) (by decide) rfl ?_
  intro p e s m args below meth c s₁ B hml hv
  obtain ⟨rfl, hsz, hP, hK, hNA, hD0⟩ := hv
  have hx := B.exec
  have hb := B.bytes
  have hr := B.returns
  have hts0 := atoms_spec (ws := Cond.code y_Gr_init b_Gr_init 1 none :: xTG) B.pre
  have hts : ∀ w ∈ xTG, w.before ([.ref h0] : List Value).toArray s = true := fun w hw => hts0 w (List.mem_cons_of_mem _ hw)
  have hown : s.vm.findClass R_Gr = some m.cls := findClass_of_methodNamed B.named
  have hlocks := B.notSynchronized
  have hin : meth.name = "<init>" := (name_of_methodNamed B.named B.method).1
  subst hsz
  have hD := hD0.self (sz := s.heap.size)
  generalize hAe : va_A [(h0, .inr (2, [.int 0]))] s.heap.size = A at hD ⊢
  have hA : ∀ q : Nat, s.heap.size ≤ q → A q := fun q h => by rw [← hAe]; exact Or.inr h
  have hS : va_S A s.heap s.heap [] := va_S.rf
  have hl := lv_entry ([.ref h0]) (n := 1) (Nat.le_of_ble_eq_true rfl)
  rw [lg_entry_eq]
  generalize (lg_sl ([.ref h0]) ++ List.replicate (1 - (lg_sl ([.ref h0])).length) Slot.unset).toArray = ls at hl ⊢
  have hl : lv_has ls 1 [(0, .ref h0)] := hl
  refine lv_aload_n (pc := 0) hx hb xd_Gr_init_0 rfl (lv_at hl 0 rfl) ?_
  refine W.objInit hx hb hown (hts _ xob_Gr_1) (hts _ xob_i) (hts _ xob_c) rfl (by rw [hml]; exact hl.1) rfl xd_Gr_init_1 (Nat.le_of_ble_eq_true rfl) (Nat.le_of_ble_eq_true rfl) ?_
  refine W.eq (g2 := F0 m 4 ls []) rfl ?_
  refine lv_aload_n (pc := 4) hx hb xd_Gr_init_4 rfl (lv_at hl 0 rfl) ?_
  refine lv_iconst (pc := 5) (v := (3 : Int32)) hx hb xd_Gr_init_5 (by decide) ?_
  refine va_put (pc := 6) (D := (dC, dI)) (ci := 2) (v := .int (3 : Int32)) (ty := .int) (C := R_Gr) (T := T_Gr) (N := 1) hx hb hts xi_Gr ty_Gr tyok_Gr nm_Gr hown hK hP hD hS 0 rfl rfl 0 (by decide) (hts _ xl_Gr_7) (fun _ h9 => h9) rfl (by decide +kernel) rfl rfl (Nat.le_of_ble_eq_true rfl) xd_Gr_init_6 (fun H locs hP hD hS => ?_)
  have hP : va_P (dC, dI) xcl [(h0, .inr (2, [.int (3 : Int32)]))] H := hP
  have hD : va_D A [(h0, .inr (2, [.int (3 : Int32)]))] := hD
  have hP9 := hP.sub (ws' := [(h0, .inr (2, [.int (3 : Int32)]))]) [0] rfl
  have hD9 := hD.sub (ws' := [(h0, .inr (2, [.int (3 : Int32)]))]) [0] (by decide) rfl
  refine W.widen (k := 0) (n := 0) (by omega) (by omega) ?_
  exact W.vret hx hb hr (fun t ht hW => ⟨⟨(), rfl, trivial, by rw [ht]; exact hP9, va_K.moved hW.alike hK, hD9⟩, hS.F ht⟩) hS.2.2 xd_Gr_init_9

/-! the constructor of ColoursApart$House -/
theorem xd_Ho_init_0 : decode b_Ho_init 0 = .ok (.aload_n 0, 1) := by decide +kernel
theorem xd_Ho_init_1 : decode b_Ho_init 1 = .ok (.invokespecial 3, 3) := by decide +kernel
theorem xd_Ho_init_4 : decode b_Ho_init 4 = .ok (.aload_n 0, 1) := by decide +kernel
theorem xd_Ho_init_5 : decode b_Ho_init 5 = .ok (.iconst 0, 1) := by decide +kernel
theorem xd_Ho_init_6 : decode b_Ho_init 6 = .ok (.putfield 9, 3) := by decide +kernel
theorem xd_Ho_init_9 : decode b_Ho_init 9 = .ok (.aload_n 0, 1) := by decide +kernel
theorem xd_Ho_init_10 : decode b_Ho_init 10 = .ok (.bipush 12, 2) := by decide +kernel
theorem xd_Ho_init_12 : decode b_Ho_init 12 = .ok (.newarray .int, 2) := by decide +kernel
theorem xd_Ho_init_14 : decode b_Ho_init 14 = .ok (.putfield 15, 3) := by decide +kernel
theorem xd_Ho_init_17 : decode b_Ho_init 17 = .ok (.aload_n 0, 1) := by decide +kernel
theorem xd_Ho_init_18 : decode b_Ho_init 18 = .ok (.bipush 12, 2) := by decide +kernel
theorem xd_Ho_init_20 : decode b_Ho_init 20 = .ok (.newarray .boolean, 2) := by decide +kernel
theorem xd_Ho_init_22 : decode b_Ho_init 22 = .ok (.putfield 19, 3) := by decide +kernel
theorem xd_Ho_init_25 : decode b_Ho_init 25 = .ok (.aload_n 0, 1) := by decide +kernel
theorem xd_Ho_init_26 : decode b_Ho_init 26 = .ok (.bipush 12, 2) := by decide +kernel
theorem xd_Ho_init_28 : decode b_Ho_init 28 = .ok (.newarray .int, 2) := by decide +kernel
theorem xd_Ho_init_30 : decode b_Ho_init 30 = .ok (.putfield 23, 3) := by decide +kernel
theorem xd_Ho_init_33 : decode b_Ho_init 33 = .ok (.aload_n 0, 1) := by decide +kernel
theorem xd_Ho_init_34 : decode b_Ho_init 34 = .ok (.bipush 8, 2) := by decide +kernel
theorem xd_Ho_init_36 : decode b_Ho_init 36 = .ok (.newarray .int, 2) := by decide +kernel
theorem xd_Ho_init_38 : decode b_Ho_init 38 = .ok (.putfield 26, 3) := by decide +kernel
theorem xd_Ho_init_41 : decode b_Ho_init 41 = .ok (.aload_n 0, 1) := by decide +kernel
theorem xd_Ho_init_42 : decode b_Ho_init 42 = .ok (.bipush 8, 2) := by decide +kernel
theorem xd_Ho_init_44 : decode b_Ho_init 44 = .ok (.newarray .int, 2) := by decide +kernel
theorem xd_Ho_init_46 : decode b_Ho_init 46 = .ok (.putfield 29, 3) := by decide +kernel
theorem xd_Ho_init_49 : decode b_Ho_init 49 = .ok (.aload_n 0, 1) := by decide +kernel
theorem xd_Ho_init_50 : decode b_Ho_init 50 = .ok (.iconst 0, 1) := by decide +kernel
theorem xd_Ho_init_51 : decode b_Ho_init 51 = .ok (.putfield 32, 3) := by decide +kernel
theorem xd_Ho_init_54 : decode b_Ho_init 54 = .ok (.aload_n 0, 1) := by decide +kernel
theorem xd_Ho_init_55 : decode b_Ho_init 55 = .ok (.bipush 20, 2) := by decide +kernel
theorem xd_Ho_init_57 : decode b_Ho_init 57 = .ok (.newarray .int, 2) := by decide +kernel
theorem xd_Ho_init_59 : decode b_Ho_init 59 = .ok (.putfield 35, 3) := by decide +kernel
theorem xd_Ho_init_62 : decode b_Ho_init 62 = .ok (.aload_n 0, 1) := by decide +kernel
theorem xd_Ho_init_63 : decode b_Ho_init 63 = .ok (.bipush 20, 2) := by decide +kernel
theorem xd_Ho_init_65 : decode b_Ho_init 65 = .ok (.newarray .int, 2) := by decide +kernel
theorem xd_Ho_init_67 : decode b_Ho_init 67 = .ok (.putfield 38, 3) := by decide +kernel
theorem xd_Ho_init_70 : decode b_Ho_init 70 = .ok (.aload_n 0, 1) := by decide +kernel
theorem xd_Ho_init_71 : decode b_Ho_init 71 = .ok (.bipush 20, 2) := by decide +kernel
theorem xd_Ho_init_73 : decode b_Ho_init 73 = .ok (.newarray .int, 2) := by decide +kernel
theorem xd_Ho_init_75 : decode b_Ho_init 75 = .ok (.putfield 41, 3) := by decide +kernel
theorem xd_Ho_init_78 : decode b_Ho_init 78 = .ok (.iconst 0, 1) := by decide +kernel
theorem xd_Ho_init_79 : decode b_Ho_init 79 = .ok (.istore_n 1, 1) := by decide +kernel
theorem xd_Ho_init_80 : decode b_Ho_init 80 = .ok (.iload_n 1, 1) := by decide +kernel
theorem xd_Ho_init_81 : decode b_Ho_init 81 = .ok (.bipush 8, 2) := by decide +kernel
theorem xd_Ho_init_83 : decode b_Ho_init 83 = .ok (.if_icmp .ge 17, 3) := by decide +kernel
theorem xd_Ho_init_86 : decode b_Ho_init 86 = .ok (.aload_n 0, 1) := by decide +kernel
theorem xd_Ho_init_87 : decode b_Ho_init 87 = .ok (.getfield 29, 3) := by decide +kernel
theorem xd_Ho_init_90 : decode b_Ho_init 90 = .ok (.iload_n 1, 1) := by decide +kernel
theorem xd_Ho_init_91 : decode b_Ho_init 91 = .ok (.ldc 46, 2) := by decide +kernel
theorem xd_Ho_init_93 : decode b_Ho_init 93 = .ok (.iastore, 1) := by decide +kernel
theorem xd_Ho_init_94 : decode b_Ho_init 94 = .ok (.iinc 1 1, 3) := by decide +kernel
theorem xd_Ho_init_97 : decode b_Ho_init 97 = .ok (.goto (-17), 3) := by decide +kernel
theorem xd_Ho_init_100 : decode b_Ho_init 100 = .ok (.return_, 1) := by decide +kernel
abbrev rm_Ho_init : Room := { frames := 1, cells := 8, slots := 112, locals := 40 }
def at_Ho (dC : Nat → ClassId) (dI : Nat → Nat → Nat) (A : Nat → Prop) (h0 : Nat) (_ : Unit) (t : State) : Prop := ∃ (q1 : Nat) (q3 : Nat) (q5 : Nat) (q7 : Nat) (q9 : Nat) (q11 : Nat) (q13 : Nat) (q15 : Nat) (c2 : ClassId) (c4 : ClassId) (c6 : ClassId) (c8 : ClassId) (c10 : ClassId) (c12 : ClassId) (c14 : ClassId) (c16 : ClassId) , va_P (dC, dI) xcl [(h0, .inr (4, [.int (0 : Int32), .ref q1, .ref q3, .ref q5, .ref q7, .ref q9, .int (0 : Int32), .ref q11, .ref q13, .ref q15])), (q1, .inl (c2, 12, .inl (fun _ => 0))), (q3, .inl (c4, 12, .inl (fun _ => 0))), (q5, .inl (c6, 12, .inl (fun _ => 0))), (q7, .inl (c8, 8, .inl (fun _ => 0))), (q9, .inl (c10, 8, .inl (upd (upd (upd (upd (upd (upd (upd (upd (fun _ => 0) 0 (16777215 : Int32)) 1 (16777215 : Int32)) 2 (16777215 : Int32)) 3 (16777215 : Int32)) 4 (16777215 : Int32)) 5 (16777215 : Int32)) 6 (16777215 : Int32)) 7 (16777215 : Int32)))), (q11, .inl (c12, 20, .inl (fun _ => 0))), (q13, .inl (c14, 20, .inl (fun _ => 0))), (q15, .inl (c16, 20, .inl (fun _ => 0)))] t.heap ∧ va_K (dC, dI) xcl [(c2, .int), (c4, .boolean), (c6, .int), (c8, .int), (c10, .int), (c12, .int), (c14, .int), (c16, .int)] t ∧ va_D A [(h0, .inr (4, [.int (0 : Int32), .ref q1, .ref q3, .ref q5, .ref q7, .ref q9, .int (0 : Int32), .ref q11, .ref q13, .ref q15])), (q1, .inl (c2, 12, .inl (fun _ => 0))), (q3, .inl (c4, 12, .inl (fun _ => 0))), (q5, .inl (c6, 12, .inl (fun _ => 0))), (q7, .inl (c8, 8, .inl (fun _ => 0))), (q9, .inl (c10, 8, .inl (upd (upd (upd (upd (upd (upd (upd (upd (fun _ => 0) 0 (16777215 : Int32)) 1 (16777215 : Int32)) 2 (16777215 : Int32)) 3 (16777215 : Int32)) 4 (16777215 : Int32)) 5 (16777215 : Int32)) 6 (16777215 : Int32)) 7 (16777215 : Int32)))), (q11, .inl (c12, 20, .inl (fun _ => 0))), (q13, .inl (c14, 20, .inl (fun _ => 0))), (q15, .inl (c16, 20, .inl (fun _ => 0)))]
set_option maxHeartbeats 8000000 in
set_option maxRecDepth 100000 in
theorem ci_Ho (l : Launch) (dC : Nat → ClassId) (dI : Nat → Nat → Nat) (h0 sz : Nat) : Met l y_Ho_init (Cond.code y_Ho_init b_Ho_init 2 none :: xTG) rm_Ho_init (va_Pc [.ref h0] (xI dC dI [(h0, .inr (4, [.int 0, .null, .null, .null, .null, .null, .int 0, .null, .null, .null]))] sz)) (va_Qv (fun _ : Unit => True) (at_Ho dC dI (va_A [(h0, .inr (4, [.int 0, .null, .null, .null, .null, .null, .int 0, .null, .null, .null]))] sz) h0) (va_A [(h0, .inr (4, [.int 0, .null, .null, .null, .null, .null, .int 0, .null, .null, .null]))] sz)) 8 112 (va_A [(h0, .inr (4, [.int 0, .null, .null, .null, .null, .null, .int 0, .null, .null, .null]))] sz) := by
  refine Met.ofW (cc := b_Ho_init) (maxL := 2) (ret := none) (by decide) rfl ?_
  intro p e s m args below meth c s₁ B hml hv
  obtain ⟨rfl, hsz, hP, hK, hNA, hD0⟩ := hv
  have hx := B.exec
  have hb := B.bytes
  have hr := B.returns
  have hts0 := atoms_spec (ws := Cond.code y_Ho_init b_Ho_init 2 none :: xTG) B.pre
  have hts : ∀ w ∈ xTG, w.before ([.ref h0] : List Value).toArray s = true := fun w hw => hts0 w (List.mem_cons_of_mem _ hw)
  have hown : s.vm.findClass R_Ho = some m.cls := findClass_of_methodNamed B.named
  have hlocks := B.notSynchronized
  have hin : meth.name = "<init>" := (name_of_methodNamed B.named B.method).1
  subst hsz
  have hD := hD0.self (sz := s.heap.size)
  generalize hAe : va_A [(h0, .inr (4, [.int 0, .null, .null, .null, .null, .null, .int 0, .null, .null, .null]))] s.heap.size = A at hD ⊢
  have hA : ∀ q : Nat, s.heap.size ≤ q → A q := fun q h => by rw [← hAe]; exact Or.inr h
  have hS : va_S A s.heap s.heap [] := va_S.rf
  have hl := lv_entry ([.ref h0]) (n := 2) (Nat.le_of_ble_eq_true rfl)
  rw [lg_entry_eq]
  generalize (lg_sl ([.ref h0]) ++ List.replicate (2 - (lg_sl ([.ref h0])).length) Slot.unset).toArray = ls at hl ⊢
  have hl : lv_has ls 2 [(0, .ref h0)] := hl
  refine lv_aload_n (pc := 0) hx hb xd_Ho_init_0 rfl (lv_at hl 0 rfl) ?_
  refine W.objInit hx hb hown (hts _ xob_Ho_3) (hts _ xob_i) (hts _ xob_c) rfl (by rw [hml]; exact hl.1) rfl xd_Ho_init_1 (Nat.le_of_ble_eq_true rfl) (Nat.le_of_ble_eq_true rfl) ?_
  refine W.eq (g2 := F0 m 4 ls []) rfl ?_
  refine lv_aload_n (pc := 4) hx hb xd_Ho_init_4 rfl (lv_at hl 0 rfl) ?_
  refine lv_iconst (pc := 5) (v := (0 : Int32)) hx hb xd_Ho_init_5 (by decide) ?_
  refine va_put (pc := 6) (D := (dC, dI)) (ci := 4) (v := .int (0 : Int32)) (ty := .int) (C := R_Ho) (T := T_Ho) (N := 10) hx hb hts xi_Ho ty_Ho tyok_Ho nm_Ho hown hK hP hD hS 0 rfl rfl 0 (by decide) (hts _ xl_Ho_9) (fun _ h9 => h9) rfl (by decide +kernel) rfl rfl (Nat.le_of_ble_eq_true rfl) xd_Ho_init_6 (fun H locs hP hD hS => ?_)
  have hP : va_P (dC, dI) xcl [(h0, .inr (4, [.int (0 : Int32), .null, .null, .null, .null, .null, .int 0, .null, .null, .null]))] H := hP
  have hD : va_D A [(h0, .inr (4, [.int (0 : Int32), .null, .null, .null, .null, .null, .int 0, .null, .null, .null]))] := hD
  refine lv_aload_n (pc := 9) hx hb xd_Ho_init_9 rfl (lv_at hl 0 rfl) ?_
  refine lv_bipush (pc := 10) (v := (12 : Int32)) hx hb xd_Ho_init_10 (by decide) ?_
  refine va_newa (pc := 12) (atype := .int) (a0 := (12, .inl (fun _ => 0))) (ty := .int) (N' := 12) hx hb (hts _ xac_int) rfl hK hP hD hS hA (fun _ => rfl) (by decide) (by decide) (by decide) (Nat.le_of_ble_eq_true rfl) (Nat.le_of_ble_eq_true rfl) xd_Ho_init_12 (fun q1 c2 H hK hP hD hS => ?_)
  have hP : va_P (dC, dI) xcl [(h0, .inr (4, [.int (0 : Int32), .null, .null, .null, .null, .null, .int 0, .null, .null, .null])), (q1, .inl (c2, 12, .inl (fun _ => 0)))] H := hP
  have hD : va_D A [(h0, .inr (4, [.int (0 : Int32), .null, .null, .null, .null, .null, .int 0, .null, .null, .null])), (q1, .inl (c2, 12, .inl (fun _ => 0)))] := hD
  have hK : va_K (dC, dI) xcl [(c2, .int)] s := hK
  refine W.widen (k := 1) (n := 12) (by omega) (by omega) ?_
  refine va_putF (pc := 14) (D := (dC, dI)) (ci := 4) (v := .ref q1) (ty := .array (.int)) (C := R_Ho) (T := T_Ho) (N := 10) hx hb hts xi_Ho ty_Ho tyok_Ho nm_Ho hown hK hP hD hS 0 rfl rfl 1 (by decide) (hts _ xl_Ho_15) (fun _ h9 => h9) rfl hin rfl (by decide +kernel) rfl rfl (Nat.le_of_ble_eq_true rfl) xd_Ho_init_14 (fun H locs hP hD hS => ?_)
  have hP : va_P (dC, dI) xcl [(h0, .inr (4, [.int (0 : Int32), .ref q1, .null, .null, .null, .null, .int 0, .null, .null, .null])), (q1, .inl (c2, 12, .inl (fun _ => 0)))] H := hP
  have hD : va_D A [(h0, .inr (4, [.int (0 : Int32), .ref q1, .null, .null, .null, .null, .int 0, .null, .null, .null])), (q1, .inl (c2, 12, .inl (fun _ => 0)))] := hD
  refine lv_aload_n (pc := 17) hx hb xd_Ho_init_17 rfl (lv_at hl 0 rfl) ?_
  refine lv_bipush (pc := 18) (v := (12 : Int32)) hx hb xd_Ho_init_18 (by decide) ?_
  refine va_newa (pc := 20) (atype := .boolean) (a0 := (12, .inl (fun _ => 0))) (ty := .boolean) (N' := 12) hx hb (hts _ xac_boolean) rfl hK hP hD hS hA (fun _ => rfl) (by decide) (by decide) (by decide) (Nat.le_of_ble_eq_true rfl) (Nat.le_of_ble_eq_true rfl) xd_Ho_init_20 (fun q3 c4 H hK hP hD hS => ?_)
  have hP : va_P (dC, dI) xcl [(h0, .inr (4, [.int (0 : Int32), .ref q1, .null, .null, .null, .null, .int 0, .null, .null, .null])), (q1, .inl (c2, 12, .inl (fun _ => 0))), (q3, .inl (c4, 12, .inl (fun _ => 0)))] H := hP
  have hD : va_D A [(h0, .inr (4, [.int (0 : Int32), .ref q1, .null, .null, .null, .null, .int 0, .null, .null, .null])), (q1, .inl (c2, 12, .inl (fun _ => 0))), (q3, .inl (c4, 12, .inl (fun _ => 0)))] := hD
  have hK : va_K (dC, dI) xcl [(c2, .int), (c4, .boolean)] s := hK
  refine W.widen (k := 2) (n := 24) (by omega) (by omega) ?_
  refine va_putF (pc := 22) (D := (dC, dI)) (ci := 4) (v := .ref q3) (ty := .array (.boolean)) (C := R_Ho) (T := T_Ho) (N := 10) hx hb hts xi_Ho ty_Ho tyok_Ho nm_Ho hown hK hP hD hS 0 rfl rfl 2 (by decide) (hts _ xl_Ho_19) (fun _ h9 => h9) rfl hin rfl (by decide +kernel) rfl rfl (Nat.le_of_ble_eq_true rfl) xd_Ho_init_22 (fun H locs hP hD hS => ?_)
  have hP : va_P (dC, dI) xcl [(h0, .inr (4, [.int (0 : Int32), .ref q1, .ref q3, .null, .null, .null, .int 0, .null, .null, .null])), (q1, .inl (c2, 12, .inl (fun _ => 0))), (q3, .inl (c4, 12, .inl (fun _ => 0)))] H := hP
  have hD : va_D A [(h0, .inr (4, [.int (0 : Int32), .ref q1, .ref q3, .null, .null, .null, .int 0, .null, .null, .null])), (q1, .inl (c2, 12, .inl (fun _ => 0))), (q3, .inl (c4, 12, .inl (fun _ => 0)))] := hD
  refine lv_aload_n (pc := 25) hx hb xd_Ho_init_25 rfl (lv_at hl 0 rfl) ?_
  refine lv_bipush (pc := 26) (v := (12 : Int32)) hx hb xd_Ho_init_26 (by decide) ?_
  refine va_newa (pc := 28) (atype := .int) (a0 := (12, .inl (fun _ => 0))) (ty := .int) (N' := 12) hx hb (hts _ xac_int) rfl hK hP hD hS hA (fun _ => rfl) (by decide) (by decide) (by decide) (Nat.le_of_ble_eq_true rfl) (Nat.le_of_ble_eq_true rfl) xd_Ho_init_28 (fun q5 c6 H hK hP hD hS => ?_)
  have hP : va_P (dC, dI) xcl [(h0, .inr (4, [.int (0 : Int32), .ref q1, .ref q3, .null, .null, .null, .int 0, .null, .null, .null])), (q1, .inl (c2, 12, .inl (fun _ => 0))), (q3, .inl (c4, 12, .inl (fun _ => 0))), (q5, .inl (c6, 12, .inl (fun _ => 0)))] H := hP
  have hD : va_D A [(h0, .inr (4, [.int (0 : Int32), .ref q1, .ref q3, .null, .null, .null, .int 0, .null, .null, .null])), (q1, .inl (c2, 12, .inl (fun _ => 0))), (q3, .inl (c4, 12, .inl (fun _ => 0))), (q5, .inl (c6, 12, .inl (fun _ => 0)))] := hD
  have hK : va_K (dC, dI) xcl [(c2, .int), (c4, .boolean), (c6, .int)] s := hK
  refine W.widen (k := 3) (n := 36) (by omega) (by omega) ?_
  refine va_putF (pc := 30) (D := (dC, dI)) (ci := 4) (v := .ref q5) (ty := .array (.int)) (C := R_Ho) (T := T_Ho) (N := 10) hx hb hts xi_Ho ty_Ho tyok_Ho nm_Ho hown hK hP hD hS 0 rfl rfl 3 (by decide) (hts _ xl_Ho_23) (fun _ h9 => h9) rfl hin rfl (by decide +kernel) rfl rfl (Nat.le_of_ble_eq_true rfl) xd_Ho_init_30 (fun H locs hP hD hS => ?_)
  have hP : va_P (dC, dI) xcl [(h0, .inr (4, [.int (0 : Int32), .ref q1, .ref q3, .ref q5, .null, .null, .int 0, .null, .null, .null])), (q1, .inl (c2, 12, .inl (fun _ => 0))), (q3, .inl (c4, 12, .inl (fun _ => 0))), (q5, .inl (c6, 12, .inl (fun _ => 0)))] H := hP
  have hD : va_D A [(h0, .inr (4, [.int (0 : Int32), .ref q1, .ref q3, .ref q5, .null, .null, .int 0, .null, .null, .null])), (q1, .inl (c2, 12, .inl (fun _ => 0))), (q3, .inl (c4, 12, .inl (fun _ => 0))), (q5, .inl (c6, 12, .inl (fun _ => 0)))] := hD
  refine lv_aload_n (pc := 33) hx hb xd_Ho_init_33 rfl (lv_at hl 0 rfl) ?_
  refine lv_bipush (pc := 34) (v := (8 : Int32)) hx hb xd_Ho_init_34 (by decide) ?_
  refine va_newa (pc := 36) (atype := .int) (a0 := (8, .inl (fun _ => 0))) (ty := .int) (N' := 8) hx hb (hts _ xac_int) rfl hK hP hD hS hA (fun _ => rfl) (by decide) (by decide) (by decide) (Nat.le_of_ble_eq_true rfl) (Nat.le_of_ble_eq_true rfl) xd_Ho_init_36 (fun q7 c8 H hK hP hD hS => ?_)
  have hP : va_P (dC, dI) xcl [(h0, .inr (4, [.int (0 : Int32), .ref q1, .ref q3, .ref q5, .null, .null, .int 0, .null, .null, .null])), (q1, .inl (c2, 12, .inl (fun _ => 0))), (q3, .inl (c4, 12, .inl (fun _ => 0))), (q5, .inl (c6, 12, .inl (fun _ => 0))), (q7, .inl (c8, 8, .inl (fun _ => 0)))] H := hP
  have hD : va_D A [(h0, .inr (4, [.int (0 : Int32), .ref q1, .ref q3, .ref q5, .null, .null, .int 0, .null, .null, .null])), (q1, .inl (c2, 12, .inl (fun _ => 0))), (q3, .inl (c4, 12, .inl (fun _ => 0))), (q5, .inl (c6, 12, .inl (fun _ => 0))), (q7, .inl (c8, 8, .inl (fun _ => 0)))] := hD
  have hK : va_K (dC, dI) xcl [(c2, .int), (c4, .boolean), (c6, .int), (c8, .int)] s := hK
  refine W.widen (k := 4) (n := 44) (by omega) (by omega) ?_
  refine va_putF (pc := 38) (D := (dC, dI)) (ci := 4) (v := .ref q7) (ty := .array (.int)) (C := R_Ho) (T := T_Ho) (N := 10) hx hb hts xi_Ho ty_Ho tyok_Ho nm_Ho hown hK hP hD hS 0 rfl rfl 4 (by decide) (hts _ xl_Ho_26) (fun _ h9 => h9) rfl hin rfl (by decide +kernel) rfl rfl (Nat.le_of_ble_eq_true rfl) xd_Ho_init_38 (fun H locs hP hD hS => ?_)
  have hP : va_P (dC, dI) xcl [(h0, .inr (4, [.int (0 : Int32), .ref q1, .ref q3, .ref q5, .ref q7, .null, .int 0, .null, .null, .null])), (q1, .inl (c2, 12, .inl (fun _ => 0))), (q3, .inl (c4, 12, .inl (fun _ => 0))), (q5, .inl (c6, 12, .inl (fun _ => 0))), (q7, .inl (c8, 8, .inl (fun _ => 0)))] H := hP
  have hD : va_D A [(h0, .inr (4, [.int (0 : Int32), .ref q1, .ref q3, .ref q5, .ref q7, .null, .int 0, .null, .null, .null])), (q1, .inl (c2, 12, .inl (fun _ => 0))), (q3, .inl (c4, 12, .inl (fun _ => 0))), (q5, .inl (c6, 12, .inl (fun _ => 0))), (q7, .inl (c8, 8, .inl (fun _ => 0)))] := hD
  refine lv_aload_n (pc := 41) hx hb xd_Ho_init_41 rfl (lv_at hl 0 rfl) ?_
  refine lv_bipush (pc := 42) (v := (8 : Int32)) hx hb xd_Ho_init_42 (by decide) ?_
  refine va_newa (pc := 44) (atype := .int) (a0 := (8, .inl (fun _ => 0))) (ty := .int) (N' := 8) hx hb (hts _ xac_int) rfl hK hP hD hS hA (fun _ => rfl) (by decide) (by decide) (by decide) (Nat.le_of_ble_eq_true rfl) (Nat.le_of_ble_eq_true rfl) xd_Ho_init_44 (fun q9 c10 H hK hP hD hS => ?_)
  have hP : va_P (dC, dI) xcl [(h0, .inr (4, [.int (0 : Int32), .ref q1, .ref q3, .ref q5, .ref q7, .null, .int 0, .null, .null, .null])), (q1, .inl (c2, 12, .inl (fun _ => 0))), (q3, .inl (c4, 12, .inl (fun _ => 0))), (q5, .inl (c6, 12, .inl (fun _ => 0))), (q7, .inl (c8, 8, .inl (fun _ => 0))), (q9, .inl (c10, 8, .inl (fun _ => 0)))] H := hP
  have hD : va_D A [(h0, .inr (4, [.int (0 : Int32), .ref q1, .ref q3, .ref q5, .ref q7, .null, .int 0, .null, .null, .null])), (q1, .inl (c2, 12, .inl (fun _ => 0))), (q3, .inl (c4, 12, .inl (fun _ => 0))), (q5, .inl (c6, 12, .inl (fun _ => 0))), (q7, .inl (c8, 8, .inl (fun _ => 0))), (q9, .inl (c10, 8, .inl (fun _ => 0)))] := hD
  have hK : va_K (dC, dI) xcl [(c2, .int), (c4, .boolean), (c6, .int), (c8, .int), (c10, .int)] s := hK
  refine W.widen (k := 5) (n := 52) (by omega) (by omega) ?_
  refine va_putF (pc := 46) (D := (dC, dI)) (ci := 4) (v := .ref q9) (ty := .array (.int)) (C := R_Ho) (T := T_Ho) (N := 10) hx hb hts xi_Ho ty_Ho tyok_Ho nm_Ho hown hK hP hD hS 0 rfl rfl 5 (by decide) (hts _ xl_Ho_29) (fun _ h9 => h9) rfl hin rfl (by decide +kernel) rfl rfl (Nat.le_of_ble_eq_true rfl) xd_Ho_init_46 (fun H locs hP hD hS => ?_)
  have hP : va_P (dC, dI) xcl [(h0, .inr (4, [.int (0 : Int32), .ref q1, .ref q3, .ref q5, .ref q7, .ref q9, .int 0, .null, .null, .null])), (q1, .inl (c2, 12, .inl (fun _ => 0))), (q3, .inl (c4, 12, .inl (fun _ => 0))), (q5, .inl (c6, 12, .inl (fun _ => 0))), (q7, .inl (c8, 8, .inl (fun _ => 0))), (q9, .inl (c10, 8, .inl (fun _ => 0)))] H := hP
  have hD : va_D A [(h0, .inr (4, [.int (0 : Int32), .ref q1, .ref q3, .ref q5, .ref q7, .ref q9, .int 0, .null, .null, .null])), (q1, .inl (c2, 12, .inl (fun _ => 0))), (q3, .inl (c4, 12, .inl (fun _ => 0))), (q5, .inl (c6, 12, .inl (fun _ => 0))), (q7, .inl (c8, 8, .inl (fun _ => 0))), (q9, .inl (c10, 8, .inl (fun _ => 0)))] := hD
  refine lv_aload_n (pc := 49) hx hb xd_Ho_init_49 rfl (lv_at hl 0 rfl) ?_
  refine lv_iconst (pc := 50) (v := (0 : Int32)) hx hb xd_Ho_init_50 (by decide) ?_
  refine va_put (pc := 51) (D := (dC, dI)) (ci := 4) (v := .int (0 : Int32)) (ty := .int) (C := R_Ho) (T := T_Ho) (N := 10) hx hb hts xi_Ho ty_Ho tyok_Ho nm_Ho hown hK hP hD hS 0 rfl rfl 6 (by decide) (hts _ xl_Ho_32) (fun _ h9 => h9) rfl (by decide +kernel) rfl rfl (Nat.le_of_ble_eq_true rfl) xd_Ho_init_51 (fun H locs hP hD hS => ?_)
  have hP : va_P (dC, dI) xcl [(h0, .inr (4, [.int (0 : Int32), .ref q1, .ref q3, .ref q5, .ref q7, .ref q9, .int (0 : Int32), .null, .null, .null])), (q1, .inl (c2, 12, .inl (fun _ => 0))), (q3, .inl (c4, 12, .inl (fun _ => 0))), (q5, .inl (c6, 12, .inl (fun _ => 0))), (q7, .inl (c8, 8, .inl (fun _ => 0))), (q9, .inl (c10, 8, .inl (fun _ => 0)))] H := hP
  have hD : va_D A [(h0, .inr (4, [.int (0 : Int32), .ref q1, .ref q3, .ref q5, .ref q7, .ref q9, .int (0 : Int32), .null, .null, .null])), (q1, .inl (c2, 12, .inl (fun _ => 0))), (q3, .inl (c4, 12, .inl (fun _ => 0))), (q5, .inl (c6, 12, .inl (fun _ => 0))), (q7, .inl (c8, 8, .inl (fun _ => 0))), (q9, .inl (c10, 8, .inl (fun _ => 0)))] := hD
  refine lv_aload_n (pc := 54) hx hb xd_Ho_init_54 rfl (lv_at hl 0 rfl) ?_
  refine lv_bipush (pc := 55) (v := (20 : Int32)) hx hb xd_Ho_init_55 (by decide) ?_
  refine va_newa (pc := 57) (atype := .int) (a0 := (20, .inl (fun _ => 0))) (ty := .int) (N' := 20) hx hb (hts _ xac_int) rfl hK hP hD hS hA (fun _ => rfl) (by decide) (by decide) (by decide) (Nat.le_of_ble_eq_true rfl) (Nat.le_of_ble_eq_true rfl) xd_Ho_init_57 (fun q11 c12 H hK hP hD hS => ?_)
  have hP : va_P (dC, dI) xcl [(h0, .inr (4, [.int (0 : Int32), .ref q1, .ref q3, .ref q5, .ref q7, .ref q9, .int (0 : Int32), .null, .null, .null])), (q1, .inl (c2, 12, .inl (fun _ => 0))), (q3, .inl (c4, 12, .inl (fun _ => 0))), (q5, .inl (c6, 12, .inl (fun _ => 0))), (q7, .inl (c8, 8, .inl (fun _ => 0))), (q9, .inl (c10, 8, .inl (fun _ => 0))), (q11, .inl (c12, 20, .inl (fun _ => 0)))] H := hP
  have hD : va_D A [(h0, .inr (4, [.int (0 : Int32), .ref q1, .ref q3, .ref q5, .ref q7, .ref q9, .int (0 : Int32), .null, .null, .null])), (q1, .inl (c2, 12, .inl (fun _ => 0))), (q3, .inl (c4, 12, .inl (fun _ => 0))), (q5, .inl (c6, 12, .inl (fun _ => 0))), (q7, .inl (c8, 8, .inl (fun _ => 0))), (q9, .inl (c10, 8, .inl (fun _ => 0))), (q11, .inl (c12, 20, .inl (fun _ => 0)))] := hD
  have hK : va_K (dC, dI) xcl [(c2, .int), (c4, .boolean), (c6, .int), (c8, .int), (c10, .int), (c12, .int)] s := hK
  refine W.widen (k := 6) (n := 72) (by omega) (by omega) ?_
  refine va_putF (pc := 59) (D := (dC, dI)) (ci := 4) (v := .ref q11) (ty := .array (.int)) (C := R_Ho) (T := T_Ho) (N := 10) hx hb hts xi_Ho ty_Ho tyok_Ho nm_Ho hown hK hP hD hS 0 rfl rfl 7 (by decide) (hts _ xl_Ho_35) (fun _ h9 => h9) rfl hin rfl (by decide +kernel) rfl rfl (Nat.le_of_ble_eq_true rfl) xd_Ho_init_59 (fun H locs hP hD hS => ?_)
  have hP : va_P (dC, dI) xcl [(h0, .inr (4, [.int (0 : Int32), .ref q1, .ref q3, .ref q5, .ref q7, .ref q9, .int (0 : Int32), .ref q11, .null, .null])), (q1, .inl (c2, 12, .inl (fun _ => 0))), (q3, .inl (c4, 12, .inl (fun _ => 0))), (q5, .inl (c6, 12, .inl (fun _ => 0))), (q7, .inl (c8, 8, .inl (fun _ => 0))), (q9, .inl (c10, 8, .inl (fun _ => 0))), (q11, .inl (c12, 20, .inl (fun _ => 0)))] H := hP
  have hD : va_D A [(h0, .inr (4, [.int (0 : Int32), .ref q1, .ref q3, .ref q5, .ref q7, .ref q9, .int (0 : Int32), .ref q11, .null, .null])), (q1, .inl (c2, 12, .inl (fun _ => 0))), (q3, .inl (c4, 12, .inl (fun _ => 0))), (q5, .inl (c6, 12, .inl (fun _ => 0))), (q7, .inl (c8, 8, .inl (fun _ => 0))), (q9, .inl (c10, 8, .inl (fun _ => 0))), (q11, .inl (c12, 20, .inl (fun _ => 0)))] := hD
  refine lv_aload_n (pc := 62) hx hb xd_Ho_init_62 rfl (lv_at hl 0 rfl) ?_
  refine lv_bipush (pc := 63) (v := (20 : Int32)) hx hb xd_Ho_init_63 (by decide) ?_
  refine va_newa (pc := 65) (atype := .int) (a0 := (20, .inl (fun _ => 0))) (ty := .int) (N' := 20) hx hb (hts _ xac_int) rfl hK hP hD hS hA (fun _ => rfl) (by decide) (by decide) (by decide) (Nat.le_of_ble_eq_true rfl) (Nat.le_of_ble_eq_true rfl) xd_Ho_init_65 (fun q13 c14 H hK hP hD hS => ?_)
  have hP : va_P (dC, dI) xcl [(h0, .inr (4, [.int (0 : Int32), .ref q1, .ref q3, .ref q5, .ref q7, .ref q9, .int (0 : Int32), .ref q11, .null, .null])), (q1, .inl (c2, 12, .inl (fun _ => 0))), (q3, .inl (c4, 12, .inl (fun _ => 0))), (q5, .inl (c6, 12, .inl (fun _ => 0))), (q7, .inl (c8, 8, .inl (fun _ => 0))), (q9, .inl (c10, 8, .inl (fun _ => 0))), (q11, .inl (c12, 20, .inl (fun _ => 0))), (q13, .inl (c14, 20, .inl (fun _ => 0)))] H := hP
  have hD : va_D A [(h0, .inr (4, [.int (0 : Int32), .ref q1, .ref q3, .ref q5, .ref q7, .ref q9, .int (0 : Int32), .ref q11, .null, .null])), (q1, .inl (c2, 12, .inl (fun _ => 0))), (q3, .inl (c4, 12, .inl (fun _ => 0))), (q5, .inl (c6, 12, .inl (fun _ => 0))), (q7, .inl (c8, 8, .inl (fun _ => 0))), (q9, .inl (c10, 8, .inl (fun _ => 0))), (q11, .inl (c12, 20, .inl (fun _ => 0))), (q13, .inl (c14, 20, .inl (fun _ => 0)))] := hD
  have hK : va_K (dC, dI) xcl [(c2, .int), (c4, .boolean), (c6, .int), (c8, .int), (c10, .int), (c12, .int), (c14, .int)] s := hK
  refine W.widen (k := 7) (n := 92) (by omega) (by omega) ?_
  refine va_putF (pc := 67) (D := (dC, dI)) (ci := 4) (v := .ref q13) (ty := .array (.int)) (C := R_Ho) (T := T_Ho) (N := 10) hx hb hts xi_Ho ty_Ho tyok_Ho nm_Ho hown hK hP hD hS 0 rfl rfl 8 (by decide) (hts _ xl_Ho_38) (fun _ h9 => h9) rfl hin rfl (by decide +kernel) rfl rfl (Nat.le_of_ble_eq_true rfl) xd_Ho_init_67 (fun H locs hP hD hS => ?_)
  have hP : va_P (dC, dI) xcl [(h0, .inr (4, [.int (0 : Int32), .ref q1, .ref q3, .ref q5, .ref q7, .ref q9, .int (0 : Int32), .ref q11, .ref q13, .null])), (q1, .inl (c2, 12, .inl (fun _ => 0))), (q3, .inl (c4, 12, .inl (fun _ => 0))), (q5, .inl (c6, 12, .inl (fun _ => 0))), (q7, .inl (c8, 8, .inl (fun _ => 0))), (q9, .inl (c10, 8, .inl (fun _ => 0))), (q11, .inl (c12, 20, .inl (fun _ => 0))), (q13, .inl (c14, 20, .inl (fun _ => 0)))] H := hP
  have hD : va_D A [(h0, .inr (4, [.int (0 : Int32), .ref q1, .ref q3, .ref q5, .ref q7, .ref q9, .int (0 : Int32), .ref q11, .ref q13, .null])), (q1, .inl (c2, 12, .inl (fun _ => 0))), (q3, .inl (c4, 12, .inl (fun _ => 0))), (q5, .inl (c6, 12, .inl (fun _ => 0))), (q7, .inl (c8, 8, .inl (fun _ => 0))), (q9, .inl (c10, 8, .inl (fun _ => 0))), (q11, .inl (c12, 20, .inl (fun _ => 0))), (q13, .inl (c14, 20, .inl (fun _ => 0)))] := hD
  refine lv_aload_n (pc := 70) hx hb xd_Ho_init_70 rfl (lv_at hl 0 rfl) ?_
  refine lv_bipush (pc := 71) (v := (20 : Int32)) hx hb xd_Ho_init_71 (by decide) ?_
  refine va_newa (pc := 73) (atype := .int) (a0 := (20, .inl (fun _ => 0))) (ty := .int) (N' := 20) hx hb (hts _ xac_int) rfl hK hP hD hS hA (fun _ => rfl) (by decide) (by decide) (by decide) (Nat.le_of_ble_eq_true rfl) (Nat.le_of_ble_eq_true rfl) xd_Ho_init_73 (fun q15 c16 H hK hP hD hS => ?_)
  have hP : va_P (dC, dI) xcl [(h0, .inr (4, [.int (0 : Int32), .ref q1, .ref q3, .ref q5, .ref q7, .ref q9, .int (0 : Int32), .ref q11, .ref q13, .null])), (q1, .inl (c2, 12, .inl (fun _ => 0))), (q3, .inl (c4, 12, .inl (fun _ => 0))), (q5, .inl (c6, 12, .inl (fun _ => 0))), (q7, .inl (c8, 8, .inl (fun _ => 0))), (q9, .inl (c10, 8, .inl (fun _ => 0))), (q11, .inl (c12, 20, .inl (fun _ => 0))), (q13, .inl (c14, 20, .inl (fun _ => 0))), (q15, .inl (c16, 20, .inl (fun _ => 0)))] H := hP
  have hD : va_D A [(h0, .inr (4, [.int (0 : Int32), .ref q1, .ref q3, .ref q5, .ref q7, .ref q9, .int (0 : Int32), .ref q11, .ref q13, .null])), (q1, .inl (c2, 12, .inl (fun _ => 0))), (q3, .inl (c4, 12, .inl (fun _ => 0))), (q5, .inl (c6, 12, .inl (fun _ => 0))), (q7, .inl (c8, 8, .inl (fun _ => 0))), (q9, .inl (c10, 8, .inl (fun _ => 0))), (q11, .inl (c12, 20, .inl (fun _ => 0))), (q13, .inl (c14, 20, .inl (fun _ => 0))), (q15, .inl (c16, 20, .inl (fun _ => 0)))] := hD
  have hK : va_K (dC, dI) xcl [(c2, .int), (c4, .boolean), (c6, .int), (c8, .int), (c10, .int), (c12, .int), (c14, .int), (c16, .int)] s := hK
  refine W.widen (k := 8) (n := 112) (by omega) (by omega) ?_
  refine va_putF (pc := 75) (D := (dC, dI)) (ci := 4) (v := .ref q15) (ty := .array (.int)) (C := R_Ho) (T := T_Ho) (N := 10) hx hb hts xi_Ho ty_Ho tyok_Ho nm_Ho hown hK hP hD hS 0 rfl rfl 9 (by decide) (hts _ xl_Ho_41) (fun _ h9 => h9) rfl hin rfl (by decide +kernel) rfl rfl (Nat.le_of_ble_eq_true rfl) xd_Ho_init_75 (fun H locs hP hD hS => ?_)
  have hP : va_P (dC, dI) xcl [(h0, .inr (4, [.int (0 : Int32), .ref q1, .ref q3, .ref q5, .ref q7, .ref q9, .int (0 : Int32), .ref q11, .ref q13, .ref q15])), (q1, .inl (c2, 12, .inl (fun _ => 0))), (q3, .inl (c4, 12, .inl (fun _ => 0))), (q5, .inl (c6, 12, .inl (fun _ => 0))), (q7, .inl (c8, 8, .inl (fun _ => 0))), (q9, .inl (c10, 8, .inl (fun _ => 0))), (q11, .inl (c12, 20, .inl (fun _ => 0))), (q13, .inl (c14, 20, .inl (fun _ => 0))), (q15, .inl (c16, 20, .inl (fun _ => 0)))] H := hP
  have hD : va_D A [(h0, .inr (4, [.int (0 : Int32), .ref q1, .ref q3, .ref q5, .ref q7, .ref q9, .int (0 : Int32), .ref q11, .ref q13, .ref q15])), (q1, .inl (c2, 12, .inl (fun _ => 0))), (q3, .inl (c4, 12, .inl (fun _ => 0))), (q5, .inl (c6, 12, .inl (fun _ => 0))), (q7, .inl (c8, 8, .inl (fun _ => 0))), (q9, .inl (c10, 8, .inl (fun _ => 0))), (q11, .inl (c12, 20, .inl (fun _ => 0))), (q13, .inl (c14, 20, .inl (fun _ => 0))), (q15, .inl (c16, 20, .inl (fun _ => 0)))] := hD
  refine lv_iconst (pc := 78) (v := (0 : Int32)) hx hb xd_Ho_init_78 (by decide) ?_
  refine lv_istore_n (pc := 79) (lv' := [(1, .int (0 : Int32)), (0, .ref h0)]) hx hb xd_Ho_init_79 rfl hl (by decide) rfl (fun ls hl => ?_)
  refine lv_iload_n (pc := 80) hx hb xd_Ho_init_80 rfl (lv_at hl 0 rfl) ?_
  refine lv_bipush (pc := 81) (v := (8 : Int32)) hx hb xd_Ho_init_81 (by decide) ?_
  refine lv_icmp_ge (pc := 83) (tgt := 100) hx hb xd_Ho_init_83 (by decide) (fun hq => absurd hq (by decide)) (fun _ => ?_)
  refine lv_aload_n (pc := 86) hx hb xd_Ho_init_86 rfl (lv_at hl 1 rfl) ?_
  refine va_get (pc := 87) (D := (dC, dI)) (ci := 4) (v := .ref q9) (C := R_Ho) (T := T_Ho) (N := 10) hx hb hts xi_Ho hown hK hP 0 rfl rfl 5 (by decide) (hts _ xl_Ho_29) (fun _ h9 => h9) rfl xd_Ho_init_87 ?_
  refine lv_iload_n (pc := 90) hx hb xd_Ho_init_90 rfl (lv_at hl 0 rfl) ?_
  refine lv_ldc (pc := 91) (v := (16777215 : Int32)) hx hb hown (hts _ xk_Ho_46) xd_Ho_init_91 ?_
  refine va_iast (pc := 93) (D := (dC, dI)) hx hb hK hP hD hS 5 4 rfl rfl (by unfold vp_in; decide) xd_Ho_init_93 (fun H locs hP hD hS => ?_)
  have hP : va_P (dC, dI) xcl [(h0, .inr (4, [.int (0 : Int32), .ref q1, .ref q3, .ref q5, .ref q7, .ref q9, .int (0 : Int32), .ref q11, .ref q13, .ref q15])), (q1, .inl (c2, 12, .inl (fun _ => 0))), (q3, .inl (c4, 12, .inl (fun _ => 0))), (q5, .inl (c6, 12, .inl (fun _ => 0))), (q7, .inl (c8, 8, .inl (fun _ => 0))), (q9, .inl (c10, 8, .inl (upd (fun _ => 0) 0 (16777215 : Int32)))), (q11, .inl (c12, 20, .inl (fun _ => 0))), (q13, .inl (c14, 20, .inl (fun _ => 0))), (q15, .inl (c16, 20, .inl (fun _ => 0)))] H := hP
  have hD : va_D A [(h0, .inr (4, [.int (0 : Int32), .ref q1, .ref q3, .ref q5, .ref q7, .ref q9, .int (0 : Int32), .ref q11, .ref q13, .ref q15])), (q1, .inl (c2, 12, .inl (fun _ => 0))), (q3, .inl (c4, 12, .inl (fun _ => 0))), (q5, .inl (c6, 12, .inl (fun _ => 0))), (q7, .inl (c8, 8, .inl (fun _ => 0))), (q9, .inl (c10, 8, .inl (upd (fun _ => 0) 0 (16777215 : Int32)))), (q11, .inl (c12, 20, .inl (fun _ => 0))), (q13, .inl (c14, 20, .inl (fun _ => 0))), (q15, .inl (c16, 20, .inl (fun _ => 0)))] := hD
  refine lv_iinc (pc := 94) (v := (1 : Int32)) (lv' := [(1, .int (1 : Int32)), (0, .ref h0)]) hx hb xd_Ho_init_94 hl (k := 0) rfl (by decide) (by decide) rfl (fun ls hl => ?_)
  refine lv_goto (pc := 97) (tgt := 80) hx hb xd_Ho_init_97 (by decide) ?_
  refine lv_iload_n (pc := 80) hx hb xd_Ho_init_80 rfl (lv_at hl 0 rfl) ?_
  refine lv_bipush (pc := 81) (v := (8 : Int32)) hx hb xd_Ho_init_81 (by decide) ?_
  refine lv_icmp_ge (pc := 83) (tgt := 100) hx hb xd_Ho_init_83 (by decide) (fun hq => absurd hq (by decide)) (fun _ => ?_)
  refine lv_aload_n (pc := 86) hx hb xd_Ho_init_86 rfl (lv_at hl 1 rfl) ?_
  refine va_get (pc := 87) (D := (dC, dI)) (ci := 4) (v := .ref q9) (C := R_Ho) (T := T_Ho) (N := 10) hx hb hts xi_Ho hown hK hP 0 rfl rfl 5 (by decide) (hts _ xl_Ho_29) (fun _ h9 => h9) rfl xd_Ho_init_87 ?_
  refine lv_iload_n (pc := 90) hx hb xd_Ho_init_90 rfl (lv_at hl 0 rfl) ?_
  refine lv_ldc (pc := 91) (v := (16777215 : Int32)) hx hb hown (hts _ xk_Ho_46) xd_Ho_init_91 ?_
  refine va_iast (pc := 93) (D := (dC, dI)) hx hb hK hP hD hS 5 4 rfl rfl (by unfold vp_in; decide) xd_Ho_init_93 (fun H locs hP hD hS => ?_)
  have hP : va_P (dC, dI) xcl [(h0, .inr (4, [.int (0 : Int32), .ref q1, .ref q3, .ref q5, .ref q7, .ref q9, .int (0 : Int32), .ref q11, .ref q13, .ref q15])), (q1, .inl (c2, 12, .inl (fun _ => 0))), (q3, .inl (c4, 12, .inl (fun _ => 0))), (q5, .inl (c6, 12, .inl (fun _ => 0))), (q7, .inl (c8, 8, .inl (fun _ => 0))), (q9, .inl (c10, 8, .inl (upd (upd (fun _ => 0) 0 (16777215 : Int32)) 1 (16777215 : Int32)))), (q11, .inl (c12, 20, .inl (fun _ => 0))), (q13, .inl (c14, 20, .inl (fun _ => 0))), (q15, .inl (c16, 20, .inl (fun _ => 0)))] H := hP
  have hD : va_D A [(h0, .inr (4, [.int (0 : Int32), .ref q1, .ref q3, .ref q5, .ref q7, .ref q9, .int (0 : Int32), .ref q11, .ref q13, .ref q15])), (q1, .inl (c2, 12, .inl (fun _ => 0))), (q3, .inl (c4, 12, .inl (fun _ => 0))), (q5, .inl (c6, 12, .inl (fun _ => 0))), (q7, .inl (c8, 8, .inl (fun _ => 0))), (q9, .inl (c10, 8, .inl (upd (upd (fun _ => 0) 0 (16777215 : Int32)) 1 (16777215 : Int32)))), (q11, .inl (c12, 20, .inl (fun _ => 0))), (q13, .inl (c14, 20, .inl (fun _ => 0))), (q15, .inl (c16, 20, .inl (fun _ => 0)))] := hD
  refine lv_iinc (pc := 94) (v := (2 : Int32)) (lv' := [(1, .int (2 : Int32)), (0, .ref h0)]) hx hb xd_Ho_init_94 hl (k := 0) rfl (by decide) (by decide) rfl (fun ls hl => ?_)
  refine lv_goto (pc := 97) (tgt := 80) hx hb xd_Ho_init_97 (by decide) ?_
  refine lv_iload_n (pc := 80) hx hb xd_Ho_init_80 rfl (lv_at hl 0 rfl) ?_
  refine lv_bipush (pc := 81) (v := (8 : Int32)) hx hb xd_Ho_init_81 (by decide) ?_
  refine lv_icmp_ge (pc := 83) (tgt := 100) hx hb xd_Ho_init_83 (by decide) (fun hq => absurd hq (by decide)) (fun _ => ?_)
  refine lv_aload_n (pc := 86) hx hb xd_Ho_init_86 rfl (lv_at hl 1 rfl) ?_
  refine va_get (pc := 87) (D := (dC, dI)) (ci := 4) (v := .ref q9) (C := R_Ho) (T := T_Ho) (N := 10) hx hb hts xi_Ho hown hK hP 0 rfl rfl 5 (by decide) (hts _ xl_Ho_29) (fun _ h9 => h9) rfl xd_Ho_init_87 ?_
  refine lv_iload_n (pc := 90) hx hb xd_Ho_init_90 rfl (lv_at hl 0 rfl) ?_
  refine lv_ldc (pc := 91) (v := (16777215 : Int32)) hx hb hown (hts _ xk_Ho_46) xd_Ho_init_91 ?_
  refine va_iast (pc := 93) (D := (dC, dI)) hx hb hK hP hD hS 5 4 rfl rfl (by unfold vp_in; decide) xd_Ho_init_93 (fun H locs hP hD hS => ?_)
  have hP : va_P (dC, dI) xcl [(h0, .inr (4, [.int (0 : Int32), .ref q1, .ref q3, .ref q5, .ref q7, .ref q9, .int (0 : Int32), .ref q11, .ref q13, .ref q15])), (q1, .inl (c2, 12, .inl (fun _ => 0))), (q3, .inl (c4, 12, .inl (fun _ => 0))), (q5, .inl (c6, 12, .inl (fun _ => 0))), (q7, .inl (c8, 8, .inl (fun _ => 0))), (q9, .inl (c10, 8, .inl (upd (upd (upd (fun _ => 0) 0 (16777215 : Int32)) 1 (16777215 : Int32)) 2 (16777215 : Int32)))), (q11, .inl (c12, 20, .inl (fun _ => 0))), (q13, .inl (c14, 20, .inl (fun _ => 0))), (q15, .inl (c16, 20, .inl (fun _ => 0)))] H := hP
  have hD : va_D A [(h0, .inr (4, [.int (0 : Int32), .ref q1, .ref q3, .ref q5, .ref q7, .ref q9, .int (0 : Int32), .ref q11, .ref q13, .ref q15])), (q1, .inl (c2, 12, .inl (fun _ => 0))), (q3, .inl (c4, 12, .inl (fun _ => 0))), (q5, .inl (c6, 12, .inl (fun _ => 0))), (q7, .inl (c8, 8, .inl (fun _ => 0))), (q9, .inl (c10, 8, .inl (upd (upd (upd (fun _ => 0) 0 (16777215 : Int32)) 1 (16777215 : Int32)) 2 (16777215 : Int32)))), (q11, .inl (c12, 20, .inl (fun _ => 0))), (q13, .inl (c14, 20, .inl (fun _ => 0))), (q15, .inl (c16, 20, .inl (fun _ => 0)))] := hD
  refine lv_iinc (pc := 94) (v := (3 : Int32)) (lv' := [(1, .int (3 : Int32)), (0, .ref h0)]) hx hb xd_Ho_init_94 hl (k := 0) rfl (by decide) (by decide) rfl (fun ls hl => ?_)
  refine lv_goto (pc := 97) (tgt := 80) hx hb xd_Ho_init_97 (by decide) ?_
  refine lv_iload_n (pc := 80) hx hb xd_Ho_init_80 rfl (lv_at hl 0 rfl) ?_
  refine lv_bipush (pc := 81) (v := (8 : Int32)) hx hb xd_Ho_init_81 (by decide) ?_
  refine lv_icmp_ge (pc := 83) (tgt := 100) hx hb xd_Ho_init_83 (by decide) (fun hq => absurd hq (by decide)) (fun _ => ?_)
  refine lv_aload_n (pc := 86) hx hb xd_Ho_init_86 rfl (lv_at hl 1 rfl) ?_
  refine va_get (pc := 87) (D := (dC, dI)) (ci := 4) (v := .ref q9) (C := R_Ho) (T := T_Ho) (N := 10) hx hb hts xi_Ho hown hK hP 0 rfl rfl 5 (by decide) (hts _ xl_Ho_29) (fun _ h9 => h9) rfl xd_Ho_init_87 ?_
  refine lv_iload_n (pc := 90) hx hb xd_Ho_init_90 rfl (lv_at hl 0 rfl) ?_
  refine lv_ldc (pc := 91) (v := (16777215 : Int32)) hx hb hown (hts _ xk_Ho_46) xd_Ho_init_91 ?_
  refine va_iast (pc := 93) (D := (dC, dI)) hx hb hK hP hD hS 5 4 rfl rfl (by unfold vp_in; decide) xd_Ho_init_93 (fun H locs hP hD hS => ?_)
  have hP : va_P (dC, dI) xcl [(h0, .inr (4, [.int (0 : Int32), .ref q1, .ref q3, .ref q5, .ref q7, .ref q9, .int (0 : Int32), .ref q11, .ref q13, .ref q15])), (q1, .inl (c2, 12, .inl (fun _ => 0))), (q3, .inl (c4, 12, .inl (fun _ => 0))), (q5, .inl (c6, 12, .inl (fun _ => 0))), (q7, .inl (c8, 8, .inl (fun _ => 0))), (q9, .inl (c10, 8, .inl (upd (upd (upd (upd (fun _ => 0) 0 (16777215 : Int32)) 1 (16777215 : Int32)) 2 (16777215 : Int32)) 3 (16777215 : Int32)))), (q11, .inl (c12, 20, .inl (fun _ => 0))), (q13, .inl (c14, 20, .inl (fun _ => 0))), (q15, .inl (c16, 20, .inl (fun _ => 0)))] H := hP
  have hD : va_D A [(h0, .inr (4, [.int (0 : Int32), .ref q1, .ref q3, .ref q5, .ref q7, .ref q9, .int (0 : Int32), .ref q11, .ref q13, .ref q15])), (q1, .inl (c2, 12, .inl (fun _ => 0))), (q3, .inl (c4, 12, .inl (fun _ => 0))), (q5, .inl (c6, 12, .inl (fun _ => 0))), (q7, .inl (c8, 8, .inl (fun _ => 0))), (q9, .inl (c10, 8, .inl (upd (upd (upd (upd (fun _ => 0) 0 (16777215 : Int32)) 1 (16777215 : Int32)) 2 (16777215 : Int32)) 3 (16777215 : Int32)))), (q11, .inl (c12, 20, .inl (fun _ => 0))), (q13, .inl (c14, 20, .inl (fun _ => 0))), (q15, .inl (c16, 20, .inl (fun _ => 0)))] := hD
  refine lv_iinc (pc := 94) (v := (4 : Int32)) (lv' := [(1, .int (4 : Int32)), (0, .ref h0)]) hx hb xd_Ho_init_94 hl (k := 0) rfl (by decide) (by decide) rfl (fun ls hl => ?_)
  refine lv_goto (pc := 97) (tgt := 80) hx hb xd_Ho_init_97 (by decide) ?_
  refine lv_iload_n (pc := 80) hx hb xd_Ho_init_80 rfl (lv_at hl 0 rfl) ?_
  refine lv_bipush (pc := 81) (v := (8 : Int32)) hx hb xd_Ho_init_81 (by decide) ?_
  refine lv_icmp_ge (pc := 83) (tgt := 100) hx hb xd_Ho_init_83 (by decide) (fun hq => absurd hq (by decide)) (fun _ => ?_)
  refine lv_aload_n (pc := 86) hx hb xd_Ho_init_86 rfl (lv_at hl 1 rfl) ?_
  refine va_get (pc := 87) (D := (dC, dI)) (ci := 4) (v := .ref q9) (C := R_Ho) (T := T_Ho) (N := 10) hx hb hts xi_Ho hown hK hP 0 rfl rfl 5 (by decide) (hts _ xl_Ho_29) (fun _ h9 => h9) rfl xd_Ho_init_87 ?_
  refine lv_iload_n (pc := 90) hx hb xd_Ho_init_90 rfl (lv_at hl 0 rfl) ?_
  refine lv_ldc (pc := 91) (v := (16777215 : Int32)) hx hb hown (hts _ xk_Ho_46) xd_Ho_init_91 ?_
  refine va_iast (pc := 93) (D := (dC, dI)) hx hb hK hP hD hS 5 4 rfl rfl (by unfold vp_in; decide) xd_Ho_init_93 (fun H locs hP hD hS => ?_)
  have hP : va_P (dC, dI) xcl [(h0, .inr (4, [.int (0 : Int32), .ref q1, .ref q3, .ref q5, .ref q7, .ref q9, .int (0 : Int32), .ref q11, .ref q13, .ref q15])), (q1, .inl (c2, 12, .inl (fun _ => 0))), (q3, .inl (c4, 12, .inl (fun _ => 0))), (q5, .inl (c6, 12, .inl (fun _ => 0))), (q7, .inl (c8, 8, .inl (fun _ => 0))), (q9, .inl (c10, 8, .inl (upd (upd (upd (upd (upd (fun _ => 0) 0 (16777215 : Int32)) 1 (16777215 : Int32)) 2 (16777215 : Int32)) 3 (16777215 : Int32)) 4 (16777215 : Int32)))), (q11, .inl (c12, 20, .inl (fun _ => 0))), (q13, .inl (c14, 20, .inl (fun _ => 0))), (q15, .inl (c16, 20, .inl (fun _ => 0)))] H := hP
  have hD : va_D A [(h0, .inr (4, [.int (0 : Int32), .ref q1, .ref q3, .ref q5, .ref q7, .ref q9, .int (0 : Int32), .ref q11, .ref q13, .ref q15])), (q1, .inl (c2, 12, .inl (fun _ => 0))), (q3, .inl (c4, 12, .inl (fun _ => 0))), (q5, .inl (c6, 12, .inl (fun _ => 0))), (q7, .inl (c8, 8, .inl (fun _ => 0))), (q9, .inl (c10, 8, .inl (upd (upd (upd (upd (upd (fun _ => 0) 0 (16777215 : Int32)) 1 (16777215 : Int32)) 2 (16777215 : Int32)) 3 (16777215 : Int32)) 4 (16777215 : Int32)))), (q11, .inl (c12, 20, .inl (fun _ => 0))), (q13, .inl (c14, 20, .inl (fun _ => 0))), (q15, .inl (c16, 20, .inl (fun _ => 0)))] := hD
  refine lv_iinc (pc := 94) (v := (5 : Int32)) (lv' := [(1, .int (5 : Int32)), (0, .ref h0)]) hx hb xd_Ho_init_94 hl (k := 0) rfl (by decide) (by decide) rfl (fun ls hl => ?_)
  refine lv_goto (pc := 97) (tgt := 80) hx hb xd_Ho_init_97 (by decide) ?_
  refine lv_iload_n (pc := 80) hx hb xd_Ho_init_80 rfl (lv_at hl 0 rfl) ?_
  refine lv_bipush (pc := 81) (v := (8 : Int32)) hx hb xd_Ho_init_81 (by decide) ?_
  refine lv_icmp_ge (pc := 83) (tgt := 100) hx hb xd_Ho_init_83 (by decide) (fun hq => absurd hq (by decide)) (fun _ => ?_)
  refine lv_aload_n (pc := 86) hx hb xd_Ho_init_86 rfl (lv_at hl 1 rfl) ?_
  refine va_get (pc := 87) (D := (dC, dI)) (ci := 4) (v := .ref q9) (C := R_Ho) (T := T_Ho) (N := 10) hx hb hts xi_Ho hown hK hP 0 rfl rfl 5 (by decide) (hts _ xl_Ho_29) (fun _ h9 => h9) rfl xd_Ho_init_87 ?_
  refine lv_iload_n (pc := 90) hx hb xd_Ho_init_90 rfl (lv_at hl 0 rfl) ?_
  refine lv_ldc (pc := 91) (v := (16777215 : Int32)) hx hb hown (hts _ xk_Ho_46) xd_Ho_init_91 ?_
  refine va_iast (pc := 93) (D := (dC, dI)) hx hb hK hP hD hS 5 4 rfl rfl (by unfold vp_in; decide) xd_Ho_init_93 (fun H locs hP hD hS => ?_)
  have hP : va_P (dC, dI) xcl [(h0, .inr (4, [.int (0 : Int32), .ref q1, .ref q3, .ref q5, .ref q7, .ref q9, .int (0 : Int32), .ref q11, .ref q13, .ref q15])), (q1, .inl (c2, 12, .inl (fun _ => 0))), (q3, .inl (c4, 12, .inl (fun _ => 0))), (q5, .inl (c6, 12, .inl (fun _ => 0))), (q7, .inl (c8, 8, .inl (fun _ => 0))), (q9, .inl (c10, 8, .inl (upd (upd (upd (upd (upd (upd (fun _ => 0) 0 (16777215 : Int32)) 1 (16777215 : Int32)) 2 (16777215 : Int32)) 3 (16777215 : Int32)) 4 (16777215 : Int32)) 5 (16777215 : Int32)))), (q11, .inl (c12, 20, .inl (fun _ => 0))), (q13, .inl (c14, 20, .inl (fun _ => 0))), (q15, .inl (c16, 20, .inl (fun _ => 0)))] H := hP
  have hD : va_D A [(h0, .inr (4, [.int (0 : Int32), .ref q1, .ref q3, .ref q5, .ref q7, .ref q9, .int (0 : Int32), .ref q11, .ref q13, .ref q15])), (q1, .inl (c2, 12, .inl (fun _ => 0))), (q3, .inl (c4, 12, .inl (fun _ => 0))), (q5, .inl (c6, 12, .inl (fun _ => 0))), (q7, .inl (c8, 8, .inl (fun _ => 0))), (q9, .inl (c10, 8, .inl (upd (upd (upd (upd (upd (upd (fun _ => 0) 0 (16777215 : Int32)) 1 (16777215 : Int32)) 2 (16777215 : Int32)) 3 (16777215 : Int32)) 4 (16777215 : Int32)) 5 (16777215 : Int32)))), (q11, .inl (c12, 20, .inl (fun _ => 0))), (q13, .inl (c14, 20, .inl (fun _ => 0))), (q15, .inl (c16, 20, .inl (fun _ => 0)))] := hD
  refine lv_iinc (pc := 94) (v := (6 : Int32)) (lv' := [(1, .int (6 : Int32)), (0, .ref h0)]) hx hb xd_Ho_init_94 hl (k := 0) rfl (by decide) (by decide) rfl (fun ls hl => ?_)
  refine lv_goto (pc := 97) (tgt := 80) hx hb xd_Ho_init_97 (by decide) ?_
  refine lv_iload_n (pc := 80) hx hb xd_Ho_init_80 rfl (lv_at hl 0 rfl) ?_
  refine lv_bipush (pc := 81) (v := (8 : Int32)) hx hb xd_Ho_init_81 (by decide) ?_
  refine lv_icmp_ge (pc := 83) (tgt := 100) hx hb xd_Ho_init_83 (by decide) (fun hq => absurd hq (by decide)) (fun _ => ?_)
  refine lv_aload_n (pc := 86) hx hb xd_Ho_init_86 rfl (lv_at hl 1 rfl) ?_
  refine va_get (pc := 87) (D := (dC, dI)) (ci := 4) (v := .ref q9) (C := R_Ho) (T := T_Ho) (N := 10) hx hb hts xi_Ho hown hK hP 0 rfl rfl 5 (by decide) (hts _ xl_Ho_29) (fun _ h9 => h9) rfl xd_Ho_init_87 ?_
  refine lv_iload_n (pc := 90) hx hb xd_Ho_init_90 rfl (lv_at hl 0 rfl) ?_
  refine lv_ldc (pc := 91) (v := (16777215 : Int32)) hx hb hown (hts _ xk_Ho_46) xd_Ho_init_91 ?_
  refine va_iast (pc := 93) (D := (dC, dI)) hx hb hK hP hD hS 5 4 rfl rfl (by unfold vp_in; decide) xd_Ho_init_93 (fun H locs hP hD hS => ?_)
  have hP : va_P (dC, dI) xcl [(h0, .inr (4, [.int (0 : Int32), .ref q1, .ref q3, .ref q5, .ref q7, .ref q9, .int (0 : Int32), .ref q11, .ref q13, .ref q15])), (q1, .inl (c2, 12, .inl (fun _ => 0))), (q3, .inl (c4, 12, .inl (fun _ => 0))), (q5, .inl (c6, 12, .inl (fun _ => 0))), (q7, .inl (c8, 8, .inl (fun _ => 0))), (q9, .inl (c10, 8, .inl (upd (upd (upd (upd (upd (upd (upd (fun _ => 0) 0 (16777215 : Int32)) 1 (16777215 : Int32)) 2 (16777215 : Int32)) 3 (16777215 : Int32)) 4 (16777215 : Int32)) 5 (16777215 : Int32)) 6 (16777215 : Int32)))), (q11, .inl (c12, 20, .inl (fun _ => 0))), (q13, .inl (c14, 20, .inl (fun _ => 0))), (q15, .inl (c16, 20, .inl (fun _ => 0)))] H := hP
  have hD : va_D A [(h0, .inr (4, [.int (0 : Int32), .ref q1, .ref q3, .ref q5, .ref q7, .ref q9, .int (0 : Int32), .ref q11, .ref q13, .ref q15])), (q1, .inl (c2, 12, .inl (fun _ => 0))), (q3, .inl (c4, 12, .inl (fun _ => 0))), (q5, .inl (c6, 12, .inl (fun _ => 0))), (q7, .inl (c8, 8, .inl (fun _ => 0))), (q9, .inl (c10, 8, .inl (upd (upd (upd (upd (upd (upd (upd (fun _ => 0) 0 (16777215 : Int32)) 1 (16777215 : Int32)) 2 (16777215 : Int32)) 3 (16777215 : Int32)) 4 (16777215 : Int32)) 5 (16777215 : Int32)) 6 (16777215 : Int32)))), (q11, .inl (c12, 20, .inl (fun _ => 0))), (q13, .inl (c14, 20, .inl (fun _ => 0))), (q15, .inl (c16, 20, .inl (fun _ => 0)))] := hD
  refine lv_iinc (pc := 94) (v := (7 : Int32)) (lv' := [(1, .int (7 : Int32)), (0, .ref h0)]) hx hb xd_Ho_init_94 hl (k := 0) rfl (by decide) (by decide) rfl (fun ls hl => ?_)
  refine lv_goto (pc := 97) (tgt := 80) hx hb xd_Ho_init_97 (by decide) ?_
  refine lv_iload_n (pc := 80) hx hb xd_Ho_init_80 rfl (lv_at hl 0 rfl) ?_
  refine lv_bipush (pc := 81) (v := (8 : Int32)) hx hb xd_Ho_init_81 (by decide) ?_
  refine lv_icmp_ge (pc := 83) (tgt := 100) hx hb xd_Ho_init_83 (by decide) (fun hq => absurd hq (by decide)) (fun _ => ?_)
  refine lv_aload_n (pc := 86) hx hb xd_Ho_init_86 rfl (lv_at hl 1 rfl) ?_
  refine va_get (pc := 87) (D := (dC, dI)) (ci := 4) (v := .ref q9) (C := R_Ho) (T := T_Ho) (N := 10) hx hb hts xi_Ho hown hK hP 0 rfl rfl 5 (by decide) (hts _ xl_Ho_29) (fun _ h9 => h9) rfl xd_Ho_init_87 ?_
  refine lv_iload_n (pc := 90) hx hb xd_Ho_init_90 rfl (lv_at hl 0 rfl) ?_
  refine lv_ldc (pc := 91) (v := (16777215 : Int32)) hx hb hown (hts _ xk_Ho_46) xd_Ho_init_91 ?_
  refine va_iast (pc := 93) (D := (dC, dI)) hx hb hK hP hD hS 5 4 rfl rfl (by unfold vp_in; decide) xd_Ho_init_93 (fun H locs hP hD hS => ?_)
  have hP : va_P (dC, dI) xcl [(h0, .inr (4, [.int (0 : Int32), .ref q1, .ref q3, .ref q5, .ref q7, .ref q9, .int (0 : Int32), .ref q11, .ref q13, .ref q15])), (q1, .inl (c2, 12, .inl (fun _ => 0))), (q3, .inl (c4, 12, .inl (fun _ => 0))), (q5, .inl (c6, 12, .inl (fun _ => 0))), (q7, .inl (c8, 8, .inl (fun _ => 0))), (q9, .inl (c10, 8, .inl (upd (upd (upd (upd (upd (upd (upd (upd (fun _ => 0) 0 (16777215 : Int32)) 1 (16777215 : Int32)) 2 (16777215 : Int32)) 3 (16777215 : Int32)) 4 (16777215 : Int32)) 5 (16777215 : Int32)) 6 (16777215 : Int32)) 7 (16777215 : Int32)))), (q11, .inl (c12, 20, .inl (fun _ => 0))), (q13, .inl (c14, 20, .inl (fun _ => 0))), (q15, .inl (c16, 20, .inl (fun _ => 0)))] H := hP
  have hD : va_D A [(h0, .inr (4, [.int (0 : Int32), .ref q1, .ref q3, .ref q5, .ref q7, .ref q9, .int (0 : Int32), .ref q11, .ref q13, .ref q15])), (q1, .inl (c2, 12, .inl (fun _ => 0))), (q3, .inl (c4, 12, .inl (fun _ => 0))), (q5, .inl (c6, 12, .inl (fun _ => 0))), (q7, .inl (c8, 8, .inl (fun _ => 0))), (q9, .inl (c10, 8, .inl (upd (upd (upd (upd (upd (upd (upd (upd (fun _ => 0) 0 (16777215 : Int32)) 1 (16777215 : Int32)) 2 (16777215 : Int32)) 3 (16777215 : Int32)) 4 (16777215 : Int32)) 5 (16777215 : Int32)) 6 (16777215 : Int32)) 7 (16777215 : Int32)))), (q11, .inl (c12, 20, .inl (fun _ => 0))), (q13, .inl (c14, 20, .inl (fun _ => 0))), (q15, .inl (c16, 20, .inl (fun _ => 0)))] := hD
  refine lv_iinc (pc := 94) (v := (8 : Int32)) (lv' := [(1, .int (8 : Int32)), (0, .ref h0)]) hx hb xd_Ho_init_94 hl (k := 0) rfl (by decide) (by decide) rfl (fun ls hl => ?_)
  refine lv_goto (pc := 97) (tgt := 80) hx hb xd_Ho_init_97 (by decide) ?_
  refine lv_iload_n (pc := 80) hx hb xd_Ho_init_80 rfl (lv_at hl 0 rfl) ?_
  refine lv_bipush (pc := 81) (v := (8 : Int32)) hx hb xd_Ho_init_81 (by decide) ?_
  refine lv_icmp_ge (pc := 83) (tgt := 100) hx hb xd_Ho_init_83 (by decide) (fun _ => ?_) (fun hq => absurd (by decide) hq)
  have hP9 := hP.sub (ws' := [(h0, .inr (4, [.int (0 : Int32), .ref q1, .ref q3, .ref q5, .ref q7, .ref q9, .int (0 : Int32), .ref q11, .ref q13, .ref q15])), (q1, .inl (c2, 12, .inl (fun _ => 0))), (q3, .inl (c4, 12, .inl (fun _ => 0))), (q5, .inl (c6, 12, .inl (fun _ => 0))), (q7, .inl (c8, 8, .inl (fun _ => 0))), (q9, .inl (c10, 8, .inl (upd (upd (upd (upd (upd (upd (upd (upd (fun _ => 0) 0 (16777215 : Int32)) 1 (16777215 : Int32)) 2 (16777215 : Int32)) 3 (16777215 : Int32)) 4 (16777215 : Int32)) 5 (16777215 : Int32)) 6 (16777215 : Int32)) 7 (16777215 : Int32)))), (q11, .inl (c12, 20, .inl (fun _ => 0))), (q13, .inl (c14, 20, .inl (fun _ => 0))), (q15, .inl (c16, 20, .inl (fun _ => 0)))]) [0, 1, 2, 3, 4, 5, 6, 7, 8] rfl
  have hD9 := hD.sub (ws' := [(h0, .inr (4, [.int (0 : Int32), .ref q1, .ref q3, .ref q5, .ref q7, .ref q9, .int (0 : Int32), .ref q11, .ref q13, .ref q15])), (q1, .inl (c2, 12, .inl (fun _ => 0))), (q3, .inl (c4, 12, .inl (fun _ => 0))), (q5, .inl (c6, 12, .inl (fun _ => 0))), (q7, .inl (c8, 8, .inl (fun _ => 0))), (q9, .inl (c10, 8, .inl (upd (upd (upd (upd (upd (upd (upd (upd (fun _ => 0) 0 (16777215 : Int32)) 1 (16777215 : Int32)) 2 (16777215 : Int32)) 3 (16777215 : Int32)) 4 (16777215 : Int32)) 5 (16777215 : Int32)) 6 (16777215 : Int32)) 7 (16777215 : Int32)))), (q11, .inl (c12, 20, .inl (fun _ => 0))), (q13, .inl (c14, 20, .inl (fun _ => 0))), (q15, .inl (c16, 20, .inl (fun _ => 0)))]) [0, 1, 2, 3, 4, 5, 6, 7, 8] (by decide) rfl
  refine W.widen (k := 8) (n := 112) (by omega) (by omega) ?_
  exact W.vret hx hb hr (fun t ht hW => ⟨⟨(), rfl, trivial, q1, q3, q5, q7, q9, q11, q13, q15, c2, c4, c6, c8, c10, c12, c14, c16, by rw [ht]; exact hP9, va_K.moved hW.alike hK, hD9⟩, hS.F ht⟩) hS.2.2 xd_Ho_init_100

/-! the constructor of ColoursApart$Kept -/
theorem xd_Ke_init_0 : decode b_Ke_init 0 = .ok (.aload_n 0, 1) := by decide +kernel
theorem xd_Ke_init_1 : decode b_Ke_init 1 = .ok (.invokespecial 3, 3) := by decide +kernel
theorem xd_Ke_init_4 : decode b_Ke_init 4 = .ok (.aload_n 0, 1) := by decide +kernel
theorem xd_Ke_init_5 : decode b_Ke_init 5 = .ok (.new 9, 3) := by decide +kernel
theorem xd_Ke_init_8 : decode b_Ke_init 8 = .ok (.dup, 1) := by decide +kernel
theorem xd_Ke_init_9 : decode b_Ke_init 9 = .ok (.invokespecial 11, 3) := by decide +kernel
theorem xd_Ke_init_12 : decode b_Ke_init 12 = .ok (.putfield 12, 3) := by decide +kernel
theorem xd_Ke_init_15 : decode b_Ke_init 15 = .ok (.aload_n 0, 1) := by decide +kernel
theorem xd_Ke_init_16 : decode b_Ke_init 16 = .ok (.new 18, 3) := by decide +kernel
theorem xd_Ke_init_19 : decode b_Ke_init 19 = .ok (.dup, 1) := by decide +kernel
theorem xd_Ke_init_20 : decode b_Ke_init 20 = .ok (.invokespecial 20, 3) := by decide +kernel
theorem xd_Ke_init_23 : decode b_Ke_init 23 = .ok (.putfield 21, 3) := by decide +kernel
theorem xd_Ke_init_26 : decode b_Ke_init 26 = .ok (.aload_n 0, 1) := by decide +kernel
theorem xd_Ke_init_27 : decode b_Ke_init 27 = .ok (.new 25, 3) := by decide +kernel
theorem xd_Ke_init_30 : decode b_Ke_init 30 = .ok (.dup, 1) := by decide +kernel
theorem xd_Ke_init_31 : decode b_Ke_init 31 = .ok (.invokespecial 27, 3) := by decide +kernel
theorem xd_Ke_init_34 : decode b_Ke_init 34 = .ok (.putfield 28, 3) := by decide +kernel
theorem xd_Ke_init_37 : decode b_Ke_init 37 = .ok (.return_, 1) := by decide +kernel
abbrev rm_Ke_init : Room := { frames := 2, cells := 12, slots := 156, locals := 62 }
def at_Ke (dC : Nat → ClassId) (dI : Nat → Nat → Nat) (A : Nat → Prop) (h0 : Nat) (_ : Unit) (t : State) : Prop := ∃ (q1 : Nat) (q2 : Nat) (q4 : Nat) (q5 : Nat) (q6 : Nat) (q7 : Nat) (q8 : Nat) (q9 : Nat) (q10 : Nat) (q11 : Nat) (q12 : Nat) (q21 : Nat) (c3 : ClassId) (c13 : ClassId) (c14 : ClassId) (c15 : ClassId) (c16 : ClassId) (c17 : ClassId) (c18 : ClassId) (c19 : ClassId) (c20 : ClassId) , va_P (dC, dI) xcl [(h0, .inr (5, [.ref q1, .ref q4, .ref q21])), (q1, .inr (1, [.ref q2, .int (5 : Int32), .int (1 : Int32), .int (1 : Int32), .int (1 : Int32), .int (1 : Int32)])), (q2, .inl (c3, 27, .inl (upd (upd (upd (upd (upd (upd (upd (upd (upd (fun _ => 0) 0 (1000 : Int32)) 4 (1000 : Int32)) 8 (1000 : Int32)) 9 (1000 : Int32)) 13 (1000 : Int32)) 17 (1000 : Int32)) 18 (1000 : Int32)) 22 (1000 : Int32)) 26 (1000 : Int32)))), (q4, .inr (4, [.int (0 : Int32), .ref q5, .ref q6, .ref q7, .ref q8, .ref q9, .int (0 : Int32), .ref q10, .ref q11, .ref q12])), (q5, .inl (c13, 12, .inl (fun _ => 0))), (q6, .inl (c14, 12, .inl (fun _ => 0))), (q7, .inl (c15, 12, .inl (fun _ => 0))), (q8, .inl (c16, 8, .inl (fun _ => 0))), (q9, .inl (c17, 8, .inl (upd (upd (upd (upd (upd (upd (upd (upd (fun _ => 0) 0 (16777215 : Int32)) 1 (16777215 : Int32)) 2 (16777215 : Int32)) 3 (16777215 : Int32)) 4 (16777215 : Int32)) 5 (16777215 : Int32)) 6 (16777215 : Int32)) 7 (16777215 : Int32)))), (q10, .inl (c18, 20, .inl (fun _ => 0))), (q11, .inl (c19, 20, .inl (fun _ => 0))), (q12, .inl (c20, 20, .inl (fun _ => 0))), (q21, .inr (2, [.int (3 : Int32)]))] t.heap ∧ va_K (dC, dI) xcl [(c3, .int), (c13, .int), (c14, .boolean), (c15, .int), (c16, .int), (c17, .int), (c18, .int), (c19, .int), (c20, .int)] t ∧ va_D A [(h0, .inr (5, [.ref q1, .ref q4, .ref q21])), (q1, .inr (1, [.ref q2, .int (5 : Int32), .int (1 : Int32), .int (1 : Int32), .int (1 : Int32), .int (1 : Int32)])), (q2, .inl (c3, 27, .inl (upd (upd (upd (upd (upd (upd (upd (upd (upd (fun _ => 0) 0 (1000 : Int32)) 4 (1000 : Int32)) 8 (1000 : Int32)) 9 (1000 : Int32)) 13 (1000 : Int32)) 17 (1000 : Int32)) 18 (1000 : Int32)) 22 (1000 : Int32)) 26 (1000 : Int32)))), (q4, .inr (4, [.int (0 : Int32), .ref q5, .ref q6, .ref q7, .ref q8, .ref q9, .int (0 : Int32), .ref q10, .ref q11, .ref q12])), (q5, .inl (c13, 12, .inl (fun _ => 0))), (q6, .inl (c14, 12, .inl (fun _ => 0))), (q7, .inl (c15, 12, .inl (fun _ => 0))), (q8, .inl (c16, 8, .inl (fun _ => 0))), (q9, .inl (c17, 8, .inl (upd (upd (upd (upd (upd (upd (upd (upd (fun _ => 0) 0 (16777215 : Int32)) 1 (16777215 : Int32)) 2 (16777215 : Int32)) 3 (16777215 : Int32)) 4 (16777215 : Int32)) 5 (16777215 : Int32)) 6 (16777215 : Int32)) 7 (16777215 : Int32)))), (q10, .inl (c18, 20, .inl (fun _ => 0))), (q11, .inl (c19, 20, .inl (fun _ => 0))), (q12, .inl (c20, 20, .inl (fun _ => 0))), (q21, .inr (2, [.int (3 : Int32)]))]
set_option maxHeartbeats 8000000 in
set_option maxRecDepth 100000 in
theorem ci_Ke (l : Launch) (dC : Nat → ClassId) (dI : Nat → Nat → Nat) (h0 sz : Nat) : Met l y_Ke_init (Cond.code y_Ke_init b_Ke_init 1 none :: xTG) rm_Ke_init (va_Pc [.ref h0] (xI dC dI [(h0, .inr (5, [.null, .null, .null]))] sz)) (va_Qv (fun _ : Unit => True) (at_Ke dC dI (va_A [(h0, .inr (5, [.null, .null, .null]))] sz) h0) (va_A [(h0, .inr (5, [.null, .null, .null]))] sz)) 12 156 (va_A [(h0, .inr (5, [.null, .null, .null]))] sz) := by
  refine Met.ofW (cc := b_Ke_init) (maxL := 1) (ret := none) (by decide) rfl ?_
  intro p e s m args below meth c s₁ B hml hv
  obtain ⟨rfl, hsz, hP, hK, hNA, hD0⟩ := hv
  have hx := B.exec
  have hb := B.bytes
  have hr := B.returns
  have hts0 := atoms_spec (ws := Cond.code y_Ke_init b_Ke_init 1 none :: xTG) B.pre
  have hts : ∀ w ∈ xTG, w.before ([.ref h0] : List Value).toArray s = true := fun w hw => hts0 w (List.mem_cons_of_mem _ hw)
  have hown : s.vm.findClass R_Ke = some m.cls := findClass_of_methodNamed B.named
  have hlocks := B.notSynchronized
  have hin : meth.name = "<init>" := (name_of_methodNamed B.named B.method).1
  subst hsz
  have hD := hD0.self (sz := s.heap.size)
  generalize hAe : va_A [(h0, .inr (5, [.null, .null, .null]))] s.heap.size = A at hD ⊢
  have hA : ∀ q : Nat, s.heap.size ≤ q → A q := fun q h => by rw [← hAe]; exact Or.inr h
  have hS : va_S A s.heap s.heap [] := va_S.rf
  have hl := lv_entry ([.ref h0]) (n := 1) (Nat.le_of_ble_eq_true rfl)
  rw [lg_entry_eq]
  generalize (lg_sl ([.ref h0]) ++ List.replicate (1 - (lg_sl ([.ref h0])).length) Slot.unset).toArray = ls at hl ⊢
  have hl : lv_has ls 1 [(0, .ref h0)] := hl
  refine lv_aload_n (pc := 0) hx hb xd_Ke_init_0 rfl (lv_at hl 0 rfl) ?_
  refine W.objInit hx hb hown (hts _ xob_Ke_3) (hts _ xob_i) (hts _ xob_c) rfl (by rw [hml]; exact hl.1) rfl xd_Ke_init_1 (Nat.le_of_ble_eq_true rfl) (Nat.le_of_ble_eq_true rfl) ?_
  refine W.eq (g2 := F0 m 4 ls []) rfl ?_
  refine lv_aload_n (pc := 4) hx hb xd_Ke_init_4 rfl (lv_at hl 0 rfl) ?_
  refine va_new (pc := 5) (ci := 1) (fs := [.null, .int 0, .int 0, .int 0, .int 0, .int 0]) (C := R_Ey) (T := T_Ey) (N := 6) hx hb hts xi_Ey ty_Ey tyok_Ey hown (hts _ xcl_Ke_9) (hts _ xis_Ey) (hts _ xin_Ey) hK hP hD hS hA rfl (xbl_Ey) (Nat.le_of_ble_eq_true rfl) (Nat.le_of_ble_eq_true rfl) xd_Ke_init_5 (fun q1 H hP hD hS => ?_)
  have hP : va_P (dC, dI) xcl [(h0, .inr (5, [.null, .null, .null])), (q1, .inr (1, [.null, .int 0, .int 0, .int 0, .int 0, .int 0]))] H := hP
  have hD : va_D A [(h0, .inr (5, [.null, .null, .null])), (q1, .inr (1, [.null, .int 0, .int 0, .int 0, .int 0, .int 0]))] := hD
  refine W.widen (k := 1) (n := 6) (by omega) (by omega) ?_
  refine lv_dup (pc := 8) hx hb xd_Ke_init_8 rfl ?_
  have hPc := hP.sub (ws' := [(q1, .inr (1, [.null, .int 0, .int 0, .int 0, .int 0, .int 0]))]) [1] rfl
  have hDc := hD.sub (ws' := [(q1, .inr (1, [.null, .int 0, .int 0, .int 0, .int 0, .int 0]))]) [1] (by decide) rfl
  have hKc := hK.sub (tys' := []) [] rfl
  have hFc := va_free (wc := [(q1, .inr (1, [.null, .int 0, .int 0, .int 0, .int 0, .int 0]))]) hD hS hA [1] rfl
  refine va_callv (va_runI (Ts := xTG) (As := []) (rest := [.ref q1, .ref h0]) ⟨hx, hb, hml, hown, hts⟩ (ci_Ey l dC dI q1 H.size) (cwI 0 hts (xgood (xcons xcw_Ey_init)) rfl rfl rfl (hts _ xin_Ey) (hts _ xnl_Ke_11) (hts _ xiw_Ey_init) rfl ⟨by decide, by decide, rfl⟩ ⟨Nat.le_of_ble_eq_true rfl, Nat.le_of_ble_eq_true rfl⟩) ⟨xI.blind, fun U hU hW => ⟨rfl, by rw [hU], by rw [hU]; exact hPc, va_K.moved hW.alike hKc, hNA.warm hW, hDc.weaken (fun _ _ _ _ => trivial)⟩⟩ rfl rfl hl.1 rfl (lv_room (Nat.le_of_ble_eq_true rfl)) xd_Ke_init_9 ⟨Nat.le_of_ble_eq_true rfl, Nat.le_of_ble_eq_true rfl⟩) hS (fun q _ h => hFc q h) hFc (fun u t H1 locs ht hvm hw hB hz1 hk1 hS => ?_)
  obtain ⟨q2, c3, hP1, hK1, hD1⟩ := hB
  rw [ht] at hP1
  have hK1 := va_K.moved hvm.symm hK1
  obtain ⟨hP, hD⟩ := va_join (wr := [(h0, .inr (5, [.null, .null, .null]))]) (w1 := [(q1, .inr (1, [.ref q2, .int (5 : Int32), .int (1 : Int32), .int (1 : Int32), .int (1 : Int32), .int (1 : Int32)])), (q2, .inl (c3, 27, .inl (upd (upd (upd (upd (upd (upd (upd (upd (upd (fun _ => 0) 0 (1000 : Int32)) 4 (1000 : Int32)) 8 (1000 : Int32)) 9 (1000 : Int32)) 13 (1000 : Int32)) 17 (1000 : Int32)) 18 (1000 : Int32)) 22 (1000 : Int32)) 26 (1000 : Int32))))]) hP hD [1] [0] rfl rfl (by decide) (by decide) hk1 hFc hP1 hD1
  have hK := (hK.sub (tys' := []) [] rfl).app hK1
  generalize H1 = H at hP hS ⊢
  have hP : va_P (dC, dI) xcl [(h0, .inr (5, [.null, .null, .null])), (q1, .inr (1, [.ref q2, .int (5 : Int32), .int (1 : Int32), .int (1 : Int32), .int (1 : Int32), .int (1 : Int32)])), (q2, .inl (c3, 27, .inl (upd (upd (upd (upd (upd (upd (upd (upd (upd (fun _ => 0) 0 (1000 : Int32)) 4 (1000 : Int32)) 8 (1000 : Int32)) 9 (1000 : Int32)) 13 (1000 : Int32)) 17 (1000 : Int32)) 18 (1000 : Int32)) 22 (1000 : Int32)) 26 (1000 : Int32))))] H := hP
  have hD : va_D A [(h0, .inr (5, [.null, .null, .null])), (q1, .inr (1, [.ref q2, .int (5 : Int32), .int (1 : Int32), .int (1 : Int32), .int (1 : Int32), .int (1 : Int32)])), (q2, .inl (c3, 27, .inl (upd (upd (upd (upd (upd (upd (upd (upd (upd (fun _ => 0) 0 (1000 : Int32)) 4 (1000 : Int32)) 8 (1000 : Int32)) 9 (1000 : Int32)) 13 (1000 : Int32)) 17 (1000 : Int32)) 18 (1000 : Int32)) 22 (1000 : Int32)) 26 (1000 : Int32))))] := hD
  have hK : va_K (dC, dI) xcl [(c3, .int)] s := hK
  refine W.widen (k := 2) (n := 33) (by omega) (by omega) ?_
  refine va_putF (pc := 12) (D := (dC, dI)) (ci := 5) (v := .ref q1) (ty := .object "ColoursApart$Eyes") (C := R_Ke) (T := T_Ke) (N := 3) hx hb hts xi_Ke ty_Ke tyok_Ke nm_Ke hown hK hP hD hS 0 rfl rfl 0 (by decide) (hts _ xl_Ke_12) (fun _ h9 => h9) rfl hin rfl (by decide +kernel) rfl rfl (Nat.le_of_ble_eq_true rfl) xd_Ke_init_12 (fun H locs hP hD hS => ?_)
  have hP : va_P (dC, dI) xcl [(h0, .inr (5, [.ref q1, .null, .null])), (q1, .inr (1, [.ref q2, .int (5 : Int32), .int (1 : Int32), .int (1 : Int32), .int (1 : Int32), .int (1 : Int32)])), (q2, .inl (c3, 27, .inl (upd (upd (upd (upd (upd (upd (upd (upd (upd (fun _ => 0) 0 (1000 : Int32)) 4 (1000 : Int32)) 8 (1000 : Int32)) 9 (1000 : Int32)) 13 (1000 : Int32)) 17 (1000 : Int32)) 18 (1000 : Int32)) 22 (1000 : Int32)) 26 (1000 : Int32))))] H := hP
  have hD : va_D A [(h0, .inr (5, [.ref q1, .null, .null])), (q1, .inr (1, [.ref q2, .int (5 : Int32), .int (1 : Int32), .int (1 : Int32), .int (1 : Int32), .int (1 : Int32)])), (q2, .inl (c3, 27, .inl (upd (upd (upd (upd (upd (upd (upd (upd (upd (fun _ => 0) 0 (1000 : Int32)) 4 (1000 : Int32)) 8 (1000 : Int32)) 9 (1000 : Int32)) 13 (1000 : Int32)) 17 (1000 : Int32)) 18 (1000 : Int32)) 22 (1000 : Int32)) 26 (1000 : Int32))))] := hD
  refine lv_aload_n (pc := 15) hx hb xd_Ke_init_15 rfl (lv_at hl 0 rfl) ?_
  refine va_new (pc := 16) (ci := 4) (fs := [.int 0, .null, .null, .null, .null, .null, .int 0, .null, .null, .null]) (C := R_Ho) (T := T_Ho) (N := 10) hx hb hts xi_Ho ty_Ho tyok_Ho hown (hts _ xcl_Ke_18) (hts _ xis_Ho) (hts _ xin_Ho) hK hP hD hS hA rfl (xbl_Ho) (Nat.le_of_ble_eq_true rfl) (Nat.le_of_ble_eq_true rfl) xd_Ke_init_16 (fun q4 H hP hD hS => ?_)
  have hP : va_P (dC, dI) xcl [(h0, .inr (5, [.ref q1, .null, .null])), (q1, .inr (1, [.ref q2, .int (5 : Int32), .int (1 : Int32), .int (1 : Int32), .int (1 : Int32), .int (1 : Int32)])), (q2, .inl (c3, 27, .inl (upd (upd (upd (upd (upd (upd (upd (upd (upd (fun _ => 0) 0 (1000 : Int32)) 4 (1000 : Int32)) 8 (1000 : Int32)) 9 (1000 : Int32)) 13 (1000 : Int32)) 17 (1000 : Int32)) 18 (1000 : Int32)) 22 (1000 : Int32)) 26 (1000 : Int32)))), (q4, .inr (4, [.int 0, .null, .null, .null, .null, .null, .int 0, .null, .null, .null]))] H := hP
  have hD : va_D A [(h0, .inr (5, [.ref q1, .null, .null])), (q1, .inr (1, [.ref q2, .int (5 : Int32), .int (1 : Int32), .int (1 : Int32), .int (1 : Int32), .int (1 : Int32)])), (q2, .inl (c3, 27, .inl (upd (upd (upd (upd (upd (upd (upd (upd (upd (fun _ => 0) 0 (1000 : Int32)) 4 (1000 : Int32)) 8 (1000 : Int32)) 9 (1000 : Int32)) 13 (1000 : Int32)) 17 (1000 : Int32)) 18 (1000 : Int32)) 22 (1000 : Int32)) 26 (1000 : Int32)))), (q4, .inr (4, [.int 0, .null, .null, .null, .null, .null, .int 0, .null, .null, .null]))] := hD
  refine W.widen (k := 3) (n := 43) (by omega) (by omega) ?_
  refine lv_dup (pc := 19) hx hb xd_Ke_init_19 rfl ?_
  have hPc := hP.sub (ws' := [(q4, .inr (4, [.int 0, .null, .null, .null, .null, .null, .int 0, .null, .null, .null]))]) [3] rfl
  have hDc := hD.sub (ws' := [(q4, .inr (4, [.int 0, .null, .null, .null, .null, .null, .int 0, .null, .null, .null]))]) [3] (by decide) rfl
  have hKc := hK.sub (tys' := []) [] rfl
  have hFc := va_free (wc := [(q4, .inr (4, [.int 0, .null, .null, .null, .null, .null, .int 0, .null, .null, .null]))]) hD hS hA [3] rfl
  refine va_callv (va_runI (Ts := xTG) (As := []) (rest := [.ref q4, .ref h0]) ⟨hx, hb, hml, hown, hts⟩ (ci_Ho l dC dI q4 H.size) (cwI 0 hts (xgood (xcons xcw_Ho_init)) rfl rfl rfl (hts _ xin_Ho) (hts _ xnl_Ke_20) (hts _ xiw_Ho_init) rfl ⟨by decide, by decide, rfl⟩ ⟨Nat.le_of_ble_eq_true rfl, Nat.le_of_ble_eq_true rfl⟩) ⟨xI.blind, fun U hU hW => ⟨rfl, by rw [hU], by rw [hU]; exact hPc, va_K.moved hW.alike hKc, hNA.warm hW, hDc.weaken (fun _ _ _ _ => trivial)⟩⟩ rfl rfl hl.1 rfl (lv_room (Nat.le_of_ble_eq_true rfl)) xd_Ke_init_20 ⟨Nat.le_of_ble_eq_true rfl, Nat.le_of_ble_eq_true rfl⟩) hS (fun q _ h => hFc q h) hFc (fun u t H1 locs ht hvm hw hB hz1 hk1 hS => ?_)
  obtain ⟨q5, q6, q7, q8, q9, q10, q11, q12, c13, c14, c15, c16, c17, c18, c19, c20, hP1, hK1, hD1⟩ := hB
  rw [ht] at hP1
  have hK1 := va_K.moved hvm.symm hK1
  obtain ⟨hP, hD⟩ := va_join (wr := [(h0, .inr (5, [.ref q1, .null, .null])), (q1, .inr (1, [.ref q2, .int (5 : Int32), .int (1 : Int32), .int (1 : Int32), .int (1 : Int32), .int (1 : Int32)])), (q2, .inl (c3, 27, .inl (upd (upd (upd (upd (upd (upd (upd (upd (upd (fun _ => 0) 0 (1000 : Int32)) 4 (1000 : Int32)) 8 (1000 : Int32)) 9 (1000 : Int32)) 13 (1000 : Int32)) 17 (1000 : Int32)) 18 (1000 : Int32)) 22 (1000 : Int32)) 26 (1000 : Int32))))]) (w1 := [(q4, .inr (4, [.int (0 : Int32), .ref q5, .ref q6, .ref q7, .ref q8, .ref q9, .int (0 : Int32), .ref q10, .ref q11, .ref q12])), (q5, .inl (c13, 12, .inl (fun _ => 0))), (q6, .inl (c14, 12, .inl (fun _ => 0))), (q7, .inl (c15, 12, .inl (fun _ => 0))), (q8, .inl (c16, 8, .inl (fun _ => 0))), (q9, .inl (c17, 8, .inl (upd (upd (upd (upd (upd (upd (upd (upd (fun _ => 0) 0 (16777215 : Int32)) 1 (16777215 : Int32)) 2 (16777215 : Int32)) 3 (16777215 : Int32)) 4 (16777215 : Int32)) 5 (16777215 : Int32)) 6 (16777215 : Int32)) 7 (16777215 : Int32)))), (q10, .inl (c18, 20, .inl (fun _ => 0))), (q11, .inl (c19, 20, .inl (fun _ => 0))), (q12, .inl (c20, 20, .inl (fun _ => 0)))]) hP hD [3] [0, 1, 2] rfl rfl (by decide) (by decide) hk1 hFc hP1 hD1
  have hK := (hK.sub (tys' := [(c3, .int)]) [0] rfl).app hK1
  generalize H1 = H at hP hS ⊢
  have hP : va_P (dC, dI) xcl [(h0, .inr (5, [.ref q1, .null, .null])), (q1, .inr (1, [.ref q2, .int (5 : Int32), .int (1 : Int32), .int (1 : Int32), .int (1 : Int32), .int (1 : Int32)])), (q2, .inl (c3, 27, .inl (upd (upd (upd (upd (upd (upd (upd (upd (upd (fun _ => 0) 0 (1000 : Int32)) 4 (1000 : Int32)) 8 (1000 : Int32)) 9 (1000 : Int32)) 13 (1000 : Int32)) 17 (1000 : Int32)) 18 (1000 : Int32)) 22 (1000 : Int32)) 26 (1000 : Int32)))), (q4, .inr (4, [.int (0 : Int32), .ref q5, .ref q6, .ref q7, .ref q8, .ref q9, .int (0 : Int32), .ref q10, .ref q11, .ref q12])), (q5, .inl (c13, 12, .inl (fun _ => 0))), (q6, .inl (c14, 12, .inl (fun _ => 0))), (q7, .inl (c15, 12, .inl (fun _ => 0))), (q8, .inl (c16, 8, .inl (fun _ => 0))), (q9, .inl (c17, 8, .inl (upd (upd (upd (upd (upd (upd (upd (upd (fun _ => 0) 0 (16777215 : Int32)) 1 (16777215 : Int32)) 2 (16777215 : Int32)) 3 (16777215 : Int32)) 4 (16777215 : Int32)) 5 (16777215 : Int32)) 6 (16777215 : Int32)) 7 (16777215 : Int32)))), (q10, .inl (c18, 20, .inl (fun _ => 0))), (q11, .inl (c19, 20, .inl (fun _ => 0))), (q12, .inl (c20, 20, .inl (fun _ => 0)))] H := hP
  have hD : va_D A [(h0, .inr (5, [.ref q1, .null, .null])), (q1, .inr (1, [.ref q2, .int (5 : Int32), .int (1 : Int32), .int (1 : Int32), .int (1 : Int32), .int (1 : Int32)])), (q2, .inl (c3, 27, .inl (upd (upd (upd (upd (upd (upd (upd (upd (upd (fun _ => 0) 0 (1000 : Int32)) 4 (1000 : Int32)) 8 (1000 : Int32)) 9 (1000 : Int32)) 13 (1000 : Int32)) 17 (1000 : Int32)) 18 (1000 : Int32)) 22 (1000 : Int32)) 26 (1000 : Int32)))), (q4, .inr (4, [.int (0 : Int32), .ref q5, .ref q6, .ref q7, .ref q8, .ref q9, .int (0 : Int32), .ref q10, .ref q11, .ref q12])), (q5, .inl (c13, 12, .inl (fun _ => 0))), (q6, .inl (c14, 12, .inl (fun _ => 0))), (q7, .inl (c15, 12, .inl (fun _ => 0))), (q8, .inl (c16, 8, .inl (fun _ => 0))), (q9, .inl (c17, 8, .inl (upd (upd (upd (upd (upd (upd (upd (upd (fun _ => 0) 0 (16777215 : Int32)) 1 (16777215 : Int32)) 2 (16777215 : Int32)) 3 (16777215 : Int32)) 4 (16777215 : Int32)) 5 (16777215 : Int32)) 6 (16777215 : Int32)) 7 (16777215 : Int32)))), (q10, .inl (c18, 20, .inl (fun _ => 0))), (q11, .inl (c19, 20, .inl (fun _ => 0))), (q12, .inl (c20, 20, .inl (fun _ => 0)))] := hD
  have hK : va_K (dC, dI) xcl [(c3, .int), (c13, .int), (c14, .boolean), (c15, .int), (c16, .int), (c17, .int), (c18, .int), (c19, .int), (c20, .int)] s := hK
  refine W.widen (k := 11) (n := 155) (by omega) (by omega) ?_
  refine va_putF (pc := 23) (D := (dC, dI)) (ci := 5) (v := .ref q4) (ty := .object "ColoursApart$House") (C := R_Ke) (T := T_Ke) (N := 3) hx hb hts xi_Ke ty_Ke tyok_Ke nm_Ke hown hK hP hD hS 0 rfl rfl 1 (by decide) (hts _ xl_Ke_21) (fun _ h9 => h9) rfl hin rfl (by decide +kernel) rfl rfl (Nat.le_of_ble_eq_true rfl) xd_Ke_init_23 (fun H locs hP hD hS => ?_)
  have hP : va_P (dC, dI) xcl [(h0, .inr (5, [.ref q1, .ref q4, .null])), (q1, .inr (1, [.ref q2, .int (5 : Int32), .int (1 : Int32), .int (1 : Int32), .int (1 : Int32), .int (1 : Int32)])), (q2, .inl (c3, 27, .inl (upd (upd (upd (upd (upd (upd (upd (upd (upd (fun _ => 0) 0 (1000 : Int32)) 4 (1000 : Int32)) 8 (1000 : Int32)) 9 (1000 : Int32)) 13 (1000 : Int32)) 17 (1000 : Int32)) 18 (1000 : Int32)) 22 (1000 : Int32)) 26 (1000 : Int32)))), (q4, .inr (4, [.int (0 : Int32), .ref q5, .ref q6, .ref q7, .ref q8, .ref q9, .int (0 : Int32), .ref q10, .ref q11, .ref q12])), (q5, .inl (c13, 12, .inl (fun _ => 0))), (q6, .inl (c14, 12, .inl (fun _ => 0))), (q7, .inl (c15, 12, .inl (fun _ => 0))), (q8, .inl (c16, 8, .inl (fun _ => 0))), (q9, .inl (c17, 8, .inl (upd (upd (upd (upd (upd (upd (upd (upd (fun _ => 0) 0 (16777215 : Int32)) 1 (16777215 : Int32)) 2 (16777215 : Int32)) 3 (16777215 : Int32)) 4 (16777215 : Int32)) 5 (16777215 : Int32)) 6 (16777215 : Int32)) 7 (16777215 : Int32)))), (q10, .inl (c18, 20, .inl (fun _ => 0))), (q11, .inl (c19, 20, .inl (fun _ => 0))), (q12, .inl (c20, 20, .inl (fun _ => 0)))] H := hP
  have hD : va_D A [(h0, .inr (5, [.ref q1, .ref q4, .null])), (q1, .inr (1, [.ref q2, .int (5 : Int32), .int (1 : Int32), .int (1 : Int32), .int (1 : Int32), .int (1 : Int32)])), (q2, .inl (c3, 27, .inl (upd (upd (upd (upd (upd (upd (upd (upd (upd (fun _ => 0) 0 (1000 : Int32)) 4 (1000 : Int32)) 8 (1000 : Int32)) 9 (1000 : Int32)) 13 (1000 : Int32)) 17 (1000 : Int32)) 18 (1000 : Int32)) 22 (1000 : Int32)) 26 (1000 : Int32)))), (q4, .inr (4, [.int (0 : Int32), .ref q5, .ref q6, .ref q7, .ref q8, .ref q9, .int (0 : Int32), .ref q10, .ref q11, .ref q12])), (q5, .inl (c13, 12, .inl (fun _ => 0))), (q6, .inl (c14, 12, .inl (fun _ => 0))), (q7, .inl (c15, 12, .inl (fun _ => 0))), (q8, .inl (c16, 8, .inl (fun _ => 0))), (q9, .inl (c17, 8, .inl (upd (upd (upd (upd (upd (upd (upd (upd (fun _ => 0) 0 (16777215 : Int32)) 1 (16777215 : Int32)) 2 (16777215 : Int32)) 3 (16777215 : Int32)) 4 (16777215 : Int32)) 5 (16777215 : Int32)) 6 (16777215 : Int32)) 7 (16777215 : Int32)))), (q10, .inl (c18, 20, .inl (fun _ => 0))), (q11, .inl (c19, 20, .inl (fun _ => 0))), (q12, .inl (c20, 20, .inl (fun _ => 0)))] := hD
  refine lv_aload_n (pc := 26) hx hb xd_Ke_init_26 rfl (lv_at hl 0 rfl) ?_
  refine va_new (pc := 27) (ci := 2) (fs := [.int 0]) (C := R_Gr) (T := T_Gr) (N := 1) hx hb hts xi_Gr ty_Gr tyok_Gr hown (hts _ xcl_Ke_25) (hts _ xis_Gr) (hts _ xin_Gr) hK hP hD hS hA rfl (xbl_Gr) (Nat.le_of_ble_eq_true rfl) (Nat.le_of_ble_eq_true rfl) xd_Ke_init_27 (fun q21 H hP hD hS => ?_)
  have hP : va_P (dC, dI) xcl [(h0, .inr (5, [.ref q1, .ref q4, .null])), (q1, .inr (1, [.ref q2, .int (5 : Int32), .int (1 : Int32), .int (1 : Int32), .int (1 : Int32), .int (1 : Int32)])), (q2, .inl (c3, 27, .inl (upd (upd (upd (upd (upd (upd (upd (upd (upd (fun _ => 0) 0 (1000 : Int32)) 4 (1000 : Int32)) 8 (1000 : Int32)) 9 (1000 : Int32)) 13 (1000 : Int32)) 17 (1000 : Int32)) 18 (1000 : Int32)) 22 (1000 : Int32)) 26 (1000 : Int32)))), (q4, .inr (4, [.int (0 : Int32), .ref q5, .ref q6, .ref q7, .ref q8, .ref q9, .int (0 : Int32), .ref q10, .ref q11, .ref q12])), (q5, .inl (c13, 12, .inl (fun _ => 0))), (q6, .inl (c14, 12, .inl (fun _ => 0))), (q7, .inl (c15, 12, .inl (fun _ => 0))), (q8, .inl (c16, 8, .inl (fun _ => 0))), (q9, .inl (c17, 8, .inl (upd (upd (upd (upd (upd (upd (upd (upd (fun _ => 0) 0 (16777215 : Int32)) 1 (16777215 : Int32)) 2 (16777215 : Int32)) 3 (16777215 : Int32)) 4 (16777215 : Int32)) 5 (16777215 : Int32)) 6 (16777215 : Int32)) 7 (16777215 : Int32)))), (q10, .inl (c18, 20, .inl (fun _ => 0))), (q11, .inl (c19, 20, .inl (fun _ => 0))), (q12, .inl (c20, 20, .inl (fun _ => 0))), (q21, .inr (2, [.int 0]))] H := hP
  have hD : va_D A [(h0, .inr (5, [.ref q1, .ref q4, .null])), (q1, .inr (1, [.ref q2, .int (5 : Int32), .int (1 : Int32), .int (1 : Int32), .int (1 : Int32), .int (1 : Int32)])), (q2, .inl (c3, 27, .inl (upd (upd (upd (upd (upd (upd (upd (upd (upd (fun _ => 0) 0 (1000 : Int32)) 4 (1000 : Int32)) 8 (1000 : Int32)) 9 (1000 : Int32)) 13 (1000 : Int32)) 17 (1000 : Int32)) 18 (1000 : Int32)) 22 (1000 : Int32)) 26 (1000 : Int32)))), (q4, .inr (4, [.int (0 : Int32), .ref q5, .ref q6, .ref q7, .ref q8, .ref q9, .int (0 : Int32), .ref q10, .ref q11, .ref q12])), (q5, .inl (c13, 12, .inl (fun _ => 0))), (q6, .inl (c14, 12, .inl (fun _ => 0))), (q7, .inl (c15, 12, .inl (fun _ => 0))), (q8, .inl (c16, 8, .inl (fun _ => 0))), (q9, .inl (c17, 8, .inl (upd (upd (upd (upd (upd (upd (upd (upd (fun _ => 0) 0 (16777215 : Int32)) 1 (16777215 : Int32)) 2 (16777215 : Int32)) 3 (16777215 : Int32)) 4 (16777215 : Int32)) 5 (16777215 : Int32)) 6 (16777215 : Int32)) 7 (16777215 : Int32)))), (q10, .inl (c18, 20, .inl (fun _ => 0))), (q11, .inl (c19, 20, .inl (fun _ => 0))), (q12, .inl (c20, 20, .inl (fun _ => 0))), (q21, .inr (2, [.int 0]))] := hD
  refine W.widen (k := 12) (n := 156) (by omega) (by omega) ?_
  refine lv_dup (pc := 30) hx hb xd_Ke_init_30 rfl ?_
  have hPc := hP.sub (ws' := [(q21, .inr (2, [.int 0]))]) [12] rfl
  have hDc := hD.sub (ws' := [(q21, .inr (2, [.int 0]))]) [12] (by decide) rfl
  have hKc := hK.sub (tys' := []) [] rfl
  have hFc := va_free (wc := [(q21, .inr (2, [.int 0]))]) hD hS hA [12] rfl
  refine va_callv (va_runIN (Ts := xTG) (As := []) (rest := [.ref q21, .ref h0]) ⟨hx, hb, hml, hown, hts⟩ (ci_Gr l dC dI q21 H.size) ⟨va_cnB 0 hts (xgood (xcons xcw_Gr_init)) rfl rfl rfl (hNA.1 _ xnl_Ke_27) (hts _ xin_Gr) ⟨by decide, by decide, rfl⟩ ⟨Nat.le_of_ble_eq_true rfl, Nat.le_of_ble_eq_true rfl⟩, rfl, hts _ xiw_Gr_init⟩ ⟨xI.blind, fun U hU hW => ⟨rfl, by rw [hU], by rw [hU]; exact hPc, va_K.moved hW.alike hKc, hNA.warm hW, hDc.weaken (fun _ _ _ _ => trivial)⟩⟩ rfl rfl hl.1 rfl (lv_room (Nat.le_of_ble_eq_true rfl)) xd_Ke_init_31 ⟨Nat.le_of_ble_eq_true rfl, Nat.le_of_ble_eq_true rfl⟩) hS (fun q _ h => hFc q h) hFc (fun u t H1 locs ht hvm hw hB hz1 hk1 hS => ?_)
  obtain ⟨hP1, hK1, hD1⟩ := hB
  rw [ht] at hP1
  have hK1 := va_K.moved hvm.symm hK1
  obtain ⟨hP, hD⟩ := va_join (wr := [(h0, .inr (5, [.ref q1, .ref q4, .null])), (q1, .inr (1, [.ref q2, .int (5 : Int32), .int (1 : Int32), .int (1 : Int32), .int (1 : Int32), .int (1 : Int32)])), (q2, .inl (c3, 27, .inl (upd (upd (upd (upd (upd (upd (upd (upd (upd (fun _ => 0) 0 (1000 : Int32)) 4 (1000 : Int32)) 8 (1000 : Int32)) 9 (1000 : Int32)) 13 (1000 : Int32)) 17 (1000 : Int32)) 18 (1000 : Int32)) 22 (1000 : Int32)) 26 (1000 : Int32)))), (q4, .inr (4, [.int (0 : Int32), .ref q5, .ref q6, .ref q7, .ref q8, .ref q9, .int (0 : Int32), .ref q10, .ref q11, .ref q12])), (q5, .inl (c13, 12, .inl (fun _ => 0))), (q6, .inl (c14, 12, .inl (fun _ => 0))), (q7, .inl (c15, 12, .inl (fun _ => 0))), (q8, .inl (c16, 8, .inl (fun _ => 0))), (q9, .inl (c17, 8, .inl (upd (upd (upd (upd (upd (upd (upd (upd (fun _ => 0) 0 (16777215 : Int32)) 1 (16777215 : Int32)) 2 (16777215 : Int32)) 3 (16777215 : Int32)) 4 (16777215 : Int32)) 5 (16777215 : Int32)) 6 (16777215 : Int32)) 7 (16777215 : Int32)))), (q10, .inl (c18, 20, .inl (fun _ => 0))), (q11, .inl (c19, 20, .inl (fun _ => 0))), (q12, .inl (c20, 20, .inl (fun _ => 0)))]) (w1 := [(q21, .inr (2, [.int (3 : Int32)]))]) hP hD [12] [0, 1, 2, 3, 4, 5, 6, 7, 8, 9, 10, 11] rfl rfl (by decide) (by decide) hk1 hFc hP1 hD1
  have hK := (hK.sub (tys' := [(c3, .int), (c13, .int), (c14, .boolean), (c15, .int), (c16, .int), (c17, .int), (c18, .int), (c19, .int), (c20, .int)]) [0, 1, 2, 3, 4, 5, 6, 7, 8] rfl).app hK1
  generalize H1 = H at hP hS ⊢
  have hP : va_P (dC, dI) xcl [(h0, .inr (5, [.ref q1, .ref q4, .null])), (q1, .inr (1, [.ref q2, .int (5 : Int32), .int (1 : Int32), .int (1 : Int32), .int (1 : Int32), .int (1 : Int32)])), (q2, .inl (c3, 27, .inl (upd (upd (upd (upd (upd (upd (upd (upd (upd (fun _ => 0) 0 (1000 : Int32)) 4 (1000 : Int32)) 8 (1000 : Int32)) 9 (1000 : Int32)) 13 (1000 : Int32)) 17 (1000 : Int32)) 18 (1000 : Int32)) 22 (1000 : Int32)) 26 (1000 : Int32)))), (q4, .inr (4, [.int (0 : Int32), .ref q5, .ref q6, .ref q7, .ref q8, .ref q9, .int (0 : Int32), .ref q10, .ref q11, .ref q12])), (q5, .inl (c13, 12, .inl (fun _ => 0))), (q6, .inl (c14, 12, .inl (fun _ => 0))), (q7, .inl (c15, 12, .inl (fun _ => 0))), (q8, .inl (c16, 8, .inl (fun _ => 0))), (q9, .inl (c17, 8, .inl (upd (upd (upd (upd (upd (upd (upd (upd (fun _ => 0) 0 (16777215 : Int32)) 1 (16777215 : Int32)) 2 (16777215 : Int32)) 3 (16777215 : Int32)) 4 (16777215 : Int32)) 5 (16777215 : Int32)) 6 (16777215 : Int32)) 7 (16777215 : Int32)))), (q10, .inl (c18, 20, .inl (fun _ => 0))), (q11, .inl (c19, 20, .inl (fun _ => 0))), (q12, .inl (c20, 20, .inl (fun _ => 0))), (q21, .inr (2, [.int (3 : Int32)]))] H := hP
  have hD : va_D A [(h0, .inr (5, [.ref q1, .ref q4, .null])), (q1, .inr (1, [.ref q2, .int (5 : Int32), .int (1 : Int32), .int (1 : Int32), .int (1 : Int32), .int (1 : Int32)])), (q2, .inl (c3, 27, .inl (upd (upd (upd (upd (upd (upd (upd (upd (upd (fun _ => 0) 0 (1000 : Int32)) 4 (1000 : Int32)) 8 (1000 : Int32)) 9 (1000 : Int32)) 13 (1000 : Int32)) 17 (1000 : Int32)) 18 (1000 : Int32)) 22 (1000 : Int32)) 26 (1000 : Int32)))), (q4, .inr (4, [.int (0 : Int32), .ref q5, .ref q6, .ref q7, .ref q8, .ref q9, .int (0 : Int32), .ref q10, .ref q11, .ref q12])), (q5, .inl (c13, 12, .inl (fun _ => 0))), (q6, .inl (c14, 12, .inl (fun _ => 0))), (q7, .inl (c15, 12, .inl (fun _ => 0))), (q8, .inl (c16, 8, .inl (fun _ => 0))), (q9, .inl (c17, 8, .inl (upd (upd (upd (upd (upd (upd (upd (upd (fun _ => 0) 0 (16777215 : Int32)) 1 (16777215 : Int32)) 2 (16777215 : Int32)) 3 (16777215 : Int32)) 4 (16777215 : Int32)) 5 (16777215 : Int32)) 6 (16777215 : Int32)) 7 (16777215 : Int32)))), (q10, .inl (c18, 20, .inl (fun _ => 0))), (q11, .inl (c19, 20, .inl (fun _ => 0))), (q12, .inl (c20, 20, .inl (fun _ => 0))), (q21, .inr (2, [.int (3 : Int32)]))] := hD
  have hK : va_K (dC, dI) xcl [(c3, .int), (c13, .int), (c14, .boolean), (c15, .int), (c16, .int), (c17, .int), (c18, .int), (c19, .int), (c20, .int)] s := hK
  refine W.widen (k := 12) (n := 156) (by omega) (by omega) ?_
  refine va_putF (pc := 34) (D := (dC, dI)) (ci := 5) (v := .ref q21) (ty := .object "ColoursApart$Grid") (C := R_Ke) (T := T_Ke) (N := 3) hx hb hts xi_Ke ty_Ke tyok_Ke nm_Ke hown hK hP hD hS 0 rfl rfl 2 (by decide) (hts _ xl_Ke_28) (fun _ h9 => h9) rfl hin rfl (by decide +kernel) rfl rfl (Nat.le_of_ble_eq_true rfl) xd_Ke_init_34 (fun H locs hP hD hS => ?_)
  have hP : va_P (dC, dI) xcl [(h0, .inr (5, [.ref q1, .ref q4, .ref q21])), (q1, .inr (1, [.ref q2, .int (5 : Int32), .int (1 : Int32), .int (1 : Int32), .int (1 : Int32), .int (1 : Int32)])), (q2, .inl (c3, 27, .inl (upd (upd (upd (upd (upd (upd (upd (upd (upd (fun _ => 0) 0 (1000 : Int32)) 4 (1000 : Int32)) 8 (1000 : Int32)) 9 (1000 : Int32)) 13 (1000 : Int32)) 17 (1000 : Int32)) 18 (1000 : Int32)) 22 (1000 : Int32)) 26 (1000 : Int32)))), (q4, .inr (4, [.int (0 : Int32), .ref q5, .ref q6, .ref q7, .ref q8, .ref q9, .int (0 : Int32), .ref q10, .ref q11, .ref q12])), (q5, .inl (c13, 12, .inl (fun _ => 0))), (q6, .inl (c14, 12, .inl (fun _ => 0))), (q7, .inl (c15, 12, .inl (fun _ => 0))), (q8, .inl (c16, 8, .inl (fun _ => 0))), (q9, .inl (c17, 8, .inl (upd (upd (upd (upd (upd (upd (upd (upd (fun _ => 0) 0 (16777215 : Int32)) 1 (16777215 : Int32)) 2 (16777215 : Int32)) 3 (16777215 : Int32)) 4 (16777215 : Int32)) 5 (16777215 : Int32)) 6 (16777215 : Int32)) 7 (16777215 : Int32)))), (q10, .inl (c18, 20, .inl (fun _ => 0))), (q11, .inl (c19, 20, .inl (fun _ => 0))), (q12, .inl (c20, 20, .inl (fun _ => 0))), (q21, .inr (2, [.int (3 : Int32)]))] H := hP
  have hD : va_D A [(h0, .inr (5, [.ref q1, .ref q4, .ref q21])), (q1, .inr (1, [.ref q2, .int (5 : Int32), .int (1 : Int32), .int (1 : Int32), .int (1 : Int32), .int (1 : Int32)])), (q2, .inl (c3, 27, .inl (upd (upd (upd (upd (upd (upd (upd (upd (upd (fun _ => 0) 0 (1000 : Int32)) 4 (1000 : Int32)) 8 (1000 : Int32)) 9 (1000 : Int32)) 13 (1000 : Int32)) 17 (1000 : Int32)) 18 (1000 : Int32)) 22 (1000 : Int32)) 26 (1000 : Int32)))), (q4, .inr (4, [.int (0 : Int32), .ref q5, .ref q6, .ref q7, .ref q8, .ref q9, .int (0 : Int32), .ref q10, .ref q11, .ref q12])), (q5, .inl (c13, 12, .inl (fun _ => 0))), (q6, .inl (c14, 12, .inl (fun _ => 0))), (q7, .inl (c15, 12, .inl (fun _ => 0))), (q8, .inl (c16, 8, .inl (fun _ => 0))), (q9, .inl (c17, 8, .inl (upd (upd (upd (upd (upd (upd (upd (upd (fun _ => 0) 0 (16777215 : Int32)) 1 (16777215 : Int32)) 2 (16777215 : Int32)) 3 (16777215 : Int32)) 4 (16777215 : Int32)) 5 (16777215 : Int32)) 6 (16777215 : Int32)) 7 (16777215 : Int32)))), (q10, .inl (c18, 20, .inl (fun _ => 0))), (q11, .inl (c19, 20, .inl (fun _ => 0))), (q12, .inl (c20, 20, .inl (fun _ => 0))), (q21, .inr (2, [.int (3 : Int32)]))] := hD
  have hP9 := hP.sub (ws' := [(h0, .inr (5, [.ref q1, .ref q4, .ref q21])), (q1, .inr (1, [.ref q2, .int (5 : Int32), .int (1 : Int32), .int (1 : Int32), .int (1 : Int32), .int (1 : Int32)])), (q2, .inl (c3, 27, .inl (upd (upd (upd (upd (upd (upd (upd (upd (upd (fun _ => 0) 0 (1000 : Int32)) 4 (1000 : Int32)) 8 (1000 : Int32)) 9 (1000 : Int32)) 13 (1000 : Int32)) 17 (1000 : Int32)) 18 (1000 : Int32)) 22 (1000 : Int32)) 26 (1000 : Int32)))), (q4, .inr (4, [.int (0 : Int32), .ref q5, .ref q6, .ref q7, .ref q8, .ref q9, .int (0 : Int32), .ref q10, .ref q11, .ref q12])), (q5, .inl (c13, 12, .inl (fun _ => 0))), (q6, .inl (c14, 12, .inl (fun _ => 0))), (q7, .inl (c15, 12, .inl (fun _ => 0))), (q8, .inl (c16, 8, .inl (fun _ => 0))), (q9, .inl (c17, 8, .inl (upd (upd (upd (upd (upd (upd (upd (upd (fun _ => 0) 0 (16777215 : Int32)) 1 (16777215 : Int32)) 2 (16777215 : Int32)) 3 (16777215 : Int32)) 4 (16777215 : Int32)) 5 (16777215 : Int32)) 6 (16777215 : Int32)) 7 (16777215 : Int32)))), (q10, .inl (c18, 20, .inl (fun _ => 0))), (q11, .inl (c19, 20, .inl (fun _ => 0))), (q12, .inl (c20, 20, .inl (fun _ => 0))), (q21, .inr (2, [.int (3 : Int32)]))]) [0, 1, 2, 3, 4, 5, 6, 7, 8, 9, 10, 11, 12] rfl
  have hD9 := hD.sub (ws' := [(h0, .inr (5, [.ref q1, .ref q4, .ref q21])), (q1, .inr (1, [.ref q2, .int (5 : Int32), .int (1 : Int32), .int (1 : Int32), .int (1 : Int32), .int (1 : Int32)])), (q2, .inl (c3, 27, .inl (upd (upd (upd (upd (upd (upd (upd (upd (upd (fun _ => 0) 0 (1000 : Int32)) 4 (1000 : Int32)) 8 (1000 : Int32)) 9 (1000 : Int32)) 13 (1000 : Int32)) 17 (1000 : Int32)) 18 (1000 : Int32)) 22 (1000 : Int32)) 26 (1000 : Int32)))), (q4, .inr (4, [.int (0 : Int32), .ref q5, .ref q6, .ref q7, .ref q8, .ref q9, .int (0 : Int32), .ref q10, .ref q11, .ref q12])), (q5, .inl (c13, 12, .inl (fun _ => 0))), (q6, .inl (c14, 12, .inl (fun _ => 0))), (q7, .inl (c15, 12, .inl (fun _ => 0))), (q8, .inl (c16, 8, .inl (fun _ => 0))), (q9, .inl (c17, 8, .inl (upd (upd (upd (upd (upd (upd (upd (upd (fun _ => 0) 0 (16777215 : Int32)) 1 (16777215 : Int32)) 2 (16777215 : Int32)) 3 (16777215 : Int32)) 4 (16777215 : Int32)) 5 (16777215 : Int32)) 6 (16777215 : Int32)) 7 (16777215 : Int32)))), (q10, .inl (c18, 20, .inl (fun _ => 0))), (q11, .inl (c19, 20, .inl (fun _ => 0))), (q12, .inl (c20, 20, .inl (fun _ => 0))), (q21, .inr (2, [.int (3 : Int32)]))]) [0, 1, 2, 3, 4, 5, 6, 7, 8, 9, 10, 11, 12] (by decide) rfl
  refine W.widen (k := 12) (n := 156) (by omega) (by omega) ?_
  exact W.vret hx hb hr (fun t ht hW => ⟨⟨(), rfl, trivial, q1, q2, q4, q5, q6, q7, q8, q9, q10, q11, q12, q21, c3, c13, c14, c15, c16, c17, c18, c19, c20, by rw [ht]; exact hP9, va_K.moved hW.alike hK, hD9⟩, hS.F ht⟩) hS.2.2 xd_Ke_init_37

/-! the constructor of ColoursApart$Chooser -/
theorem xd_Ch_init_0 : decode b_Ch_init 0 = .ok (.aload_n 0, 1) := by decide +kernel
theorem xd_Ch_init_1 : decode b_Ch_init 1 = .ok (.invokespecial 3, 3) := by decide +kernel
theorem xd_Ch_init_4 : decode b_Ch_init 4 = .ok (.aload_n 0, 1) := by decide +kernel
theorem xd_Ch_init_5 : decode b_Ch_init 5 = .ok (.sipush 384, 3) := by decide +kernel
theorem xd_Ch_init_8 : decode b_Ch_init 8 = .ok (.newarray .int, 2) := by decide +kernel
theorem xd_Ch_init_10 : decode b_Ch_init 10 = .ok (.putfield 11, 3) := by decide +kernel
theorem xd_Ch_init_13 : decode b_Ch_init 13 = .ok (.aload_n 0, 1) := by decide +kernel
theorem xd_Ch_init_14 : decode b_Ch_init 14 = .ok (.bipush 6, 2) := by decide +kernel
theorem xd_Ch_init_16 : decode b_Ch_init 16 = .ok (.newarray .int, 2) := by decide +kernel
theorem xd_Ch_init_18 : decode b_Ch_init 18 = .ok (.putfield 17, 3) := by decide +kernel
theorem xd_Ch_init_21 : decode b_Ch_init 21 = .ok (.aload_n 0, 1) := by decide +kernel
theorem xd_Ch_init_22 : decode b_Ch_init 22 = .ok (.bipush 64, 2) := by decide +kernel
theorem xd_Ch_init_24 : decode b_Ch_init 24 = .ok (.newarray .int, 2) := by decide +kernel
theorem xd_Ch_init_26 : decode b_Ch_init 26 = .ok (.putfield 20, 3) := by decide +kernel
theorem xd_Ch_init_29 : decode b_Ch_init 29 = .ok (.aload_n 0, 1) := by decide +kernel
theorem xd_Ch_init_30 : decode b_Ch_init 30 = .ok (.sipush 4096, 3) := by decide +kernel
theorem xd_Ch_init_33 : decode b_Ch_init 33 = .ok (.newarray .int, 2) := by decide +kernel
theorem xd_Ch_init_35 : decode b_Ch_init 35 = .ok (.putfield 23, 3) := by decide +kernel
theorem xd_Ch_init_38 : decode b_Ch_init 38 = .ok (.aload_n 0, 1) := by decide +kernel
theorem xd_Ch_init_39 : decode b_Ch_init 39 = .ok (.iconst 5, 1) := by decide +kernel
theorem xd_Ch_init_40 : decode b_Ch_init 40 = .ok (.newarray .int, 2) := by decide +kernel
theorem xd_Ch_init_42 : decode b_Ch_init 42 = .ok (.putfield 26, 3) := by decide +kernel
theorem xd_Ch_init_45 : decode b_Ch_init 45 = .ok (.aload_n 0, 1) := by decide +kernel
theorem xd_Ch_init_46 : decode b_Ch_init 46 = .ok (.iconst 5, 1) := by decide +kernel
theorem xd_Ch_init_47 : decode b_Ch_init 47 = .ok (.newarray .int, 2) := by decide +kernel
theorem xd_Ch_init_49 : decode b_Ch_init 49 = .ok (.putfield 29, 3) := by decide +kernel
theorem xd_Ch_init_52 : decode b_Ch_init 52 = .ok (.aload_n 0, 1) := by decide +kernel
theorem xd_Ch_init_53 : decode b_Ch_init 53 = .ok (.iconst 0, 1) := by decide +kernel
theorem xd_Ch_init_54 : decode b_Ch_init 54 = .ok (.putfield 32, 3) := by decide +kernel
theorem xd_Ch_init_57 : decode b_Ch_init 57 = .ok (.aload_n 0, 1) := by decide +kernel
theorem xd_Ch_init_58 : decode b_Ch_init 58 = .ok (.iconst 0, 1) := by decide +kernel
theorem xd_Ch_init_59 : decode b_Ch_init 59 = .ok (.putfield 36, 3) := by decide +kernel
theorem xd_Ch_init_62 : decode b_Ch_init 62 = .ok (.aload_n 0, 1) := by decide +kernel
theorem xd_Ch_init_63 : decode b_Ch_init 63 = .ok (.iconst (-1), 1) := by decide +kernel
theorem xd_Ch_init_64 : decode b_Ch_init 64 = .ok (.putfield 39, 3) := by decide +kernel
theorem xd_Ch_init_67 : decode b_Ch_init 67 = .ok (.return_, 1) := by decide +kernel
abbrev rm_Ch_init : Room := { frames := 1, cells := 6, slots := 4560, locals := 40 }
def at_Ch (dC : Nat → ClassId) (dI : Nat → Nat → Nat) (A : Nat → Prop) (h0 : Nat) (_ : Unit) (t : State) : Prop := ∃ (q1 : Nat) (q3 : Nat) (q5 : Nat) (q7 : Nat) (q9 : Nat) (q11 : Nat) (c2 : ClassId) (c4 : ClassId) (c6 : ClassId) (c8 : ClassId) (c10 : ClassId) (c12 : ClassId) , va_P (dC, dI) xcl [(h0, .inr (0, [.ref q1, .ref q3, .ref q5, .ref q7, .ref q9, .ref q11, .int (0 : Int32), .int (0 : Int32), .int (-1 : Int32)])), (q1, .inl (c2, 384, .inl (fun _ => 0))), (q3, .inl (c4, 6, .inl (fun _ => 0))), (q5, .inl (c6, 64, .inl (fun _ => 0))), (q7, .inl (c8, 4096, .inl (fun _ => 0))), (q9, .inl (c10, 5, .inl (fun _ => 0))), (q11, .inl (c12, 5, .inl (fun _ => 0)))] t.heap ∧ va_K (dC, dI) xcl [(c2, .int), (c4, .int), (c6, .int), (c8, .int), (c10, .int), (c12, .int)] t ∧ va_D A [(h0, .inr (0, [.ref q1, .ref q3, .ref q5, .ref q7, .ref q9, .ref q11, .int (0 : Int32), .int (0 : Int32), .int (-1 : Int32)])), (q1, .inl (c2, 384, .inl (fun _ => 0))), (q3, .inl (c4, 6, .inl (fun _ => 0))), (q5, .inl (c6, 64, .inl (fun _ => 0))), (q7, .inl (c8, 4096, .inl (fun _ => 0))), (q9, .inl (c10, 5, .inl (fun _ => 0))), (q11, .inl (c12, 5, .inl (fun _ => 0)))]
set_option maxHeartbeats 8000000 in
set_option maxRecDepth 100000 in
theorem ci_Ch (l : Launch) (dC : Nat → ClassId) (dI : Nat → Nat → Nat) (h0 sz : Nat) : Met l y_Ch_init (Cond.code y_Ch_init b_Ch_init 1 none :: xTG) rm_Ch_init (va_Pc [.ref h0] (xI dC dI [(h0, .inr (0, [.null, .null, .null, .null, .null, .null, .int 0, .int 0, .int 0]))] sz)) (va_Qv (fun _ : Unit => True) (at_Ch dC dI (va_A [(h0, .inr (0, [.null, .null, .null, .null, .null, .null, .int 0, .int 0, .int 0]))] sz) h0) (va_A [(h0, .inr (0, [.null, .null, .null, .null, .null, .null, .int 0, .int 0, .int 0]))] sz)) 6 4560 (va_A [(h0, .inr (0, [.null, .null, .null, .null, .null, .null, .int 0, .int 0, .int 0]))] sz) := by
  refine Met.ofW (cc := b_Ch_init) (maxL := 1) (ret := none) (by decide) rfl ?_
  intro p e s m args below meth c s₁ B hml hv
  obtain ⟨rfl, hsz, hP, hK, hNA, hD0⟩ := hv
  have hx := B.exec
  have hb := B.bytes
  have hr := B.returns
  have hts0 := atoms_spec (ws := Cond.code y_Ch_init b_Ch_init 1 none :: xTG) B.pre
  have hts : ∀ w ∈ xTG, w.before ([.ref h0] : List Value).toArray s = true := fun w hw => hts0 w (List.mem_cons_of_mem _ hw)
  have hown : s.vm.findClass R_Ch = some m.cls := findClass_of_methodNamed B.named
  have hlocks := B.notSynchronized
  have hin : meth.name = "<init>" := (name_of_methodNamed B.named B.method).1
  subst hsz
  have hD := hD0.self (sz := s.heap.size)
  generalize hAe : va_A [(h0, .inr (0, [.null, .null, .null, .null, .null, .null, .int 0, .int 0, .int 0]))] s.heap.size = A at hD ⊢
  have hA : ∀ q : Nat, s.heap.size ≤ q → A q := fun q h => by rw [← hAe]; exact Or.inr h
  have hS : va_S A s.heap s.heap [] := va_S.rf
  have hl := lv_entry ([.ref h0]) (n := 1) (Nat.le_of_ble_eq_true rfl)
  rw [lg_entry_eq]
  generalize (lg_sl ([.ref h0]) ++ List.replicate (1 - (lg_sl ([.ref h0])).length) Slot.unset).toArray = ls at hl ⊢
  have hl : lv_has ls 1 [(0, .ref h0)] := hl
  refine lv_aload_n (pc := 0) hx hb xd_Ch_init_0 rfl (lv_at hl 0 rfl) ?_
  refine W.objInit hx hb hown (hts _ xob_Ch_3) (hts _ xob_i) (hts _ xob_c) rfl (by rw [hml]; exact hl.1) rfl xd_Ch_init_1 (Nat.le_of_ble_eq_true rfl) (Nat.le_of_ble_eq_true rfl) ?_
  refine W.eq (g2 := F0 m 4 ls []) rfl ?_
  refine lv_aload_n (pc := 4) hx hb xd_Ch_init_4 rfl (lv_at hl 0 rfl) ?_
  refine lv_sipush (pc := 5) (v := (384 : Int32)) hx hb xd_Ch_init_5 (by decide) ?_
  refine va_newa (pc := 8) (atype := .int) (a0 := (384, .inl (fun _ => 0))) (ty := .int) (N' := 384) hx hb (hts _ xac_int) rfl hK hP hD hS hA (fun _ => rfl) (by decide) (by decide) (by decide) (Nat.le_of_ble_eq_true rfl) (Nat.le_of_ble_eq_true rfl) xd_Ch_init_8 (fun q1 c2 H hK hP hD hS => ?_)
  have hP : va_P (dC, dI) xcl [(h0, .inr (0, [.null, .null, .null, .null, .null, .null, .int 0, .int 0, .int 0])), (q1, .inl (c2, 384, .inl (fun _ => 0)))] H := hP
  have hD : va_D A [(h0, .inr (0, [.null, .null, .null, .null, .null, .null, .int 0, .int 0, .int 0])), (q1, .inl (c2, 384, .inl (fun _ => 0)))] := hD
  have hK : va_K (dC, dI) xcl [(c2, .int)] s := hK
  refine W.widen (k := 1) (n := 384) (by omega) (by omega) ?_
  refine va_putF (pc := 10) (D := (dC, dI)) (ci := 0) (v := .ref q1) (ty := .array (.int)) (C := R_Ch) (T := T_Ch) (N := 9) hx hb hts xi_Ch ty_Ch tyok_Ch nm_Ch hown hK hP hD hS 0 rfl rfl 0 (by decide) (hts _ xl_Ch_11) (fun _ h9 => h9) rfl hin rfl (by decide +kernel) rfl rfl (Nat.le_of_ble_eq_true rfl) xd_Ch_init_10 (fun H locs hP hD hS => ?_)
  have hP : va_P (dC, dI) xcl [(h0, .inr (0, [.ref q1, .null, .null, .null, .null, .null, .int 0, .int 0, .int 0])), (q1, .inl (c2, 384, .inl (fun _ => 0)))] H := hP
  have hD : va_D A [(h0, .inr (0, [.ref q1, .null, .null, .null, .null, .null, .int 0, .int 0, .int 0])), (q1, .inl (c2, 384, .inl (fun _ => 0)))] := hD
  refine lv_aload_n (pc := 13) hx hb xd_Ch_init_13 rfl (lv_at hl 0 rfl) ?_
  refine lv_bipush (pc := 14) (v := (6 : Int32)) hx hb xd_Ch_init_14 (by decide) ?_
  refine va_newa (pc := 16) (atype := .int) (a0 := (6, .inl (fun _ => 0))) (ty := .int) (N' := 6) hx hb (hts _ xac_int) rfl hK hP hD hS hA (fun _ => rfl) (by decide) (by decide) (by decide) (Nat.le_of_ble_eq_true rfl) (Nat.le_of_ble_eq_true rfl) xd_Ch_init_16 (fun q3 c4 H hK hP hD hS => ?_)
  have hP : va_P (dC, dI) xcl [(h0, .inr (0, [.ref q1, .null, .null, .null, .null, .null, .int 0, .int 0, .int 0])), (q1, .inl (c2, 384, .inl (fun _ => 0))), (q3, .inl (c4, 6, .inl (fun _ => 0)))] H := hP
  have hD : va_D A [(h0, .inr (0, [.ref q1, .null, .null, .null, .null, .null, .int 0, .int 0, .int 0])), (q1, .inl (c2, 384, .inl (fun _ => 0))), (q3, .inl (c4, 6, .inl (fun _ => 0)))] := hD
  have hK : va_K (dC, dI) xcl [(c2, .int), (c4, .int)] s := hK
  refine W.widen (k := 2) (n := 390) (by omega) (by omega) ?_
  refine va_putF (pc := 18) (D := (dC, dI)) (ci := 0) (v := .ref q3) (ty := .array (.int)) (C := R_Ch) (T := T_Ch) (N := 9) hx hb hts xi_Ch ty_Ch tyok_Ch nm_Ch hown hK hP hD hS 0 rfl rfl 1 (by decide) (hts _ xl_Ch_17) (fun _ h9 => h9) rfl hin rfl (by decide +kernel) rfl rfl (Nat.le_of_ble_eq_true rfl) xd_Ch_init_18 (fun H locs hP hD hS => ?_)
  have hP : va_P (dC, dI) xcl [(h0, .inr (0, [.ref q1, .ref q3, .null, .null, .null, .null, .int 0, .int 0, .int 0])), (q1, .inl (c2, 384, .inl (fun _ => 0))), (q3, .inl (c4, 6, .inl (fun _ => 0)))] H := hP
  have hD : va_D A [(h0, .inr (0, [.ref q1, .ref q3, .null, .null, .null, .null, .int 0, .int 0, .int 0])), (q1, .inl (c2, 384, .inl (fun _ => 0))), (q3, .inl (c4, 6, .inl (fun _ => 0)))] := hD
  refine lv_aload_n (pc := 21) hx hb xd_Ch_init_21 rfl (lv_at hl 0 rfl) ?_
  refine lv_bipush (pc := 22) (v := (64 : Int32)) hx hb xd_Ch_init_22 (by decide) ?_
  refine va_newa (pc := 24) (atype := .int) (a0 := (64, .inl (fun _ => 0))) (ty := .int) (N' := 64) hx hb (hts _ xac_int) rfl hK hP hD hS hA (fun _ => rfl) (by decide) (by decide) (by decide) (Nat.le_of_ble_eq_true rfl) (Nat.le_of_ble_eq_true rfl) xd_Ch_init_24 (fun q5 c6 H hK hP hD hS => ?_)
  have hP : va_P (dC, dI) xcl [(h0, .inr (0, [.ref q1, .ref q3, .null, .null, .null, .null, .int 0, .int 0, .int 0])), (q1, .inl (c2, 384, .inl (fun _ => 0))), (q3, .inl (c4, 6, .inl (fun _ => 0))), (q5, .inl (c6, 64, .inl (fun _ => 0)))] H := hP
  have hD : va_D A [(h0, .inr (0, [.ref q1, .ref q3, .null, .null, .null, .null, .int 0, .int 0, .int 0])), (q1, .inl (c2, 384, .inl (fun _ => 0))), (q3, .inl (c4, 6, .inl (fun _ => 0))), (q5, .inl (c6, 64, .inl (fun _ => 0)))] := hD
  have hK : va_K (dC, dI) xcl [(c2, .int), (c4, .int), (c6, .int)] s := hK
  refine W.widen (k := 3) (n := 454) (by omega) (by omega) ?_
  refine va_putF (pc := 26) (D := (dC, dI)) (ci := 0) (v := .ref q5) (ty := .array (.int)) (C := R_Ch) (T := T_Ch) (N := 9) hx hb hts xi_Ch ty_Ch tyok_Ch nm_Ch hown hK hP hD hS 0 rfl rfl 2 (by decide) (hts _ xl_Ch_20) (fun _ h9 => h9) rfl hin rfl (by decide +kernel) rfl rfl (Nat.le_of_ble_eq_true rfl) xd_Ch_init_26 (fun H locs hP hD hS => ?_)
  have hP : va_P (dC, dI) xcl [(h0, .inr (0, [.ref q1, .ref q3, .ref q5, .null, .null, .null, .int 0, .int 0, .int 0])), (q1, .inl (c2, 384, .inl (fun _ => 0))), (q3, .inl (c4, 6, .inl (fun _ => 0))), (q5, .inl (c6, 64, .inl (fun _ => 0)))] H := hP
  have hD : va_D A [(h0, .inr (0, [.ref q1, .ref q3, .ref q5, .null, .null, .null, .int 0, .int 0, .int 0])), (q1, .inl (c2, 384, .inl (fun _ => 0))), (q3, .inl (c4, 6, .inl (fun _ => 0))), (q5, .inl (c6, 64, .inl (fun _ => 0)))] := hD
  refine lv_aload_n (pc := 29) hx hb xd_Ch_init_29 rfl (lv_at hl 0 rfl) ?_
  refine lv_sipush (pc := 30) (v := (4096 : Int32)) hx hb xd_Ch_init_30 (by decide) ?_
  refine va_newa (pc := 33) (atype := .int) (a0 := (4096, .inl (fun _ => 0))) (ty := .int) (N' := 4096) hx hb (hts _ xac_int) rfl hK hP hD hS hA (fun _ => rfl) (by decide) (by decide) (by decide) (Nat.le_of_ble_eq_true rfl) (Nat.le_of_ble_eq_true rfl) xd_Ch_init_33 (fun q7 c8 H hK hP hD hS => ?_)
  have hP : va_P (dC, dI) xcl [(h0, .inr (0, [.ref q1, .ref q3, .ref q5, .null, .null, .null, .int 0, .int 0, .int 0])), (q1, .inl (c2, 384, .inl (fun _ => 0))), (q3, .inl (c4, 6, .inl (fun _ => 0))), (q5, .inl (c6, 64, .inl (fun _ => 0))), (q7, .inl (c8, 4096, .inl (fun _ => 0)))] H := hP
  have hD : va_D A [(h0, .inr (0, [.ref q1, .ref q3, .ref q5, .null, .null, .null, .int 0, .int 0, .int 0])), (q1, .inl (c2, 384, .inl (fun _ => 0))), (q3, .inl (c4, 6, .inl (fun _ => 0))), (q5, .inl (c6, 64, .inl (fun _ => 0))), (q7, .inl (c8, 4096, .inl (fun _ => 0)))] := hD
  have hK : va_K (dC, dI) xcl [(c2, .int), (c4, .int), (c6, .int), (c8, .int)] s := hK
  refine W.widen (k := 4) (n := 4550) (by omega) (by omega) ?_
  refine va_putF (pc := 35) (D := (dC, dI)) (ci := 0) (v := .ref q7) (ty := .array (.int)) (C := R_Ch) (T := T_Ch) (N := 9) hx hb hts xi_Ch ty_Ch tyok_Ch nm_Ch hown hK hP hD hS 0 rfl rfl 3 (by decide) (hts _ xl_Ch_23) (fun _ h9 => h9) rfl hin rfl (by decide +kernel) rfl rfl (Nat.le_of_ble_eq_true rfl) xd_Ch_init_35 (fun H locs hP hD hS => ?_)
  have hP : va_P (dC, dI) xcl [(h0, .inr (0, [.ref q1, .ref q3, .ref q5, .ref q7, .null, .null, .int 0, .int 0, .int 0])), (q1, .inl (c2, 384, .inl (fun _ => 0))), (q3, .inl (c4, 6, .inl (fun _ => 0))), (q5, .inl (c6, 64, .inl (fun _ => 0))), (q7, .inl (c8, 4096, .inl (fun _ => 0)))] H := hP
  have hD : va_D A [(h0, .inr (0, [.ref q1, .ref q3, .ref q5, .ref q7, .null, .null, .int 0, .int 0, .int 0])), (q1, .inl (c2, 384, .inl (fun _ => 0))), (q3, .inl (c4, 6, .inl (fun _ => 0))), (q5, .inl (c6, 64, .inl (fun _ => 0))), (q7, .inl (c8, 4096, .inl (fun _ => 0)))] := hD
  refine lv_aload_n (pc := 38) hx hb xd_Ch_init_38 rfl (lv_at hl 0 rfl) ?_
  refine lv_iconst (pc := 39) (v := (5 : Int32)) hx hb xd_Ch_init_39 (by decide) ?_
  refine va_newa (pc := 40) (atype := .int) (a0 := (5, .inl (fun _ => 0))) (ty := .int) (N' := 5) hx hb (hts _ xac_int) rfl hK hP hD hS hA (fun _ => rfl) (by decide) (by decide) (by decide) (Nat.le_of_ble_eq_true rfl) (Nat.le_of_ble_eq_true rfl) xd_Ch_init_40 (fun q9 c10 H hK hP hD hS => ?_)
  have hP : va_P (dC, dI) xcl [(h0, .inr (0, [.ref q1, .ref q3, .ref q5, .ref q7, .null, .null, .int 0, .int 0, .int 0])), (q1, .inl (c2, 384, .inl (fun _ => 0))), (q3, .inl (c4, 6, .inl (fun _ => 0))), (q5, .inl (c6, 64, .inl (fun _ => 0))), (q7, .inl (c8, 4096, .inl (fun _ => 0))), (q9, .inl (c10, 5, .inl (fun _ => 0)))] H := hP
  have hD : va_D A [(h0, .inr (0, [.ref q1, .ref q3, .ref q5, .ref q7, .null, .null, .int 0, .int 0, .int 0])), (q1, .inl (c2, 384, .inl (fun _ => 0))), (q3, .inl (c4, 6, .inl (fun _ => 0))), (q5, .inl (c6, 64, .inl (fun _ => 0))), (q7, .inl (c8, 4096, .inl (fun _ => 0))), (q9, .inl (c10, 5, .inl (fun _ => 0)))] := hD
  have hK : va_K (dC, dI) xcl [(c2, .int), (c4, .int), (c6, .int), (c8, .int), (c10, .int)] s := hK
  refine W.widen (k := 5) (n := 4555) (by omega) (by omega) ?_
  refine va_putF (pc := 42) (D := (dC, dI)) (ci := 0) (v := .ref q9) (ty := .array (.int)) (C := R_Ch) (T := T_Ch) (N := 9) hx hb hts xi_Ch ty_Ch tyok_Ch nm_Ch hown hK hP hD hS 0 rfl rfl 4 (by decide) (hts _ xl_Ch_26) (fun _ h9 => h9) rfl hin rfl (by decide +kernel) rfl rfl (Nat.le_of_ble_eq_true rfl) xd_Ch_init_42 (fun H locs hP hD hS => ?_)
  have hP : va_P (dC, dI) xcl [(h0, .inr (0, [.ref q1, .ref q3, .ref q5, .ref q7, .ref q9, .null, .int 0, .int 0, .int 0])), (q1, .inl (c2, 384, .inl (fun _ => 0))), (q3, .inl (c4, 6, .inl (fun _ => 0))), (q5, .inl (c6, 64, .inl (fun _ => 0))), (q7, .inl (c8, 4096, .inl (fun _ => 0))), (q9, .inl (c10, 5, .inl (fun _ => 0)))] H := hP
  have hD : va_D A [(h0, .inr (0, [.ref q1, .ref q3, .ref q5, .ref q7, .ref q9, .null, .int 0, .int 0, .int 0])), (q1, .inl (c2, 384, .inl (fun _ => 0))), (q3, .inl (c4, 6, .inl (fun _ => 0))), (q5, .inl (c6, 64, .inl (fun _ => 0))), (q7, .inl (c8, 4096, .inl (fun _ => 0))), (q9, .inl (c10, 5, .inl (fun _ => 0)))] := hD
  refine lv_aload_n (pc := 45) hx hb xd_Ch_init_45 rfl (lv_at hl 0 rfl) ?_
  refine lv_iconst (pc := 46) (v := (5 : Int32)) hx hb xd_Ch_init_46 (by decide) ?_
  refine va_newa (pc := 47) (atype := .int) (a0 := (5, .inl (fun _ => 0))) (ty := .int) (N' := 5) hx hb (hts _ xac_int) rfl hK hP hD hS hA (fun _ => rfl) (by decide) (by decide) (by decide) (Nat.le_of_ble_eq_true rfl) (Nat.le_of_ble_eq_true rfl) xd_Ch_init_47 (fun q11 c12 H hK hP hD hS => ?_)
  have hP : va_P (dC, dI) xcl [(h0, .inr (0, [.ref q1, .ref q3, .ref q5, .ref q7, .ref q9, .null, .int 0, .int 0, .int 0])), (q1, .inl (c2, 384, .inl (fun _ => 0))), (q3, .inl (c4, 6, .inl (fun _ => 0))), (q5, .inl (c6, 64, .inl (fun _ => 0))), (q7, .inl (c8, 4096, .inl (fun _ => 0))), (q9, .inl (c10, 5, .inl (fun _ => 0))), (q11, .inl (c12, 5, .inl (fun _ => 0)))] H := hP
  have hD : va_D A [(h0, .inr (0, [.ref q1, .ref q3, .ref q5, .ref q7, .ref q9, .null, .int 0, .int 0, .int 0])), (q1, .inl (c2, 384, .inl (fun _ => 0))), (q3, .inl (c4, 6, .inl (fun _ => 0))), (q5, .inl (c6, 64, .inl (fun _ => 0))), (q7, .inl (c8, 4096, .inl (fun _ => 0))), (q9, .inl (c10, 5, .inl (fun _ => 0))), (q11, .inl (c12, 5, .inl (fun _ => 0)))] := hD
  have hK : va_K (dC, dI) xcl [(c2, .int), (c4, .int), (c6, .int), (c8, .int), (c10, .int), (c12, .int)] s := hK
  refine W.widen (k := 6) (n := 4560) (by omega) (by omega) ?_
  refine va_putF (pc := 49) (D := (dC, dI)) (ci := 0) (v := .ref q11) (ty := .array (.int)) (C := R_Ch) (T := T_Ch) (N := 9) hx hb hts xi_Ch ty_Ch tyok_Ch nm_Ch hown hK hP hD hS 0 rfl rfl 5 (by decide) (hts _ xl_Ch_29) (fun _ h9 => h9) rfl hin rfl (by decide +kernel) rfl rfl (Nat.le_of_ble_eq_true rfl) xd_Ch_init_49 (fun H locs hP hD hS => ?_)
  have hP : va_P (dC, dI) xcl [(h0, .inr (0, [.ref q1, .ref q3, .ref q5, .ref q7, .ref q9, .ref q11, .int 0, .int 0, .int 0])), (q1, .inl (c2, 384, .inl (fun _ => 0))), (q3, .inl (c4, 6, .inl (fun _ => 0))), (q5, .inl (c6, 64, .inl (fun _ => 0))), (q7, .inl (c8, 4096, .inl (fun _ => 0))), (q9, .inl (c10, 5, .inl (fun _ => 0))), (q11, .inl (c12, 5, .inl (fun _ => 0)))] H := hP
  have hD : va_D A [(h0, .inr (0, [.ref q1, .ref q3, .ref q5, .ref q7, .ref q9, .ref q11, .int 0, .int 0, .int 0])), (q1, .inl (c2, 384, .inl (fun _ => 0))), (q3, .inl (c4, 6, .inl (fun _ => 0))), (q5, .inl (c6, 64, .inl (fun _ => 0))), (q7, .inl (c8, 4096, .inl (fun _ => 0))), (q9, .inl (c10, 5, .inl (fun _ => 0))), (q11, .inl (c12, 5, .inl (fun _ => 0)))] := hD
  refine lv_aload_n (pc := 52) hx hb xd_Ch_init_52 rfl (lv_at hl 0 rfl) ?_
  refine lv_iconst (pc := 53) (v := (0 : Int32)) hx hb xd_Ch_init_53 (by decide) ?_
  refine va_put (pc := 54) (D := (dC, dI)) (ci := 0) (v := .int (0 : Int32)) (ty := .int) (C := R_Ch) (T := T_Ch) (N := 9) hx hb hts xi_Ch ty_Ch tyok_Ch nm_Ch hown hK hP hD hS 0 rfl rfl 6 (by decide) (hts _ xl_Ch_32) (fun _ h9 => h9) rfl (by decide +kernel) rfl rfl (Nat.le_of_ble_eq_true rfl) xd_Ch_init_54 (fun H locs hP hD hS => ?_)
  have hP : va_P (dC, dI) xcl [(h0, .inr (0, [.ref q1, .ref q3, .ref q5, .ref q7, .ref q9, .ref q11, .int (0 : Int32), .int 0, .int 0])), (q1, .inl (c2, 384, .inl (fun _ => 0))), (q3, .inl (c4, 6, .inl (fun _ => 0))), (q5, .inl (c6, 64, .inl (fun _ => 0))), (q7, .inl (c8, 4096, .inl (fun _ => 0))), (q9, .inl (c10, 5, .inl (fun _ => 0))), (q11, .inl (c12, 5, .inl (fun _ => 0)))] H := hP
  have hD : va_D A [(h0, .inr (0, [.ref q1, .ref q3, .ref q5, .ref q7, .ref q9, .ref q11, .int (0 : Int32), .int 0, .int 0])), (q1, .inl (c2, 384, .inl (fun _ => 0))), (q3, .inl (c4, 6, .inl (fun _ => 0))), (q5, .inl (c6, 64, .inl (fun _ => 0))), (q7, .inl (c8, 4096, .inl (fun _ => 0))), (q9, .inl (c10, 5, .inl (fun _ => 0))), (q11, .inl (c12, 5, .inl (fun _ => 0)))] := hD
  refine lv_aload_n (pc := 57) hx hb xd_Ch_init_57 rfl (lv_at hl 0 rfl) ?_
  refine lv_iconst (pc := 58) (v := (0 : Int32)) hx hb xd_Ch_init_58 (by decide) ?_
  refine va_put (pc := 59) (D := (dC, dI)) (ci := 0) (v := .int (0 : Int32)) (ty := .int) (C := R_Ch) (T := T_Ch) (N := 9) hx hb hts xi_Ch ty_Ch tyok_Ch nm_Ch hown hK hP hD hS 0 rfl rfl 7 (by decide) (hts _ xl_Ch_36) (fun _ h9 => h9) rfl (by decide +kernel) rfl rfl (Nat.le_of_ble_eq_true rfl) xd_Ch_init_59 (fun H locs hP hD hS => ?_)
  have hP : va_P (dC, dI) xcl [(h0, .inr (0, [.ref q1, .ref q3, .ref q5, .ref q7, .ref q9, .ref q11, .int (0 : Int32), .int (0 : Int32), .int 0])), (q1, .inl (c2, 384, .inl (fun _ => 0))), (q3, .inl (c4, 6, .inl (fun _ => 0))), (q5, .inl (c6, 64, .inl (fun _ => 0))), (q7, .inl (c8, 4096, .inl (fun _ => 0))), (q9, .inl (c10, 5, .inl (fun _ => 0))), (q11, .inl (c12, 5, .inl (fun _ => 0)))] H := hP
  have hD : va_D A [(h0, .inr (0, [.ref q1, .ref q3, .ref q5, .ref q7, .ref q9, .ref q11, .int (0 : Int32), .int (0 : Int32), .int 0])), (q1, .inl (c2, 384, .inl (fun _ => 0))), (q3, .inl (c4, 6, .inl (fun _ => 0))), (q5, .inl (c6, 64, .inl (fun _ => 0))), (q7, .inl (c8, 4096, .inl (fun _ => 0))), (q9, .inl (c10, 5, .inl (fun _ => 0))), (q11, .inl (c12, 5, .inl (fun _ => 0)))] := hD
  refine lv_aload_n (pc := 62) hx hb xd_Ch_init_62 rfl (lv_at hl 0 rfl) ?_
  refine lv_iconst (pc := 63) (v := (-1 : Int32)) hx hb xd_Ch_init_63 (by decide) ?_
  refine va_put (pc := 64) (D := (dC, dI)) (ci := 0) (v := .int (-1 : Int32)) (ty := .int) (C := R_Ch) (T := T_Ch) (N := 9) hx hb hts xi_Ch ty_Ch tyok_Ch nm_Ch hown hK hP hD hS 0 rfl rfl 8 (by decide) (hts _ xl_Ch_39) (fun _ h9 => h9) rfl (by decide +kernel) rfl rfl (Nat.le_of_ble_eq_true rfl) xd_Ch_init_64 (fun H locs hP hD hS => ?_)
  have hP : va_P (dC, dI) xcl [(h0, .inr (0, [.ref q1, .ref q3, .ref q5, .ref q7, .ref q9, .ref q11, .int (0 : Int32), .int (0 : Int32), .int (-1 : Int32)])), (q1, .inl (c2, 384, .inl (fun _ => 0))), (q3, .inl (c4, 6, .inl (fun _ => 0))), (q5, .inl (c6, 64, .inl (fun _ => 0))), (q7, .inl (c8, 4096, .inl (fun _ => 0))), (q9, .inl (c10, 5, .inl (fun _ => 0))), (q11, .inl (c12, 5, .inl (fun _ => 0)))] H := hP
  have hD : va_D A [(h0, .inr (0, [.ref q1, .ref q3, .ref q5, .ref q7, .ref q9, .ref q11, .int (0 : Int32), .int (0 : Int32), .int (-1 : Int32)])), (q1, .inl (c2, 384, .inl (fun _ => 0))), (q3, .inl (c4, 6, .inl (fun _ => 0))), (q5, .inl (c6, 64, .inl (fun _ => 0))), (q7, .inl (c8, 4096, .inl (fun _ => 0))), (q9, .inl (c10, 5, .inl (fun _ => 0))), (q11, .inl (c12, 5, .inl (fun _ => 0)))] := hD
  have hP9 := hP.sub (ws' := [(h0, .inr (0, [.ref q1, .ref q3, .ref q5, .ref q7, .ref q9, .ref q11, .int (0 : Int32), .int (0 : Int32), .int (-1 : Int32)])), (q1, .inl (c2, 384, .inl (fun _ => 0))), (q3, .inl (c4, 6, .inl (fun _ => 0))), (q5, .inl (c6, 64, .inl (fun _ => 0))), (q7, .inl (c8, 4096, .inl (fun _ => 0))), (q9, .inl (c10, 5, .inl (fun _ => 0))), (q11, .inl (c12, 5, .inl (fun _ => 0)))]) [0, 1, 2, 3, 4, 5, 6] rfl
  have hD9 := hD.sub (ws' := [(h0, .inr (0, [.ref q1, .ref q3, .ref q5, .ref q7, .ref q9, .ref q11, .int (0 : Int32), .int (0 : Int32), .int (-1 : Int32)])), (q1, .inl (c2, 384, .inl (fun _ => 0))), (q3, .inl (c4, 6, .inl (fun _ => 0))), (q5, .inl (c6, 64, .inl (fun _ => 0))), (q7, .inl (c8, 4096, .inl (fun _ => 0))), (q9, .inl (c10, 5, .inl (fun _ => 0))), (q11, .inl (c12, 5, .inl (fun _ => 0)))]) [0, 1, 2, 3, 4, 5, 6] (by decide) rfl
  refine W.widen (k := 6) (n := 4560) (by omega) (by omega) ?_
  exact W.vret hx hb hr (fun t ht hW => ⟨⟨(), rfl, trivial, q1, q3, q5, q7, q9, q11, c2, c4, c6, c8, c10, c12, by rw [ht]; exact hP9, va_K.moved hW.alike hK, hD9⟩, hS.F ht⟩) hS.2.2 xd_Ch_init_67

/-! the constructor of ColoursApart$Mover -/
theorem xd_Mv_init_0 : decode b_Mv_init 0 = .ok (.aload_n 0, 1) := by decide +kernel
theorem xd_Mv_init_1 : decode b_Mv_init 1 = .ok (.invokespecial 3, 3) := by decide +kernel
theorem xd_Mv_init_4 : decode b_Mv_init 4 = .ok (.aload_n 0, 1) := by decide +kernel
theorem xd_Mv_init_5 : decode b_Mv_init 5 = .ok (.bipush 72, 2) := by decide +kernel
theorem xd_Mv_init_7 : decode b_Mv_init 7 = .ok (.newarray .int, 2) := by decide +kernel
theorem xd_Mv_init_9 : decode b_Mv_init 9 = .ok (.putfield 9, 3) := by decide +kernel
theorem xd_Mv_init_12 : decode b_Mv_init 12 = .ok (.aload_n 0, 1) := by decide +kernel
theorem xd_Mv_init_13 : decode b_Mv_init 13 = .ok (.bipush 6, 2) := by decide +kernel
theorem xd_Mv_init_15 : decode b_Mv_init 15 = .ok (.newarray .int, 2) := by decide +kernel
theorem xd_Mv_init_17 : decode b_Mv_init 17 = .ok (.putfield 15, 3) := by decide +kernel
theorem xd_Mv_init_20 : decode b_Mv_init 20 = .ok (.aload_n 0, 1) := by decide +kernel
theorem xd_Mv_init_21 : decode b_Mv_init 21 = .ok (.iconst 0, 1) := by decide +kernel
theorem xd_Mv_init_22 : decode b_Mv_init 22 = .ok (.putfield 18, 3) := by decide +kernel
theorem xd_Mv_init_25 : decode b_Mv_init 25 = .ok (.return_, 1) := by decide +kernel
abbrev rm_Mv_init : Room := { frames := 1, cells := 2, slots := 78, locals := 40 }
def at_Mv (dC : Nat → ClassId) (dI : Nat → Nat → Nat) (A : Nat → Prop) (h0 : Nat) (_ : Unit) (t : State) : Prop := ∃ (q1 : Nat) (q3 : Nat) (c2 : ClassId) (c4 : ClassId) , va_P (dC, dI) xcl [(h0, .inr (6, [.ref q1, .ref q3, .int (0 : Int32)])), (q1, .inl (c2, 72, .inl (fun _ => 0))), (q3, .inl (c4, 6, .inl (fun _ => 0)))] t.heap ∧ va_K (dC, dI) xcl [(c2, .int), (c4, .int)] t ∧ va_D A [(h0, .inr (6, [.ref q1, .ref q3, .int (0 : Int32)])), (q1, .inl (c2, 72, .inl (fun _ => 0))), (q3, .inl (c4, 6, .inl (fun _ => 0)))]
set_option maxHeartbeats 8000000 in
set_option maxRecDepth 100000 in
theorem ci_Mv (l : Launch) (dC : Nat → ClassId) (dI : Nat → Nat → Nat) (h0 sz : Nat) : Met l y_Mv_init (Cond.code y_Mv_init b_Mv_init 1 none :: xTG) rm_Mv_init (va_Pc [.ref h0] (xI dC dI [(h0, .inr (6, [.null, .null, .int 0]))] sz)) (va_Qv (fun _ : Unit => True) (at_Mv dC dI (va_A [(h0, .inr (6, [.null, .null, .int 0]))] sz) h0) (va_A [(h0, .inr (6, [.null, .null, .int 0]))] sz)) 2 78 (va_A [(h0, .inr (6, [.null, .null, .int 0]))] sz) := by
  refine Met.ofW (cc := b_Mv_init) (maxL := 1) (ret := none) (by decide) rfl ?_
  intro p e s m args below meth c s₁ B hml hv
  obtain ⟨rfl, hsz, hP, hK, hNA, hD0⟩ := hv
  have hx := B.exec
  have hb := B.bytes
  have hr := B.returns
  have hts0 := atoms_spec (ws := Cond.code y_Mv_init b_Mv_init 1 none :: xTG) B.pre
  have hts : ∀ w ∈ xTG, w.before ([.ref h0] : List Value).toArray s = true := fun w hw => hts0 w (List.mem_cons_of_mem _ hw)
  have hown : s.vm.findClass R_Mv = some m.cls := findClass_of_methodNamed B.named
  have hlocks := B.notSynchronized
  have hin : meth.name = "<init>" := (name_of_methodNamed B.named B.method).1
  subst hsz
  have hD := hD0.self (sz := s.heap.size)
  generalize hAe : va_A [(h0, .inr (6, [.null, .null, .int 0]))] s.heap.size = A at hD ⊢
  have hA : ∀ q : Nat, s.heap.size ≤ q → A q := fun q h => by rw [← hAe]; exact Or.inr h
  have hS : va_S A s.heap s.heap [] := va_S.rf
  have hl := lv_entry ([.ref h0]) (n := 1) (Nat.le_of_ble_eq_true rfl)
  rw [lg_entry_eq]
  generalize (lg_sl ([.ref h0]) ++ List.replicate (1 - (lg_sl ([.ref h0])).length) Slot.unset).toArray = ls at hl ⊢
  have hl : lv_has ls 1 [(0, .ref h0)] := hl
  refine lv_aload_n (pc := 0) hx hb xd_Mv_init_0 rfl (lv_at hl 0 rfl) ?_
  refine W.objInit hx hb hown (hts _ xob_Mv_3) (hts _ xob_i) (hts _ xob_c) rfl (by rw [hml]; exact hl.1) rfl xd_Mv_init_1 (Nat.le_of_ble_eq_true rfl) (Nat.le_of_ble_eq_true rfl) ?_
  refine W.eq (g2 := F0 m 4 ls []) rfl ?_
  refine lv_aload_n (pc := 4) hx hb xd_Mv_init_4 rfl (lv_at hl 0 rfl) ?_
  refine lv_bipush (pc := 5) (v := (72 : Int32)) hx hb xd_Mv_init_5 (by decide) ?_
  refine va_newa (pc := 7) (atype := .int) (a0 := (72, .inl (fun _ => 0))) (ty := .int) (N' := 72) hx hb (hts _ xac_int) rfl hK hP hD hS hA (fun _ => rfl) (by decide) (by decide) (by decide) (Nat.le_of_ble_eq_true rfl) (Nat.le_of_ble_eq_true rfl) xd_Mv_init_7 (fun q1 c2 H hK hP hD hS => ?_)
  have hP : va_P (dC, dI) xcl [(h0, .inr (6, [.null, .null, .int 0])), (q1, .inl (c2, 72, .inl (fun _ => 0)))] H := hP
  have hD : va_D A [(h0, .inr (6, [.null, .null, .int 0])), (q1, .inl (c2, 72, .inl (fun _ => 0)))] := hD
  have hK : va_K (dC, dI) xcl [(c2, .int)] s := hK
  refine W.widen (k := 1) (n := 72) (by omega) (by omega) ?_
  refine va_putF (pc := 9) (D := (dC, dI)) (ci := 6) (v := .ref q1) (ty := .array (.int)) (C := R_Mv) (T := T_Mv) (N := 3) hx hb hts xi_Mv ty_Mv tyok_Mv nm_Mv hown hK hP hD hS 0 rfl rfl 0 (by decide) (hts _ xl_Mv_9) (fun _ h9 => h9) rfl hin rfl (by decide +kernel) rfl rfl (Nat.le_of_ble_eq_true rfl) xd_Mv_init_9 (fun H locs hP hD hS => ?_)
  have hP : va_P (dC, dI) xcl [(h0, .inr (6, [.ref q1, .null, .int 0])), (q1, .inl (c2, 72, .inl (fun _ => 0)))] H := hP
  have hD : va_D A [(h0, .inr (6, [.ref q1, .null, .int 0])), (q1, .inl (c2, 72, .inl (fun _ => 0)))] := hD
  refine lv_aload_n (pc := 12) hx hb xd_Mv_init_12 rfl (lv_at hl 0 rfl) ?_
  refine lv_bipush (pc := 13) (v := (6 : Int32)) hx hb xd_Mv_init_13 (by decide) ?_
  refine va_newa (pc := 15) (atype := .int) (a0 := (6, .inl (fun _ => 0))) (ty := .int) (N' := 6) hx hb (hts _ xac_int) rfl hK hP hD hS hA (fun _ => rfl) (by decide) (by decide) (by decide) (Nat.le_of_ble_eq_true rfl) (Nat.le_of_ble_eq_true rfl) xd_Mv_init_15 (fun q3 c4 H hK hP hD hS => ?_)
  have hP : va_P (dC, dI) xcl [(h0, .inr (6, [.ref q1, .null, .int 0])), (q1, .inl (c2, 72, .inl (fun _ => 0))), (q3, .inl (c4, 6, .inl (fun _ => 0)))] H := hP
  have hD : va_D A [(h0, .inr (6, [.ref q1, .null, .int 0])), (q1, .inl (c2, 72, .inl (fun _ => 0))), (q3, .inl (c4, 6, .inl (fun _ => 0)))] := hD
  have hK : va_K (dC, dI) xcl [(c2, .int), (c4, .int)] s := hK
  refine W.widen (k := 2) (n := 78) (by omega) (by omega) ?_
  refine va_putF (pc := 17) (D := (dC, dI)) (ci := 6) (v := .ref q3) (ty := .array (.int)) (C := R_Mv) (T := T_Mv) (N := 3) hx hb hts xi_Mv ty_Mv tyok_Mv nm_Mv hown hK hP hD hS 0 rfl rfl 1 (by decide) (hts _ xl_Mv_15) (fun _ h9 => h9) rfl hin rfl (by decide +kernel) rfl rfl (Nat.le_of_ble_eq_true rfl) xd_Mv_init_17 (fun H locs hP hD hS => ?_)
  have hP : va_P (dC, dI) xcl [(h0, .inr (6, [.ref q1, .ref q3, .int 0])), (q1, .inl (c2, 72, .inl (fun _ => 0))), (q3, .inl (c4, 6, .inl (fun _ => 0)))] H := hP
  have hD : va_D A [(h0, .inr (6, [.ref q1, .ref q3, .int 0])), (q1, .inl (c2, 72, .inl (fun _ => 0))), (q3, .inl (c4, 6, .inl (fun _ => 0)))] := hD
  refine lv_aload_n (pc := 20) hx hb xd_Mv_init_20 rfl (lv_at hl 0 rfl) ?_
  refine lv_iconst (pc := 21) (v := (0 : Int32)) hx hb xd_Mv_init_21 (by decide) ?_
  refine va_put (pc := 22) (D := (dC, dI)) (ci := 6) (v := .int (0 : Int32)) (ty := .boolean) (C := R_Mv) (T := T_Mv) (N := 3) hx hb hts xi_Mv ty_Mv tyok_Mv nm_Mv hown hK hP hD hS 0 rfl rfl 2 (by decide) (hts _ xl_Mv_18) (fun _ h9 => h9) rfl (by decide +kernel) rfl rfl (Nat.le_of_ble_eq_true rfl) xd_Mv_init_22 (fun H locs hP hD hS => ?_)
  have hP : va_P (dC, dI) xcl [(h0, .inr (6, [.ref q1, .ref q3, .int (0 : Int32)])), (q1, .inl (c2, 72, .inl (fun _ => 0))), (q3, .inl (c4, 6, .inl (fun _ => 0)))] H := hP
  have hD : va_D A [(h0, .inr (6, [.ref q1, .ref q3, .int (0 : Int32)])), (q1, .inl (c2, 72, .inl (fun _ => 0))), (q3, .inl (c4, 6, .inl (fun _ => 0)))] := hD
  have hP9 := hP.sub (ws' := [(h0, .inr (6, [.ref q1, .ref q3, .int (0 : Int32)])), (q1, .inl (c2, 72, .inl (fun _ => 0))), (q3, .inl (c4, 6, .inl (fun _ => 0)))]) [0, 1, 2] rfl
  have hD9 := hD.sub (ws' := [(h0, .inr (6, [.ref q1, .ref q3, .int (0 : Int32)])), (q1, .inl (c2, 72, .inl (fun _ => 0))), (q3, .inl (c4, 6, .inl (fun _ => 0)))]) [0, 1, 2] (by decide) rfl
  refine W.widen (k := 2) (n := 78) (by omega) (by omega) ?_
  exact W.vret hx hb hr (fun t ht hW => ⟨⟨(), rfl, trivial, q1, q3, c2, c4, by rw [ht]; exact hP9, va_K.moved hW.alike hK, hD9⟩, hS.F ht⟩) hS.2.2 xd_Mv_init_25

/-! the constructor of ColoursApart$Ramp -/
theorem xd_Ra_init_0 : decode b_Ra_init 0 = .ok (.aload_n 0, 1) := by decide +kernel
theorem xd_Ra_init_1 : decode b_Ra_init 1 = .ok (.invokespecial 3, 3) := by decide +kernel
theorem xd_Ra_init_4 : decode b_Ra_init 4 = .ok (.aload_n 0, 1) := by decide +kernel
theorem xd_Ra_init_5 : decode b_Ra_init 5 = .ok (.bipush 12, 2) := by decide +kernel
theorem xd_Ra_init_7 : decode b_Ra_init 7 = .ok (.newarray .int, 2) := by decide +kernel
theorem xd_Ra_init_9 : decode b_Ra_init 9 = .ok (.putfield 11, 3) := by decide +kernel
theorem xd_Ra_init_12 : decode b_Ra_init 12 = .ok (.aload_n 0, 1) := by decide +kernel
theorem xd_Ra_init_13 : decode b_Ra_init 13 = .ok (.iconst 0, 1) := by decide +kernel
theorem xd_Ra_init_14 : decode b_Ra_init 14 = .ok (.putfield 15, 3) := by decide +kernel
theorem xd_Ra_init_17 : decode b_Ra_init 17 = .ok (.return_, 1) := by decide +kernel
abbrev rm_Ra_init : Room := { frames := 1, cells := 1, slots := 12, locals := 40 }
def at_Ra (dC : Nat → ClassId) (dI : Nat → Nat → Nat) (A : Nat → Prop) (h0 : Nat) (_ : Unit) (t : State) : Prop := ∃ (q1 : Nat) (c2 : ClassId) , va_P (dC, dI) xcl [(h0, .inr (7, [.ref q1, .int (0 : Int32)])), (q1, .inl (c2, 12, .inl (fun _ => 0)))] t.heap ∧ va_K (dC, dI) xcl [(c2, .int)] t ∧ va_D A [(h0, .inr (7, [.ref q1, .int (0 : Int32)])), (q1, .inl (c2, 12, .inl (fun _ => 0)))]
set_option maxHeartbeats 8000000 in
set_option maxRecDepth 100000 in
theorem ci_Ra (l : Launch) (dC : Nat → ClassId) (dI : Nat → Nat → Nat) (h0 sz : Nat) : Met l y_Ra_init (Cond.code y_Ra_init b_Ra_init 1 none :: xTG) rm_Ra_init (va_Pc [.ref h0] (xI dC dI [(h0, .inr (7, [.null, .int 0]))] sz)) (va_Qv (fun _ : Unit => True) (at_Ra dC dI (va_A [(h0, .inr (7, [.null, .int 0]))] sz) h0) (va_A [(h0, .inr (7, [.null, .int 0]))] sz)) 1 12 (va_A [(h0, .inr (7, [.null, .int 0]))] sz) := by
  refine Met.ofW (cc := b_Ra_init) (maxL := 1) (ret := none) (by decide) rfl ?_
  intro p e s m args below meth c s₁ B hml hv
  obtain ⟨rfl, hsz, hP, hK, hNA, hD0⟩ := hv
  have hx := B.exec
  have hb := B.bytes
  have hr := B.returns
  have hts0 := atoms_spec (ws := Cond.code y_Ra_init b_Ra_init 1 none :: xTG) B.pre
  have hts : ∀ w ∈ xTG, w.before ([.ref h0] : List Value).toArray s = true := fun w hw => hts0 w (List.mem_cons_of_mem _ hw)
  have hown : s.vm.findClass R_Ra = some m.cls := findClass_of_methodNamed B.named
  have hlocks := B.notSynchronized
  have hin : meth.name = "<init>" := (name_of_methodNamed B.named B.method).1
  subst hsz
  have hD := hD0.self (sz := s.heap.size)
  generalize hAe : va_A [(h0, .inr (7, [.null, .int 0]))] s.heap.size = A at hD ⊢
  have hA : ∀ q : Nat, s.heap.size ≤ q → A q := fun q h => by rw [← hAe]; exact Or.inr h
  have hS : va_S A s.heap s.heap [] := va_S.rf
  have hl := lv_entry ([.ref h0]) (n := 1) (Nat.le_of_ble_eq_true rfl)
  rw [lg_entry_eq]
  generalize (lg_sl ([.ref h0]) ++ List.replicate (1 - (lg_sl ([.ref h0])).length) Slot.unset).toArray = ls at hl ⊢
  have hl : lv_has ls 1 [(0, .ref h0)] := hl
  refine lv_aload_n (pc := 0) hx hb xd_Ra_init_0 rfl (lv_at hl 0 rfl) ?_
  refine W.objInit hx hb hown (hts _ xob_Ra_3) (hts _ xob_i) (hts _ xob_c) rfl (by rw [hml]; exact hl.1) rfl xd_Ra_init_1 (Nat.le_of_ble_eq_true rfl) (Nat.le_of_ble_eq_true rfl) ?_
  refine W.eq (g2 := F0 m 4 ls []) rfl ?_
  refine lv_aload_n (pc := 4) hx hb xd_Ra_init_4 rfl (lv_at hl 0 rfl) ?_
  refine lv_bipush (pc := 5) (v := (12 : Int32)) hx hb xd_Ra_init_5 (by decide) ?_
  refine va_newa (pc := 7) (atype := .int) (a0 := (12, .inl (fun _ => 0))) (ty := .int) (N' := 12) hx hb (hts _ xac_int) rfl hK hP hD hS hA (fun _ => rfl) (by decide) (by decide) (by decide) (Nat.le_of_ble_eq_true rfl) (Nat.le_of_ble_eq_true rfl) xd_Ra_init_7 (fun q1 c2 H hK hP hD hS => ?_)
  have hP : va_P (dC, dI) xcl [(h0, .inr (7, [.null, .int 0])), (q1, .inl (c2, 12, .inl (fun _ => 0)))] H := hP
  have hD : va_D A [(h0, .inr (7, [.null, .int 0])), (q1, .inl (c2, 12, .inl (fun _ => 0)))] := hD
  have hK : va_K (dC, dI) xcl [(c2, .int)] s := hK
  refine W.widen (k := 1) (n := 12) (by omega) (by omega) ?_
  refine va_putF (pc := 9) (D := (dC, dI)) (ci := 7) (v := .ref q1) (ty := .array (.int)) (C := R_Ra) (T := T_Ra) (N := 2) hx hb hts xi_Ra ty_Ra tyok_Ra nm_Ra hown hK hP hD hS 0 rfl rfl 0 (by decide) (hts _ xl_Ra_11) (fun _ h9 => h9) rfl hin rfl (by decide +kernel) rfl rfl (Nat.le_of_ble_eq_true rfl) xd_Ra_init_9 (fun H locs hP hD hS => ?_)
  have hP : va_P (dC, dI) xcl [(h0, .inr (7, [.ref q1, .int 0])), (q1, .inl (c2, 12, .inl (fun _ => 0)))] H := hP
  have hD : va_D A [(h0, .inr (7, [.ref q1, .int 0])), (q1, .inl (c2, 12, .inl (fun _ => 0)))] := hD
  refine lv_aload_n (pc := 12) hx hb xd_Ra_init_12 rfl (lv_at hl 0 rfl) ?_
  refine lv_iconst (pc := 13) (v := (0 : Int32)) hx hb xd_Ra_init_13 (by decide) ?_
  refine va_put (pc := 14) (D := (dC, dI)) (ci := 7) (v := .int (0 : Int32)) (ty := .int) (C := R_Ra) (T := T_Ra) (N := 2) hx hb hts xi_Ra ty_Ra tyok_Ra nm_Ra hown hK hP hD hS 0 rfl rfl 1 (by decide) (hts _ xl_Ra_15) (fun _ h9 => h9) rfl (by decide +kernel) rfl rfl (Nat.le_of_ble_eq_true rfl) xd_Ra_init_14 (fun H locs hP hD hS => ?_)
  have hP : va_P (dC, dI) xcl [(h0, .inr (7, [.ref q1, .int (0 : Int32)])), (q1, .inl (c2, 12, .inl (fun _ => 0)))] H := hP
  have hD : va_D A [(h0, .inr (7, [.ref q1, .int (0 : Int32)])), (q1, .inl (c2, 12, .inl (fun _ => 0)))] := hD
  have hP9 := hP.sub (ws' := [(h0, .inr (7, [.ref q1, .int (0 : Int32)])), (q1, .inl (c2, 12, .inl (fun _ => 0)))]) [0, 1] rfl
  have hD9 := hD.sub (ws' := [(h0, .inr (7, [.ref q1, .int (0 : Int32)])), (q1, .inl (c2, 12, .inl (fun _ => 0)))]) [0, 1] (by decide) rfl
  refine W.widen (k := 1) (n := 12) (by omega) (by omega) ?_
  exact W.vret hx hb hr (fun t ht hW => ⟨⟨(), rfl, trivial, q1, c2, by rw [ht]; exact hP9, va_K.moved hW.alike hK, hD9⟩, hS.F ht⟩) hS.2.2 xd_Ra_init_17

/-! the constructor of ColoursApart$Groups -/
theorem xd_Gp_init_0 : decode b_Gp_init 0 = .ok (.aload_n 0, 1) := by decide +kernel
theorem xd_Gp_init_1 : decode b_Gp_init 1 = .ok (.invokespecial 3, 3) := by decide +kernel
theorem xd_Gp_init_4 : decode b_Gp_init 4 = .ok (.aload_n 0, 1) := by decide +kernel
theorem xd_Gp_init_5 : decode b_Gp_init 5 = .ok (.bipush 12, 2) := by decide +kernel
theorem xd_Gp_init_7 : decode b_Gp_init 7 = .ok (.newarray .int, 2) := by decide +kernel
theorem xd_Gp_init_9 : decode b_Gp_init 9 = .ok (.putfield 9, 3) := by decide +kernel
theorem xd_Gp_init_12 : decode b_Gp_init 12 = .ok (.aload_n 0, 1) := by decide +kernel
theorem xd_Gp_init_13 : decode b_Gp_init 13 = .ok (.bipush 12, 2) := by decide +kernel
theorem xd_Gp_init_15 : decode b_Gp_init 15 = .ok (.newarray .boolean, 2) := by decide +kernel
theorem xd_Gp_init_17 : decode b_Gp_init 17 = .ok (.putfield 15, 3) := by decide +kernel
theorem xd_Gp_init_20 : decode b_Gp_init 20 = .ok (.aload_n 0, 1) := by decide +kernel
theorem xd_Gp_init_21 : decode b_Gp_init 21 = .ok (.bipush 12, 2) := by decide +kernel
theorem xd_Gp_init_23 : decode b_Gp_init 23 = .ok (.newarray .int, 2) := by decide +kernel
theorem xd_Gp_init_25 : decode b_Gp_init 25 = .ok (.putfield 19, 3) := by decide +kernel
theorem xd_Gp_init_28 : decode b_Gp_init 28 = .ok (.return_, 1) := by decide +kernel
abbrev rm_Gp_init : Room := { frames := 1, cells := 3, slots := 36, locals := 40 }
def at_Gp (dC : Nat → ClassId) (dI : Nat → Nat → Nat) (A : Nat → Prop) (h0 : Nat) (_ : Unit) (t : State) : Prop := ∃ (q1 : Nat) (q3 : Nat) (q5 : Nat) (c2 : ClassId) (c4 : ClassId) (c6 : ClassId) , va_P (dC, dI) xcl [(h0, .inr (3, [.ref q1, .ref q3, .ref q5])), (q1, .inl (c2, 12, .inl (fun _ => 0))), (q3, .inl (c4, 12, .inl (fun _ => 0))), (q5, .inl (c6, 12, .inl (fun _ => 0)))] t.heap ∧ va_K (dC, dI) xcl [(c2, .int), (c4, .boolean), (c6, .int)] t ∧ va_D A [(h0, .inr (3, [.ref q1, .ref q3, .ref q5])), (q1, .inl (c2, 12, .inl (fun _ => 0))), (q3, .inl (c4, 12, .inl (fun _ => 0))), (q5, .inl (c6, 12, .inl (fun _ => 0)))]
set_option maxHeartbeats 8000000 in
set_option maxRecDepth 100000 in
theorem ci_Gp (l : Launch) (dC : Nat → ClassId) (dI : Nat → Nat → Nat) (h0 sz : Nat) : Met l y_Gp_init (Cond.code y_Gp_init b_Gp_init 1 none :: xTG) rm_Gp_init (va_Pc [.ref h0] (xI dC dI [(h0, .inr (3, [.null, .null, .null]))] sz)) (va_Qv (fun _ : Unit => True) (at_Gp dC dI (va_A [(h0, .inr (3, [.null, .null, .null]))] sz) h0) (va_A [(h0, .inr (3, [.null, .null, .null]))] sz)) 3 36 (va_A [(h0, .inr (3, [.null, .null, .null]))] sz) := by
  refine Met.ofW (cc := b_Gp_init) (maxL := 1) (ret := none) (by decide) rfl ?_
  intro p e s m args below meth c s₁ B hml hv
  obtain ⟨rfl, hsz, hP, hK, hNA, hD0⟩ := hv
  have hx := B.exec
  have hb := B.bytes
  have hr := B.returns
  have hts0 := atoms_spec (ws := Cond.code y_Gp_init b_Gp_init 1 none :: xTG) B.pre
  have hts : ∀ w ∈ xTG, w.before ([.ref h0] : List Value).toArray s = true := fun w hw => hts0 w (List.mem_cons_of_mem _ hw)
  have hown : s.vm.findClass R_Gp = some m.cls := findClass_of_methodNamed B.named
  have hlocks := B.notSynchronized
  have hin : meth.name = "<init>" := (name_of_methodNamed B.named B.method).1
  subst hsz
  have hD := hD0.self (sz := s.heap.size)
  generalize hAe : va_A [(h0, .inr (3, [.null, .null, .null]))] s.heap.size = A at hD ⊢
  have hA : ∀ q : Nat, s.heap.size ≤ q → A q := fun q h => by rw [← hAe]; exact Or.inr h
  have hS : va_S A s.heap s.heap [] := va_S.rf
  have hl := lv_entry ([.ref h0]) (n := 1) (Nat.le_of_ble_eq_true rfl)
  rw [lg_entry_eq]
  generalize (lg_sl ([.ref h0]) ++ List.replicate (1 - (lg_sl ([.ref h0])).length) Slot.unset).toArray = ls at hl ⊢
  have hl : lv_has ls 1 [(0, .ref h0)] := hl
  refine lv_aload_n (pc := 0) hx hb xd_Gp_init_0 rfl (lv_at hl 0 rfl) ?_
  refine W.objInit hx hb hown (hts _ xob_Gp_3) (hts _ xob_i) (hts _ xob_c) rfl (by rw [hml]; exact hl.1) rfl xd_Gp_init_1 (Nat.le_of_ble_eq_true rfl) (Nat.le_of_ble_eq_true rfl) ?_
  refine W.eq (g2 := F0 m 4 ls []) rfl ?_
  refine lv_aload_n (pc := 4) hx hb xd_Gp_init_4 rfl (lv_at hl 0 rfl) ?_
  refine lv_bipush (pc := 5) (v := (12 : Int32)) hx hb xd_Gp_init_5 (by decide) ?_
  refine va_newa (pc := 7) (atype := .int) (a0 := (12, .inl (fun _ => 0))) (ty := .int) (N' := 12) hx hb (hts _ xac_int) rfl hK hP hD hS hA (fun _ => rfl) (by decide) (by decide) (by decide) (Nat.le_of_ble_eq_true rfl) (Nat.le_of_ble_eq_true rfl) xd_Gp_init_7 (fun q1 c2 H hK hP hD hS => ?_)
  have hP : va_P (dC, dI) xcl [(h0, .inr (3, [.null, .null, .null])), (q1, .inl (c2, 12, .inl (fun _ => 0)))] H := hP
  have hD : va_D A [(h0, .inr (3, [.null, .null, .null])), (q1, .inl (c2, 12, .inl (fun _ => 0)))] := hD
  have hK : va_K (dC, dI) xcl [(c2, .int)] s := hK
  refine W.widen (k := 1) (n := 12) (by omega) (by omega) ?_
  refine va_putF (pc := 9) (D := (dC, dI)) (ci := 3) (v := .ref q1) (ty := .array (.int)) (C := R_Gp) (T := T_Gp) (N := 3) hx hb hts xi_Gp ty_Gp tyok_Gp nm_Gp hown hK hP hD hS 0 rfl rfl 0 (by decide) (hts _ xl_Gp_9) (fun _ h9 => h9) rfl hin rfl (by decide +kernel) rfl rfl (Nat.le_of_ble_eq_true rfl) xd_Gp_init_9 (fun H locs hP hD hS => ?_)
  have hP : va_P (dC, dI) xcl [(h0, .inr (3, [.ref q1, .null, .null])), (q1, .inl (c2, 12, .inl (fun _ => 0)))] H := hP
  have hD : va_D A [(h0, .inr (3, [.ref q1, .null, .null])), (q1, .inl (c2, 12, .inl (fun _ => 0)))] := hD
  refine lv_aload_n (pc := 12) hx hb xd_Gp_init_12 rfl (lv_at hl 0 rfl) ?_
  refine lv_bipush (pc := 13) (v := (12 : Int32)) hx hb xd_Gp_init_13 (by decide) ?_
  refine va_newa (pc := 15) (atype := .boolean) (a0 := (12, .inl (fun _ => 0))) (ty := .boolean) (N' := 12) hx hb (hts _ xac_boolean) rfl hK hP hD hS hA (fun _ => rfl) (by decide) (by decide) (by decide) (Nat.le_of_ble_eq_true rfl) (Nat.le_of_ble_eq_true rfl) xd_Gp_init_15 (fun q3 c4 H hK hP hD hS => ?_)
  have hP : va_P (dC, dI) xcl [(h0, .inr (3, [.ref q1, .null, .null])), (q1, .inl (c2, 12, .inl (fun _ => 0))), (q3, .inl (c4, 12, .inl (fun _ => 0)))] H := hP
  have hD : va_D A [(h0, .inr (3, [.ref q1, .null, .null])), (q1, .inl (c2, 12, .inl (fun _ => 0))), (q3, .inl (c4, 12, .inl (fun _ => 0)))] := hD
  have hK : va_K (dC, dI) xcl [(c2, .int), (c4, .boolean)] s := hK
  refine W.widen (k := 2) (n := 24) (by omega) (by omega) ?_
  refine va_putF (pc := 17) (D := (dC, dI)) (ci := 3) (v := .ref q3) (ty := .array (.boolean)) (C := R_Gp) (T := T_Gp) (N := 3) hx hb hts xi_Gp ty_Gp tyok_Gp nm_Gp hown hK hP hD hS 0 rfl rfl 1 (by decide) (hts _ xl_Gp_15) (fun _ h9 => h9) rfl hin rfl (by decide +kernel) rfl rfl (Nat.le_of_ble_eq_true rfl) xd_Gp_init_17 (fun H locs hP hD hS => ?_)
  have hP : va_P (dC, dI) xcl [(h0, .inr (3, [.ref q1, .ref q3, .null])), (q1, .inl (c2, 12, .inl (fun _ => 0))), (q3, .inl (c4, 12, .inl (fun _ => 0)))] H := hP
  have hD : va_D A [(h0, .inr (3, [.ref q1, .ref q3, .null])), (q1, .inl (c2, 12, .inl (fun _ => 0))), (q3, .inl (c4, 12, .inl (fun _ => 0)))] := hD
  refine lv_aload_n (pc := 20) hx hb xd_Gp_init_20 rfl (lv_at hl 0 rfl) ?_
  refine lv_bipush (pc := 21) (v := (12 : Int32)) hx hb xd_Gp_init_21 (by decide) ?_
  refine va_newa (pc := 23) (atype := .int) (a0 := (12, .inl (fun _ => 0))) (ty := .int) (N' := 12) hx hb (hts _ xac_int) rfl hK hP hD hS hA (fun _ => rfl) (by decide) (by decide) (by decide) (Nat.le_of_ble_eq_true rfl) (Nat.le_of_ble_eq_true rfl) xd_Gp_init_23 (fun q5 c6 H hK hP hD hS => ?_)
  have hP : va_P (dC, dI) xcl [(h0, .inr (3, [.ref q1, .ref q3, .null])), (q1, .inl (c2, 12, .inl (fun _ => 0))), (q3, .inl (c4, 12, .inl (fun _ => 0))), (q5, .inl (c6, 12, .inl (fun _ => 0)))] H := hP
  have hD : va_D A [(h0, .inr (3, [.ref q1, .ref q3, .null])), (q1, .inl (c2, 12, .inl (fun _ => 0))), (q3, .inl (c4, 12, .inl (fun _ => 0))), (q5, .inl (c6, 12, .inl (fun _ => 0)))] := hD
  have hK : va_K (dC, dI) xcl [(c2, .int), (c4, .boolean), (c6, .int)] s := hK
  refine W.widen (k := 3) (n := 36) (by omega) (by omega) ?_
  refine va_putF (pc := 25) (D := (dC, dI)) (ci := 3) (v := .ref q5) (ty := .array (.int)) (C := R_Gp) (T := T_Gp) (N := 3) hx hb hts xi_Gp ty_Gp tyok_Gp nm_Gp hown hK hP hD hS 0 rfl rfl 2 (by decide) (hts _ xl_Gp_19) (fun _ h9 => h9) rfl hin rfl (by decide +kernel) rfl rfl (Nat.le_of_ble_eq_true rfl) xd_Gp_init_25 (fun H locs hP hD hS => ?_)
  have hP : va_P (dC, dI) xcl [(h0, .inr (3, [.ref q1, .ref q3, .ref q5])), (q1, .inl (c2, 12, .inl (fun _ => 0))), (q3, .inl (c4, 12, .inl (fun _ => 0))), (q5, .inl (c6, 12, .inl (fun _ => 0)))] H := hP
  have hD : va_D A [(h0, .inr (3, [.ref q1, .ref q3, .ref q5])), (q1, .inl (c2, 12, .inl (fun _ => 0))), (q3, .inl (c4, 12, .inl (fun _ => 0))), (q5, .inl (c6, 12, .inl (fun _ => 0)))] := hD
  have hP9 := hP.sub (ws' := [(h0, .inr (3, [.ref q1, .ref q3, .ref q5])), (q1, .inl (c2, 12, .inl (fun _ => 0))), (q3, .inl (c4, 12, .inl (fun _ => 0))), (q5, .inl (c6, 12, .inl (fun _ => 0)))]) [0, 1, 2, 3] rfl
  have hD9 := hD.sub (ws' := [(h0, .inr (3, [.ref q1, .ref q3, .ref q5])), (q1, .inl (c2, 12, .inl (fun _ => 0))), (q3, .inl (c4, 12, .inl (fun _ => 0))), (q5, .inl (c6, 12, .inl (fun _ => 0)))]) [0, 1, 2, 3] (by decide) rfl
  refine W.widen (k := 3) (n := 36) (by omega) (by omega) ?_
  exact W.vret hx hb hr (fun t ht hW => ⟨⟨(), rfl, trivial, q1, q3, q5, c2, c4, c6, by rw [ht]; exact hP9, va_K.moved hW.alike hK, hD9⟩, hS.F ht⟩) hS.2.2 xd_Gp_init_28
