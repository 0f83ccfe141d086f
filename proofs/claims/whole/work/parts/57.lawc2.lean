set_option maxHeartbeats 4000000 in
set_option maxRecDepth 100000 in
theorem lc_24 {p : Program} {l : Launch} {e : Env} {s : State} {m : MethodId} {below : List Frame} {meth : Method} {c : Code} {G : xG} {b L : Nat} {xs : Nat → Int32} (hC : xC p s m #[Value.ref b] c code R_law 4 G) (hX : va_X b L xs s s.heap) (hbl : b < s.heap.size) (hbA : ¬ xA G b) {xInv : xM → Prop} {x3 : Int32} {w1 : Int32} (hi1 : vp_in (x3 + (1 : Int32)) L) (ew1 : xs (x3 + (1 : Int32)).toNatClampNeg = w1) {w2 : Int32} (hi2 : vp_in (x3 + (2 : Int32)) L) (ew2 : xs (x3 + (2 : Int32)).toNatClampNeg = w2) {w3 : Int32} (hi3 : vp_in (x3 + (3 : Int32)) L) (ew3 : xs (x3 + (3 : Int32)).toNatClampNeg = w3) (tail : ∀ (M : xM) (H : Heap) (locs : List Loc) (ls : Array Slot), xInv M → xRp G M H → va_S (xA G) s.heap H locs → lv_has ls 4 [(0, .ref b), (1, .ref (G.1 8 0)), (2, .ref (G.1 9 0)), (3, .int x3)] → W p l e room_1 s m #[Value.ref b] below meth c H locs 600000 7302250 (lw_Z below #[Value.ref b] s) (F0 m 1248 ls [])) (op_settle : ∀ (M : xM) (a : Int32), xInv M → xw_CA_settle a M (fun r M1 => xw_Mo_settle a M1 (fun q M2 => r = q ∧ xInv M2))) (M : xM) (H : Heap) (locs : List Loc) (ls : Array Slot) (hI : xInv M) (hR : xRp G M H) (hS : va_S (xA G) s.heap H locs) (hl : lv_has ls 4 [(0, .ref b), (1, .ref (G.1 8 0)), (2, .ref (G.1 9 0)), (3, .int x3)]) : W p l e room_1 s m #[Value.ref b] below meth c H locs 600000 7302250 (lw_Z below #[Value.ref b] s) (F0 m 998 ls []) := by
  have hx := hC.1
  have hb := hC.2.1
  refine lv_aload_n (pc := 998) hx hb xd_law_998 rfl (lv_at hl 1 rfl) ?_
  refine lv_aload_n (pc := 999) hx hb xd_law_999 rfl (lv_at hl 0 rfl) ?_
  refine lv_iload_n (pc := 1000) hx hb xd_law_1000 rfl (lv_at hl 3 rfl) ?_
  refine lv_iconst (pc := 1001) (v := (1 : Int32)) hx hb xd_law_1001 (by decide) ?_
  refine lv_iadd (pc := 1002) hx hb xd_law_1002 ?_
  refine va_sld (pc := 1003) hx hb hX hbl hbA hS hi1 xd_law_1003 ?_
  rw [ew1]
  have h := op_settle M w1 hI
  refine xr_callL (pc := 1004) (As := [.int w1]) (rest := []) hC hR hS (xc_CA_settle l G h) xo_C0 xv_law_114 ⟨rfl, rfl, Nat.le_of_ble_eq_true rfl, Nat.le_of_ble_eq_true rfl⟩ rfl hl.1 rfl (Nat.le_of_ble_eq_true rfl) (Nat.le_of_ble_eq_true rfl) (Nat.le_of_ble_eq_true rfl) xd_law_1004 (fun r0 M H locs h hR hS => ?_)
  refine lv_aload_n (pc := 1007) hx hb xd_law_1007 rfl (lv_at hl 2 rfl) ?_
  refine lv_aload_n (pc := 1008) hx hb xd_law_1008 rfl (lv_at hl 0 rfl) ?_
  refine lv_iload_n (pc := 1009) hx hb xd_law_1009 rfl (lv_at hl 3 rfl) ?_
  refine lv_iconst (pc := 1010) (v := (1 : Int32)) hx hb xd_law_1010 (by decide) ?_
  refine lv_iadd (pc := 1011) hx hb xd_law_1011 ?_
  refine va_sld (pc := 1012) hx hb hX hbl hbA hS hi1 xd_law_1012 ?_
  rw [ew1]
  refine xr_callL (pc := 1013) (As := [.int w1]) (rest := [.int r0]) hC hR hS (xc_Mo_settle l G h) xo_M0 xv_law_117 ⟨rfl, rfl, Nat.le_of_ble_eq_true rfl, Nat.le_of_ble_eq_true rfl⟩ rfl hl.1 rfl (Nat.le_of_ble_eq_true rfl) (Nat.le_of_ble_eq_true rfl) (Nat.le_of_ble_eq_true rfl) xd_law_1013 (fun r1 M H locs h hR hS => ?_)
  refine lv_icmp_eq (pc := 1016) (tgt := 1248) hx hb xd_law_1016 (by decide) (fun _ => ?_) (fun hq => absurd h.1 hq)
  exact tail M H locs ls h.2 hR hS hl
set_option maxHeartbeats 4000000 in
set_option maxRecDepth 100000 in
theorem lc_25 {p : Program} {l : Launch} {e : Env} {s : State} {m : MethodId} {below : List Frame} {meth : Method} {c : Code} {G : xG} {b L : Nat} {xs : Nat → Int32} (hC : xC p s m #[Value.ref b] c code R_law 4 G) (hX : va_X b L xs s s.heap) (hbl : b < s.heap.size) (hbA : ¬ xA G b) {xInv : xM → Prop} {x3 : Int32} {w1 : Int32} (hi1 : vp_in (x3 + (1 : Int32)) L) (ew1 : xs (x3 + (1 : Int32)).toNatClampNeg = w1) {w2 : Int32} (hi2 : vp_in (x3 + (2 : Int32)) L) (ew2 : xs (x3 + (2 : Int32)).toNatClampNeg = w2) {w3 : Int32} (hi3 : vp_in (x3 + (3 : Int32)) L) (ew3 : xs (x3 + (3 : Int32)).toNatClampNeg = w3) (tail : ∀ (M : xM) (H : Heap) (locs : List Loc) (ls : Array Slot), xInv M → xRp G M H → va_S (xA G) s.heap H locs → lv_has ls 4 [(0, .ref b), (1, .ref (G.1 8 0)), (2, .ref (G.1 9 0)), (3, .int x3)] → W p l e room_1 s m #[Value.ref b] below meth c H locs 600000 7302250 (lw_Z below #[Value.ref b] s) (F0 m 1248 ls [])) (op_stuck : ∀ (M : xM), xInv M → xw_CA_stuck  M (fun r M1 => xw_Mo_stuck  M1 (fun q M2 => r = q ∧ xInv M2))) (M : xM) (H : Heap) (locs : List Loc) (ls : Array Slot) (hI : xInv M) (hR : xRp G M H) (hS : va_S (xA G) s.heap H locs) (hl : lv_has ls 4 [(0, .ref b), (1, .ref (G.1 8 0)), (2, .ref (G.1 9 0)), (3, .int x3)]) : W p l e room_1 s m #[Value.ref b] below meth c H locs 600000 7302250 (lw_Z below #[Value.ref b] s) (F0 m 1021 ls []) := by
  have hx := hC.1
  have hb := hC.2.1
  refine lv_aload_n (pc := 1021) hx hb xd_law_1021 rfl (lv_at hl 1 rfl) ?_
  have h := op_stuck M  hI
  refine xr_callL (pc := 1022) (As := []) (rest := []) hC hR hS (xc_CA_stuck l G h) xo_C0 xv_law_118 ⟨rfl, rfl, Nat.le_of_ble_eq_true rfl, Nat.le_of_ble_eq_true rfl⟩ rfl hl.1 rfl (Nat.le_of_ble_eq_true rfl) (Nat.le_of_ble_eq_true rfl) (Nat.le_of_ble_eq_true rfl) xd_law_1022 (fun r0 M H locs h hR hS => ?_)
  refine lv_aload_n (pc := 1025) hx hb xd_law_1025 rfl (lv_at hl 2 rfl) ?_
  refine xr_callL (pc := 1026) (As := []) (rest := [.int r0]) hC hR hS (xc_Mo_stuck l G h) xo_M0 xv_law_121 ⟨rfl, rfl, Nat.le_of_ble_eq_true rfl, Nat.le_of_ble_eq_true rfl⟩ rfl hl.1 rfl (Nat.le_of_ble_eq_true rfl) (Nat.le_of_ble_eq_true rfl) (Nat.le_of_ble_eq_true rfl) xd_law_1026 (fun r1 M H locs h hR hS => ?_)
  refine lv_icmp_eq (pc := 1029) (tgt := 1248) hx hb xd_law_1029 (by decide) (fun _ => ?_) (fun hq => absurd h.1 hq)
  exact tail M H locs ls h.2 hR hS hl
set_option maxHeartbeats 4000000 in
set_option maxRecDepth 100000 in
theorem lc_26 {p : Program} {l : Launch} {e : Env} {s : State} {m : MethodId} {below : List Frame} {meth : Method} {c : Code} {G : xG} {b L : Nat} {xs : Nat → Int32} (hC : xC p s m #[Value.ref b] c code R_law 4 G) (hX : va_X b L xs s s.heap) (hbl : b < s.heap.size) (hbA : ¬ xA G b) {xInv : xM → Prop} {x3 : Int32} {w1 : Int32} (hi1 : vp_in (x3 + (1 : Int32)) L) (ew1 : xs (x3 + (1 : Int32)).toNatClampNeg = w1) {w2 : Int32} (hi2 : vp_in (x3 + (2 : Int32)) L) (ew2 : xs (x3 + (2 : Int32)).toNatClampNeg = w2) {w3 : Int32} (hi3 : vp_in (x3 + (3 : Int32)) L) (ew3 : xs (x3 + (3 : Int32)).toNatClampNeg = w3) (tail : ∀ (M : xM) (H : Heap) (locs : List Loc) (ls : Array Slot), xInv M → xRp G M H → va_S (xA G) s.heap H locs → lv_has ls 4 [(0, .ref b), (1, .ref (G.1 8 0)), (2, .ref (G.1 9 0)), (3, .int x3)] → W p l e room_1 s m #[Value.ref b] below meth c H locs 600000 7302250 (lw_Z below #[Value.ref b] s) (F0 m 1248 ls [])) (op_ramp : ∀ (M : xM) (a b c : Int32), xInv M → xw_CA_ramp a b c M (fun r M1 => xw_Mo_ramp a b c M1 (fun q M2 => r = q ∧ xInv M2))) (M : xM) (H : Heap) (locs : List Loc) (ls : Array Slot) (hI : xInv M) (hR : xRp G M H) (hS : va_S (xA G) s.heap H locs) (hl : lv_has ls 4 [(0, .ref b), (1, .ref (G.1 8 0)), (2, .ref (G.1 9 0)), (3, .int x3)]) : W p l e room_1 s m #[Value.ref b] below meth c H locs 600000 7302250 (lw_Z below #[Value.ref b] s) (F0 m 1034 ls []) := by
  have hx := hC.1
  have hb := hC.2.1
  refine lv_aload_n (pc := 1034) hx hb xd_law_1034 rfl (lv_at hl 1 rfl) ?_
  refine lv_aload_n (pc := 1035) hx hb xd_law_1035 rfl (lv_at hl 0 rfl) ?_
  refine lv_iload_n (pc := 1036) hx hb xd_law_1036 rfl (lv_at hl 3 rfl) ?_
  refine lv_iconst (pc := 1037) (v := (1 : Int32)) hx hb xd_law_1037 (by decide) ?_
  refine lv_iadd (pc := 1038) hx hb xd_law_1038 ?_
  refine va_sld (pc := 1039) hx hb hX hbl hbA hS hi1 xd_law_1039 ?_
  rw [ew1]
  refine lv_aload_n (pc := 1040) hx hb xd_law_1040 rfl (lv_at hl 0 rfl) ?_
  refine lv_iload_n (pc := 1041) hx hb xd_law_1041 rfl (lv_at hl 3 rfl) ?_
  refine lv_iconst (pc := 1042) (v := (2 : Int32)) hx hb xd_law_1042 (by decide) ?_
  refine lv_iadd (pc := 1043) hx hb xd_law_1043 ?_
  refine va_sld (pc := 1044) hx hb hX hbl hbA hS hi2 xd_law_1044 ?_
  rw [ew2]
  refine lv_aload_n (pc := 1045) hx hb xd_law_1045 rfl (lv_at hl 0 rfl) ?_
  refine lv_iload_n (pc := 1046) hx hb xd_law_1046 rfl (lv_at hl 3 rfl) ?_
  refine lv_iconst (pc := 1047) (v := (3 : Int32)) hx hb xd_law_1047 (by decide) ?_
  refine lv_iadd (pc := 1048) hx hb xd_law_1048 ?_
  refine va_sld (pc := 1049) hx hb hX hbl hbA hS hi3 xd_law_1049 ?_
  rw [ew3]
  have h := op_ramp M w1 w2 w3 hI
  refine xr_callL (pc := 1050) (As := [.int w1, .int w2, .int w3]) (rest := []) hC hR hS (xc_CA_ramp l G h) xo_C0 xv_law_122 ⟨rfl, rfl, Nat.le_of_ble_eq_true rfl, Nat.le_of_ble_eq_true rfl⟩ rfl hl.1 rfl (Nat.le_of_ble_eq_true rfl) (Nat.le_of_ble_eq_true rfl) (Nat.le_of_ble_eq_true rfl) xd_law_1050 (fun r0 M H locs h hR hS => ?_)
  refine lv_aload_n (pc := 1053) hx hb xd_law_1053 rfl (lv_at hl 2 rfl) ?_
  refine lv_aload_n (pc := 1054) hx hb xd_law_1054 rfl (lv_at hl 0 rfl) ?_
  refine lv_iload_n (pc := 1055) hx hb xd_law_1055 rfl (lv_at hl 3 rfl) ?_
  refine lv_iconst (pc := 1056) (v := (1 : Int32)) hx hb xd_law_1056 (by decide) ?_
  refine lv_iadd (pc := 1057) hx hb xd_law_1057 ?_
  refine va_sld (pc := 1058) hx hb hX hbl hbA hS hi1 xd_law_1058 ?_
  rw [ew1]
  refine lv_aload_n (pc := 1059) hx hb xd_law_1059 rfl (lv_at hl 0 rfl) ?_
  refine lv_iload_n (pc := 1060) hx hb xd_law_1060 rfl (lv_at hl 3 rfl) ?_
  refine lv_iconst (pc := 1061) (v := (2 : Int32)) hx hb xd_law_1061 (by decide) ?_
  refine lv_iadd (pc := 1062) hx hb xd_law_1062 ?_
  refine va_sld (pc := 1063) hx hb hX hbl hbA hS hi2 xd_law_1063 ?_
  rw [ew2]
  refine lv_aload_n (pc := 1064) hx hb xd_law_1064 rfl (lv_at hl 0 rfl) ?_
  refine lv_iload_n (pc := 1065) hx hb xd_law_1065 rfl (lv_at hl 3 rfl) ?_
  refine lv_iconst (pc := 1066) (v := (3 : Int32)) hx hb xd_law_1066 (by decide) ?_
  refine lv_iadd (pc := 1067) hx hb xd_law_1067 ?_
  refine va_sld (pc := 1068) hx hb hX hbl hbA hS hi3 xd_law_1068 ?_
  rw [ew3]
  refine xr_callL (pc := 1069) (As := [.int w1, .int w2, .int w3]) (rest := [.int r0]) hC hR hS (xc_Mo_ramp l G h) xo_M0 xv_law_125 ⟨rfl, rfl, Nat.le_of_ble_eq_true rfl, Nat.le_of_ble_eq_true rfl⟩ rfl hl.1 rfl (Nat.le_of_ble_eq_true rfl) (Nat.le_of_ble_eq_true rfl) (Nat.le_of_ble_eq_true rfl) xd_law_1069 (fun r1 M H locs h hR hS => ?_)
  refine lv_icmp_eq (pc := 1072) (tgt := 1248) hx hb xd_law_1072 (by decide) (fun _ => ?_) (fun hq => absurd h.1 hq)
  exact tail M H locs ls h.2 hR hS hl
set_option maxHeartbeats 4000000 in
set_option maxRecDepth 100000 in
theorem lc_27 {p : Program} {l : Launch} {e : Env} {s : State} {m : MethodId} {below : List Frame} {meth : Method} {c : Code} {G : xG} {b L : Nat} {xs : Nat → Int32} (hC : xC p s m #[Value.ref b] c code R_law 4 G) (hX : va_X b L xs s s.heap) (hbl : b < s.heap.size) (hbA : ¬ xA G b) {xInv : xM → Prop} {x3 : Int32} {w1 : Int32} (hi1 : vp_in (x3 + (1 : Int32)) L) (ew1 : xs (x3 + (1 : Int32)).toNatClampNeg = w1) {w2 : Int32} (hi2 : vp_in (x3 + (2 : Int32)) L) (ew2 : xs (x3 + (2 : Int32)).toNatClampNeg = w2) {w3 : Int32} (hi3 : vp_in (x3 + (3 : Int32)) L) (ew3 : xs (x3 + (3 : Int32)).toNatClampNeg = w3) (tail : ∀ (M : xM) (H : Heap) (locs : List Loc) (ls : Array Slot), xInv M → xRp G M H → va_S (xA G) s.heap H locs → lv_has ls 4 [(0, .ref b), (1, .ref (G.1 8 0)), (2, .ref (G.1 9 0)), (3, .int x3)] → W p l e room_1 s m #[Value.ref b] below meth c H locs 600000 7302250 (lw_Z below #[Value.ref b] s) (F0 m 1248 ls [])) (op_step : ∀ (M : xM) (a : Int32), xInv M → xw_CA_step a M (fun r M1 => xw_Mo_step a M1 (fun q M2 => r = q ∧ xInv M2))) (M : xM) (H : Heap) (locs : List Loc) (ls : Array Slot) (hI : xInv M) (hR : xRp G M H) (hS : va_S (xA G) s.heap H locs) (hl : lv_has ls 4 [(0, .ref b), (1, .ref (G.1 8 0)), (2, .ref (G.1 9 0)), (3, .int x3)]) : W p l e room_1 s m #[Value.ref b] below meth c H locs 600000 7302250 (lw_Z below #[Value.ref b] s) (F0 m 1077 ls []) := by
  have hx := hC.1
  have hb := hC.2.1
  refine lv_aload_n (pc := 1077) hx hb xd_law_1077 rfl (lv_at hl 1 rfl) ?_
  refine lv_aload_n (pc := 1078) hx hb xd_law_1078 rfl (lv_at hl 0 rfl) ?_
  refine lv_iload_n (pc := 1079) hx hb xd_law_1079 rfl (lv_at hl 3 rfl) ?_
  refine lv_iconst (pc := 1080) (v := (1 : Int32)) hx hb xd_law_1080 (by decide) ?_
  refine lv_iadd (pc := 1081) hx hb xd_law_1081 ?_
  refine va_sld (pc := 1082) hx hb hX hbl hbA hS hi1 xd_law_1082 ?_
  rw [ew1]
  have h := op_step M w1 hI
  refine xr_callL (pc := 1083) (As := [.int w1]) (rest := []) hC hR hS (xc_CA_step l G h) xo_C0 xv_law_126 ⟨rfl, rfl, Nat.le_of_ble_eq_true rfl, Nat.le_of_ble_eq_true rfl⟩ rfl hl.1 rfl (Nat.le_of_ble_eq_true rfl) (Nat.le_of_ble_eq_true rfl) (Nat.le_of_ble_eq_true rfl) xd_law_1083 (fun r0 M H locs h hR hS => ?_)
  refine lv_aload_n (pc := 1086) hx hb xd_law_1086 rfl (lv_at hl 2 rfl) ?_
  refine lv_aload_n (pc := 1087) hx hb xd_law_1087 rfl (lv_at hl 0 rfl) ?_
  refine lv_iload_n (pc := 1088) hx hb xd_law_1088 rfl (lv_at hl 3 rfl) ?_
  refine lv_iconst (pc := 1089) (v := (1 : Int32)) hx hb xd_law_1089 (by decide) ?_
  refine lv_iadd (pc := 1090) hx hb xd_law_1090 ?_
  refine va_sld (pc := 1091) hx hb hX hbl hbA hS hi1 xd_law_1091 ?_
  rw [ew1]
  refine xr_callL (pc := 1092) (As := [.int w1]) (rest := [.int r0]) hC hR hS (xc_Mo_step l G h) xo_M0 xv_law_129 ⟨rfl, rfl, Nat.le_of_ble_eq_true rfl, Nat.le_of_ble_eq_true rfl⟩ rfl hl.1 rfl (Nat.le_of_ble_eq_true rfl) (Nat.le_of_ble_eq_true rfl) (Nat.le_of_ble_eq_true rfl) xd_law_1092 (fun r1 M H locs h hR hS => ?_)
  refine lv_icmp_eq (pc := 1095) (tgt := 1248) hx hb xd_law_1095 (by decide) (fun _ => ?_) (fun hq => absurd h.1 hq)
  exact tail M H locs ls h.2 hR hS hl
set_option maxHeartbeats 4000000 in
set_option maxRecDepth 100000 in
theorem lc_28 {p : Program} {l : Launch} {e : Env} {s : State} {m : MethodId} {below : List Frame} {meth : Method} {c : Code} {G : xG} {b L : Nat} {xs : Nat → Int32} (hC : xC p s m #[Value.ref b] c code R_law 4 G) (hX : va_X b L xs s s.heap) (hbl : b < s.heap.size) (hbA : ¬ xA G b) {xInv : xM → Prop} {x3 : Int32} {w1 : Int32} (hi1 : vp_in (x3 + (1 : Int32)) L) (ew1 : xs (x3 + (1 : Int32)).toNatClampNeg = w1) {w2 : Int32} (hi2 : vp_in (x3 + (2 : Int32)) L) (ew2 : xs (x3 + (2 : Int32)).toNatClampNeg = w2) {w3 : Int32} (hi3 : vp_in (x3 + (3 : Int32)) L) (ew3 : xs (x3 + (3 : Int32)).toNatClampNeg = w3) (tail : ∀ (M : xM) (H : Heap) (locs : List Loc) (ls : Array Slot), xInv M → xRp G M H → va_S (xA G) s.heap H locs → lv_has ls 4 [(0, .ref b), (1, .ref (G.1 8 0)), (2, .ref (G.1 9 0)), (3, .int x3)] → W p l e room_1 s m #[Value.ref b] below meth c H locs 600000 7302250 (lw_Z below #[Value.ref b] s) (F0 m 1248 ls [])) (op_rising : ∀ (M : xM) (a : Int32), xInv M → xw_CA_rising a M (fun r M1 => xw_Mo_rising a M1 (fun q M2 => r = q ∧ xInv M2))) (M : xM) (H : Heap) (locs : List Loc) (ls : Array Slot) (hI : xInv M) (hR : xRp G M H) (hS : va_S (xA G) s.heap H locs) (hl : lv_has ls 4 [(0, .ref b), (1, .ref (G.1 8 0)), (2, .ref (G.1 9 0)), (3, .int x3)]) : W p l e room_1 s m #[Value.ref b] below meth c H locs 600000 7302250 (lw_Z below #[Value.ref b] s) (F0 m 1100 ls []) := by
  have hx := hC.1
  have hb := hC.2.1
  refine lv_aload_n (pc := 1100) hx hb xd_law_1100 rfl (lv_at hl 1 rfl) ?_
  refine lv_aload_n (pc := 1101) hx hb xd_law_1101 rfl (lv_at hl 0 rfl) ?_
  refine lv_iload_n (pc := 1102) hx hb xd_law_1102 rfl (lv_at hl 3 rfl) ?_
  refine lv_iconst (pc := 1103) (v := (1 : Int32)) hx hb xd_law_1103 (by decide) ?_
  refine lv_iadd (pc := 1104) hx hb xd_law_1104 ?_
  refine va_sld (pc := 1105) hx hb hX hbl hbA hS hi1 xd_law_1105 ?_
  rw [ew1]
  have h := op_rising M w1 hI
  refine xr_callL (pc := 1106) (As := [.int w1]) (rest := []) hC hR hS (xc_CA_rising l G h) xo_C0 xv_law_130 ⟨rfl, rfl, Nat.le_of_ble_eq_true rfl, Nat.le_of_ble_eq_true rfl⟩ rfl hl.1 rfl (Nat.le_of_ble_eq_true rfl) (Nat.le_of_ble_eq_true rfl) (Nat.le_of_ble_eq_true rfl) xd_law_1106 (fun r0 M H locs h hR hS => ?_)
  refine lv_aload_n (pc := 1109) hx hb xd_law_1109 rfl (lv_at hl 2 rfl) ?_
  refine lv_aload_n (pc := 1110) hx hb xd_law_1110 rfl (lv_at hl 0 rfl) ?_
  refine lv_iload_n (pc := 1111) hx hb xd_law_1111 rfl (lv_at hl 3 rfl) ?_
  refine lv_iconst (pc := 1112) (v := (1 : Int32)) hx hb xd_law_1112 (by decide) ?_
  refine lv_iadd (pc := 1113) hx hb xd_law_1113 ?_
  refine va_sld (pc := 1114) hx hb hX hbl hbA hS hi1 xd_law_1114 ?_
  rw [ew1]
  refine xr_callL (pc := 1115) (As := [.int w1]) (rest := [.int r0]) hC hR hS (xc_Mo_rising l G h) xo_M0 xv_law_133 ⟨rfl, rfl, Nat.le_of_ble_eq_true rfl, Nat.le_of_ble_eq_true rfl⟩ rfl hl.1 rfl (Nat.le_of_ble_eq_true rfl) (Nat.le_of_ble_eq_true rfl) (Nat.le_of_ble_eq_true rfl) xd_law_1115 (fun r1 M H locs h hR hS => ?_)
  refine lv_icmp_eq (pc := 1118) (tgt := 1248) hx hb xd_law_1118 (by decide) (fun _ => ?_) (fun hq => absurd h.1 hq)
  exact tail M H locs ls h.2 hR hS hl
set_option maxHeartbeats 4000000 in
set_option maxRecDepth 100000 in
theorem lc_29 {p : Program} {l : Launch} {e : Env} {s : State} {m : MethodId} {below : List Frame} {meth : Method} {c : Code} {G : xG} {b L : Nat} {xs : Nat → Int32} (hC : xC p s m #[Value.ref b] c code R_law 4 G) (hX : va_X b L xs s s.heap) (hbl : b < s.heap.size) (hbA : ¬ xA G b) {xInv : xM → Prop} {x3 : Int32} {w1 : Int32} (hi1 : vp_in (x3 + (1 : Int32)) L) (ew1 : xs (x3 + (1 : Int32)).toNatClampNeg = w1) {w2 : Int32} (hi2 : vp_in (x3 + (2 : Int32)) L) (ew2 : xs (x3 + (2 : Int32)).toNatClampNeg = w2) {w3 : Int32} (hi3 : vp_in (x3 + (3 : Int32)) L) (ew3 : xs (x3 + (3 : Int32)).toNatClampNeg = w3) (tail : ∀ (M : xM) (H : Heap) (locs : List Loc) (ls : Array Slot), xInv M → xRp G M H → va_S (xA G) s.heap H locs → lv_has ls 4 [(0, .ref b), (1, .ref (G.1 8 0)), (2, .ref (G.1 9 0)), (3, .int x3)] → W p l e room_1 s m #[Value.ref b] below meth c H locs 600000 7302250 (lw_Z below #[Value.ref b] s) (F0 m 1248 ls [])) (op_group : ∀ (M : xM) (a b c : Int32), xInv M → xw_CA_group a b c M (fun r M1 => xw_Mo_group a b c M1 (fun q M2 => r = q ∧ xInv M2))) (M : xM) (H : Heap) (locs : List Loc) (ls : Array Slot) (hI : xInv M) (hR : xRp G M H) (hS : va_S (xA G) s.heap H locs) (hl : lv_has ls 4 [(0, .ref b), (1, .ref (G.1 8 0)), (2, .ref (G.1 9 0)), (3, .int x3)]) : W p l e room_1 s m #[Value.ref b] below meth c H locs 600000 7302250 (lw_Z below #[Value.ref b] s) (F0 m 1123 ls []) := by
  have hx := hC.1
  have hb := hC.2.1
  refine lv_aload_n (pc := 1123) hx hb xd_law_1123 rfl (lv_at hl 1 rfl) ?_
  refine lv_aload_n (pc := 1124) hx hb xd_law_1124 rfl (lv_at hl 0 rfl) ?_
  refine lv_iload_n (pc := 1125) hx hb xd_law_1125 rfl (lv_at hl 3 rfl) ?_
  refine lv_iconst (pc := 1126) (v := (1 : Int32)) hx hb xd_law_1126 (by decide) ?_
  refine lv_iadd (pc := 1127) hx hb xd_law_1127 ?_
  refine va_sld (pc := 1128) hx hb hX hbl hbA hS hi1 xd_law_1128 ?_
  rw [ew1]
  refine lv_aload_n (pc := 1129) hx hb xd_law_1129 rfl (lv_at hl 0 rfl) ?_
  refine lv_iload_n (pc := 1130) hx hb xd_law_1130 rfl (lv_at hl 3 rfl) ?_
  refine lv_iconst (pc := 1131) (v := (2 : Int32)) hx hb xd_law_1131 (by decide) ?_
  refine lv_iadd (pc := 1132) hx hb xd_law_1132 ?_
  refine va_sld (pc := 1133) hx hb hX hbl hbA hS hi2 xd_law_1133 ?_
  rw [ew2]
  refine lv_aload_n (pc := 1134) hx hb xd_law_1134 rfl (lv_at hl 0 rfl) ?_
  refine lv_iload_n (pc := 1135) hx hb xd_law_1135 rfl (lv_at hl 3 rfl) ?_
  refine lv_iconst (pc := 1136) (v := (3 : Int32)) hx hb xd_law_1136 (by decide) ?_
  refine lv_iadd (pc := 1137) hx hb xd_law_1137 ?_
  refine va_sld (pc := 1138) hx hb hX hbl hbA hS hi3 xd_law_1138 ?_
  rw [ew3]
  have h := op_group M w1 w2 w3 hI
  refine xr_callL (pc := 1139) (As := [.int w1, .int w2, .int w3]) (rest := []) hC hR hS (xc_CA_group l G h) xo_C0 xv_law_134 ⟨rfl, rfl, Nat.le_of_ble_eq_true rfl, Nat.le_of_ble_eq_true rfl⟩ rfl hl.1 rfl (Nat.le_of_ble_eq_true rfl) (Nat.le_of_ble_eq_true rfl) (Nat.le_of_ble_eq_true rfl) xd_law_1139 (fun r0 M H locs h hR hS => ?_)
  refine lv_aload_n (pc := 1142) hx hb xd_law_1142 rfl (lv_at hl 2 rfl) ?_
  refine lv_aload_n (pc := 1143) hx hb xd_law_1143 rfl (lv_at hl 0 rfl) ?_
  refine lv_iload_n (pc := 1144) hx hb xd_law_1144 rfl (lv_at hl 3 rfl) ?_
  refine lv_iconst (pc := 1145) (v := (1 : Int32)) hx hb xd_law_1145 (by decide) ?_
  refine lv_iadd (pc := 1146) hx hb xd_law_1146 ?_
  refine va_sld (pc := 1147) hx hb hX hbl hbA hS hi1 xd_law_1147 ?_
  rw [ew1]
  refine lv_aload_n (pc := 1148) hx hb xd_law_1148 rfl (lv_at hl 0 rfl) ?_
  refine lv_iload_n (pc := 1149) hx hb xd_law_1149 rfl (lv_at hl 3 rfl) ?_
  refine lv_iconst (pc := 1150) (v := (2 : Int32)) hx hb xd_law_1150 (by decide) ?_
  refine lv_iadd (pc := 1151) hx hb xd_law_1151 ?_
  refine va_sld (pc := 1152) hx hb hX hbl hbA hS hi2 xd_law_1152 ?_
  rw [ew2]
  refine lv_aload_n (pc := 1153) hx hb xd_law_1153 rfl (lv_at hl 0 rfl) ?_
  refine lv_iload_n (pc := 1154) hx hb xd_law_1154 rfl (lv_at hl 3 rfl) ?_
  refine lv_iconst (pc := 1155) (v := (3 : Int32)) hx hb xd_law_1155 (by decide) ?_
  refine lv_iadd (pc := 1156) hx hb xd_law_1156 ?_
  refine va_sld (pc := 1157) hx hb hX hbl hbA hS hi3 xd_law_1157 ?_
  rw [ew3]
  refine xr_callL (pc := 1158) (As := [.int w1, .int w2, .int w3]) (rest := [.int r0]) hC hR hS (xc_Mo_group l G h) xo_M0 xv_law_137 ⟨rfl, rfl, Nat.le_of_ble_eq_true rfl, Nat.le_of_ble_eq_true rfl⟩ rfl hl.1 rfl (Nat.le_of_ble_eq_true rfl) (Nat.le_of_ble_eq_true rfl) (Nat.le_of_ble_eq_true rfl) xd_law_1158 (fun r1 M H locs h hR hS => ?_)
  refine lv_icmp_eq (pc := 1161) (tgt := 1248) hx hb xd_law_1161 (by decide) (fun _ => ?_) (fun hq => absurd h.1 hq)
  exact tail M H locs ls h.2 hR hS hl
set_option maxHeartbeats 4000000 in
set_option maxRecDepth 100000 in
theorem lc_30 {p : Program} {l : Launch} {e : Env} {s : State} {m : MethodId} {below : List Frame} {meth : Method} {c : Code} {G : xG} {b L : Nat} {xs : Nat → Int32} (hC : xC p s m #[Value.ref b] c code R_law 4 G) (hX : va_X b L xs s s.heap) (hbl : b < s.heap.size) (hbA : ¬ xA G b) {xInv : xM → Prop} {x3 : Int32} {w1 : Int32} (hi1 : vp_in (x3 + (1 : Int32)) L) (ew1 : xs (x3 + (1 : Int32)).toNatClampNeg = w1) {w2 : Int32} (hi2 : vp_in (x3 + (2 : Int32)) L) (ew2 : xs (x3 + (2 : Int32)).toNatClampNeg = w2) {w3 : Int32} (hi3 : vp_in (x3 + (3 : Int32)) L) (ew3 : xs (x3 + (3 : Int32)).toNatClampNeg = w3) (tail : ∀ (M : xM) (H : Heap) (locs : List Loc) (ls : Array Slot), xInv M → xRp G M H → va_S (xA G) s.heap H locs → lv_has ls 4 [(0, .ref b), (1, .ref (G.1 8 0)), (2, .ref (G.1 9 0)), (3, .int x3)] → W p l e room_1 s m #[Value.ref b] below meth c H locs 600000 7302250 (lw_Z below #[Value.ref b] s) (F0 m 1248 ls [])) (op_image : ∀ (M : xM) (a : Int32), xInv M → xw_CA_image a M (fun r M1 => xw_Mo_image a M1 (fun q M2 => r = q ∧ xInv M2))) (M : xM) (H : Heap) (locs : List Loc) (ls : Array Slot) (hI : xInv M) (hR : xRp G M H) (hS : va_S (xA G) s.heap H locs) (hl : lv_has ls 4 [(0, .ref b), (1, .ref (G.1 8 0)), (2, .ref (G.1 9 0)), (3, .int x3)]) : W p l e room_1 s m #[Value.ref b] below meth c H locs 600000 7302250 (lw_Z below #[Value.ref b] s) (F0 m 1166 ls []) := by
  have hx := hC.1
  have hb := hC.2.1
  refine lv_aload_n (pc := 1166) hx hb xd_law_1166 rfl (lv_at hl 1 rfl) ?_
  refine lv_aload_n (pc := 1167) hx hb xd_law_1167 rfl (lv_at hl 0 rfl) ?_
  refine lv_iload_n (pc := 1168) hx hb xd_law_1168 rfl (lv_at hl 3 rfl) ?_
  refine lv_iconst (pc := 1169) (v := (1 : Int32)) hx hb xd_law_1169 (by decide) ?_
  refine lv_iadd (pc := 1170) hx hb xd_law_1170 ?_
  refine va_sld (pc := 1171) hx hb hX hbl hbA hS hi1 xd_law_1171 ?_
  rw [ew1]
  have h := op_image M w1 hI
  refine xr_callL (pc := 1172) (As := [.int w1]) (rest := []) hC hR hS (xc_CA_image l G h) xo_C0 xv_law_138 ⟨rfl, rfl, Nat.le_of_ble_eq_true rfl, Nat.le_of_ble_eq_true rfl⟩ rfl hl.1 rfl (Nat.le_of_ble_eq_true rfl) (Nat.le_of_ble_eq_true rfl) (Nat.le_of_ble_eq_true rfl) xd_law_1172 (fun r0 M H locs h hR hS => ?_)
  refine lv_aload_n (pc := 1175) hx hb xd_law_1175 rfl (lv_at hl 2 rfl) ?_
  refine lv_aload_n (pc := 1176) hx hb xd_law_1176 rfl (lv_at hl 0 rfl) ?_
  refine lv_iload_n (pc := 1177) hx hb xd_law_1177 rfl (lv_at hl 3 rfl) ?_
  refine lv_iconst (pc := 1178) (v := (1 : Int32)) hx hb xd_law_1178 (by decide) ?_
  refine lv_iadd (pc := 1179) hx hb xd_law_1179 ?_
  refine va_sld (pc := 1180) hx hb hX hbl hbA hS hi1 xd_law_1180 ?_
  rw [ew1]
  refine xr_callL (pc := 1181) (As := [.int w1]) (rest := [.int r0]) hC hR hS (xc_Mo_image l G h) xo_M0 xv_law_141 ⟨rfl, rfl, Nat.le_of_ble_eq_true rfl, Nat.le_of_ble_eq_true rfl⟩ rfl hl.1 rfl (Nat.le_of_ble_eq_true rfl) (Nat.le_of_ble_eq_true rfl) (Nat.le_of_ble_eq_true rfl) xd_law_1181 (fun r1 M H locs h hR hS => ?_)
  refine lv_icmp_eq (pc := 1184) (tgt := 1248) hx hb xd_law_1184 (by decide) (fun _ => ?_) (fun hq => absurd h.1 hq)
  exact tail M H locs ls h.2 hR hS hl
set_option maxHeartbeats 4000000 in
set_option maxRecDepth 100000 in
theorem lc_31 {p : Program} {l : Launch} {e : Env} {s : State} {m : MethodId} {below : List Frame} {meth : Method} {c : Code} {G : xG} {b L : Nat} {xs : Nat → Int32} (hC : xC p s m #[Value.ref b] c code R_law 4 G) (hX : va_X b L xs s s.heap) (hbl : b < s.heap.size) (hbA : ¬ xA G b) {xInv : xM → Prop} {x3 : Int32} {w1 : Int32} (hi1 : vp_in (x3 + (1 : Int32)) L) (ew1 : xs (x3 + (1 : Int32)).toNatClampNeg = w1) {w2 : Int32} (hi2 : vp_in (x3 + (2 : Int32)) L) (ew2 : xs (x3 + (2 : Int32)).toNatClampNeg = w2) {w3 : Int32} (hi3 : vp_in (x3 + (3 : Int32)) L) (ew3 : xs (x3 + (3 : Int32)).toNatClampNeg = w3) (tail : ∀ (M : xM) (H : Heap) (locs : List Loc) (ls : Array Slot), xInv M → xRp G M H → va_S (xA G) s.heap H locs → lv_has ls 4 [(0, .ref b), (1, .ref (G.1 8 0)), (2, .ref (G.1 9 0)), (3, .int x3)] → W p l e room_1 s m #[Value.ref b] below meth c H locs 600000 7302250 (lw_Z below #[Value.ref b] s) (F0 m 1248 ls [])) (op_back : ∀ (M : xM) (a : Int32), xInv M → xw_CA_back a M (fun r M1 => xw_Mo_back a M1 (fun q M2 => r = q ∧ xInv M2))) (M : xM) (H : Heap) (locs : List Loc) (ls : Array Slot) (hI : xInv M) (hR : xRp G M H) (hS : va_S (xA G) s.heap H locs) (hl : lv_has ls 4 [(0, .ref b), (1, .ref (G.1 8 0)), (2, .ref (G.1 9 0)), (3, .int x3)]) : W p l e room_1 s m #[Value.ref b] below meth c H locs 600000 7302250 (lw_Z below #[Value.ref b] s) (F0 m 1189 ls []) := by
  have hx := hC.1
  have hb := hC.2.1
  refine lv_aload_n (pc := 1189) hx hb xd_law_1189 rfl (lv_at hl 1 rfl) ?_
  refine lv_aload_n (pc := 1190) hx hb xd_law_1190 rfl (lv_at hl 0 rfl) ?_
  refine lv_iload_n (pc := 1191) hx hb xd_law_1191 rfl (lv_at hl 3 rfl) ?_
  refine lv_iconst (pc := 1192) (v := (1 : Int32)) hx hb xd_law_1192 (by decide) ?_
  refine lv_iadd (pc := 1193) hx hb xd_law_1193 ?_
  refine va_sld (pc := 1194) hx hb hX hbl hbA hS hi1 xd_law_1194 ?_
  rw [ew1]
  have h := op_back M w1 hI
  refine xr_callL (pc := 1195) (As := [.int w1]) (rest := []) hC hR hS (xc_CA_back l G h) xo_C0 xv_law_142 ⟨rfl, rfl, Nat.le_of_ble_eq_true rfl, Nat.le_of_ble_eq_true rfl⟩ rfl hl.1 rfl (Nat.le_of_ble_eq_true rfl) (Nat.le_of_ble_eq_true rfl) (Nat.le_of_ble_eq_true rfl) xd_law_1195 (fun r0 M H locs h hR hS => ?_)
  refine lv_aload_n (pc := 1198) hx hb xd_law_1198 rfl (lv_at hl 2 rfl) ?_
  refine lv_aload_n (pc := 1199) hx hb xd_law_1199 rfl (lv_at hl 0 rfl) ?_
  refine lv_iload_n (pc := 1200) hx hb xd_law_1200 rfl (lv_at hl 3 rfl) ?_
  refine lv_iconst (pc := 1201) (v := (1 : Int32)) hx hb xd_law_1201 (by decide) ?_
  refine lv_iadd (pc := 1202) hx hb xd_law_1202 ?_
  refine va_sld (pc := 1203) hx hb hX hbl hbA hS hi1 xd_law_1203 ?_
  rw [ew1]
  refine xr_callL (pc := 1204) (As := [.int w1]) (rest := [.int r0]) hC hR hS (xc_Mo_back l G h) xo_M0 xv_law_145 ⟨rfl, rfl, Nat.le_of_ble_eq_true rfl, Nat.le_of_ble_eq_true rfl⟩ rfl hl.1 rfl (Nat.le_of_ble_eq_true rfl) (Nat.le_of_ble_eq_true rfl) (Nat.le_of_ble_eq_true rfl) xd_law_1204 (fun r1 M H locs h hR hS => ?_)
  refine lv_icmp_eq (pc := 1207) (tgt := 1248) hx hb xd_law_1207 (by decide) (fun _ => ?_) (fun hq => absurd h.1 hq)
  exact tail M H locs ls h.2 hR hS hl
set_option maxHeartbeats 4000000 in
set_option maxRecDepth 100000 in
theorem lc_32 {p : Program} {l : Launch} {e : Env} {s : State} {m : MethodId} {below : List Frame} {meth : Method} {c : Code} {G : xG} {b L : Nat} {xs : Nat → Int32} (hC : xC p s m #[Value.ref b] c code R_law 4 G) (hX : va_X b L xs s s.heap) (hbl : b < s.heap.size) (hbA : ¬ xA G b) {xInv : xM → Prop} {x3 : Int32} {w1 : Int32} (hi1 : vp_in (x3 + (1 : Int32)) L) (ew1 : xs (x3 + (1 : Int32)).toNatClampNeg = w1) {w2 : Int32} (hi2 : vp_in (x3 + (2 : Int32)) L) (ew2 : xs (x3 + (2 : Int32)).toNatClampNeg = w2) {w3 : Int32} (hi3 : vp_in (x3 + (3 : Int32)) L) (ew3 : xs (x3 + (3 : Int32)).toNatClampNeg = w3) (tail : ∀ (M : xM) (H : Heap) (locs : List Loc) (ls : Array Slot), xInv M → xRp G M H → va_S (xA G) s.heap H locs → lv_has ls 4 [(0, .ref b), (1, .ref (G.1 8 0)), (2, .ref (G.1 9 0)), (3, .int x3)] → W p l e room_1 s m #[Value.ref b] below meth c H locs 600000 7302250 (lw_Z below #[Value.ref b] s) (F0 m 1248 ls [])) (op_count : ∀ (M : xM) (a : Int32), xInv M → xw_CA_count a M (fun r M1 => xw_Mo_count a M1 (fun q M2 => r = q ∧ xInv M2))) (M : xM) (H : Heap) (locs : List Loc) (ls : Array Slot) (hI : xInv M) (hR : xRp G M H) (hS : va_S (xA G) s.heap H locs) (hl : lv_has ls 4 [(0, .ref b), (1, .ref (G.1 8 0)), (2, .ref (G.1 9 0)), (3, .int x3)]) : W p l e room_1 s m #[Value.ref b] below meth c H locs 600000 7302250 (lw_Z below #[Value.ref b] s) (F0 m 1212 ls []) := by
  have hx := hC.1
  have hb := hC.2.1
  refine lv_aload_n (pc := 1212) hx hb xd_law_1212 rfl (lv_at hl 1 rfl) ?_
  refine lv_aload_n (pc := 1213) hx hb xd_law_1213 rfl (lv_at hl 0 rfl) ?_
  refine lv_iload_n (pc := 1214) hx hb xd_law_1214 rfl (lv_at hl 3 rfl) ?_
  refine lv_iconst (pc := 1215) (v := (1 : Int32)) hx hb xd_law_1215 (by decide) ?_
  refine lv_iadd (pc := 1216) hx hb xd_law_1216 ?_
  refine va_sld (pc := 1217) hx hb hX hbl hbA hS hi1 xd_law_1217 ?_
  rw [ew1]
  have h := op_count M w1 hI
  refine xr_callL (pc := 1218) (As := [.int w1]) (rest := []) hC hR hS (xc_CA_count l G h) xo_C0 xv_law_146 ⟨rfl, rfl, Nat.le_of_ble_eq_true rfl, Nat.le_of_ble_eq_true rfl⟩ rfl hl.1 rfl (Nat.le_of_ble_eq_true rfl) (Nat.le_of_ble_eq_true rfl) (Nat.le_of_ble_eq_true rfl) xd_law_1218 (fun r0 M H locs h hR hS => ?_)
  refine lv_aload_n (pc := 1221) hx hb xd_law_1221 rfl (lv_at hl 2 rfl) ?_
  refine lv_aload_n (pc := 1222) hx hb xd_law_1222 rfl (lv_at hl 0 rfl) ?_
  refine lv_iload_n (pc := 1223) hx hb xd_law_1223 rfl (lv_at hl 3 rfl) ?_
  refine lv_iconst (pc := 1224) (v := (1 : Int32)) hx hb xd_law_1224 (by decide) ?_
  refine lv_iadd (pc := 1225) hx hb xd_law_1225 ?_
  refine va_sld (pc := 1226) hx hb hX hbl hbA hS hi1 xd_law_1226 ?_
  rw [ew1]
  refine xr_callL (pc := 1227) (As := [.int w1]) (rest := [.int r0]) hC hR hS (xc_Mo_count l G h) xo_M0 xv_law_149 ⟨rfl, rfl, Nat.le_of_ble_eq_true rfl, Nat.le_of_ble_eq_true rfl⟩ rfl hl.1 rfl (Nat.le_of_ble_eq_true rfl) (Nat.le_of_ble_eq_true rfl) (Nat.le_of_ble_eq_true rfl) xd_law_1227 (fun r1 M H locs h hR hS => ?_)
  refine lv_icmp_eq (pc := 1230) (tgt := 1248) hx hb xd_law_1230 (by decide) (fun _ => ?_) (fun hq => absurd h.1 hq)
  exact tail M H locs ls h.2 hR hS hl
set_option maxHeartbeats 4000000 in
set_option maxRecDepth 100000 in
theorem lc_33 {p : Program} {l : Launch} {e : Env} {s : State} {m : MethodId} {below : List Frame} {meth : Method} {c : Code} {G : xG} {b L : Nat} {xs : Nat → Int32} (hC : xC p s m #[Value.ref b] c code R_law 4 G) (hX : va_X b L xs s s.heap) (hbl : b < s.heap.size) (hbA : ¬ xA G b) {xInv : xM → Prop} {x3 : Int32} {w1 : Int32} (hi1 : vp_in (x3 + (1 : Int32)) L) (ew1 : xs (x3 + (1 : Int32)).toNatClampNeg = w1) {w2 : Int32} (hi2 : vp_in (x3 + (2 : Int32)) L) (ew2 : xs (x3 + (2 : Int32)).toNatClampNeg = w2) {w3 : Int32} (hi3 : vp_in (x3 + (3 : Int32)) L) (ew3 : xs (x3 + (3 : Int32)).toNatClampNeg = w3) (tail : ∀ (M : xM) (H : Heap) (locs : List Loc) (ls : Array Slot), xInv M → xRp G M H → va_S (xA G) s.heap H locs → lv_has ls 4 [(0, .ref b), (1, .ref (G.1 8 0)), (2, .ref (G.1 9 0)), (3, .int x3)] → W p l e room_1 s m #[Value.ref b] below meth c H locs 600000 7302250 (lw_Z below #[Value.ref b] s) (F0 m 1248 ls [])) (op_status : ∀ (M : xM), xInv M → xw_CA_status  M (fun r M1 => xw_Mo_status  M1 (fun q M2 => r = q ∧ xInv M2))) (M : xM) (H : Heap) (locs : List Loc) (ls : Array Slot) (hI : xInv M) (hR : xRp G M H) (hS : va_S (xA G) s.heap H locs) (hl : lv_has ls 4 [(0, .ref b), (1, .ref (G.1 8 0)), (2, .ref (G.1 9 0)), (3, .int x3)]) : W p l e room_1 s m #[Value.ref b] below meth c H locs 600000 7302250 (lw_Z below #[Value.ref b] s) (F0 m 1235 ls []) := by
  have hx := hC.1
  have hb := hC.2.1
  refine lv_aload_n (pc := 1235) hx hb xd_law_1235 rfl (lv_at hl 1 rfl) ?_
  have h := op_status M  hI
  refine xr_callL (pc := 1236) (As := []) (rest := []) hC hR hS (xc_CA_status l G h) xo_C0 xv_law_150 ⟨rfl, rfl, Nat.le_of_ble_eq_true rfl, Nat.le_of_ble_eq_true rfl⟩ rfl hl.1 rfl (Nat.le_of_ble_eq_true rfl) (Nat.le_of_ble_eq_true rfl) (Nat.le_of_ble_eq_true rfl) xd_law_1236 (fun r0 M H locs h hR hS => ?_)
  refine lv_aload_n (pc := 1239) hx hb xd_law_1239 rfl (lv_at hl 2 rfl) ?_
  refine xr_callL (pc := 1240) (As := []) (rest := [.int r0]) hC hR hS (xc_Mo_status l G h) xo_M0 xv_law_153 ⟨rfl, rfl, Nat.le_of_ble_eq_true rfl, Nat.le_of_ble_eq_true rfl⟩ rfl hl.1 rfl (Nat.le_of_ble_eq_true rfl) (Nat.le_of_ble_eq_true rfl) (Nat.le_of_ble_eq_true rfl) xd_law_1240 (fun r1 M H locs h hR hS => ?_)
  refine lv_icmp_eq (pc := 1243) (tgt := 1248) hx hb xd_law_1243 (by decide) (fun _ => ?_) (fun hq => absurd h.1 hq)
  exact tail M H locs ls h.2 hR hS hl
