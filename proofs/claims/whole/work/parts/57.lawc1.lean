set_option maxHeartbeats 4000000 in
set_option maxRecDepth 100000 in
theorem lc_12 {p : Program} {l : Launch} {e : Env} {s : State} {m : MethodId} {below : List Frame} {meth : Method} {c : Code} {G : xG} {b L : Nat} {xs : Nat → Int32} (hC : xC p s m #[Value.ref b] c code R_law 4 G) (hX : va_X b L xs s s.heap) (hbl : b < s.heap.size) (hbA : ¬ xA G b) {xInv : xM → Prop} {x3 : Int32} {w1 : Int32} (hi1 : vp_in (x3 + (1 : Int32)) L) (ew1 : xs (x3 + (1 : Int32)).toNatClampNeg = w1) {w2 : Int32} (hi2 : vp_in (x3 + (2 : Int32)) L) (ew2 : xs (x3 + (2 : Int32)).toNatClampNeg = w2) {w3 : Int32} (hi3 : vp_in (x3 + (3 : Int32)) L) (ew3 : xs (x3 + (3 : Int32)).toNatClampNeg = w3) (tail : ∀ (M : xM) (H : Heap) (locs : List Loc) (ls : Array Slot), xInv M → xRp G M H → va_S (xA G) s.heap H locs → lv_has ls 4 [(0, .ref b), (1, .ref (G.1 8 0)), (2, .ref (G.1 9 0)), (3, .int x3)] → W p l e room_1 s m #[Value.ref b] below meth c H locs 600000 7302250 (lw_Z below #[Value.ref b] s) (F0 m 1248 ls [])) (op_add : ∀ (M : xM) (a z : Int32), (z = 0 ∨ z = 1) → xInv M → xw_CA_add a z M (fun r M1 => xw_Mo_add a z M1 (fun q M2 => r = q ∧ xInv M2))) (M : xM) (H : Heap) (locs : List Loc) (ls : Array Slot) (hI : xInv M) (hR : xRp G M H) (hS : va_S (xA G) s.heap H locs) (hl : lv_has ls 4 [(0, .ref b), (1, .ref (G.1 8 0)), (2, .ref (G.1 9 0)), (3, .int x3)]) : W p l e room_1 s m #[Value.ref b] below meth c H locs 600000 7302250 (lw_Z below #[Value.ref b] s) (F0 m 580 ls []) := by
  have hx := hC.1
  have hb := hC.2.1
  refine lv_aload_n (pc := 580) hx hb xd_law_580 rfl (lv_at hl 1 rfl) ?_
  refine lv_aload_n (pc := 581) hx hb xd_law_581 rfl (lv_at hl 0 rfl) ?_
  refine lv_iload_n (pc := 582) hx hb xd_law_582 rfl (lv_at hl 3 rfl) ?_
  refine lv_iconst (pc := 583) (v := (1 : Int32)) hx hb xd_law_583 (by decide) ?_
  refine lv_iadd (pc := 584) hx hb xd_law_584 ?_
  refine va_sld (pc := 585) hx hb hX hbl hbA hS hi1 xd_law_585 ?_
  rw [ew1]
  refine lv_aload_n (pc := 586) hx hb xd_law_586 rfl (lv_at hl 0 rfl) ?_
  refine lv_iload_n (pc := 587) hx hb xd_law_587 rfl (lv_at hl 3 rfl) ?_
  refine lv_iconst (pc := 588) (v := (2 : Int32)) hx hb xd_law_588 (by decide) ?_
  refine lv_iadd (pc := 589) hx hb xd_law_589 ?_
  refine va_sld (pc := 590) hx hb hX hbl hbA hS hi2 xd_law_590 ?_
  rw [ew2]
  refine lv_if_eq (pc := 591) (tgt := 598) hx hb xd_law_591 (by decide) (fun hz => ?_) (fun hz => ?_)
  · refine lv_iconst (pc := 598) (v := (0 : Int32)) hx hb xd_law_598 (by decide) ?_
    have h := op_add M w1 (0 : Int32) (Or.inl rfl) hI
    refine xr_callL (pc := 599) (As := [.int w1, .int (0 : Int32)]) (rest := []) hC hR hS (xc_CA_add l G h) xo_C0 xv_law_64 ⟨rfl, rfl, Nat.le_of_ble_eq_true rfl, Nat.le_of_ble_eq_true rfl⟩ rfl hl.1 rfl (Nat.le_of_ble_eq_true rfl) (Nat.le_of_ble_eq_true rfl) (Nat.le_of_ble_eq_true rfl) xd_law_599 (fun r0 M H locs h hR hS => ?_)
    refine lv_aload_n (pc := 602) hx hb xd_law_602 rfl (lv_at hl 2 rfl) ?_
    refine lv_aload_n (pc := 603) hx hb xd_law_603 rfl (lv_at hl 0 rfl) ?_
    refine lv_iload_n (pc := 604) hx hb xd_law_604 rfl (lv_at hl 3 rfl) ?_
    refine lv_iconst (pc := 605) (v := (1 : Int32)) hx hb xd_law_605 (by decide) ?_
    refine lv_iadd (pc := 606) hx hb xd_law_606 ?_
    refine va_sld (pc := 607) hx hb hX hbl hbA hS hi1 xd_law_607 ?_
    rw [ew1]
    refine lv_aload_n (pc := 608) hx hb xd_law_608 rfl (lv_at hl 0 rfl) ?_
    refine lv_iload_n (pc := 609) hx hb xd_law_609 rfl (lv_at hl 3 rfl) ?_
    refine lv_iconst (pc := 610) (v := (2 : Int32)) hx hb xd_law_610 (by decide) ?_
    refine lv_iadd (pc := 611) hx hb xd_law_611 ?_
    refine va_sld (pc := 612) hx hb hX hbl hbA hS hi2 xd_law_612 ?_
    rw [ew2]
    refine lv_if_eq (pc := 613) (tgt := 620) hx hb xd_law_613 (by decide) (fun _ => ?_) (fun hq => absurd hz hq)
    refine lv_iconst (pc := 620) (v := (0 : Int32)) hx hb xd_law_620 (by decide) ?_
    refine xr_callL (pc := 621) (As := [.int w1, .int (0 : Int32)]) (rest := [.int r0]) hC hR hS (xc_Mo_add l G h) xo_M0 xv_law_68 ⟨rfl, rfl, Nat.le_of_ble_eq_true rfl, Nat.le_of_ble_eq_true rfl⟩ rfl hl.1 rfl (Nat.le_of_ble_eq_true rfl) (Nat.le_of_ble_eq_true rfl) (Nat.le_of_ble_eq_true rfl) xd_law_621 (fun r1 M H locs h hR hS => ?_)
    refine lv_icmp_eq (pc := 624) (tgt := 1248) hx hb xd_law_624 (by decide) (fun _ => ?_) (fun hq => absurd h.1 hq)
    exact tail M H locs ls h.2 hR hS hl
  · refine lv_iconst (pc := 594) (v := (1 : Int32)) hx hb xd_law_594 (by decide) ?_
    refine lv_goto (pc := 595) (tgt := 599) hx hb xd_law_595 (by decide) ?_
    have h := op_add M w1 (1 : Int32) (Or.inr rfl) hI
    refine xr_callL (pc := 599) (As := [.int w1, .int (1 : Int32)]) (rest := []) hC hR hS (xc_CA_add l G h) xo_C0 xv_law_64 ⟨rfl, rfl, Nat.le_of_ble_eq_true rfl, Nat.le_of_ble_eq_true rfl⟩ rfl hl.1 rfl (Nat.le_of_ble_eq_true rfl) (Nat.le_of_ble_eq_true rfl) (Nat.le_of_ble_eq_true rfl) xd_law_599 (fun r0 M H locs h hR hS => ?_)
    refine lv_aload_n (pc := 602) hx hb xd_law_602 rfl (lv_at hl 2 rfl) ?_
    refine lv_aload_n (pc := 603) hx hb xd_law_603 rfl (lv_at hl 0 rfl) ?_
    refine lv_iload_n (pc := 604) hx hb xd_law_604 rfl (lv_at hl 3 rfl) ?_
    refine lv_iconst (pc := 605) (v := (1 : Int32)) hx hb xd_law_605 (by decide) ?_
    refine lv_iadd (pc := 606) hx hb xd_law_606 ?_
    refine va_sld (pc := 607) hx hb hX hbl hbA hS hi1 xd_law_607 ?_
    rw [ew1]
    refine lv_aload_n (pc := 608) hx hb xd_law_608 rfl (lv_at hl 0 rfl) ?_
    refine lv_iload_n (pc := 609) hx hb xd_law_609 rfl (lv_at hl 3 rfl) ?_
    refine lv_iconst (pc := 610) (v := (2 : Int32)) hx hb xd_law_610 (by decide) ?_
    refine lv_iadd (pc := 611) hx hb xd_law_611 ?_
    refine va_sld (pc := 612) hx hb hX hbl hbA hS hi2 xd_law_612 ?_
    rw [ew2]
    refine lv_if_eq (pc := 613) (tgt := 620) hx hb xd_law_613 (by decide) (fun hq => absurd hq hz) (fun _ => ?_)
    refine lv_iconst (pc := 616) (v := (1 : Int32)) hx hb xd_law_616 (by decide) ?_
    refine lv_goto (pc := 617) (tgt := 621) hx hb xd_law_617 (by decide) ?_
    refine xr_callL (pc := 621) (As := [.int w1, .int (1 : Int32)]) (rest := [.int r0]) hC hR hS (xc_Mo_add l G h) xo_M0 xv_law_68 ⟨rfl, rfl, Nat.le_of_ble_eq_true rfl, Nat.le_of_ble_eq_true rfl⟩ rfl hl.1 rfl (Nat.le_of_ble_eq_true rfl) (Nat.le_of_ble_eq_true rfl) (Nat.le_of_ble_eq_true rfl) xd_law_621 (fun r1 M H locs h hR hS => ?_)
    refine lv_icmp_eq (pc := 624) (tgt := 1248) hx hb xd_law_624 (by decide) (fun _ => ?_) (fun hq => absurd h.1 hq)
    exact tail M H locs ls h.2 hR hS hl
set_option maxHeartbeats 4000000 in
set_option maxRecDepth 100000 in
theorem lc_13 {p : Program} {l : Launch} {e : Env} {s : State} {m : MethodId} {below : List Frame} {meth : Method} {c : Code} {G : xG} {b L : Nat} {xs : Nat → Int32} (hC : xC p s m #[Value.ref b] c code R_law 4 G) (hX : va_X b L xs s s.heap) (hbl : b < s.heap.size) (hbA : ¬ xA G b) {xInv : xM → Prop} {x3 : Int32} {w1 : Int32} (hi1 : vp_in (x3 + (1 : Int32)) L) (ew1 : xs (x3 + (1 : Int32)).toNatClampNeg = w1) {w2 : Int32} (hi2 : vp_in (x3 + (2 : Int32)) L) (ew2 : xs (x3 + (2 : Int32)).toNatClampNeg = w2) {w3 : Int32} (hi3 : vp_in (x3 + (3 : Int32)) L) (ew3 : xs (x3 + (3 : Int32)).toNatClampNeg = w3) (tail : ∀ (M : xM) (H : Heap) (locs : List Loc) (ls : Array Slot), xInv M → xRp G M H → va_S (xA G) s.heap H locs → lv_has ls 4 [(0, .ref b), (1, .ref (G.1 8 0)), (2, .ref (G.1 9 0)), (3, .int x3)] → W p l e room_1 s m #[Value.ref b] below meth c H locs 600000 7302250 (lw_Z below #[Value.ref b] s) (F0 m 1248 ls [])) (op_set : ∀ (M : xM) (a b : Int32), xInv M → xw_CA_set a b M (fun r M1 => xw_Mo_set a b M1 (fun q M2 => r = q ∧ xInv M2))) (M : xM) (H : Heap) (locs : List Loc) (ls : Array Slot) (hI : xInv M) (hR : xRp G M H) (hS : va_S (xA G) s.heap H locs) (hl : lv_has ls 4 [(0, .ref b), (1, .ref (G.1 8 0)), (2, .ref (G.1 9 0)), (3, .int x3)]) : W p l e room_1 s m #[Value.ref b] below meth c H locs 600000 7302250 (lw_Z below #[Value.ref b] s) (F0 m 629 ls []) := by
  have hx := hC.1
  have hb := hC.2.1
  refine lv_aload_n (pc := 629) hx hb xd_law_629 rfl (lv_at hl 1 rfl) ?_
  refine lv_aload_n (pc := 630) hx hb xd_law_630 rfl (lv_at hl 0 rfl) ?_
  refine lv_iload_n (pc := 631) hx hb xd_law_631 rfl (lv_at hl 3 rfl) ?_
  refine lv_iconst (pc := 632) (v := (1 : Int32)) hx hb xd_law_632 (by decide) ?_
  refine lv_iadd (pc := 633) hx hb xd_law_633 ?_
  refine va_sld (pc := 634) hx hb hX hbl hbA hS hi1 xd_law_634 ?_
  rw [ew1]
  refine lv_aload_n (pc := 635) hx hb xd_law_635 rfl (lv_at hl 0 rfl) ?_
  refine lv_iload_n (pc := 636) hx hb xd_law_636 rfl (lv_at hl 3 rfl) ?_
  refine lv_iconst (pc := 637) (v := (2 : Int32)) hx hb xd_law_637 (by decide) ?_
  refine lv_iadd (pc := 638) hx hb xd_law_638 ?_
  refine va_sld (pc := 639) hx hb hX hbl hbA hS hi2 xd_law_639 ?_
  rw [ew2]
  have h := op_set M w1 w2 hI
  refine xr_callL (pc := 640) (As := [.int w1, .int w2]) (rest := []) hC hR hS (xc_CA_set l G h) xo_C0 xv_law_69 ⟨rfl, rfl, Nat.le_of_ble_eq_true rfl, Nat.le_of_ble_eq_true rfl⟩ rfl hl.1 rfl (Nat.le_of_ble_eq_true rfl) (Nat.le_of_ble_eq_true rfl) (Nat.le_of_ble_eq_true rfl) xd_law_640 (fun r0 M H locs h hR hS => ?_)
  refine lv_aload_n (pc := 643) hx hb xd_law_643 rfl (lv_at hl 2 rfl) ?_
  refine lv_aload_n (pc := 644) hx hb xd_law_644 rfl (lv_at hl 0 rfl) ?_
  refine lv_iload_n (pc := 645) hx hb xd_law_645 rfl (lv_at hl 3 rfl) ?_
  refine lv_iconst (pc := 646) (v := (1 : Int32)) hx hb xd_law_646 (by decide) ?_
  refine lv_iadd (pc := 647) hx hb xd_law_647 ?_
  refine va_sld (pc := 648) hx hb hX hbl hbA hS hi1 xd_law_648 ?_
  rw [ew1]
  refine lv_aload_n (pc := 649) hx hb xd_law_649 rfl (lv_at hl 0 rfl) ?_
  refine lv_iload_n (pc := 650) hx hb xd_law_650 rfl (lv_at hl 3 rfl) ?_
  refine lv_iconst (pc := 651) (v := (2 : Int32)) hx hb xd_law_651 (by decide) ?_
  refine lv_iadd (pc := 652) hx hb xd_law_652 ?_
  refine va_sld (pc := 653) hx hb hX hbl hbA hS hi2 xd_law_653 ?_
  rw [ew2]
  refine xr_callL (pc := 654) (As := [.int w1, .int w2]) (rest := [.int r0]) hC hR hS (xc_Mo_set l G h) xo_M0 xv_law_72 ⟨rfl, rfl, Nat.le_of_ble_eq_true rfl, Nat.le_of_ble_eq_true rfl⟩ rfl hl.1 rfl (Nat.le_of_ble_eq_true rfl) (Nat.le_of_ble_eq_true rfl) (Nat.le_of_ble_eq_true rfl) xd_law_654 (fun r1 M H locs h hR hS => ?_)
  refine lv_icmp_eq (pc := 657) (tgt := 1248) hx hb xd_law_657 (by decide) (fun _ => ?_) (fun hq => absurd h.1 hq)
  exact tail M H locs ls h.2 hR hS hl
set_option maxHeartbeats 4000000 in
set_option maxRecDepth 100000 in
theorem lc_14 {p : Program} {l : Launch} {e : Env} {s : State} {m : MethodId} {below : List Frame} {meth : Method} {c : Code} {G : xG} {b L : Nat} {xs : Nat → Int32} (hC : xC p s m #[Value.ref b] c code R_law 4 G) (hX : va_X b L xs s s.heap) (hbl : b < s.heap.size) (hbA : ¬ xA G b) {xInv : xM → Prop} {x3 : Int32} {w1 : Int32} (hi1 : vp_in (x3 + (1 : Int32)) L) (ew1 : xs (x3 + (1 : Int32)).toNatClampNeg = w1) {w2 : Int32} (hi2 : vp_in (x3 + (2 : Int32)) L) (ew2 : xs (x3 + (2 : Int32)).toNatClampNeg = w2) {w3 : Int32} (hi3 : vp_in (x3 + (3 : Int32)) L) (ew3 : xs (x3 + (3 : Int32)).toNatClampNeg = w3) (tail : ∀ (M : xM) (H : Heap) (locs : List Loc) (ls : Array Slot), xInv M → xRp G M H → va_S (xA G) s.heap H locs → lv_has ls 4 [(0, .ref b), (1, .ref (G.1 8 0)), (2, .ref (G.1 9 0)), (3, .int x3)] → W p l e room_1 s m #[Value.ref b] below meth c H locs 600000 7302250 (lw_Z below #[Value.ref b] s) (F0 m 1248 ls [])) (op_fix : ∀ (M : xM) (a z : Int32), (z = 0 ∨ z = 1) → xInv M → xw_CA_fix a z M (fun r M1 => xw_Mo_fix a z M1 (fun q M2 => r = q ∧ xInv M2))) (M : xM) (H : Heap) (locs : List Loc) (ls : Array Slot) (hI : xInv M) (hR : xRp G M H) (hS : va_S (xA G) s.heap H locs) (hl : lv_has ls 4 [(0, .ref b), (1, .ref (G.1 8 0)), (2, .ref (G.1 9 0)), (3, .int x3)]) : W p l e room_1 s m #[Value.ref b] below meth c H locs 600000 7302250 (lw_Z below #[Value.ref b] s) (F0 m 662 ls []) := by
  have hx := hC.1
  have hb := hC.2.1
  refine lv_aload_n (pc := 662) hx hb xd_law_662 rfl (lv_at hl 1 rfl) ?_
  refine lv_aload_n (pc := 663) hx hb xd_law_663 rfl (lv_at hl 0 rfl) ?_
  refine lv_iload_n (pc := 664) hx hb xd_law_664 rfl (lv_at hl 3 rfl) ?_
  refine lv_iconst (pc := 665) (v := (1 : Int32)) hx hb xd_law_665 (by decide) ?_
  refine lv_iadd (pc := 666) hx hb xd_law_666 ?_
  refine va_sld (pc := 667) hx hb hX hbl hbA hS hi1 xd_law_667 ?_
  rw [ew1]
  refine lv_aload_n (pc := 668) hx hb xd_law_668 rfl (lv_at hl 0 rfl) ?_
  refine lv_iload_n (pc := 669) hx hb xd_law_669 rfl (lv_at hl 3 rfl) ?_
  refine lv_iconst (pc := 670) (v := (2 : Int32)) hx hb xd_law_670 (by decide) ?_
  refine lv_iadd (pc := 671) hx hb xd_law_671 ?_
  refine va_sld (pc := 672) hx hb hX hbl hbA hS hi2 xd_law_672 ?_
  rw [ew2]
  refine lv_if_eq (pc := 673) (tgt := 680) hx hb xd_law_673 (by decide) (fun hz => ?_) (fun hz => ?_)
  · refine lv_iconst (pc := 680) (v := (0 : Int32)) hx hb xd_law_680 (by decide) ?_
    have h := op_fix M w1 (0 : Int32) (Or.inl rfl) hI
    refine xr_callL (pc := 681) (As := [.int w1, .int (0 : Int32)]) (rest := []) hC hR hS (xc_CA_fix l G h) xo_C0 xv_law_73 ⟨rfl, rfl, Nat.le_of_ble_eq_true rfl, Nat.le_of_ble_eq_true rfl⟩ rfl hl.1 rfl (Nat.le_of_ble_eq_true rfl) (Nat.le_of_ble_eq_true rfl) (Nat.le_of_ble_eq_true rfl) xd_law_681 (fun r0 M H locs h hR hS => ?_)
    refine lv_aload_n (pc := 684) hx hb xd_law_684 rfl (lv_at hl 2 rfl) ?_
    refine lv_aload_n (pc := 685) hx hb xd_law_685 rfl (lv_at hl 0 rfl) ?_
    refine lv_iload_n (pc := 686) hx hb xd_law_686 rfl (lv_at hl 3 rfl) ?_
    refine lv_iconst (pc := 687) (v := (1 : Int32)) hx hb xd_law_687 (by decide) ?_
    refine lv_iadd (pc := 688) hx hb xd_law_688 ?_
    refine va_sld (pc := 689) hx hb hX hbl hbA hS hi1 xd_law_689 ?_
    rw [ew1]
    refine lv_aload_n (pc := 690) hx hb xd_law_690 rfl (lv_at hl 0 rfl) ?_
    refine lv_iload_n (pc := 691) hx hb xd_law_691 rfl (lv_at hl 3 rfl) ?_
    refine lv_iconst (pc := 692) (v := (2 : Int32)) hx hb xd_law_692 (by decide) ?_
    refine lv_iadd (pc := 693) hx hb xd_law_693 ?_
    refine va_sld (pc := 694) hx hb hX hbl hbA hS hi2 xd_law_694 ?_
    rw [ew2]
    refine lv_if_eq (pc := 695) (tgt := 702) hx hb xd_law_695 (by decide) (fun _ => ?_) (fun hq => absurd hz hq)
    refine lv_iconst (pc := 702) (v := (0 : Int32)) hx hb xd_law_702 (by decide) ?_
    refine xr_callL (pc := 703) (As := [.int w1, .int (0 : Int32)]) (rest := [.int r0]) hC hR hS (xc_Mo_fix l G h) xo_M0 xv_law_76 ⟨rfl, rfl, Nat.le_of_ble_eq_true rfl, Nat.le_of_ble_eq_true rfl⟩ rfl hl.1 rfl (Nat.le_of_ble_eq_true rfl) (Nat.le_of_ble_eq_true rfl) (Nat.le_of_ble_eq_true rfl) xd_law_703 (fun r1 M H locs h hR hS => ?_)
    refine lv_icmp_eq (pc := 706) (tgt := 1248) hx hb xd_law_706 (by decide) (fun _ => ?_) (fun hq => absurd h.1 hq)
    exact tail M H locs ls h.2 hR hS hl
  · refine lv_iconst (pc := 676) (v := (1 : Int32)) hx hb xd_law_676 (by decide) ?_
    refine lv_goto (pc := 677) (tgt := 681) hx hb xd_law_677 (by decide) ?_
    have h := op_fix M w1 (1 : Int32) (Or.inr rfl) hI
    refine xr_callL (pc := 681) (As := [.int w1, .int (1 : Int32)]) (rest := []) hC hR hS (xc_CA_fix l G h) xo_C0 xv_law_73 ⟨rfl, rfl, Nat.le_of_ble_eq_true rfl, Nat.le_of_ble_eq_true rfl⟩ rfl hl.1 rfl (Nat.le_of_ble_eq_true rfl) (Nat.le_of_ble_eq_true rfl) (Nat.le_of_ble_eq_true rfl) xd_law_681 (fun r0 M H locs h hR hS => ?_)
    refine lv_aload_n (pc := 684) hx hb xd_law_684 rfl (lv_at hl 2 rfl) ?_
    refine lv_aload_n (pc := 685) hx hb xd_law_685 rfl (lv_at hl 0 rfl) ?_
    refine lv_iload_n (pc := 686) hx hb xd_law_686 rfl (lv_at hl 3 rfl) ?_
    refine lv_iconst (pc := 687) (v := (1 : Int32)) hx hb xd_law_687 (by decide) ?_
    refine lv_iadd (pc := 688) hx hb xd_law_688 ?_
    refine va_sld (pc := 689) hx hb hX hbl hbA hS hi1 xd_law_689 ?_
    rw [ew1]
    refine lv_aload_n (pc := 690) hx hb xd_law_690 rfl (lv_at hl 0 rfl) ?_
    refine lv_iload_n (pc := 691) hx hb xd_law_691 rfl (lv_at hl 3 rfl) ?_
    refine lv_iconst (pc := 692) (v := (2 : Int32)) hx hb xd_law_692 (by decide) ?_
    refine lv_iadd (pc := 693) hx hb xd_law_693 ?_
    refine va_sld (pc := 694) hx hb hX hbl hbA hS hi2 xd_law_694 ?_
    rw [ew2]
    refine lv_if_eq (pc := 695) (tgt := 702) hx hb xd_law_695 (by decide) (fun hq => absurd hq hz) (fun _ => ?_)
    refine lv_iconst (pc := 698) (v := (1 : Int32)) hx hb xd_law_698 (by decide) ?_
    refine lv_goto (pc := 699) (tgt := 703) hx hb xd_law_699 (by decide) ?_
    refine xr_callL (pc := 703) (As := [.int w1, .int (1 : Int32)]) (rest := [.int r0]) hC hR hS (xc_Mo_fix l G h) xo_M0 xv_law_76 ⟨rfl, rfl, Nat.le_of_ble_eq_true rfl, Nat.le_of_ble_eq_true rfl⟩ rfl hl.1 rfl (Nat.le_of_ble_eq_true rfl) (Nat.le_of_ble_eq_true rfl) (Nat.le_of_ble_eq_true rfl) xd_law_703 (fun r1 M H locs h hR hS => ?_)
    refine lv_icmp_eq (pc := 706) (tgt := 1248) hx hb xd_law_706 (by decide) (fun _ => ?_) (fun hq => absurd h.1 hq)
    exact tail M H locs ls h.2 hR hS hl
set_option maxHeartbeats 4000000 in
set_option maxRecDepth 100000 in
theorem lc_15 {p : Program} {l : Launch} {e : Env} {s : State} {m : MethodId} {below : List Frame} {meth : Method} {c : Code} {G : xG} {b L : Nat} {xs : Nat → Int32} (hC : xC p s m #[Value.ref b] c code R_law 4 G) (hX : va_X b L xs s s.heap) (hbl : b < s.heap.size) (hbA : ¬ xA G b) {xInv : xM → Prop} {x3 : Int32} {w1 : Int32} (hi1 : vp_in (x3 + (1 : Int32)) L) (ew1 : xs (x3 + (1 : Int32)).toNatClampNeg = w1) {w2 : Int32} (hi2 : vp_in (x3 + (2 : Int32)) L) (ew2 : xs (x3 + (2 : Int32)).toNatClampNeg = w2) {w3 : Int32} (hi3 : vp_in (x3 + (3 : Int32)) L) (ew3 : xs (x3 + (3 : Int32)).toNatClampNeg = w3) (tail : ∀ (M : xM) (H : Heap) (locs : List Loc) (ls : Array Slot), xInv M → xRp G M H → va_S (xA G) s.heap H locs → lv_has ls 4 [(0, .ref b), (1, .ref (G.1 8 0)), (2, .ref (G.1 9 0)), (3, .int x3)] → W p l e room_1 s m #[Value.ref b] below meth c H locs 600000 7302250 (lw_Z below #[Value.ref b] s) (F0 m 1248 ls [])) (op_name : ∀ (M : xM) (a b : Int32), xInv M → xw_CA_name a b M (fun r M1 => xw_Mo_name a b M1 (fun q M2 => r = q ∧ xInv M2))) (M : xM) (H : Heap) (locs : List Loc) (ls : Array Slot) (hI : xInv M) (hR : xRp G M H) (hS : va_S (xA G) s.heap H locs) (hl : lv_has ls 4 [(0, .ref b), (1, .ref (G.1 8 0)), (2, .ref (G.1 9 0)), (3, .int x3)]) : W p l e room_1 s m #[Value.ref b] below meth c H locs 600000 7302250 (lw_Z below #[Value.ref b] s) (F0 m 711 ls []) := by
  have hx := hC.1
  have hb := hC.2.1
  refine lv_aload_n (pc := 711) hx hb xd_law_711 rfl (lv_at hl 1 rfl) ?_
  refine lv_aload_n (pc := 712) hx hb xd_law_712 rfl (lv_at hl 0 rfl) ?_
  refine lv_iload_n (pc := 713) hx hb xd_law_713 rfl (lv_at hl 3 rfl) ?_
  refine lv_iconst (pc := 714) (v := (1 : Int32)) hx hb xd_law_714 (by decide) ?_
  refine lv_iadd (pc := 715) hx hb xd_law_715 ?_
  refine va_sld (pc := 716) hx hb hX hbl hbA hS hi1 xd_law_716 ?_
  rw [ew1]
  refine lv_aload_n (pc := 717) hx hb xd_law_717 rfl (lv_at hl 0 rfl) ?_
  refine lv_iload_n (pc := 718) hx hb xd_law_718 rfl (lv_at hl 3 rfl) ?_
  refine lv_iconst (pc := 719) (v := (2 : Int32)) hx hb xd_law_719 (by decide) ?_
  refine lv_iadd (pc := 720) hx hb xd_law_720 ?_
  refine va_sld (pc := 721) hx hb hX hbl hbA hS hi2 xd_law_721 ?_
  rw [ew2]
  have h := op_name M w1 w2 hI
  refine xr_callL (pc := 722) (As := [.int w1, .int w2]) (rest := []) hC hR hS (xc_CA_name l G h) xo_C0 xv_law_77 ⟨rfl, rfl, Nat.le_of_ble_eq_true rfl, Nat.le_of_ble_eq_true rfl⟩ rfl hl.1 rfl (Nat.le_of_ble_eq_true rfl) (Nat.le_of_ble_eq_true rfl) (Nat.le_of_ble_eq_true rfl) xd_law_722 (fun r0 M H locs h hR hS => ?_)
  refine lv_aload_n (pc := 725) hx hb xd_law_725 rfl (lv_at hl 2 rfl) ?_
  refine lv_aload_n (pc := 726) hx hb xd_law_726 rfl (lv_at hl 0 rfl) ?_
  refine lv_iload_n (pc := 727) hx hb xd_law_727 rfl (lv_at hl 3 rfl) ?_
  refine lv_iconst (pc := 728) (v := (1 : Int32)) hx hb xd_law_728 (by decide) ?_
  refine lv_iadd (pc := 729) hx hb xd_law_729 ?_
  refine va_sld (pc := 730) hx hb hX hbl hbA hS hi1 xd_law_730 ?_
  rw [ew1]
  refine lv_aload_n (pc := 731) hx hb xd_law_731 rfl (lv_at hl 0 rfl) ?_
  refine lv_iload_n (pc := 732) hx hb xd_law_732 rfl (lv_at hl 3 rfl) ?_
  refine lv_iconst (pc := 733) (v := (2 : Int32)) hx hb xd_law_733 (by decide) ?_
  refine lv_iadd (pc := 734) hx hb xd_law_734 ?_
  refine va_sld (pc := 735) hx hb hX hbl hbA hS hi2 xd_law_735 ?_
  rw [ew2]
  refine xr_callL (pc := 736) (As := [.int w1, .int w2]) (rest := [.int r0]) hC hR hS (xc_Mo_name l G h) xo_M0 xv_law_80 ⟨rfl, rfl, Nat.le_of_ble_eq_true rfl, Nat.le_of_ble_eq_true rfl⟩ rfl hl.1 rfl (Nat.le_of_ble_eq_true rfl) (Nat.le_of_ble_eq_true rfl) (Nat.le_of_ble_eq_true rfl) xd_law_736 (fun r1 M H locs h hR hS => ?_)
  refine lv_icmp_eq (pc := 739) (tgt := 1248) hx hb xd_law_739 (by decide) (fun _ => ?_) (fun hq => absurd h.1 hq)
  exact tail M H locs ls h.2 hR hS hl
set_option maxHeartbeats 4000000 in
set_option maxRecDepth 100000 in
theorem lc_16 {p : Program} {l : Launch} {e : Env} {s : State} {m : MethodId} {below : List Frame} {meth : Method} {c : Code} {G : xG} {b L : Nat} {xs : Nat → Int32} (hC : xC p s m #[Value.ref b] c code R_law 4 G) (hX : va_X b L xs s s.heap) (hbl : b < s.heap.size) (hbA : ¬ xA G b) {xInv : xM → Prop} {x3 : Int32} {w1 : Int32} (hi1 : vp_in (x3 + (1 : Int32)) L) (ew1 : xs (x3 + (1 : Int32)).toNatClampNeg = w1) {w2 : Int32} (hi2 : vp_in (x3 + (2 : Int32)) L) (ew2 : xs (x3 + (2 : Int32)).toNatClampNeg = w2) {w3 : Int32} (hi3 : vp_in (x3 + (3 : Int32)) L) (ew3 : xs (x3 + (3 : Int32)).toNatClampNeg = w3) (tail : ∀ (M : xM) (H : Heap) (locs : List Loc) (ls : Array Slot), xInv M → xRp G M H → va_S (xA G) s.heap H locs → lv_has ls 4 [(0, .ref b), (1, .ref (G.1 8 0)), (2, .ref (G.1 9 0)), (3, .int x3)] → W p l e room_1 s m #[Value.ref b] below meth c H locs 600000 7302250 (lw_Z below #[Value.ref b] s) (F0 m 1248 ls [])) (op_box : ∀ (M : xM) (a b c : Int32), xInv M → xw_CA_box a b c M (fun r M1 => xw_Mo_box a b c M1 (fun q M2 => r = q ∧ xInv M2))) (M : xM) (H : Heap) (locs : List Loc) (ls : Array Slot) (hI : xInv M) (hR : xRp G M H) (hS : va_S (xA G) s.heap H locs) (hl : lv_has ls 4 [(0, .ref b), (1, .ref (G.1 8 0)), (2, .ref (G.1 9 0)), (3, .int x3)]) : W p l e room_1 s m #[Value.ref b] below meth c H locs 600000 7302250 (lw_Z below #[Value.ref b] s) (F0 m 744 ls []) := by
  have hx := hC.1
  have hb := hC.2.1
  refine lv_aload_n (pc := 744) hx hb xd_law_744 rfl (lv_at hl 1 rfl) ?_
  refine lv_aload_n (pc := 745) hx hb xd_law_745 rfl (lv_at hl 0 rfl) ?_
  refine lv_iload_n (pc := 746) hx hb xd_law_746 rfl (lv_at hl 3 rfl) ?_
  refine lv_iconst (pc := 747) (v := (1 : Int32)) hx hb xd_law_747 (by decide) ?_
  refine lv_iadd (pc := 748) hx hb xd_law_748 ?_
  refine va_sld (pc := 749) hx hb hX hbl hbA hS hi1 xd_law_749 ?_
  rw [ew1]
  refine lv_aload_n (pc := 750) hx hb xd_law_750 rfl (lv_at hl 0 rfl) ?_
  refine lv_iload_n (pc := 751) hx hb xd_law_751 rfl (lv_at hl 3 rfl) ?_
  refine lv_iconst (pc := 752) (v := (2 : Int32)) hx hb xd_law_752 (by decide) ?_
  refine lv_iadd (pc := 753) hx hb xd_law_753 ?_
  refine va_sld (pc := 754) hx hb hX hbl hbA hS hi2 xd_law_754 ?_
  rw [ew2]
  refine lv_aload_n (pc := 755) hx hb xd_law_755 rfl (lv_at hl 0 rfl) ?_
  refine lv_iload_n (pc := 756) hx hb xd_law_756 rfl (lv_at hl 3 rfl) ?_
  refine lv_iconst (pc := 757) (v := (3 : Int32)) hx hb xd_law_757 (by decide) ?_
  refine lv_iadd (pc := 758) hx hb xd_law_758 ?_
  refine va_sld (pc := 759) hx hb hX hbl hbA hS hi3 xd_law_759 ?_
  rw [ew3]
  have h := op_box M w1 w2 w3 hI
  refine xr_callL (pc := 760) (As := [.int w1, .int w2, .int w3]) (rest := []) hC hR hS (xc_CA_box l G h) xo_C0 xv_law_81 ⟨rfl, rfl, Nat.le_of_ble_eq_true rfl, Nat.le_of_ble_eq_true rfl⟩ rfl hl.1 rfl (Nat.le_of_ble_eq_true rfl) (Nat.le_of_ble_eq_true rfl) (Nat.le_of_ble_eq_true rfl) xd_law_760 (fun r0 M H locs h hR hS => ?_)
  refine lv_aload_n (pc := 763) hx hb xd_law_763 rfl (lv_at hl 2 rfl) ?_
  refine lv_aload_n (pc := 764) hx hb xd_law_764 rfl (lv_at hl 0 rfl) ?_
  refine lv_iload_n (pc := 765) hx hb xd_law_765 rfl (lv_at hl 3 rfl) ?_
  refine lv_iconst (pc := 766) (v := (1 : Int32)) hx hb xd_law_766 (by decide) ?_
  refine lv_iadd (pc := 767) hx hb xd_law_767 ?_
  refine va_sld (pc := 768) hx hb hX hbl hbA hS hi1 xd_law_768 ?_
  rw [ew1]
  refine lv_aload_n (pc := 769) hx hb xd_law_769 rfl (lv_at hl 0 rfl) ?_
  refine lv_iload_n (pc := 770) hx hb xd_law_770 rfl (lv_at hl 3 rfl) ?_
  refine lv_iconst (pc := 771) (v := (2 : Int32)) hx hb xd_law_771 (by decide) ?_
  refine lv_iadd (pc := 772) hx hb xd_law_772 ?_
  refine va_sld (pc := 773) hx hb hX hbl hbA hS hi2 xd_law_773 ?_
  rw [ew2]
  refine lv_aload_n (pc := 774) hx hb xd_law_774 rfl (lv_at hl 0 rfl) ?_
  refine lv_iload_n (pc := 775) hx hb xd_law_775 rfl (lv_at hl 3 rfl) ?_
  refine lv_iconst (pc := 776) (v := (3 : Int32)) hx hb xd_law_776 (by decide) ?_
  refine lv_iadd (pc := 777) hx hb xd_law_777 ?_
  refine va_sld (pc := 778) hx hb hX hbl hbA hS hi3 xd_law_778 ?_
  rw [ew3]
  refine xr_callL (pc := 779) (As := [.int w1, .int w2, .int w3]) (rest := [.int r0]) hC hR hS (xc_Mo_box l G h) xo_M0 xv_law_84 ⟨rfl, rfl, Nat.le_of_ble_eq_true rfl, Nat.le_of_ble_eq_true rfl⟩ rfl hl.1 rfl (Nat.le_of_ble_eq_true rfl) (Nat.le_of_ble_eq_true rfl) (Nat.le_of_ble_eq_true rfl) xd_law_779 (fun r1 M H locs h hR hS => ?_)
  refine lv_icmp_eq (pc := 782) (tgt := 1248) hx hb xd_law_782 (by decide) (fun _ => ?_) (fun hq => absurd h.1 hq)
  exact tail M H locs ls h.2 hR hS hl
set_option maxHeartbeats 4000000 in
set_option maxRecDepth 100000 in
theorem lc_17 {p : Program} {l : Launch} {e : Env} {s : State} {m : MethodId} {below : List Frame} {meth : Method} {c : Code} {G : xG} {b L : Nat} {xs : Nat → Int32} (hC : xC p s m #[Value.ref b] c code R_law 4 G) (hX : va_X b L xs s s.heap) (hbl : b < s.heap.size) (hbA : ¬ xA G b) {xInv : xM → Prop} {x3 : Int32} {w1 : Int32} (hi1 : vp_in (x3 + (1 : Int32)) L) (ew1 : xs (x3 + (1 : Int32)).toNatClampNeg = w1) {w2 : Int32} (hi2 : vp_in (x3 + (2 : Int32)) L) (ew2 : xs (x3 + (2 : Int32)).toNatClampNeg = w2) {w3 : Int32} (hi3 : vp_in (x3 + (3 : Int32)) L) (ew3 : xs (x3 + (3 : Int32)).toNatClampNeg = w3) (tail : ∀ (M : xM) (H : Heap) (locs : List Loc) (ls : Array Slot), xInv M → xRp G M H → va_S (xA G) s.heap H locs → lv_has ls 4 [(0, .ref b), (1, .ref (G.1 8 0)), (2, .ref (G.1 9 0)), (3, .int x3)] → W p l e room_1 s m #[Value.ref b] below meth c H locs 600000 7302250 (lw_Z below #[Value.ref b] s) (F0 m 1248 ls [])) (op_pair : ∀ (M : xM) (a b c : Int32), xInv M → xw_CA_pair a b c M (fun r M1 => xw_Mo_pair a b c M1 (fun q M2 => r = q ∧ xInv M2))) (M : xM) (H : Heap) (locs : List Loc) (ls : Array Slot) (hI : xInv M) (hR : xRp G M H) (hS : va_S (xA G) s.heap H locs) (hl : lv_has ls 4 [(0, .ref b), (1, .ref (G.1 8 0)), (2, .ref (G.1 9 0)), (3, .int x3)]) : W p l e room_1 s m #[Value.ref b] below meth c H locs 600000 7302250 (lw_Z below #[Value.ref b] s) (F0 m 787 ls []) := by
  have hx := hC.1
  have hb := hC.2.1
  refine lv_aload_n (pc := 787) hx hb xd_law_787 rfl (lv_at hl 1 rfl) ?_
  refine lv_aload_n (pc := 788) hx hb xd_law_788 rfl (lv_at hl 0 rfl) ?_
  refine lv_iload_n (pc := 789) hx hb xd_law_789 rfl (lv_at hl 3 rfl) ?_
  refine lv_iconst (pc := 790) (v := (1 : Int32)) hx hb xd_law_790 (by decide) ?_
  refine lv_iadd (pc := 791) hx hb xd_law_791 ?_
  refine va_sld (pc := 792) hx hb hX hbl hbA hS hi1 xd_law_792 ?_
  rw [ew1]
  refine lv_aload_n (pc := 793) hx hb xd_law_793 rfl (lv_at hl 0 rfl) ?_
  refine lv_iload_n (pc := 794) hx hb xd_law_794 rfl (lv_at hl 3 rfl) ?_
  refine lv_iconst (pc := 795) (v := (2 : Int32)) hx hb xd_law_795 (by decide) ?_
  refine lv_iadd (pc := 796) hx hb xd_law_796 ?_
  refine va_sld (pc := 797) hx hb hX hbl hbA hS hi2 xd_law_797 ?_
  rw [ew2]
  refine lv_aload_n (pc := 798) hx hb xd_law_798 rfl (lv_at hl 0 rfl) ?_
  refine lv_iload_n (pc := 799) hx hb xd_law_799 rfl (lv_at hl 3 rfl) ?_
  refine lv_iconst (pc := 800) (v := (3 : Int32)) hx hb xd_law_800 (by decide) ?_
  refine lv_iadd (pc := 801) hx hb xd_law_801 ?_
  refine va_sld (pc := 802) hx hb hX hbl hbA hS hi3 xd_law_802 ?_
  rw [ew3]
  have h := op_pair M w1 w2 w3 hI
  refine xr_callL (pc := 803) (As := [.int w1, .int w2, .int w3]) (rest := []) hC hR hS (xc_CA_pair l G h) xo_C0 xv_law_85 ⟨rfl, rfl, Nat.le_of_ble_eq_true rfl, Nat.le_of_ble_eq_true rfl⟩ rfl hl.1 rfl (Nat.le_of_ble_eq_true rfl) (Nat.le_of_ble_eq_true rfl) (Nat.le_of_ble_eq_true rfl) xd_law_803 (fun r0 M H locs h hR hS => ?_)
  refine lv_aload_n (pc := 806) hx hb xd_law_806 rfl (lv_at hl 2 rfl) ?_
  refine lv_aload_n (pc := 807) hx hb xd_law_807 rfl (lv_at hl 0 rfl) ?_
  refine lv_iload_n (pc := 808) hx hb xd_law_808 rfl (lv_at hl 3 rfl) ?_
  refine lv_iconst (pc := 809) (v := (1 : Int32)) hx hb xd_law_809 (by decide) ?_
  refine lv_iadd (pc := 810) hx hb xd_law_810 ?_
  refine va_sld (pc := 811) hx hb hX hbl hbA hS hi1 xd_law_811 ?_
  rw [ew1]
  refine lv_aload_n (pc := 812) hx hb xd_law_812 rfl (lv_at hl 0 rfl) ?_
  refine lv_iload_n (pc := 813) hx hb xd_law_813 rfl (lv_at hl 3 rfl) ?_
  refine lv_iconst (pc := 814) (v := (2 : Int32)) hx hb xd_law_814 (by decide) ?_
  refine lv_iadd (pc := 815) hx hb xd_law_815 ?_
  refine va_sld (pc := 816) hx hb hX hbl hbA hS hi2 xd_law_816 ?_
  rw [ew2]
  refine lv_aload_n (pc := 817) hx hb xd_law_817 rfl (lv_at hl 0 rfl) ?_
  refine lv_iload_n (pc := 818) hx hb xd_law_818 rfl (lv_at hl 3 rfl) ?_
  refine lv_iconst (pc := 819) (v := (3 : Int32)) hx hb xd_law_819 (by decide) ?_
  refine lv_iadd (pc := 820) hx hb xd_law_820 ?_
  refine va_sld (pc := 821) hx hb hX hbl hbA hS hi3 xd_law_821 ?_
  rw [ew3]
  refine xr_callL (pc := 822) (As := [.int w1, .int w2, .int w3]) (rest := [.int r0]) hC hR hS (xc_Mo_pair l G h) xo_M0 xv_law_88 ⟨rfl, rfl, Nat.le_of_ble_eq_true rfl, Nat.le_of_ble_eq_true rfl⟩ rfl hl.1 rfl (Nat.le_of_ble_eq_true rfl) (Nat.le_of_ble_eq_true rfl) (Nat.le_of_ble_eq_true rfl) xd_law_822 (fun r1 M H locs h hR hS => ?_)
  refine lv_icmp_eq (pc := 825) (tgt := 1248) hx hb xd_law_825 (by decide) (fun _ => ?_) (fun hq => absurd h.1 hq)
  exact tail M H locs ls h.2 hR hS hl
set_option maxHeartbeats 4000000 in
set_option maxRecDepth 100000 in
theorem lc_18 {p : Program} {l : Launch} {e : Env} {s : State} {m : MethodId} {below : List Frame} {meth : Method} {c : Code} {G : xG} {b L : Nat} {xs : Nat → Int32} (hC : xC p s m #[Value.ref b] c code R_law 4 G) (hX : va_X b L xs s s.heap) (hbl : b < s.heap.size) (hbA : ¬ xA G b) {xInv : xM → Prop} {x3 : Int32} {w1 : Int32} (hi1 : vp_in (x3 + (1 : Int32)) L) (ew1 : xs (x3 + (1 : Int32)).toNatClampNeg = w1) {w2 : Int32} (hi2 : vp_in (x3 + (2 : Int32)) L) (ew2 : xs (x3 + (2 : Int32)).toNatClampNeg = w2) {w3 : Int32} (hi3 : vp_in (x3 + (3 : Int32)) L) (ew3 : xs (x3 + (3 : Int32)).toNatClampNeg = w3) (tail : ∀ (M : xM) (H : Heap) (locs : List Loc) (ls : Array Slot), xInv M → xRp G M H → va_S (xA G) s.heap H locs → lv_has ls 4 [(0, .ref b), (1, .ref (G.1 8 0)), (2, .ref (G.1 9 0)), (3, .int x3)] → W p l e room_1 s m #[Value.ref b] below meth c H locs 600000 7302250 (lw_Z below #[Value.ref b] s) (F0 m 1248 ls [])) (op_contrast : ∀ (M : xM) (a b c : Int32), xInv M → xw_CA_contrast a b c M (fun r M1 => xw_Mo_contrast a b c M1 (fun q M2 => r = q ∧ xInv M2))) (M : xM) (H : Heap) (locs : List Loc) (ls : Array Slot) (hI : xInv M) (hR : xRp G M H) (hS : va_S (xA G) s.heap H locs) (hl : lv_has ls 4 [(0, .ref b), (1, .ref (G.1 8 0)), (2, .ref (G.1 9 0)), (3, .int x3)]) : W p l e room_1 s m #[Value.ref b] below meth c H locs 600000 7302250 (lw_Z below #[Value.ref b] s) (F0 m 830 ls []) := by
  have hx := hC.1
  have hb := hC.2.1
  refine lv_aload_n (pc := 830) hx hb xd_law_830 rfl (lv_at hl 1 rfl) ?_
  refine lv_aload_n (pc := 831) hx hb xd_law_831 rfl (lv_at hl 0 rfl) ?_
  refine lv_iload_n (pc := 832) hx hb xd_law_832 rfl (lv_at hl 3 rfl) ?_
  refine lv_iconst (pc := 833) (v := (1 : Int32)) hx hb xd_law_833 (by decide) ?_
  refine lv_iadd (pc := 834) hx hb xd_law_834 ?_
  refine va_sld (pc := 835) hx hb hX hbl hbA hS hi1 xd_law_835 ?_
  rw [ew1]
  refine lv_aload_n (pc := 836) hx hb xd_law_836 rfl (lv_at hl 0 rfl) ?_
  refine lv_iload_n (pc := 837) hx hb xd_law_837 rfl (lv_at hl 3 rfl) ?_
  refine lv_iconst (pc := 838) (v := (2 : Int32)) hx hb xd_law_838 (by decide) ?_
  refine lv_iadd (pc := 839) hx hb xd_law_839 ?_
  refine va_sld (pc := 840) hx hb hX hbl hbA hS hi2 xd_law_840 ?_
  rw [ew2]
  refine lv_aload_n (pc := 841) hx hb xd_law_841 rfl (lv_at hl 0 rfl) ?_
  refine lv_iload_n (pc := 842) hx hb xd_law_842 rfl (lv_at hl 3 rfl) ?_
  refine lv_iconst (pc := 843) (v := (3 : Int32)) hx hb xd_law_843 (by decide) ?_
  refine lv_iadd (pc := 844) hx hb xd_law_844 ?_
  refine va_sld (pc := 845) hx hb hX hbl hbA hS hi3 xd_law_845 ?_
  rw [ew3]
  have h := op_contrast M w1 w2 w3 hI
  refine xr_callL (pc := 846) (As := [.int w1, .int w2, .int w3]) (rest := []) hC hR hS (xc_CA_contrast l G h) xo_C0 xv_law_89 ⟨rfl, rfl, Nat.le_of_ble_eq_true rfl, Nat.le_of_ble_eq_true rfl⟩ rfl hl.1 rfl (Nat.le_of_ble_eq_true rfl) (Nat.le_of_ble_eq_true rfl) (Nat.le_of_ble_eq_true rfl) xd_law_846 (fun r0 M H locs h hR hS => ?_)
  refine lv_aload_n (pc := 849) hx hb xd_law_849 rfl (lv_at hl 2 rfl) ?_
  refine lv_aload_n (pc := 850) hx hb xd_law_850 rfl (lv_at hl 0 rfl) ?_
  refine lv_iload_n (pc := 851) hx hb xd_law_851 rfl (lv_at hl 3 rfl) ?_
  refine lv_iconst (pc := 852) (v := (1 : Int32)) hx hb xd_law_852 (by decide) ?_
  refine lv_iadd (pc := 853) hx hb xd_law_853 ?_
  refine va_sld (pc := 854) hx hb hX hbl hbA hS hi1 xd_law_854 ?_
  rw [ew1]
  refine lv_aload_n (pc := 855) hx hb xd_law_855 rfl (lv_at hl 0 rfl) ?_
  refine lv_iload_n (pc := 856) hx hb xd_law_856 rfl (lv_at hl 3 rfl) ?_
  refine lv_iconst (pc := 857) (v := (2 : Int32)) hx hb xd_law_857 (by decide) ?_
  refine lv_iadd (pc := 858) hx hb xd_law_858 ?_
  refine va_sld (pc := 859) hx hb hX hbl hbA hS hi2 xd_law_859 ?_
  rw [ew2]
  refine lv_aload_n (pc := 860) hx hb xd_law_860 rfl (lv_at hl 0 rfl) ?_
  refine lv_iload_n (pc := 861) hx hb xd_law_861 rfl (lv_at hl 3 rfl) ?_
  refine lv_iconst (pc := 862) (v := (3 : Int32)) hx hb xd_law_862 (by decide) ?_
  refine lv_iadd (pc := 863) hx hb xd_law_863 ?_
  refine va_sld (pc := 864) hx hb hX hbl hbA hS hi3 xd_law_864 ?_
  rw [ew3]
  refine xr_callL (pc := 865) (As := [.int w1, .int w2, .int w3]) (rest := [.int r0]) hC hR hS (xc_Mo_contrast l G h) xo_M0 xv_law_92 ⟨rfl, rfl, Nat.le_of_ble_eq_true rfl, Nat.le_of_ble_eq_true rfl⟩ rfl hl.1 rfl (Nat.le_of_ble_eq_true rfl) (Nat.le_of_ble_eq_true rfl) (Nat.le_of_ble_eq_true rfl) xd_law_865 (fun r1 M H locs h hR hS => ?_)
  refine lv_icmp_eq (pc := 868) (tgt := 1248) hx hb xd_law_868 (by decide) (fun _ => ?_) (fun hq => absurd h.1 hq)
  exact tail M H locs ls h.2 hR hS hl
set_option maxHeartbeats 4000000 in
set_option maxRecDepth 100000 in
theorem lc_19 {p : Program} {l : Launch} {e : Env} {s : State} {m : MethodId} {below : List Frame} {meth : Method} {c : Code} {G : xG} {b L : Nat} {xs : Nat → Int32} (hC : xC p s m #[Value.ref b] c code R_law 4 G) (hX : va_X b L xs s s.heap) (hbl : b < s.heap.size) (hbA : ¬ xA G b) {xInv : xM → Prop} {x3 : Int32} {w1 : Int32} (hi1 : vp_in (x3 + (1 : Int32)) L) (ew1 : xs (x3 + (1 : Int32)).toNatClampNeg = w1) {w2 : Int32} (hi2 : vp_in (x3 + (2 : Int32)) L) (ew2 : xs (x3 + (2 : Int32)).toNatClampNeg = w2) {w3 : Int32} (hi3 : vp_in (x3 + (3 : Int32)) L) (ew3 : xs (x3 + (3 : Int32)).toNatClampNeg = w3) (tail : ∀ (M : xM) (H : Heap) (locs : List Loc) (ls : Array Slot), xInv M → xRp G M H → va_S (xA G) s.heap H locs → lv_has ls 4 [(0, .ref b), (1, .ref (G.1 8 0)), (2, .ref (G.1 9 0)), (3, .int x3)] → W p l e room_1 s m #[Value.ref b] below meth c H locs 600000 7302250 (lw_Z below #[Value.ref b] s) (F0 m 1248 ls [])) (op_unmet : ∀ (M : xM), xInv M → xw_CA_unmet  M (fun r M1 => xw_Mo_unmet  M1 (fun q M2 => r = q ∧ xInv M2))) (M : xM) (H : Heap) (locs : List Loc) (ls : Array Slot) (hI : xInv M) (hR : xRp G M H) (hS : va_S (xA G) s.heap H locs) (hl : lv_has ls 4 [(0, .ref b), (1, .ref (G.1 8 0)), (2, .ref (G.1 9 0)), (3, .int x3)]) : W p l e room_1 s m #[Value.ref b] below meth c H locs 600000 7302250 (lw_Z below #[Value.ref b] s) (F0 m 873 ls []) := by
  have hx := hC.1
  have hb := hC.2.1
  refine lv_aload_n (pc := 873) hx hb xd_law_873 rfl (lv_at hl 1 rfl) ?_
  have h := op_unmet M  hI
  refine xr_callL (pc := 874) (As := []) (rest := []) hC hR hS (xc_CA_unmet l G h) xo_C0 xv_law_93 ⟨rfl, rfl, Nat.le_of_ble_eq_true rfl, Nat.le_of_ble_eq_true rfl⟩ rfl hl.1 rfl (Nat.le_of_ble_eq_true rfl) (Nat.le_of_ble_eq_true rfl) (Nat.le_of_ble_eq_true rfl) xd_law_874 (fun r0 M H locs h hR hS => ?_)
  refine lv_aload_n (pc := 877) hx hb xd_law_877 rfl (lv_at hl 2 rfl) ?_
  refine xr_callL (pc := 878) (As := []) (rest := [.int r0]) hC hR hS (xc_Mo_unmet l G h) xo_M0 xv_law_97 ⟨rfl, rfl, Nat.le_of_ble_eq_true rfl, Nat.le_of_ble_eq_true rfl⟩ rfl hl.1 rfl (Nat.le_of_ble_eq_true rfl) (Nat.le_of_ble_eq_true rfl) (Nat.le_of_ble_eq_true rfl) xd_law_878 (fun r1 M H locs h hR hS => ?_)
  refine lv_icmp_eq (pc := 881) (tgt := 1248) hx hb xd_law_881 (by decide) (fun _ => ?_) (fun hq => absurd h.1 hq)
  exact tail M H locs ls h.2 hR hS hl
set_option maxHeartbeats 4000000 in
set_option maxRecDepth 100000 in
theorem lc_20 {p : Program} {l : Launch} {e : Env} {s : State} {m : MethodId} {below : List Frame} {meth : Method} {c : Code} {G : xG} {b L : Nat} {xs : Nat → Int32} (hC : xC p s m #[Value.ref b] c code R_law 4 G) (hX : va_X b L xs s s.heap) (hbl : b < s.heap.size) (hbA : ¬ xA G b) {xInv : xM → Prop} {x3 : Int32} {w1 : Int32} (hi1 : vp_in (x3 + (1 : Int32)) L) (ew1 : xs (x3 + (1 : Int32)).toNatClampNeg = w1) {w2 : Int32} (hi2 : vp_in (x3 + (2 : Int32)) L) (ew2 : xs (x3 + (2 : Int32)).toNatClampNeg = w2) {w3 : Int32} (hi3 : vp_in (x3 + (3 : Int32)) L) (ew3 : xs (x3 + (3 : Int32)).toNatClampNeg = w3) (tail : ∀ (M : xM) (H : Heap) (locs : List Loc) (ls : Array Slot), xInv M → xRp G M H → va_S (xA G) s.heap H locs → lv_has ls 4 [(0, .ref b), (1, .ref (G.1 8 0)), (2, .ref (G.1 9 0)), (3, .int x3)] → W p l e room_1 s m #[Value.ref b] below meth c H locs 600000 7302250 (lw_Z below #[Value.ref b] s) (F0 m 1248 ls [])) (op_of : ∀ (M : xM) (a b : Int32), xInv M → xw_CA_of a b M (fun r M1 => xw_Mo_of a b M1 (fun q M2 => r = q ∧ xInv M2))) (M : xM) (H : Heap) (locs : List Loc) (ls : Array Slot) (hI : xInv M) (hR : xRp G M H) (hS : va_S (xA G) s.heap H locs) (hl : lv_has ls 4 [(0, .ref b), (1, .ref (G.1 8 0)), (2, .ref (G.1 9 0)), (3, .int x3)]) : W p l e room_1 s m #[Value.ref b] below meth c H locs 600000 7302250 (lw_Z below #[Value.ref b] s) (F0 m 886 ls []) := by
  have hx := hC.1
  have hb := hC.2.1
  refine lv_aload_n (pc := 886) hx hb xd_law_886 rfl (lv_at hl 1 rfl) ?_
  refine lv_aload_n (pc := 887) hx hb xd_law_887 rfl (lv_at hl 0 rfl) ?_
  refine lv_iload_n (pc := 888) hx hb xd_law_888 rfl (lv_at hl 3 rfl) ?_
  refine lv_iconst (pc := 889) (v := (1 : Int32)) hx hb xd_law_889 (by decide) ?_
  refine lv_iadd (pc := 890) hx hb xd_law_890 ?_
  refine va_sld (pc := 891) hx hb hX hbl hbA hS hi1 xd_law_891 ?_
  rw [ew1]
  refine lv_aload_n (pc := 892) hx hb xd_law_892 rfl (lv_at hl 0 rfl) ?_
  refine lv_iload_n (pc := 893) hx hb xd_law_893 rfl (lv_at hl 3 rfl) ?_
  refine lv_iconst (pc := 894) (v := (2 : Int32)) hx hb xd_law_894 (by decide) ?_
  refine lv_iadd (pc := 895) hx hb xd_law_895 ?_
  refine va_sld (pc := 896) hx hb hX hbl hbA hS hi2 xd_law_896 ?_
  rw [ew2]
  have h := op_of M w1 w2 hI
  refine xr_callL (pc := 897) (As := [.int w1, .int w2]) (rest := []) hC hR hS (xc_CA_of l G h) xo_C0 xv_law_98 ⟨rfl, rfl, Nat.le_of_ble_eq_true rfl, Nat.le_of_ble_eq_true rfl⟩ rfl hl.1 rfl (Nat.le_of_ble_eq_true rfl) (Nat.le_of_ble_eq_true rfl) (Nat.le_of_ble_eq_true rfl) xd_law_897 (fun r0 M H locs h hR hS => ?_)
  refine lv_aload_n (pc := 900) hx hb xd_law_900 rfl (lv_at hl 2 rfl) ?_
  refine lv_aload_n (pc := 901) hx hb xd_law_901 rfl (lv_at hl 0 rfl) ?_
  refine lv_iload_n (pc := 902) hx hb xd_law_902 rfl (lv_at hl 3 rfl) ?_
  refine lv_iconst (pc := 903) (v := (1 : Int32)) hx hb xd_law_903 (by decide) ?_
  refine lv_iadd (pc := 904) hx hb xd_law_904 ?_
  refine va_sld (pc := 905) hx hb hX hbl hbA hS hi1 xd_law_905 ?_
  rw [ew1]
  refine lv_aload_n (pc := 906) hx hb xd_law_906 rfl (lv_at hl 0 rfl) ?_
  refine lv_iload_n (pc := 907) hx hb xd_law_907 rfl (lv_at hl 3 rfl) ?_
  refine lv_iconst (pc := 908) (v := (2 : Int32)) hx hb xd_law_908 (by decide) ?_
  refine lv_iadd (pc := 909) hx hb xd_law_909 ?_
  refine va_sld (pc := 910) hx hb hX hbl hbA hS hi2 xd_law_910 ?_
  rw [ew2]
  refine xr_callL (pc := 911) (As := [.int w1, .int w2]) (rest := [.int r0]) hC hR hS (xc_Mo_of l G h) xo_M0 xv_law_101 ⟨rfl, rfl, Nat.le_of_ble_eq_true rfl, Nat.le_of_ble_eq_true rfl⟩ rfl hl.1 rfl (Nat.le_of_ble_eq_true rfl) (Nat.le_of_ble_eq_true rfl) (Nat.le_of_ble_eq_true rfl) xd_law_911 (fun r1 M H locs h hR hS => ?_)
  refine lv_icmp_eq (pc := 914) (tgt := 1248) hx hb xd_law_914 (by decide) (fun _ => ?_) (fun hq => absurd h.1 hq)
  exact tail M H locs ls h.2 hR hS hl
set_option maxHeartbeats 4000000 in
set_option maxRecDepth 100000 in
theorem lc_21 {p : Program} {l : Launch} {e : Env} {s : State} {m : MethodId} {below : List Frame} {meth : Method} {c : Code} {G : xG} {b L : Nat} {xs : Nat → Int32} (hC : xC p s m #[Value.ref b] c code R_law 4 G) (hX : va_X b L xs s s.heap) (hbl : b < s.heap.size) (hbA : ¬ xA G b) {xInv : xM → Prop} {x3 : Int32} {w1 : Int32} (hi1 : vp_in (x3 + (1 : Int32)) L) (ew1 : xs (x3 + (1 : Int32)).toNatClampNeg = w1) {w2 : Int32} (hi2 : vp_in (x3 + (2 : Int32)) L) (ew2 : xs (x3 + (2 : Int32)).toNatClampNeg = w2) {w3 : Int32} (hi3 : vp_in (x3 + (3 : Int32)) L) (ew3 : xs (x3 + (3 : Int32)).toNatClampNeg = w3) (tail : ∀ (M : xM) (H : Heap) (locs : List Loc) (ls : Array Slot), xInv M → xRp G M H → va_S (xA G) s.heap H locs → lv_has ls 4 [(0, .ref b), (1, .ref (G.1 8 0)), (2, .ref (G.1 9 0)), (3, .int x3)] → W p l e room_1 s m #[Value.ref b] below meth c H locs 600000 7302250 (lw_Z below #[Value.ref b] s) (F0 m 1248 ls [])) (op_best : ∀ (M : xM) (a : Int32), xInv M → xw_CA_best a M (fun r M1 => xw_Mo_best a M1 (fun q M2 => r = q ∧ xInv M2))) (M : xM) (H : Heap) (locs : List Loc) (ls : Array Slot) (hI : xInv M) (hR : xRp G M H) (hS : va_S (xA G) s.heap H locs) (hl : lv_has ls 4 [(0, .ref b), (1, .ref (G.1 8 0)), (2, .ref (G.1 9 0)), (3, .int x3)]) : W p l e room_1 s m #[Value.ref b] below meth c H locs 600000 7302250 (lw_Z below #[Value.ref b] s) (F0 m 919 ls []) := by
  have hx := hC.1
  have hb := hC.2.1
  refine lv_aload_n (pc := 919) hx hb xd_law_919 rfl (lv_at hl 1 rfl) ?_
  refine lv_aload_n (pc := 920) hx hb xd_law_920 rfl (lv_at hl 0 rfl) ?_
  refine lv_iload_n (pc := 921) hx hb xd_law_921 rfl (lv_at hl 3 rfl) ?_
  refine lv_iconst (pc := 922) (v := (1 : Int32)) hx hb xd_law_922 (by decide) ?_
  refine lv_iadd (pc := 923) hx hb xd_law_923 ?_
  refine va_sld (pc := 924) hx hb hX hbl hbA hS hi1 xd_law_924 ?_
  rw [ew1]
  have h := op_best M w1 hI
  refine xr_callL (pc := 925) (As := [.int w1]) (rest := []) hC hR hS (xc_CA_best l G h) xo_C0 xv_law_102 ⟨rfl, rfl, Nat.le_of_ble_eq_true rfl, Nat.le_of_ble_eq_true rfl⟩ rfl hl.1 rfl (Nat.le_of_ble_eq_true rfl) (Nat.le_of_ble_eq_true rfl) (Nat.le_of_ble_eq_true rfl) xd_law_925 (fun r0 M H locs h hR hS => ?_)
  refine lv_aload_n (pc := 928) hx hb xd_law_928 rfl (lv_at hl 2 rfl) ?_
  refine lv_aload_n (pc := 929) hx hb xd_law_929 rfl (lv_at hl 0 rfl) ?_
  refine lv_iload_n (pc := 930) hx hb xd_law_930 rfl (lv_at hl 3 rfl) ?_
  refine lv_iconst (pc := 931) (v := (1 : Int32)) hx hb xd_law_931 (by decide) ?_
  refine lv_iadd (pc := 932) hx hb xd_law_932 ?_
  refine va_sld (pc := 933) hx hb hX hbl hbA hS hi1 xd_law_933 ?_
  rw [ew1]
  refine xr_callL (pc := 934) (As := [.int w1]) (rest := [.int r0]) hC hR hS (xc_Mo_best l G h) xo_M0 xv_law_105 ⟨rfl, rfl, Nat.le_of_ble_eq_true rfl, Nat.le_of_ble_eq_true rfl⟩ rfl hl.1 rfl (Nat.le_of_ble_eq_true rfl) (Nat.le_of_ble_eq_true rfl) (Nat.le_of_ble_eq_true rfl) xd_law_934 (fun r1 M H locs h hR hS => ?_)
  refine lv_icmp_eq (pc := 937) (tgt := 1248) hx hb xd_law_937 (by decide) (fun _ => ?_) (fun hq => absurd h.1 hq)
  exact tail M H locs ls h.2 hR hS hl
set_option maxHeartbeats 4000000 in
set_option maxRecDepth 100000 in
theorem lc_22 {p : Program} {l : Launch} {e : Env} {s : State} {m : MethodId} {below : List Frame} {meth : Method} {c : Code} {G : xG} {b L : Nat} {xs : Nat → Int32} (hC : xC p s m #[Value.ref b] c code R_law 4 G) (hX : va_X b L xs s s.heap) (hbl : b < s.heap.size) (hbA : ¬ xA G b) {xInv : xM → Prop} {x3 : Int32} {w1 : Int32} (hi1 : vp_in (x3 + (1 : Int32)) L) (ew1 : xs (x3 + (1 : Int32)).toNatClampNeg = w1) {w2 : Int32} (hi2 : vp_in (x3 + (2 : Int32)) L) (ew2 : xs (x3 + (2 : Int32)).toNatClampNeg = w2) {w3 : Int32} (hi3 : vp_in (x3 + (3 : Int32)) L) (ew3 : xs (x3 + (3 : Int32)).toNatClampNeg = w3) (tail : ∀ (M : xM) (H : Heap) (locs : List Loc) (ls : Array Slot), xInv M → xRp G M H → va_S (xA G) s.heap H locs → lv_has ls 4 [(0, .ref b), (1, .ref (G.1 8 0)), (2, .ref (G.1 9 0)), (3, .int x3)] → W p l e room_1 s m #[Value.ref b] below meth c H locs 600000 7302250 (lw_Z below #[Value.ref b] s) (F0 m 1248 ls [])) (op_chosen : ∀ (M : xM) (a : Int32), xInv M → xw_CA_chosen a M (fun r M1 => xw_Mo_chosen a M1 (fun q M2 => r = q ∧ xInv M2))) (M : xM) (H : Heap) (locs : List Loc) (ls : Array Slot) (hI : xInv M) (hR : xRp G M H) (hS : va_S (xA G) s.heap H locs) (hl : lv_has ls 4 [(0, .ref b), (1, .ref (G.1 8 0)), (2, .ref (G.1 9 0)), (3, .int x3)]) : W p l e room_1 s m #[Value.ref b] below meth c H locs 600000 7302250 (lw_Z below #[Value.ref b] s) (F0 m 942 ls []) := by
  have hx := hC.1
  have hb := hC.2.1
  refine lv_aload_n (pc := 942) hx hb xd_law_942 rfl (lv_at hl 1 rfl) ?_
  refine lv_aload_n (pc := 943) hx hb xd_law_943 rfl (lv_at hl 0 rfl) ?_
  refine lv_iload_n (pc := 944) hx hb xd_law_944 rfl (lv_at hl 3 rfl) ?_
  refine lv_iconst (pc := 945) (v := (1 : Int32)) hx hb xd_law_945 (by decide) ?_
  refine lv_iadd (pc := 946) hx hb xd_law_946 ?_
  refine va_sld (pc := 947) hx hb hX hbl hbA hS hi1 xd_law_947 ?_
  rw [ew1]
  have h := op_chosen M w1 hI
  refine xr_callL (pc := 948) (As := [.int w1]) (rest := []) hC hR hS (xc_CA_chosen l G h) xo_C0 xv_law_106 ⟨rfl, rfl, Nat.le_of_ble_eq_true rfl, Nat.le_of_ble_eq_true rfl⟩ rfl hl.1 rfl (Nat.le_of_ble_eq_true rfl) (Nat.le_of_ble_eq_true rfl) (Nat.le_of_ble_eq_true rfl) xd_law_948 (fun r0 M H locs h hR hS => ?_)
  refine lv_aload_n (pc := 951) hx hb xd_law_951 rfl (lv_at hl 2 rfl) ?_
  refine lv_aload_n (pc := 952) hx hb xd_law_952 rfl (lv_at hl 0 rfl) ?_
  refine lv_iload_n (pc := 953) hx hb xd_law_953 rfl (lv_at hl 3 rfl) ?_
  refine lv_iconst (pc := 954) (v := (1 : Int32)) hx hb xd_law_954 (by decide) ?_
  refine lv_iadd (pc := 955) hx hb xd_law_955 ?_
  refine va_sld (pc := 956) hx hb hX hbl hbA hS hi1 xd_law_956 ?_
  rw [ew1]
  refine xr_callL (pc := 957) (As := [.int w1]) (rest := [.int r0]) hC hR hS (xc_Mo_chosen l G h) xo_M0 xv_law_109 ⟨rfl, rfl, Nat.le_of_ble_eq_true rfl, Nat.le_of_ble_eq_true rfl⟩ rfl hl.1 rfl (Nat.le_of_ble_eq_true rfl) (Nat.le_of_ble_eq_true rfl) (Nat.le_of_ble_eq_true rfl) xd_law_957 (fun r1 M H locs h hR hS => ?_)
  refine lv_icmp_eq (pc := 960) (tgt := 1248) hx hb xd_law_960 (by decide) (fun _ => ?_) (fun hq => absurd h.1 hq)
  exact tail M H locs ls h.2 hR hS hl
set_option maxHeartbeats 4000000 in
set_option maxRecDepth 100000 in
theorem lc_23 {p : Program} {l : Launch} {e : Env} {s : State} {m : MethodId} {below : List Frame} {meth : Method} {c : Code} {G : xG} {b L : Nat} {xs : Nat → Int32} (hC : xC p s m #[Value.ref b] c code R_law 4 G) (hX : va_X b L xs s s.heap) (hbl : b < s.heap.size) (hbA : ¬ xA G b) {xInv : xM → Prop} {x3 : Int32} {w1 : Int32} (hi1 : vp_in (x3 + (1 : Int32)) L) (ew1 : xs (x3 + (1 : Int32)).toNatClampNeg = w1) {w2 : Int32} (hi2 : vp_in (x3 + (2 : Int32)) L) (ew2 : xs (x3 + (2 : Int32)).toNatClampNeg = w2) {w3 : Int32} (hi3 : vp_in (x3 + (3 : Int32)) L) (ew3 : xs (x3 + (3 : Int32)).toNatClampNeg = w3) (tail : ∀ (M : xM) (H : Heap) (locs : List Loc) (ls : Array Slot), xInv M → xRp G M H → va_S (xA G) s.heap H locs → lv_has ls 4 [(0, .ref b), (1, .ref (G.1 8 0)), (2, .ref (G.1 9 0)), (3, .int x3)] → W p l e room_1 s m #[Value.ref b] below meth c H locs 600000 7302250 (lw_Z below #[Value.ref b] s) (F0 m 1248 ls [])) (op_move : ∀ (M : xM) (a b : Int32), xInv M → xw_CA_move a b M (fun r M1 => xw_Mo_move a b M1 (fun q M2 => r = q ∧ xInv M2))) (M : xM) (H : Heap) (locs : List Loc) (ls : Array Slot) (hI : xInv M) (hR : xRp G M H) (hS : va_S (xA G) s.heap H locs) (hl : lv_has ls 4 [(0, .ref b), (1, .ref (G.1 8 0)), (2, .ref (G.1 9 0)), (3, .int x3)]) : W p l e room_1 s m #[Value.ref b] below meth c H locs 600000 7302250 (lw_Z below #[Value.ref b] s) (F0 m 965 ls []) := by
  have hx := hC.1
  have hb := hC.2.1
  refine lv_aload_n (pc := 965) hx hb xd_law_965 rfl (lv_at hl 1 rfl) ?_
  refine lv_aload_n (pc := 966) hx hb xd_law_966 rfl (lv_at hl 0 rfl) ?_
  refine lv_iload_n (pc := 967) hx hb xd_law_967 rfl (lv_at hl 3 rfl) ?_
  refine lv_iconst (pc := 968) (v := (1 : Int32)) hx hb xd_law_968 (by decide) ?_
  refine lv_iadd (pc := 969) hx hb xd_law_969 ?_
  refine va_sld (pc := 970) hx hb hX hbl hbA hS hi1 xd_law_970 ?_
  rw [ew1]
  refine lv_aload_n (pc := 971) hx hb xd_law_971 rfl (lv_at hl 0 rfl) ?_
  refine lv_iload_n (pc := 972) hx hb xd_law_972 rfl (lv_at hl 3 rfl) ?_
  refine lv_iconst (pc := 973) (v := (2 : Int32)) hx hb xd_law_973 (by decide) ?_
  refine lv_iadd (pc := 974) hx hb xd_law_974 ?_
  refine va_sld (pc := 975) hx hb hX hbl hbA hS hi2 xd_law_975 ?_
  rw [ew2]
  have h := op_move M w1 w2 hI
  refine xr_callL (pc := 976) (As := [.int w1, .int w2]) (rest := []) hC hR hS (xc_CA_move l G h) xo_C0 xv_law_110 ⟨rfl, rfl, Nat.le_of_ble_eq_true rfl, Nat.le_of_ble_eq_true rfl⟩ rfl hl.1 rfl (Nat.le_of_ble_eq_true rfl) (Nat.le_of_ble_eq_true rfl) (Nat.le_of_ble_eq_true rfl) xd_law_976 (fun r0 M H locs h hR hS => ?_)
  refine lv_aload_n (pc := 979) hx hb xd_law_979 rfl (lv_at hl 2 rfl) ?_
  refine lv_aload_n (pc := 980) hx hb xd_law_980 rfl (lv_at hl 0 rfl) ?_
  refine lv_iload_n (pc := 981) hx hb xd_law_981 rfl (lv_at hl 3 rfl) ?_
  refine lv_iconst (pc := 982) (v := (1 : Int32)) hx hb xd_law_982 (by decide) ?_
  refine lv_iadd (pc := 983) hx hb xd_law_983 ?_
  refine va_sld (pc := 984) hx hb hX hbl hbA hS hi1 xd_law_984 ?_
  rw [ew1]
  refine lv_aload_n (pc := 985) hx hb xd_law_985 rfl (lv_at hl 0 rfl) ?_
  refine lv_iload_n (pc := 986) hx hb xd_law_986 rfl (lv_at hl 3 rfl) ?_
  refine lv_iconst (pc := 987) (v := (2 : Int32)) hx hb xd_law_987 (by decide) ?_
  refine lv_iadd (pc := 988) hx hb xd_law_988 ?_
  refine va_sld (pc := 989) hx hb hX hbl hbA hS hi2 xd_law_989 ?_
  rw [ew2]
  refine xr_callL (pc := 990) (As := [.int w1, .int w2]) (rest := [.int r0]) hC hR hS (xc_Mo_move l G h) xo_M0 xv_law_113 ⟨rfl, rfl, Nat.le_of_ble_eq_true rfl, Nat.le_of_ble_eq_true rfl⟩ rfl hl.1 rfl (Nat.le_of_ble_eq_true rfl) (Nat.le_of_ble_eq_true rfl) (Nat.le_of_ble_eq_true rfl) xd_law_990 (fun r1 M H locs h hR hS => ?_)
  refine lv_icmp_eq (pc := 993) (tgt := 1248) hx hb xd_law_993 (by decide) (fun _ => ?_) (fun hq => absurd h.1 hq)
  exact tail M H locs ls h.2 hR hS hl
