/-! THE CLAIM OUT OF ONE WALK OF THE LAW'S BODY. Your part is whole_start (and what it stands on); all else here is the same for every law, but numbers. -/
def R_law : String := "ColoursApartLaw"
def lw_P (b : Addr) (xs : List Int32) (args : Array Value) (s : State) : Prop := args = #[.ref b] ∧ s.IntsAt b xs ∧ xs.length ≤ 2048 ∧ (Jvm.Cond.and given_1 narrow_1).before args s = true
def lw_Q (_ : Array Value) (s : State) (o : Outcome) (t : State) : Prop := o = .returned (some (.int 1)) ∧ Framed s o t [] 600000 7302250
def lw_Z (below : List Frame) (a : Array Value) (s : State) : State → Prop := fun t => ∃ o, t.status = .running ∧ Ended t below o ∧ lw_Q a s o t
/-- the law's own end, with 1 on the stack, nothing written that was there before, its room as the claim has it -/
theorem lw_ret {p : Program} {l : Launch} {e : Env} {s : State} {m : MethodId} {below : List Frame} {meth : Method} {c : Code} {b : Nat} (hx : p.tables.exec = Jvm.exec) (hb : c.code = code) (hr : meth.sig.returnType = ret) (hlocks : meth.locks = false) {pc : Nat} {H : Heap} {ls : Array Slot} (hdg : decode code pc = .ok (.ireturn, 1)) : W p l e room_1 s m #[Value.ref b] below meth c H [] 600000 7302250 (lw_Z below #[Value.ref b] s) (F0 m pc ls [.int 1]) := by
  intro T hT X
  obtain ⟨fs, hret, hrun, hended, hW, hframe⟩ := X.leave (v := some (.int 1)) (hlocks := hlocks) (fun h => by rw [hr] at h; cases h)
  have hmeth' : T.vm.method? m = some meth := X.method'
  refine ⟨T.setFrames fs, ?_, .returned (some (.int 1)), hrun, hended, rfl, ⟨_, rfl⟩, hW, hframe⟩
  jvm_step X.here [X.here.top, hx, hb, hdg, hmeth', hr, ret, narrow_b1]
  (try refine ⟨rfl, ?_⟩); (try refine ⟨rfl, ?_⟩)
  first | (intro acts; rw [hret _ acts rfl rfl rfl]) | rw [hret _ _ rfl rfl rfl]
  exact Steps.refl _
/-- what holds at the law's entry: the machine, the code, the tables' words (any of lw_tbl by 'hts w (by decide +kernel)'), the script of L ints xs at the cell b, what the Statement gives of the start (any of its parts by flat_of_before) -/
def lw_At (p : Program) (s : State) (m : MethodId) (meth : Method) (c : Code) (b L : Nat) (xs : Nat → Int32) : Prop :=
  p.tables.exec = Jvm.exec ∧ c.code = code ∧ meth.sig.returnType = ret ∧ c.maxLocals = 4 ∧ s.vm.findClass R_law = some m.cls ∧ (∀ w ∈ lw_tbl, w.before #[Value.ref b] s = true) ∧ va_X b L xs s s.heap ∧ b < s.heap.size ∧ meth.locks = false ∧ (Jvm.Cond.and given_1 narrow_1).before #[Value.ref b] s = true

/-! ===== the law: calls with the law's own room ===== -/
theorem xr_callL {p : Program} {l : Launch} {e : Env} {R : Room} {s : State} {m : MethodId} {args : Array Value} {below : List Frame} {meth : Method} {c : Code} {H : Heap} {locs : List Loc} {cells slots : Nat} {Q : State → Prop} {cc : ByteArray} {pc : Nat} {ls : Array Slot} {rest : List Value} {own : String} {nL : Nat} {G : xG} {M : xM} {y : MethodName} {bytes : ByteArray} {maxL n idx g i ci : Nat} {ret : Option FieldType} {rm : Room} {As st : List Value} {fks : List (Option (Nat × Nat))} {post : Int32 → xM → Prop} (hC : xC p s m args c cc own nL G) (hR : xRp G M H) (hS : va_S (xA G) s.heap H locs)
    (hM : Met l y (Cond.code y bytes maxL ret :: xTG) rm (xPre G M (.ref (G.1 g i) :: As)) (xPi G post) 0 0 (xA G)) (hlay : xlay g i = some (.inl (ci, fks))) (hv : xVL own idx ci y bytes maxL ret n) (hrm : xRm rm R maxL) (hn : As.length = n) (hls : ls.size = nL) (hst : st = As.reverse ++ .ref (G.1 g i) :: rest) (hW : (rest.map fun v => v.category).sum ≤ 8) (hc : cells ≤ R.cells) (hs : slots ≤ R.slots) (hd : decode cc pc = .ok (.invokevirtual idx, 3))
    (kk : ∀ (r : Int32) (M : xM) (H : Heap) (locs : List Loc), post r M → xRp G M H → va_S (xA G) s.heap H locs → W p l e R s m args below meth c H locs cells slots Q (F0 m (pc + 3) ls (.int r :: rest))) : W p l e R s m args below meth c H locs cells slots Q (F0 m pc ls st) := by
  obtain ⟨hx, hb, hml, hown, hts, hK⟩ := hC
  obtain ⟨⟨C, T, N, hc', hy⟩, hin, hdd⟩ := hv
  refine va_calli (va_runV (Ts := xTG) (As := As) (rest := rest) ⟨hx, hb, hml, hown, hts⟩ hM (cwV n hts (xgood hin) rfl hrm.1 hrm.2.1 ⟨rfl, hdd⟩ hrm.2.2) ⟨xPre.blind, by rw [hy]; exact xr_recv hK hR hlay hc', fun U hU hW => ⟨rfl, by rw [hU]; exact hR, hK.warm hW⟩⟩ rfl hn hls hst (lv_room hW) hd ⟨hc, hs⟩) hS (fun _ _ h => h) (fun _ h => h) (fun r u t H1 locs ht hvm hw hB hz1 hk1 hS => kk r u H1 locs hw (by rw [← ht]; exact hB) hS)
/-- the head's test: four ints are left -/
theorem xlw_in {L j : Nat} (hL : L ≤ 2048) (hj : j ≤ 4096) (h : ¬ nI L - 4 < nI j) : j + 3 < L := by
  rcases Nat.lt_or_ge (j + 3) L with q | q
  · exact q
  · refine absurd (Int32.lt_iff_toInt_lt.mpr ?_) h
    have e1 := pk_sub_toInt (a := L) (b := 4) (by omega) (by omega)
    have e2 : nI L - 4 = nI L - nI 4 := rfl
    rw [e2, e1, nI_toInt (by omega)]
    omega
theorem xlw_ix {L j : Nat} (hL : L ≤ 2048) (h : j + 3 < L) (k : Nat) (hk : k ≤ 3) : vp_in (nI j + nI k) L := by
  rw [nI_add]
  exact vp_in_nI (by omega) (by omega)

theorem xcl_CA_sheet : Cond.code y_CA_sheet b_CA_sheet 4 (some .int) ∈ xTG := (xtg2 39 rfl rfl)
theorem xv_law_13 : xVL R_law 13 9 y_CA_sheet b_CA_sheet 4 (some .int) 3 := xVL.of rfl rfl (xtg2 36 rfl rfl) (xtg2 37 rfl rfl) (xtg2 38 rfl rfl) xin_CA xcl_CA_sheet ⟨by decide, by decide, rfl⟩
theorem xcl_Mo_sheet : Cond.code y_Mo_sheet b_Mo_sheet 5 (some .int) ∈ xTG := (xtg4 122 rfl rfl)
theorem xv_law_17 : xVL R_law 17 10 y_Mo_sheet b_Mo_sheet 5 (some .int) 3 := xVL.of rfl rfl (xtg4 119 rfl rfl) (xtg4 120 rfl rfl) (xtg4 121 rfl rfl) xin_Mo xcl_Mo_sheet ⟨by decide, by decide, rfl⟩
theorem xcl_CA_write : Cond.code y_CA_write b_CA_write 4 (some .int) ∈ xTG := (xtg2 62 rfl rfl)
theorem xv_law_18 : xVL R_law 18 9 y_CA_write b_CA_write 4 (some .int) 3 := xVL.of rfl rfl (xtg2 59 rfl rfl) (xtg2 60 rfl rfl) (xtg2 61 rfl rfl) xin_CA xcl_CA_write ⟨by decide, by decide, rfl⟩
theorem xcl_Mo_write : Cond.code y_Mo_write b_Mo_write 4 (some .int) ∈ xTG := (xtg4 133 rfl rfl)
theorem xv_law_21 : xVL R_law 21 10 y_Mo_write b_Mo_write 4 (some .int) 3 := xVL.of rfl rfl (xtg4 130 rfl rfl) (xtg4 131 rfl rfl) (xtg4 132 rfl rfl) xin_Mo xcl_Mo_write ⟨by decide, by decide, rfl⟩
theorem xcl_CA_weak : Cond.code y_CA_weak b_CA_weak 4 (some .int) ∈ xTG := (xtg2 78 rfl rfl)
theorem xv_law_22 : xVL R_law 22 9 y_CA_weak b_CA_weak 4 (some .int) 3 := xVL.of rfl rfl (xtg2 75 rfl rfl) (xtg2 76 rfl rfl) (xtg2 77 rfl rfl) xin_CA xcl_CA_weak ⟨by decide, by decide, rfl⟩
theorem xcl_Mo_weak : Cond.code y_Mo_weak b_Mo_weak 5 (some .int) ∈ xTG := (xtg4 137 rfl rfl)
theorem xv_law_25 : xVL R_law 25 10 y_Mo_weak b_Mo_weak 5 (some .int) 3 := xVL.of rfl rfl (xtg4 134 rfl rfl) (xtg4 135 rfl rfl) (xtg4 136 rfl rfl) xin_Mo xcl_Mo_weak ⟨by decide, by decide, rfl⟩
theorem xcl_CA_levels : Cond.code y_CA_levels b_CA_levels 3 (some .int) ∈ xTG := (xtg2 94 rfl rfl)
theorem xv_law_26 : xVL R_law 26 9 y_CA_levels b_CA_levels 3 (some .int) 1 := xVL.of rfl rfl (xtg2 91 rfl rfl) (xtg2 92 rfl rfl) (xtg2 93 rfl rfl) xin_CA xcl_CA_levels ⟨by decide, by decide, rfl⟩
theorem xcl_Mo_levels : Cond.code y_Mo_levels b_Mo_levels 3 (some .int) ∈ xTG := (xtg4 145 rfl rfl)
theorem xv_law_30 : xVL R_law 30 10 y_Mo_levels b_Mo_levels 3 (some .int) 1 := xVL.of rfl rfl (xtg4 142 rfl rfl) (xtg4 143 rfl rfl) (xtg4 144 rfl rfl) xin_Mo xcl_Mo_levels ⟨by decide, by decide, rfl⟩
theorem xcl_CA_weights : Cond.code y_CA_weights b_CA_weights 4 (some .int) ∈ xTG := (xtg2 98 rfl rfl)
theorem xv_law_31 : xVL R_law 31 9 y_CA_weights b_CA_weights 4 (some .int) 3 := xVL.of rfl rfl (xtg2 95 rfl rfl) (xtg2 96 rfl rfl) (xtg2 97 rfl rfl) xin_CA xcl_CA_weights ⟨by decide, by decide, rfl⟩
theorem xcl_Mo_weights : Cond.code y_Mo_weights b_Mo_weights 4 (some .int) ∈ xTG := (xtg4 149 rfl rfl)
theorem xv_law_34 : xVL R_law 34 10 y_Mo_weights b_Mo_weights 4 (some .int) 3 := xVL.of rfl rfl (xtg4 146 rfl rfl) (xtg4 147 rfl rfl) (xtg4 148 rfl rfl) xin_Mo xcl_Mo_weights ⟨by decide, by decide, rfl⟩
theorem xcl_CA_sights : Cond.code y_CA_sights b_CA_sights 3 (some .int) ∈ xTG := (xtg2 105 rfl rfl)
theorem xv_law_35 : xVL R_law 35 9 y_CA_sights b_CA_sights 3 (some .int) 1 := xVL.of rfl rfl (xtg2 102 rfl rfl) (xtg2 103 rfl rfl) (xtg2 104 rfl rfl) xin_CA xcl_CA_sights ⟨by decide, by decide, rfl⟩
theorem xcl_Mo_sights : Cond.code y_Mo_sights b_Mo_sights 3 (some .int) ∈ xTG := (xtg4 153 rfl rfl)
theorem xv_law_38 : xVL R_law 38 10 y_Mo_sights b_Mo_sights 3 (some .int) 1 := xVL.of rfl rfl (xtg4 150 rfl rfl) (xtg4 151 rfl rfl) (xtg4 152 rfl rfl) xin_Mo xcl_Mo_sights ⟨by decide, by decide, rfl⟩
theorem xcl_CA_grid : Cond.code y_CA_grid b_CA_grid 3 (some .int) ∈ xTG := (xtg2 109 rfl rfl)
theorem xv_law_39 : xVL R_law 39 9 y_CA_grid b_CA_grid 3 (some .int) 1 := xVL.of rfl rfl (xtg2 106 rfl rfl) (xtg2 107 rfl rfl) (xtg2 108 rfl rfl) xin_CA xcl_CA_grid ⟨by decide, by decide, rfl⟩
theorem xcl_Mo_grid : Cond.code y_Mo_grid b_Mo_grid 3 (some .int) ∈ xTG := (xtg4 157 rfl rfl)
theorem xv_law_42 : xVL R_law 42 10 y_Mo_grid b_Mo_grid 3 (some .int) 1 := xVL.of rfl rfl (xtg4 154 rfl rfl) (xtg4 155 rfl rfl) (xtg4 156 rfl rfl) xin_Mo xcl_Mo_grid ⟨by decide, by decide, rfl⟩
theorem xcl_CA_place : Cond.code y_CA_place b_CA_place 2 (some .int) ∈ xTG := (xtg2 113 rfl rfl)
theorem xv_law_43 : xVL R_law 43 9 y_CA_place b_CA_place 2 (some .int) 1 := xVL.of rfl rfl (xtg2 110 rfl rfl) (xtg2 111 rfl rfl) (xtg2 112 rfl rfl) xin_CA xcl_CA_place ⟨by decide, by decide, rfl⟩
theorem xcl_Mo_place : Cond.code y_Mo_place b_Mo_place 2 (some .int) ∈ xTG := (xtg4 161 rfl rfl)
theorem xv_law_46 : xVL R_law 46 10 y_Mo_place b_Mo_place 2 (some .int) 1 := xVL.of rfl rfl (xtg4 158 rfl rfl) (xtg4 159 rfl rfl) (xtg4 160 rfl rfl) xin_Mo xcl_Mo_place ⟨by decide, by decide, rfl⟩
theorem xcl_CA_seen : Cond.code y_CA_seen b_CA_seen 3 (some .int) ∈ xTG := (xtg2 135 rfl rfl)
theorem xv_law_47 : xVL R_law 47 9 y_CA_seen b_CA_seen 3 (some .int) 2 := xVL.of rfl rfl (xtg2 132 rfl rfl) (xtg2 133 rfl rfl) (xtg2 134 rfl rfl) xin_CA xcl_CA_seen ⟨by decide, by decide, rfl⟩
theorem xcl_Mo_seen : Cond.code y_Mo_seen b_Mo_seen 3 (some .int) ∈ xTG := (xtg4 180 rfl rfl)
theorem xv_law_51 : xVL R_law 51 10 y_Mo_seen b_Mo_seen 3 (some .int) 2 := xVL.of rfl rfl (xtg4 177 rfl rfl) (xtg4 178 rfl rfl) (xtg4 179 rfl rfl) xin_Mo xcl_Mo_seen ⟨by decide, by decide, rfl⟩
theorem xcl_CA_light : Cond.code y_CA_light b_CA_light 2 (some .int) ∈ xTG := (xtg2 181 rfl rfl)
theorem xv_law_52 : xVL R_law 52 9 y_CA_light b_CA_light 2 (some .int) 1 := xVL.of rfl rfl (xtg2 178 rfl rfl) (xtg2 179 rfl rfl) (xtg2 180 rfl rfl) xin_CA xcl_CA_light ⟨by decide, by decide, rfl⟩
theorem xcl_Mo_light : Cond.code y_Mo_light b_Mo_light 2 (some .int) ∈ xTG := (xtg4 215 rfl rfl)
theorem xv_law_55 : xVL R_law 55 10 y_Mo_light b_Mo_light 2 (some .int) 1 := xVL.of rfl rfl (xtg4 212 rfl rfl) (xtg4 213 rfl rfl) (xtg4 214 rfl rfl) xin_Mo xcl_Mo_light ⟨by decide, by decide, rfl⟩
theorem xcl_CA_distance : Cond.code y_CA_distance b_CA_distance 4 (some .int) ∈ xTG := (xtg2 186 rfl rfl)
theorem xv_law_56 : xVL R_law 56 9 y_CA_distance b_CA_distance 4 (some .int) 3 := xVL.of rfl rfl (xtg2 183 rfl rfl) (xtg2 184 rfl rfl) (xtg2 185 rfl rfl) xin_CA xcl_CA_distance ⟨by decide, by decide, rfl⟩
theorem xcl_Mo_distance : Cond.code y_Mo_distance b_Mo_distance 4 (some .int) ∈ xTG := (xtg4 219 rfl rfl)
theorem xv_law_59 : xVL R_law 59 10 y_Mo_distance b_Mo_distance 4 (some .int) 3 := xVL.of rfl rfl (xtg4 216 rfl rfl) (xtg4 217 rfl rfl) (xtg4 218 rfl rfl) xin_Mo xcl_Mo_distance ⟨by decide, by decide, rfl⟩
theorem xcl_CA_apart : Cond.code y_CA_apart b_CA_apart 3 (some .int) ∈ xTG := (xtg2 194 rfl rfl)
theorem xv_law_60 : xVL R_law 60 9 y_CA_apart b_CA_apart 3 (some .int) 2 := xVL.of rfl rfl (xtg2 191 rfl rfl) (xtg2 192 rfl rfl) (xtg2 193 rfl rfl) xin_CA xcl_CA_apart ⟨by decide, by decide, rfl⟩
theorem xcl_Mo_apart : Cond.code y_Mo_apart b_Mo_apart 3 (some .int) ∈ xTG := (xtg4 227 rfl rfl)
theorem xv_law_63 : xVL R_law 63 10 y_Mo_apart b_Mo_apart 3 (some .int) 2 := xVL.of rfl rfl (xtg4 224 rfl rfl) (xtg4 225 rfl rfl) (xtg4 226 rfl rfl) xin_Mo xcl_Mo_apart ⟨by decide, by decide, rfl⟩
theorem xcl_CA_add : Cond.code y_CA_add b_CA_add 3 (some .int) ∈ xTG := (xtg2 209 rfl rfl)
theorem xv_law_64 : xVL R_law 64 9 y_CA_add b_CA_add 3 (some .int) 2 := xVL.of rfl rfl (xtg2 206 rfl rfl) (xtg2 207 rfl rfl) (xtg2 208 rfl rfl) xin_CA xcl_CA_add ⟨by decide, by decide, rfl⟩
theorem xcl_Mo_add : Cond.code y_Mo_add b_Mo_add 3 (some .int) ∈ xTG := (xtg4 235 rfl rfl)
theorem xv_law_68 : xVL R_law 68 10 y_Mo_add b_Mo_add 3 (some .int) 2 := xVL.of rfl rfl (xtg4 232 rfl rfl) (xtg4 233 rfl rfl) (xtg4 234 rfl rfl) xin_Mo xcl_Mo_add ⟨by decide, by decide, rfl⟩
theorem xcl_CA_set : Cond.code y_CA_set b_CA_set 5 (some .int) ∈ xTG := (xtg2 217 rfl rfl)
theorem xv_law_69 : xVL R_law 69 9 y_CA_set b_CA_set 5 (some .int) 2 := xVL.of rfl rfl (xtg2 214 rfl rfl) (xtg2 215 rfl rfl) (xtg2 216 rfl rfl) xin_CA xcl_CA_set ⟨by decide, by decide, rfl⟩
theorem xcl_Mo_set : Cond.code y_Mo_set b_Mo_set 4 (some .int) ∈ xTG := (xtg4 239 rfl rfl)
theorem xv_law_72 : xVL R_law 72 10 y_Mo_set b_Mo_set 4 (some .int) 2 := xVL.of rfl rfl (xtg4 236 rfl rfl) (xtg4 237 rfl rfl) (xtg4 238 rfl rfl) xin_Mo xcl_Mo_set ⟨by decide, by decide, rfl⟩
theorem xcl_CA_fix : Cond.code y_CA_fix b_CA_fix 3 (some .int) ∈ xTG := (xtg2 236 rfl rfl)
theorem xv_law_73 : xVL R_law 73 9 y_CA_fix b_CA_fix 3 (some .int) 2 := xVL.of rfl rfl (xtg2 233 rfl rfl) (xtg2 234 rfl rfl) (xtg2 235 rfl rfl) xin_CA xcl_CA_fix ⟨by decide, by decide, rfl⟩
theorem xcl_Mo_fix : Cond.code y_Mo_fix b_Mo_fix 3 (some .int) ∈ xTG := (xtg5 14 rfl rfl)
theorem xv_law_76 : xVL R_law 76 10 y_Mo_fix b_Mo_fix 3 (some .int) 2 := xVL.of rfl rfl (xtg5 11 rfl rfl) (xtg5 12 rfl rfl) (xtg5 13 rfl rfl) xin_Mo xcl_Mo_fix ⟨by decide, by decide, rfl⟩
theorem xcl_CA_name : Cond.code y_CA_name b_CA_name 3 (some .int) ∈ xTG := (xtg3 0 rfl rfl)
theorem xv_law_77 : xVL R_law 77 9 y_CA_name b_CA_name 3 (some .int) 2 := xVL.of rfl rfl (xtg2 237 rfl rfl) (xtg2 238 rfl rfl) (xtg2 239 rfl rfl) xin_CA xcl_CA_name ⟨by decide, by decide, rfl⟩
theorem xcl_Mo_name : Cond.code y_Mo_name b_Mo_name 3 (some .int) ∈ xTG := (xtg5 18 rfl rfl)
theorem xv_law_80 : xVL R_law 80 10 y_Mo_name b_Mo_name 3 (some .int) 2 := xVL.of rfl rfl (xtg5 15 rfl rfl) (xtg5 16 rfl rfl) (xtg5 17 rfl rfl) xin_Mo xcl_Mo_name ⟨by decide, by decide, rfl⟩
theorem xcl_CA_box : Cond.code y_CA_box b_CA_box 4 (some .int) ∈ xTG := (xtg3 8 rfl rfl)
theorem xv_law_81 : xVL R_law 81 9 y_CA_box b_CA_box 4 (some .int) 3 := xVL.of rfl rfl (xtg3 5 rfl rfl) (xtg3 6 rfl rfl) (xtg3 7 rfl rfl) xin_CA xcl_CA_box ⟨by decide, by decide, rfl⟩
theorem xcl_Mo_box : Cond.code y_Mo_box b_Mo_box 5 (some .int) ∈ xTG := (xtg5 22 rfl rfl)
theorem xv_law_84 : xVL R_law 84 10 y_Mo_box b_Mo_box 5 (some .int) 3 := xVL.of rfl rfl (xtg5 19 rfl rfl) (xtg5 20 rfl rfl) (xtg5 21 rfl rfl) xin_Mo xcl_Mo_box ⟨by decide, by decide, rfl⟩
theorem xcl_CA_pair : Cond.code y_CA_pair b_CA_pair 4 (some .int) ∈ xTG := (xtg3 17 rfl rfl)
theorem xv_law_85 : xVL R_law 85 9 y_CA_pair b_CA_pair 4 (some .int) 3 := xVL.of rfl rfl (xtg3 14 rfl rfl) (xtg3 15 rfl rfl) (xtg3 16 rfl rfl) xin_CA xcl_CA_pair ⟨by decide, by decide, rfl⟩
theorem xcl_Mo_pair : Cond.code y_Mo_pair b_Mo_pair 5 (some .int) ∈ xTG := (xtg5 26 rfl rfl)
theorem xv_law_88 : xVL R_law 88 10 y_Mo_pair b_Mo_pair 5 (some .int) 3 := xVL.of rfl rfl (xtg5 23 rfl rfl) (xtg5 24 rfl rfl) (xtg5 25 rfl rfl) xin_Mo xcl_Mo_pair ⟨by decide, by decide, rfl⟩
theorem xcl_CA_contrast : Cond.code y_CA_contrast b_CA_contrast 7 (some .int) ∈ xTG := (xtg3 28 rfl rfl)
theorem xv_law_89 : xVL R_law 89 9 y_CA_contrast b_CA_contrast 7 (some .int) 3 := xVL.of rfl rfl (xtg3 25 rfl rfl) (xtg3 26 rfl rfl) (xtg3 27 rfl rfl) xin_CA xcl_CA_contrast ⟨by decide, by decide, rfl⟩
theorem xcl_Mo_contrast : Cond.code y_Mo_contrast b_Mo_contrast 7 (some .int) ∈ xTG := (xtg5 30 rfl rfl)
theorem xv_law_92 : xVL R_law 92 10 y_Mo_contrast b_Mo_contrast 7 (some .int) 3 := xVL.of rfl rfl (xtg5 27 rfl rfl) (xtg5 28 rfl rfl) (xtg5 29 rfl rfl) xin_Mo xcl_Mo_contrast ⟨by decide, by decide, rfl⟩
theorem xcl_CA_unmet : Cond.code y_CA_unmet b_CA_unmet 2 (some .int) ∈ xTG := (xtg3 35 rfl rfl)
theorem xv_law_93 : xVL R_law 93 9 y_CA_unmet b_CA_unmet 2 (some .int) 0 := xVL.of rfl rfl (xtg3 32 rfl rfl) (xtg3 33 rfl rfl) (xtg3 34 rfl rfl) xin_CA xcl_CA_unmet ⟨by decide, by decide, rfl⟩
theorem xcl_Mo_unmet : Cond.code y_Mo_unmet b_Mo_unmet 2 (some .int) ∈ xTG := (xtg5 40 rfl rfl)
theorem xv_law_97 : xVL R_law 97 10 y_Mo_unmet b_Mo_unmet 2 (some .int) 0 := xVL.of rfl rfl (xtg5 37 rfl rfl) (xtg5 38 rfl rfl) (xtg5 39 rfl rfl) xin_Mo xcl_Mo_unmet ⟨by decide, by decide, rfl⟩
theorem xcl_CA_of : Cond.code y_CA_of b_CA_of 3 (some .int) ∈ xTG := (xtg3 49 rfl rfl)
theorem xv_law_98 : xVL R_law 98 9 y_CA_of b_CA_of 3 (some .int) 2 := xVL.of rfl rfl (xtg3 46 rfl rfl) (xtg3 47 rfl rfl) (xtg3 48 rfl rfl) xin_CA xcl_CA_of ⟨by decide, by decide, rfl⟩
theorem xcl_Mo_of : Cond.code y_Mo_of b_Mo_of 6 (some .int) ∈ xTG := (xtg5 47 rfl rfl)
theorem xv_law_101 : xVL R_law 101 10 y_Mo_of b_Mo_of 6 (some .int) 2 := xVL.of rfl rfl (xtg5 44 rfl rfl) (xtg5 45 rfl rfl) (xtg5 46 rfl rfl) xin_Mo xcl_Mo_of ⟨by decide, by decide, rfl⟩
theorem xcl_CA_best : Cond.code y_CA_best b_CA_best 3 (some .int) ∈ xTG := (xtg3 59 rfl rfl)
theorem xv_law_102 : xVL R_law 102 9 y_CA_best b_CA_best 3 (some .int) 1 := xVL.of rfl rfl (xtg3 56 rfl rfl) (xtg3 57 rfl rfl) (xtg3 58 rfl rfl) xin_CA xcl_CA_best ⟨by decide, by decide, rfl⟩
theorem xcl_Mo_best : Cond.code y_Mo_best b_Mo_best 6 (some .int) ∈ xTG := (xtg5 51 rfl rfl)
theorem xv_law_105 : xVL R_law 105 10 y_Mo_best b_Mo_best 6 (some .int) 1 := xVL.of rfl rfl (xtg5 48 rfl rfl) (xtg5 49 rfl rfl) (xtg5 50 rfl rfl) xin_Mo xcl_Mo_best ⟨by decide, by decide, rfl⟩
theorem xcl_CA_chosen : Cond.code y_CA_chosen b_CA_chosen 2 (some .int) ∈ xTG := (xtg3 105 rfl rfl)
theorem xv_law_106 : xVL R_law 106 9 y_CA_chosen b_CA_chosen 2 (some .int) 1 := xVL.of rfl rfl (xtg3 102 rfl rfl) (xtg3 103 rfl rfl) (xtg3 104 rfl rfl) xin_CA xcl_CA_chosen ⟨by decide, by decide, rfl⟩
theorem xcl_Mo_chosen : Cond.code y_Mo_chosen b_Mo_chosen 2 (some .int) ∈ xTG := (xtg5 68 rfl rfl)
theorem xv_law_109 : xVL R_law 109 10 y_Mo_chosen b_Mo_chosen 2 (some .int) 1 := xVL.of rfl rfl (xtg5 65 rfl rfl) (xtg5 66 rfl rfl) (xtg5 67 rfl rfl) xin_Mo xcl_Mo_chosen ⟨by decide, by decide, rfl⟩
theorem xcl_CA_move : Cond.code y_CA_move b_CA_move 4 (some .int) ∈ xTG := (xtg3 113 rfl rfl)
theorem xv_law_110 : xVL R_law 110 9 y_CA_move b_CA_move 4 (some .int) 2 := xVL.of rfl rfl (xtg3 110 rfl rfl) (xtg3 111 rfl rfl) (xtg3 112 rfl rfl) xin_CA xcl_CA_move ⟨by decide, by decide, rfl⟩
theorem xcl_Mo_move : Cond.code y_Mo_move b_Mo_move 4 (some .int) ∈ xTG := (xtg5 72 rfl rfl)
theorem xv_law_113 : xVL R_law 113 10 y_Mo_move b_Mo_move 4 (some .int) 2 := xVL.of rfl rfl (xtg5 69 rfl rfl) (xtg5 70 rfl rfl) (xtg5 71 rfl rfl) xin_Mo xcl_Mo_move ⟨by decide, by decide, rfl⟩
theorem xcl_CA_settle : Cond.code y_CA_settle b_CA_settle 2 (some .int) ∈ xTG := (xtg3 152 rfl rfl)
theorem xv_law_114 : xVL R_law 114 9 y_CA_settle b_CA_settle 2 (some .int) 1 := xVL.of rfl rfl (xtg3 149 rfl rfl) (xtg3 150 rfl rfl) (xtg3 151 rfl rfl) xin_CA xcl_CA_settle ⟨by decide, by decide, rfl⟩
theorem xcl_Mo_settle : Cond.code y_Mo_settle b_Mo_settle 5 (some .int) ∈ xTG := (xtg5 84 rfl rfl)
theorem xv_law_117 : xVL R_law 117 10 y_Mo_settle b_Mo_settle 5 (some .int) 1 := xVL.of rfl rfl (xtg5 81 rfl rfl) (xtg5 82 rfl rfl) (xtg5 83 rfl rfl) xin_Mo xcl_Mo_settle ⟨by decide, by decide, rfl⟩
theorem xcl_CA_stuck : Cond.code y_CA_stuck b_CA_stuck 1 (some .int) ∈ xTG := (xtg3 167 rfl rfl)
theorem xv_law_118 : xVL R_law 118 9 y_CA_stuck b_CA_stuck 1 (some .int) 0 := xVL.of rfl rfl (xtg3 164 rfl rfl) (xtg3 165 rfl rfl) (xtg3 166 rfl rfl) xin_CA xcl_CA_stuck ⟨by decide, by decide, rfl⟩
theorem xcl_Mo_stuck : Cond.code y_Mo_stuck b_Mo_stuck 1 (some .int) ∈ xTG := (xtg5 92 rfl rfl)
theorem xv_law_121 : xVL R_law 121 10 y_Mo_stuck b_Mo_stuck 1 (some .int) 0 := xVL.of rfl rfl (xtg5 89 rfl rfl) (xtg5 90 rfl rfl) (xtg5 91 rfl rfl) xin_Mo xcl_Mo_stuck ⟨by decide, by decide, rfl⟩
theorem xcl_CA_ramp : Cond.code y_CA_ramp b_CA_ramp 4 (some .int) ∈ xTG := (xtg3 171 rfl rfl)
theorem xv_law_122 : xVL R_law 122 9 y_CA_ramp b_CA_ramp 4 (some .int) 3 := xVL.of rfl rfl (xtg3 168 rfl rfl) (xtg3 169 rfl rfl) (xtg3 170 rfl rfl) xin_CA xcl_CA_ramp ⟨by decide, by decide, rfl⟩
theorem xcl_Mo_ramp : Cond.code y_Mo_ramp b_Mo_ramp 7 (some .int) ∈ xTG := (xtg5 96 rfl rfl)
theorem xv_law_125 : xVL R_law 125 10 y_Mo_ramp b_Mo_ramp 7 (some .int) 3 := xVL.of rfl rfl (xtg5 93 rfl rfl) (xtg5 94 rfl rfl) (xtg5 95 rfl rfl) xin_Mo xcl_Mo_ramp ⟨by decide, by decide, rfl⟩
theorem xcl_CA_step : Cond.code y_CA_step b_CA_step 2 (some .int) ∈ xTG := (xtg3 191 rfl rfl)
theorem xv_law_126 : xVL R_law 126 9 y_CA_step b_CA_step 2 (some .int) 1 := xVL.of rfl rfl (xtg3 188 rfl rfl) (xtg3 189 rfl rfl) (xtg3 190 rfl rfl) xin_CA xcl_CA_step ⟨by decide, by decide, rfl⟩
theorem xcl_Mo_step : Cond.code y_Mo_step b_Mo_step 2 (some .int) ∈ xTG := (xtg5 103 rfl rfl)
theorem xv_law_129 : xVL R_law 129 10 y_Mo_step b_Mo_step 2 (some .int) 1 := xVL.of rfl rfl (xtg5 100 rfl rfl) (xtg5 101 rfl rfl) (xtg5 102 rfl rfl) xin_Mo xcl_Mo_step ⟨by decide, by decide, rfl⟩
theorem xcl_CA_rising : Cond.code y_CA_rising b_CA_rising 2 (some .int) ∈ xTG := (xtg3 199 rfl rfl)
theorem xv_law_130 : xVL R_law 130 9 y_CA_rising b_CA_rising 2 (some .int) 1 := xVL.of rfl rfl (xtg3 196 rfl rfl) (xtg3 197 rfl rfl) (xtg3 198 rfl rfl) xin_CA xcl_CA_rising ⟨by decide, by decide, rfl⟩
theorem xcl_Mo_rising : Cond.code y_Mo_rising b_Mo_rising 3 (some .int) ∈ xTG := (xtg5 107 rfl rfl)
theorem xv_law_133 : xVL R_law 133 10 y_Mo_rising b_Mo_rising 3 (some .int) 1 := xVL.of rfl rfl (xtg5 104 rfl rfl) (xtg5 105 rfl rfl) (xtg5 106 rfl rfl) xin_Mo xcl_Mo_rising ⟨by decide, by decide, rfl⟩
theorem xcl_CA_group : Cond.code y_CA_group b_CA_group 4 (some .int) ∈ xTG := (xtg3 208 rfl rfl)
theorem xv_law_134 : xVL R_law 134 9 y_CA_group b_CA_group 4 (some .int) 3 := xVL.of rfl rfl (xtg3 205 rfl rfl) (xtg3 206 rfl rfl) (xtg3 207 rfl rfl) xin_CA xcl_CA_group ⟨by decide, by decide, rfl⟩
theorem xcl_Mo_group : Cond.code y_Mo_group b_Mo_group 8 (some .int) ∈ xTG := (xtg5 111 rfl rfl)
theorem xv_law_137 : xVL R_law 137 10 y_Mo_group b_Mo_group 8 (some .int) 3 := xVL.of rfl rfl (xtg5 108 rfl rfl) (xtg5 109 rfl rfl) (xtg5 110 rfl rfl) xin_Mo xcl_Mo_group ⟨by decide, by decide, rfl⟩
theorem xcl_CA_image : Cond.code y_CA_image b_CA_image 2 (some .int) ∈ xTG := (xtg3 223 rfl rfl)
theorem xv_law_138 : xVL R_law 138 9 y_CA_image b_CA_image 2 (some .int) 1 := xVL.of rfl rfl (xtg3 220 rfl rfl) (xtg3 221 rfl rfl) (xtg3 222 rfl rfl) xin_CA xcl_CA_image ⟨by decide, by decide, rfl⟩
theorem xcl_Mo_image : Cond.code y_Mo_image b_Mo_image 3 (some .int) ∈ xTG := (xtg5 115 rfl rfl)
theorem xv_law_141 : xVL R_law 141 10 y_Mo_image b_Mo_image 3 (some .int) 1 := xVL.of rfl rfl (xtg5 112 rfl rfl) (xtg5 113 rfl rfl) (xtg5 114 rfl rfl) xin_Mo xcl_Mo_image ⟨by decide, by decide, rfl⟩
theorem xcl_CA_back : Cond.code y_CA_back b_CA_back 2 (some .int) ∈ xTG := (xtg4 4 rfl rfl)
theorem xv_law_142 : xVL R_law 142 9 y_CA_back b_CA_back 2 (some .int) 1 := xVL.of rfl rfl (xtg4 1 rfl rfl) (xtg4 2 rfl rfl) (xtg4 3 rfl rfl) xin_CA xcl_CA_back ⟨by decide, by decide, rfl⟩
theorem xcl_Mo_back : Cond.code y_Mo_back b_Mo_back 3 (some .int) ∈ xTG := (xtg5 123 rfl rfl)
theorem xv_law_145 : xVL R_law 145 10 y_Mo_back b_Mo_back 3 (some .int) 1 := xVL.of rfl rfl (xtg5 120 rfl rfl) (xtg5 121 rfl rfl) (xtg5 122 rfl rfl) xin_Mo xcl_Mo_back ⟨by decide, by decide, rfl⟩
theorem xcl_CA_count : Cond.code y_CA_count b_CA_count 2 (some .int) ∈ xTG := (xtg4 8 rfl rfl)
theorem xv_law_146 : xVL R_law 146 9 y_CA_count b_CA_count 2 (some .int) 1 := xVL.of rfl rfl (xtg4 5 rfl rfl) (xtg4 6 rfl rfl) (xtg4 7 rfl rfl) xin_CA xcl_CA_count ⟨by decide, by decide, rfl⟩
theorem xcl_Mo_count : Cond.code y_Mo_count b_Mo_count 4 (some .int) ∈ xTG := (xtg5 131 rfl rfl)
theorem xv_law_149 : xVL R_law 149 10 y_Mo_count b_Mo_count 4 (some .int) 1 := xVL.of rfl rfl (xtg5 128 rfl rfl) (xtg5 129 rfl rfl) (xtg5 130 rfl rfl) xin_Mo xcl_Mo_count ⟨by decide, by decide, rfl⟩
theorem xcl_CA_status : Cond.code y_CA_status b_CA_status 1 (some .int) ∈ xTG := (xtg4 20 rfl rfl)
theorem xv_law_150 : xVL R_law 150 9 y_CA_status b_CA_status 1 (some .int) 0 := xVL.of rfl rfl (xtg4 17 rfl rfl) (xtg4 18 rfl rfl) (xtg4 19 rfl rfl) xin_CA xcl_CA_status ⟨by decide, by decide, rfl⟩
theorem xcl_Mo_status : Cond.code y_Mo_status b_Mo_status 1 (some .int) ∈ xTG := (xtg5 135 rfl rfl)
theorem xv_law_153 : xVL R_law 153 10 y_Mo_status b_Mo_status 1 (some .int) 0 := xVL.of rfl rfl (xtg5 132 rfl rfl) (xtg5 133 rfl rfl) (xtg5 134 rfl rfl) xin_Mo xcl_Mo_status ⟨by decide, by decide, rfl⟩
theorem xsw34 {x : Int32} (h0 : ¬ x = (0 : Int32)) (h1 : ¬ x = (1 : Int32)) (h2 : ¬ x = (2 : Int32)) (h3 : ¬ x = (3 : Int32)) (h4 : ¬ x = (4 : Int32)) (h5 : ¬ x = (5 : Int32)) (h6 : ¬ x = (6 : Int32)) (h7 : ¬ x = (7 : Int32)) (h8 : ¬ x = (8 : Int32)) (h9 : ¬ x = (9 : Int32)) (h10 : ¬ x = (10 : Int32)) (h11 : ¬ x = (11 : Int32)) (h12 : ¬ x = (12 : Int32)) (h13 : ¬ x = (13 : Int32)) (h14 : ¬ x = (14 : Int32)) (h15 : ¬ x = (15 : Int32)) (h16 : ¬ x = (16 : Int32)) (h17 : ¬ x = (17 : Int32)) (h18 : ¬ x = (18 : Int32)) (h19 : ¬ x = (19 : Int32)) (h20 : ¬ x = (20 : Int32)) (h21 : ¬ x = (21 : Int32)) (h22 : ¬ x = (22 : Int32)) (h23 : ¬ x = (23 : Int32)) (h24 : ¬ x = (24 : Int32)) (h25 : ¬ x = (25 : Int32)) (h26 : ¬ x = (26 : Int32)) (h27 : ¬ x = (27 : Int32)) (h28 : ¬ x = (28 : Int32)) (h29 : ¬ x = (29 : Int32)) (h30 : ¬ x = (30 : Int32)) (h31 : ¬ x = (31 : Int32)) (h32 : ¬ x = (32 : Int32)) (h33 : ¬ x = (33 : Int32)) : x.toInt < 0 ∨ 33 < x.toInt := by
  have g0 := lv_neT (a := 0) h0 rfl
  have g1 := lv_neT (a := 1) h1 rfl
  have g2 := lv_neT (a := 2) h2 rfl
  have g3 := lv_neT (a := 3) h3 rfl
  have g4 := lv_neT (a := 4) h4 rfl
  have g5 := lv_neT (a := 5) h5 rfl
  have g6 := lv_neT (a := 6) h6 rfl
  have g7 := lv_neT (a := 7) h7 rfl
  have g8 := lv_neT (a := 8) h8 rfl
  have g9 := lv_neT (a := 9) h9 rfl
  have g10 := lv_neT (a := 10) h10 rfl
  have g11 := lv_neT (a := 11) h11 rfl
  have g12 := lv_neT (a := 12) h12 rfl
  have g13 := lv_neT (a := 13) h13 rfl
  have g14 := lv_neT (a := 14) h14 rfl
  have g15 := lv_neT (a := 15) h15 rfl
  have g16 := lv_neT (a := 16) h16 rfl
  have g17 := lv_neT (a := 17) h17 rfl
  have g18 := lv_neT (a := 18) h18 rfl
  have g19 := lv_neT (a := 19) h19 rfl
  have g20 := lv_neT (a := 20) h20 rfl
  have g21 := lv_neT (a := 21) h21 rfl
  have g22 := lv_neT (a := 22) h22 rfl
  have g23 := lv_neT (a := 23) h23 rfl
  have g24 := lv_neT (a := 24) h24 rfl
  have g25 := lv_neT (a := 25) h25 rfl
  have g26 := lv_neT (a := 26) h26 rfl
  have g27 := lv_neT (a := 27) h27 rfl
  have g28 := lv_neT (a := 28) h28 rfl
  have g29 := lv_neT (a := 29) h29 rfl
  have g30 := lv_neT (a := 30) h30 rfl
  have g31 := lv_neT (a := 31) h31 rfl
  have g32 := lv_neT (a := 32) h32 rfl
  have g33 := lv_neT (a := 33) h33 rfl
  omega
