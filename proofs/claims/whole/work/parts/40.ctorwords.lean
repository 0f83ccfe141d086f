
/-! ===== constructors: worlds as lists ===== -/
def xNA (U : State) : Prop := (∀ w ∈ xNW, va_Nw w U) ∧ va_AO "ColoursApart$Kept" U ∧ va_AO "ColoursApart$Sheet" U
theorem xNA.warm {s U : State} (hW : s.WarmedH U.vm) (h : xNA s) : xNA U := by
  refine ⟨fun w hw => ?_, h.2.1.moved hW.alike, h.2.2.moved hW.alike⟩
  have hn := (List.mem_filter.mp hw).2
  have hz := h.1 w hw
  cases w <;> first | (exact va_Nw.warmF hW hz) | (exact va_Nw.warmM hW hz) | (simp [xNest] at hn)
theorem xNA.call {U : State} (g : JFrame) (mk : MethodId) (a : Array Value) (h : xNA U) : xNA (U.calling g mk a) := by
  refine ⟨fun w hw => ?_, va_AO.moved (u := U) (U := U.calling g mk a) (Vm.Alike.refl U.vm) h.2.1, va_AO.moved (u := U) (U := U.calling g mk a) (Vm.Alike.refl U.vm) h.2.2⟩
  have hn := (List.mem_filter.mp hw).2
  have hz := h.1 w hw
  cases w <;> first | (exact va_Nw.same rfl (u := U) (U := U.calling g mk a) rfl hz) | (simp [xNest] at hn)
def xI (dC : Nat → ClassId) (dI : Nat → Nat → Nat) (ws : va_W) (sz : Nat) : State → Prop := fun U => U.heap.size = sz ∧ va_P (dC, dI) xcl ws U.heap ∧ va_K (dC, dI) xcl [] U ∧ xNA U ∧ va_D (fun _ => True) ws
theorem xI.blind {dC : Nat → ClassId} {dI : Nat → Nat → Nat} {ws : va_W} {sz : Nat} {av : List Value} : FrameBlind (va_Pc av (xI dC dI ws sz)) := fun a U g mk q => by
  obtain ⟨q0, q1, qP, qK, qN, qD⟩ := q
  exact ⟨q0, q1, qP, va_K.moved (u := U) (U := U.calling g mk a) (Vm.Alike.refl U.vm) qK, qN.call g mk a, qD⟩
theorem xcw_Sh_init : Cond.code y_Sh_init b_Sh_init 1 none ∈ xTG := (xtg1 236 rfl rfl)
theorem xiw_Sh_init : Cond.instanceMethod y_Sh_init ∈ xTG := (xtg1 235 rfl rfl)
theorem xis_Sh : Cond.instantiable R_Sh 3 ∈ xTG := (xtg1 233 rfl rfl)
theorem xbl_Sh : ∀ j, j < 3 → defaultValue (ty_Sh j) = vp_V [.null, .int 0, .int 0] j := by
  intro j hj
  match j, hj with
  | 0, _ => rfl
  | 1, _ => rfl
  | 2, _ => rfl
  | j + 3, hj => exact absurd hj (by omega)
theorem xcw_Ey_init : Cond.code y_Ey_init b_Ey_init 3 none ∈ xTG := (xtg1 33 rfl rfl)
theorem xiw_Ey_init : Cond.instanceMethod y_Ey_init ∈ xTG := (xtg1 32 rfl rfl)
theorem xis_Ey : Cond.instantiable R_Ey 6 ∈ xTG := (xtg1 30 rfl rfl)
theorem xbl_Ey : ∀ j, j < 6 → defaultValue (ty_Ey j) = vp_V [.null, .int 0, .int 0, .int 0, .int 0, .int 0] j := by
  intro j hj
  match j, hj with
  | 0, _ => rfl
  | 1, _ => rfl
  | 2, _ => rfl
  | 3, _ => rfl
  | 4, _ => rfl
  | 5, _ => rfl
  | j + 6, hj => exact absurd hj (by omega)
theorem xcw_Gr_init : Cond.code y_Gr_init b_Gr_init 1 none ∈ xTG := (xtg1 120 rfl rfl)
theorem xiw_Gr_init : Cond.instanceMethod y_Gr_init ∈ xTG := (xtg1 119 rfl rfl)
theorem xis_Gr : Cond.instantiable R_Gr 1 ∈ xTG := (xtg1 117 rfl rfl)
theorem xbl_Gr : ∀ j, j < 1 → defaultValue (ty_Gr j) = vp_V [.int 0] j := by
  intro j hj
  match j, hj with
  | 0, _ => rfl
  | j + 1, hj => exact absurd hj (by omega)
theorem xcw_Ho_init : Cond.code y_Ho_init b_Ho_init 2 none ∈ xTG := (xtg1 64 rfl rfl)
theorem xiw_Ho_init : Cond.instanceMethod y_Ho_init ∈ xTG := (xtg1 63 rfl rfl)
theorem xis_Ho : Cond.instantiable R_Ho 10 ∈ xTG := (xtg1 61 rfl rfl)
theorem xbl_Ho : ∀ j, j < 10 → defaultValue (ty_Ho j) = vp_V [.int 0, .null, .null, .null, .null, .null, .int 0, .null, .null, .null] j := by
  intro j hj
  match j, hj with
  | 0, _ => rfl
  | 1, _ => rfl
  | 2, _ => rfl
  | 3, _ => rfl
  | 4, _ => rfl
  | 5, _ => rfl
  | 6, _ => rfl
  | 7, _ => rfl
  | 8, _ => rfl
  | 9, _ => rfl
  | j + 10, hj => exact absurd hj (by omega)
theorem xcw_Ke_init : Cond.code y_Ke_init b_Ke_init 1 none ∈ xTG := (xtg1 27 rfl rfl)
theorem xiw_Ke_init : Cond.instanceMethod y_Ke_init ∈ xTG := (xtg1 26 rfl rfl)
theorem xis_Ke : Cond.instantiable R_Ke 3 ∈ xTG := (xtg1 24 rfl rfl)
theorem xbl_Ke : ∀ j, j < 3 → defaultValue (ty_Ke j) = vp_V [.null, .null, .null] j := by
  intro j hj
  match j, hj with
  | 0, _ => rfl
  | 1, _ => rfl
  | 2, _ => rfl
  | j + 3, hj => exact absurd hj (by omega)
theorem xcw_Ch_init : Cond.code y_Ch_init b_Ch_init 1 none ∈ xTG := (xtg1 156 rfl rfl)
theorem xiw_Ch_init : Cond.instanceMethod y_Ch_init ∈ xTG := (xtg1 155 rfl rfl)
theorem xis_Ch : Cond.instantiable R_Ch 9 ∈ xTG := (xtg1 153 rfl rfl)
theorem xbl_Ch : ∀ j, j < 9 → defaultValue (ty_Ch j) = vp_V [.null, .null, .null, .null, .null, .null, .int 0, .int 0, .int 0] j := by
  intro j hj
  match j, hj with
  | 0, _ => rfl
  | 1, _ => rfl
  | 2, _ => rfl
  | 3, _ => rfl
  | 4, _ => rfl
  | 5, _ => rfl
  | 6, _ => rfl
  | 7, _ => rfl
  | 8, _ => rfl
  | j + 9, hj => exact absurd hj (by omega)
theorem xcw_Mv_init : Cond.code y_Mv_init b_Mv_init 1 none ∈ xTG := (xtg1 190 rfl rfl)
theorem xiw_Mv_init : Cond.instanceMethod y_Mv_init ∈ xTG := (xtg1 189 rfl rfl)
theorem xis_Mv : Cond.instantiable R_Mv 3 ∈ xTG := (xtg1 187 rfl rfl)
theorem xbl_Mv : ∀ j, j < 3 → defaultValue (ty_Mv j) = vp_V [.null, .null, .int 0] j := by
  intro j hj
  match j, hj with
  | 0, _ => rfl
  | 1, _ => rfl
  | 2, _ => rfl
  | j + 3, hj => exact absurd hj (by omega)
theorem xcw_Ra_init : Cond.code y_Ra_init b_Ra_init 1 none ∈ xTG := (xtg1 207 rfl rfl)
theorem xiw_Ra_init : Cond.instanceMethod y_Ra_init ∈ xTG := (xtg1 206 rfl rfl)
theorem xis_Ra : Cond.instantiable R_Ra 2 ∈ xTG := (xtg1 204 rfl rfl)
theorem xbl_Ra : ∀ j, j < 2 → defaultValue (ty_Ra j) = vp_V [.null, .int 0] j := by
  intro j hj
  match j, hj with
  | 0, _ => rfl
  | 1, _ => rfl
  | j + 2, hj => exact absurd hj (by omega)
theorem xcw_Gp_init : Cond.code y_Gp_init b_Gp_init 1 none ∈ xTG := (xtg1 221 rfl rfl)
theorem xiw_Gp_init : Cond.instanceMethod y_Gp_init ∈ xTG := (xtg1 220 rfl rfl)
theorem xis_Gp : Cond.instantiable R_Gp 3 ∈ xTG := (xtg1 218 rfl rfl)
theorem xbl_Gp : ∀ j, j < 3 → defaultValue (ty_Gp j) = vp_V [.null, .null, .null] j := by
  intro j hj
  match j, hj with
  | 0, _ => rfl
  | 1, _ => rfl
  | 2, _ => rfl
  | j + 3, hj => exact absurd hj (by omega)
theorem xcw_CA_init : Cond.code y_CA_init b_CA_init 2 none ∈ xTG := (xtg1 19 rfl rfl)
theorem xiw_CA_init : Cond.instanceMethod y_CA_init ∈ xTG := (xtg1 18 rfl rfl)
theorem xis_CA : Cond.instantiable R_CA 9 ∈ xTG := (xtg1 16 rfl rfl)
theorem xbl_CA : ∀ j, j < 9 → defaultValue (ty_CA j) = vp_V [.null, .null, .null, .null, .null, .null, .null, .null, .int 0] j := by
  intro j hj
  match j, hj with
  | 0, _ => rfl
  | 1, _ => rfl
  | 2, _ => rfl
  | 3, _ => rfl
  | 4, _ => rfl
  | 5, _ => rfl
  | 6, _ => rfl
  | 7, _ => rfl
  | 8, _ => rfl
  | j + 9, hj => exact absurd hj (by omega)
theorem xcw_Mo_init : Cond.code y_Mo_init b_Mo_init 1 none ∈ xTG := (xtg4 25 rfl rfl)
theorem xiw_Mo_init : Cond.instanceMethod y_Mo_init ∈ xTG := (xtg4 24 rfl rfl)
theorem xis_Mo : Cond.instantiable R_Mo 30 ∈ xTG := (xtg4 22 rfl rfl)
theorem xbl_Mo : ∀ j, j < 30 → defaultValue (ty_Mo j) = vp_V [.int 0, .null, .null, .null, .null, .int 0, .int 0, .int 0, .null, .int 0, .int 0, .null, .null, .null, .null, .null, .null, .null, .null, .null, .null, .null, .null, .int 0, .int 0, .int 0, .null, .null, .null, .int 0] j := by
  intro j hj
  match j, hj with
  | 0, _ => rfl
  | 1, _ => rfl
  | 2, _ => rfl
  | 3, _ => rfl
  | 4, _ => rfl
  | 5, _ => rfl
  | 6, _ => rfl
  | 7, _ => rfl
  | 8, _ => rfl
  | 9, _ => rfl
  | 10, _ => rfl
  | 11, _ => rfl
  | 12, _ => rfl
  | 13, _ => rfl
  | 14, _ => rfl
  | 15, _ => rfl
  | 16, _ => rfl
  | 17, _ => rfl
  | 18, _ => rfl
  | 19, _ => rfl
  | 20, _ => rfl
  | 21, _ => rfl
  | 22, _ => rfl
  | 23, _ => rfl
  | 24, _ => rfl
  | 25, _ => rfl
  | 26, _ => rfl
  | 27, _ => rfl
  | 28, _ => rfl
  | 29, _ => rfl
  | j + 30, hj => exact absurd hj (by omega)
theorem xl_CA_10 : Cond.fieldLink R_CA 10 "ColoursApart" "now" "LColoursApart$Kept;" ∈ xTG := (xtg2 8 rfl rfl)
theorem xl_CA_16 : Cond.fieldLink R_CA 16 "ColoursApart" "images" "[LColoursApart$Kept;" ∈ xTG := (xtg2 9 rfl rfl)
theorem xl_CA_20 : Cond.fieldLink R_CA 20 "ColoursApart" "imageKept" "[Z" ∈ xTG := (xtg2 10 rfl rfl)
theorem xl_CA_26 : Cond.fieldLink R_CA 26 "ColoursApart" "sheets" "[LColoursApart$Sheet;" ∈ xTG := (xtg2 11 rfl rfl)
theorem xl_CA_33 : Cond.fieldLink R_CA 33 "ColoursApart" "chooser" "LColoursApart$Chooser;" ∈ xTG := (xtg2 12 rfl rfl)
theorem xl_CA_40 : Cond.fieldLink R_CA 40 "ColoursApart" "mover" "LColoursApart$Mover;" ∈ xTG := (xtg2 13 rfl rfl)
theorem xl_CA_47 : Cond.fieldLink R_CA 47 "ColoursApart" "latestRamp" "LColoursApart$Ramp;" ∈ xTG := (xtg2 14 rfl rfl)
theorem xl_CA_54 : Cond.fieldLink R_CA 54 "ColoursApart" "groups" "LColoursApart$Groups;" ∈ xTG := (xtg2 15 rfl rfl)
theorem xl_CA_58 : Cond.fieldLink R_CA 58 "ColoursApart" "refusedBy" "I" ∈ xTG := (xtg2 16 rfl rfl)
theorem xl_Ch_11 : Cond.fieldLink R_Ch 11 "ColoursApart$Chooser" "views" "[I" ∈ xTG := (xtg1 158 rfl rfl)
theorem xl_Ch_17 : Cond.fieldLink R_Ch 17 "ColoursApart$Chooser" "fixedView" "[I" ∈ xTG := (xtg1 159 rfl rfl)
theorem xl_Ch_20 : Cond.fieldLink R_Ch 20 "ColoursApart$Chooser" "fromFixed" "[I" ∈ xTG := (xtg1 160 rfl rfl)
theorem xl_Ch_23 : Cond.fieldLink R_Ch 23 "ColoursApart$Chooser" "between" "[I" ∈ xTG := (xtg1 161 rfl rfl)
theorem xl_Ch_26 : Cond.fieldLink R_Ch 26 "ColoursApart$Chooser" "trial" "[I" ∈ xTG := (xtg1 162 rfl rfl)
theorem xl_Ch_29 : Cond.fieldLink R_Ch 29 "ColoursApart$Chooser" "latest" "[I" ∈ xTG := (xtg1 163 rfl rfl)
theorem xl_Ch_32 : Cond.fieldLink R_Ch 32 "ColoursApart$Chooser" "wanted" "I" ∈ xTG := (xtg1 164 rfl rfl)
theorem xl_Ch_36 : Cond.fieldLink R_Ch 36 "ColoursApart$Chooser" "places" "I" ∈ xTG := (xtg1 165 rfl rfl)
theorem xl_Ch_39 : Cond.fieldLink R_Ch 39 "ColoursApart$Chooser" "greatest" "I" ∈ xTG := (xtg1 166 rfl rfl)
theorem xl_Ey_11 : Cond.fieldLink R_Ey 11 "ColoursApart$Eyes" "weakNumbers" "[I" ∈ xTG := (xtg1 35 rfl rfl)
theorem xl_Ey_15 : Cond.fieldLink R_Ey 15 "ColoursApart$Eyes" "printLevels" "I" ∈ xTG := (xtg1 36 rfl rfl)
theorem xl_Ey_19 : Cond.fieldLink R_Ey 19 "ColoursApart$Eyes" "redWeight" "I" ∈ xTG := (xtg1 38 rfl rfl)
theorem xl_Ey_22 : Cond.fieldLink R_Ey 22 "ColoursApart$Eyes" "greenWeight" "I" ∈ xTG := (xtg1 40 rfl rfl)
theorem xl_Ey_25 : Cond.fieldLink R_Ey 25 "ColoursApart$Eyes" "blueWeight" "I" ∈ xTG := (xtg1 42 rfl rfl)
theorem xl_Ey_28 : Cond.fieldLink R_Ey 28 "ColoursApart$Eyes" "counting" "I" ∈ xTG := (xtg1 44 rfl rfl)
theorem xl_Gr_7 : Cond.fieldLink R_Gr 7 "ColoursApart$Grid" "perChannel" "I" ∈ xTG := (xtg1 122 rfl rfl)
theorem xl_Gp_9 : Cond.fieldLink R_Gp 9 "ColoursApart$Groups" "views" "[I" ∈ xTG := (xtg1 223 rfl rfl)
theorem xl_Gp_15 : Cond.fieldLink R_Gp 15 "ColoursApart$Groups" "reached" "[Z" ∈ xTG := (xtg1 224 rfl rfl)
theorem xl_Gp_19 : Cond.fieldLink R_Gp 19 "ColoursApart$Groups" "members" "[I" ∈ xTG := (xtg1 225 rfl rfl)
theorem xl_Ho_9 : Cond.fieldLink R_Ho 9 "ColoursApart$House" "size" "I" ∈ xTG := (xtg1 67 rfl rfl)
theorem xl_Ho_15 : Cond.fieldLink R_Ho 15 "ColoursApart$House" "colours" "[I" ∈ xTG := (xtg1 73 rfl rfl)
theorem xl_Ho_19 : Cond.fieldLink R_Ho 19 "ColoursApart$House" "fixed" "[Z" ∈ xTG := (xtg1 79 rfl rfl)
theorem xl_Ho_23 : Cond.fieldLink R_Ho 23 "ColoursApart$House" "names" "[I" ∈ xTG := (xtg1 83 rfl rfl)
theorem xl_Ho_26 : Cond.fieldLink R_Ho 26 "ColoursApart$House" "boxFrom" "[I" ∈ xTG := (xtg1 85 rfl rfl)
theorem xl_Ho_29 : Cond.fieldLink R_Ho 29 "ColoursApart$House" "boxTo" "[I" ∈ xTG := (xtg1 87 rfl rfl)
theorem xl_Ho_32 : Cond.fieldLink R_Ho 32 "ColoursApart$House" "pairs" "I" ∈ xTG := (xtg1 89 rfl rfl)
theorem xl_Ho_35 : Cond.fieldLink R_Ho 35 "ColoursApart$House" "pairLower" "[I" ∈ xTG := (xtg1 91 rfl rfl)
theorem xl_Ho_38 : Cond.fieldLink R_Ho 38 "ColoursApart$House" "pairHigher" "[I" ∈ xTG := (xtg1 92 rfl rfl)
theorem xl_Ho_41 : Cond.fieldLink R_Ho 41 "ColoursApart$House" "pairTenths" "[I" ∈ xTG := (xtg1 93 rfl rfl)
theorem xl_Ke_12 : Cond.fieldLink R_Ke 12 "ColoursApart$Kept" "eyes" "LColoursApart$Eyes;" ∈ xTG := (xtg1 128 rfl rfl)
theorem xl_Ke_21 : Cond.fieldLink R_Ke 21 "ColoursApart$Kept" "house" "LColoursApart$House;" ∈ xTG := (xtg1 133 rfl rfl)
theorem xl_Ke_28 : Cond.fieldLink R_Ke 28 "ColoursApart$Kept" "mesh" "LColoursApart$Grid;" ∈ xTG := (xtg1 138 rfl rfl)
theorem xl_Mv_9 : Cond.fieldLink R_Mv 9 "ColoursApart$Mover" "views" "[I" ∈ xTG := (xtg1 192 rfl rfl)
theorem xl_Mv_15 : Cond.fieldLink R_Mv 15 "ColoursApart$Mover" "trialView" "[I" ∈ xTG := (xtg1 193 rfl rfl)
theorem xl_Mv_18 : Cond.fieldLink R_Mv 18 "ColoursApart$Mover" "endedStuck" "Z" ∈ xTG := (xtg1 194 rfl rfl)
theorem xl_Ra_11 : Cond.fieldLink R_Ra 11 "ColoursApart$Ramp" "stepColours" "[I" ∈ xTG := (xtg1 209 rfl rfl)
theorem xl_Ra_15 : Cond.fieldLink R_Ra 15 "ColoursApart$Ramp" "steps" "I" ∈ xTG := (xtg1 210 rfl rfl)
theorem xl_Sh_11 : Cond.fieldLink R_Sh 11 "ColoursApart$Sheet" "numbers" "[I" ∈ xTG := (xtg1 238 rfl rfl)
theorem xl_Sh_15 : Cond.fieldLink R_Sh 15 "ColoursApart$Sheet" "kind" "I" ∈ xTG := (xtg1 239 rfl rfl)
theorem xl_Sh_19 : Cond.fieldLink R_Sh 19 "ColoursApart$Sheet" "length" "I" ∈ xTG := (xtg2 0 rfl rfl)
theorem xl_Mo_7 : Cond.fieldLink R_Mo 7 "ColoursApartModel" "sheetSort" "[I" ∈ xTG := (xtg4 29 rfl rfl)
theorem xl_Mo_13 : Cond.fieldLink R_Mo 13 "ColoursApartModel" "sheetSize" "[I" ∈ xTG := (xtg4 30 rfl rfl)
theorem xl_Mo_16 : Cond.fieldLink R_Mo 16 "ColoursApartModel" "sheetRow" "[I" ∈ xTG := (xtg4 31 rfl rfl)
theorem xl_Mo_19 : Cond.fieldLink R_Mo 19 "ColoursApartModel" "weak" "[I" ∈ xTG := (xtg4 32 rfl rfl)
theorem xl_Mo_22 : Cond.fieldLink R_Mo 22 "ColoursApartModel" "levels" "I" ∈ xTG := (xtg4 33 rfl rfl)
theorem xl_Mo_26 : Cond.fieldLink R_Mo 26 "ColoursApartModel" "counted" "I" ∈ xTG := (xtg4 34 rfl rfl)
theorem xl_Mo_29 : Cond.fieldLink R_Mo 29 "ColoursApartModel" "side" "I" ∈ xTG := (xtg4 35 rfl rfl)
theorem xl_Mo_32 : Cond.fieldLink R_Mo 32 "ColoursApartModel" "weights" "[I" ∈ xTG := (xtg4 36 rfl rfl)
theorem xl_Mo_35 : Cond.fieldLink R_Mo 35 "ColoursApartModel" "colour" "[I" ∈ xTG := (xtg4 39 rfl rfl)
theorem xl_Mo_38 : Cond.fieldLink R_Mo 38 "ColoursApartModel" "isFixed" "[Z" ∈ xTG := (xtg4 40 rfl rfl)
theorem xl_Mo_42 : Cond.fieldLink R_Mo 42 "ColoursApartModel" "named" "[I" ∈ xTG := (xtg4 41 rfl rfl)
theorem xl_Mo_45 : Cond.fieldLink R_Mo 45 "ColoursApartModel" "boxFrom" "[I" ∈ xTG := (xtg4 42 rfl rfl)
theorem xl_Mo_49 : Cond.fieldLink R_Mo 49 "ColoursApartModel" "boxTo" "[I" ∈ xTG := (xtg4 43 rfl rfl)
theorem xl_Mo_52 : Cond.fieldLink R_Mo 52 "ColoursApartModel" "pairOne" "[I" ∈ xTG := (xtg4 44 rfl rfl)
theorem xl_Mo_55 : Cond.fieldLink R_Mo 55 "ColoursApartModel" "pairOther" "[I" ∈ xTG := (xtg4 45 rfl rfl)
theorem xl_Mo_58 : Cond.fieldLink R_Mo 58 "ColoursApartModel" "pairLeast" "[I" ∈ xTG := (xtg4 46 rfl rfl)
theorem xl_Mo_61 : Cond.fieldLink R_Mo 61 "ColoursApartModel" "between" "[I" ∈ xTG := (xtg4 47 rfl rfl)
theorem xl_Mo_64 : Cond.fieldLink R_Mo 64 "ColoursApartModel" "toFixed" "[I" ∈ xTG := (xtg4 48 rfl rfl)
theorem xl_Mo_67 : Cond.fieldLink R_Mo 67 "ColoursApartModel" "set" "[I" ∈ xTG := (xtg4 49 rfl rfl)
theorem xl_Mo_70 : Cond.fieldLink R_Mo 70 "ColoursApartModel" "bestSet" "[I" ∈ xTG := (xtg4 50 rfl rfl)
theorem xl_Mo_73 : Cond.fieldLink R_Mo 73 "ColoursApartModel" "ramp" "[I" ∈ xTG := (xtg4 54 rfl rfl)
theorem xl_Mo_76 : Cond.fieldLink R_Mo 76 "ColoursApartModel" "isKept" "[Z" ∈ xTG := (xtg4 55 rfl rfl)
theorem xl_Mo_79 : Cond.fieldLink R_Mo 79 "ColoursApartModel" "kept" "[I" ∈ xTG := (xtg4 56 rfl rfl)
theorem xob_CA_1 : Cond.methodLink R_CA 1 Lib.objectInit ∈ xTG := (xtg1 20 rfl rfl)
theorem xob_Ch_3 : Cond.methodLink R_Ch 3 Lib.objectInit ∈ xTG := (xtg1 157 rfl rfl)
theorem xob_Ey_3 : Cond.methodLink R_Ey 3 Lib.objectInit ∈ xTG := (xtg1 34 rfl rfl)
theorem xob_Gr_1 : Cond.methodLink R_Gr 1 Lib.objectInit ∈ xTG := (xtg1 121 rfl rfl)
theorem xob_Gp_3 : Cond.methodLink R_Gp 3 Lib.objectInit ∈ xTG := (xtg1 222 rfl rfl)
theorem xob_Ho_3 : Cond.methodLink R_Ho 3 Lib.objectInit ∈ xTG := (xtg1 65 rfl rfl)
theorem xob_Ke_3 : Cond.methodLink R_Ke 3 Lib.objectInit ∈ xTG := (xtg1 28 rfl rfl)
theorem xnl_Ke_11 : Cond.methodLink R_Ke 11 y_Ey_init ∈ xTG := (xtg1 31 rfl rfl)
theorem xnl_Ke_20 : Cond.methodLink R_Ke 20 y_Ho_init ∈ xTG := (xtg1 62 rfl rfl)
theorem xob_Mv_3 : Cond.methodLink R_Mv 3 Lib.objectInit ∈ xTG := (xtg1 191 rfl rfl)
theorem xob_Ra_3 : Cond.methodLink R_Ra 3 Lib.objectInit ∈ xTG := (xtg1 208 rfl rfl)
theorem xob_Sh_3 : Cond.methodLink R_Sh 3 Lib.objectInit ∈ xTG := (xtg1 237 rfl rfl)
theorem xob_Mo_1 : Cond.methodLink R_Mo 1 Lib.objectInit ∈ xTG := (xtg4 26 rfl rfl)
theorem xob_i : Cond.instanceMethod Lib.objectInit ∈ xTG := (xtg1 21 rfl rfl)
theorem xob_c : Cond.code Lib.objectInit ⟨#[0xb1]⟩ 1 none ∈ xTG := (xtg1 22 rfl rfl)
theorem xnl_CA_9 : Cond.methodLinkNest R_CA 9 y_Ke_init "ColoursApart" ∈ xNW := (xnw1 25 rfl rfl)
theorem xnl_CA_32 : Cond.methodLinkNest R_CA 32 y_Ch_init "ColoursApart" ∈ xNW := (xnw1 154 rfl rfl)
theorem xnl_CA_39 : Cond.methodLinkNest R_CA 39 y_Mv_init "ColoursApart" ∈ xNW := (xnw1 188 rfl rfl)
theorem xnl_CA_46 : Cond.methodLinkNest R_CA 46 y_Ra_init "ColoursApart" ∈ xNW := (xnw1 205 rfl rfl)
theorem xnl_CA_53 : Cond.methodLinkNest R_CA 53 y_Gp_init "ColoursApart" ∈ xNW := (xnw1 219 rfl rfl)
theorem xnl_CA_62 : Cond.methodLinkNest R_CA 62 y_Sh_init "ColoursApart" ∈ xNW := (xnw1 234 rfl rfl)
theorem xnl_Ke_27 : Cond.methodLinkNest R_Ke 27 y_Gr_init "ColoursApart" ∈ xNW := (xnw1 118 rfl rfl)
theorem xcl_CA_7 : Cond.classLink R_CA 7 R_Ke ∈ xTG := (xtg1 23 rfl rfl)
theorem xcl_CA_24 : Cond.classLink R_CA 24 R_Sh ∈ xTG := (xtg1 150 rfl rfl)
theorem xcl_CA_30 : Cond.classLink R_CA 30 R_Ch ∈ xTG := (xtg1 152 rfl rfl)
theorem xcl_CA_37 : Cond.classLink R_CA 37 R_Mv ∈ xTG := (xtg1 186 rfl rfl)
theorem xcl_CA_44 : Cond.classLink R_CA 44 R_Ra ∈ xTG := (xtg1 203 rfl rfl)
theorem xcl_CA_51 : Cond.classLink R_CA 51 R_Gp ∈ xTG := (xtg1 217 rfl rfl)
theorem xcl_Ke_9 : Cond.classLink R_Ke 9 R_Ey ∈ xTG := (xtg1 29 rfl rfl)
theorem xcl_Ke_18 : Cond.classLink R_Ke 18 R_Ho ∈ xTG := (xtg1 60 rfl rfl)
theorem xcl_Ke_25 : Cond.classLink R_Ke 25 R_Gr ∈ xTG := (xtg1 116 rfl rfl)
theorem xac_int : Cond.arrayClass FieldType.int ∈ xTG := (xtg1 59 rfl rfl)
theorem xac_boolean : Cond.arrayClass FieldType.boolean ∈ xTG := (xtg1 115 rfl rfl)
