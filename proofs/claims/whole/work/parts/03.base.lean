/-! ===== the tables' words that a caller hands on, and the nest mates' words ===== -/
def xNest : Cond → Bool
  | .fieldLinkNest .. => true
  | .methodLinkNest .. => true
  | _ => false
def xTG : List Cond := lw_tbl.filter goodWord
def xNW : List Cond := lw_tbl.filter xNest
theorem xtg {w : Cond} (i : Nat) (h : lw_tbl[i]? = some w) (hg : goodWord w = true) : w ∈ xTG := List.mem_filter.mpr ⟨List.mem_of_getElem? h, hg⟩
theorem xnw {w : Cond} (i : Nat) (h : lw_tbl[i]? = some w) (hg : xNest w = true) : w ∈ xNW := List.mem_filter.mpr ⟨List.mem_of_getElem? h, hg⟩
theorem xgood {ws : List Cond} (h : ∀ w ∈ ws, w ∈ xTG) : GoodIn xTG ws := fun w hw => ⟨h w hw, good_of_word (List.mem_filter.mp (h w hw)).2⟩
theorem xcons {w : Cond} (h : w ∈ xTG) : ∀ x ∈ w :: xTG, x ∈ xTG := fun x hx => (List.mem_cons.mp hx).elim (fun e => e ▸ h) id
/-! ===== the heap of a whole run: cells by group and place; a memory of ints ===== -/
abbrev xL : Type := (Nat × List (Option (Nat × Nat))) ⊕ (Nat × (Bool ⊕ Nat))
abbrev xM : Type := Nat → Nat → Nat → Int32
abbrev xG : Type := (Nat → Nat → Nat) × va_G × (Nat → Nat → ClassId)
def xV (G : xG) (M : xM) (g i : Nat) (fks : List (Option (Nat × Nat))) (k : Nat) : Value := match fks[k]? with
  | some (some q) => .ref (G.1 q.1 q.2)
  | some none => .int (M g i k)
  | none => .null
/-- a cell's content replaced -/
def uc (M : xM) (g i : Nat) (f : Nat → Int32) : xM := fun g' i' => if g' = g ∧ i' = i then f else M g' i'
/-- a slot of a cell replaced -/
def us (M : xM) (g i k : Nat) (v : Int32) : xM := uc M g i (upd (M g i) k v)
theorem uc_self (M : xM) (g i : Nat) (f : Nat → Int32) : uc M g i f g i = f := by simp [uc]
theorem uc_ne (M : xM) {g i g' i' : Nat} (f : Nat → Int32) (h : ¬ (g' = g ∧ i' = i)) : uc M g i f g' i' = M g' i' := by simp [uc, h]
def xat (G : xG) (M : xM) (g i : Nat) (L : xL) (H : Heap) : Prop := match L with
  | .inl o => ∃ r : vw_C, xcl[o.1]? = some r ∧ t_OB (G.1 g i) (G.2.1.1 o.1) r.2.2 (G.2.1.2 o.1) H (xV G M g i o.2)
  | .inr (n, .inl _) => H[G.1 g i]? = some (arrV (G.2.2 g i) n (fun j => .int (M g i j)))
  | .inr (n, .inr g0) => H[G.1 g i]? = some (arrV (G.2.2 g i) n (fun j => .ref (G.1 (g0 + j) 0)))
def xRp (G : xG) (M : xM) (H : Heap) : Prop := ∀ (g i : Nat) (L : xL), xlay g i = some L → xat G M g i L H
def xA (G : xG) : Nat → Prop := fun q => ∃ (g i : Nat) (L : xL), xlay g i = some L ∧ q = G.1 g i
def xK (G : xG) (U : State) : Prop := (∀ (c : Nat) (q : vw_C), xcl[c]? = some q → u_Kn U q.1 q.2.1 q.2.2 (G.2.1.1 c) (G.2.1.2 c)) ∧
  (∀ g i n : Nat, xlay g i = some (.inr (n, .inl false)) → ArrOfT U (G.2.2 g i) .int) ∧ (∀ g i n : Nat, xlay g i = some (.inr (n, .inl true)) → ArrOfT U (G.2.2 g i) .boolean) ∧
  (∀ g i n g0 : Nat, xlay g i = some (.inr (n, .inr g0)) → ∃ C : String, ArrOfT U (G.2.2 g i) (.object C)) ∧ (∀ w ∈ xNW, va_Nw w U) ∧
  (∀ (g i g' i' : Nat) (L L' : xL), xlay g i = some L → xlay g' i' = some L' → G.1 g i = G.1 g' i' → g = g' ∧ i = i')
theorem xK.warm {G : xG} {s U : State} (hW : s.WarmedH U.vm) (h : xK G s) : xK G U := by
  obtain ⟨h1, h2, h3, h4, h5, h6⟩ := h
  refine ⟨fun c q hq => u_Kn_moved hW.alike (h1 c q hq), fun g i n hl => arrOfT_moved hW.alike (h2 g i n hl), fun g i n hl => arrOfT_moved hW.alike (h3 g i n hl), fun g i n g0 hl => ?_, fun w hw => ?_, h6⟩
  · obtain ⟨C, hC⟩ := h4 g i n g0 hl
    exact ⟨C, arrOfT_moved hW.alike hC⟩
  · have hn := (List.mem_filter.mp hw).2
    have hz := h5 w hw
    cases w <;> first | (exact va_Nw.warmF hW hz) | (exact va_Nw.warmM hW hz) | (simp [xNest] at hn)
theorem xK.call {G : xG} {U : State} (g : JFrame) (mk : MethodId) (a : Array Value) (h : xK G U) : xK G (U.calling g mk a) := by
  obtain ⟨h1, h2, h3, h4, h5, h6⟩ := h
  refine ⟨fun c q hq => u_Kn_moved (u := U) (U := U.calling g mk a) (Vm.Alike.refl U.vm) (h1 c q hq), fun g' i n hl => arrOfT_moved (u := U) (E := U.calling g mk a) (Vm.Alike.refl U.vm) (h2 g' i n hl), fun g' i n hl => arrOfT_moved (u := U) (E := U.calling g mk a) (Vm.Alike.refl U.vm) (h3 g' i n hl), fun g' i n g0 hl => ?_, fun w hw => ?_, h6⟩
  · obtain ⟨C, hC⟩ := h4 g' i n g0 hl
    exact ⟨C, arrOfT_moved (u := U) (E := U.calling g mk a) (Vm.Alike.refl U.vm) hC⟩
  · have hn := (List.mem_filter.mp hw).2
    have hz := h5 w hw
    cases w <;> first | (exact va_Nw.same rfl (u := U) (U := U.calling g mk a) rfl hz) | (simp [xNest] at hn)
/-- a cell of the world lies in the heap -/
theorem xat.lt {G : xG} {M : xM} {g i : Nat} {L : xL} {H : Heap} (h : xat G M g i L H) : G.1 g i < H.size := by
  obtain o | ⟨n, b | g0⟩ := L
  · obtain ⟨r, -, cell, h1, -⟩ := h
    exact (Array.getElem?_eq_some_iff.mp h1).1
  · exact (Array.getElem?_eq_some_iff.mp h).1
  · exact (Array.getElem?_eq_some_iff.mp h).1
theorem xat.kept {G : xG} {M M' : xM} {g i : Nat} {L : xL} {H H' : Heap} (h : xat G M g i L H) (hq : H'[G.1 g i]? = H[G.1 g i]?) (hm : M' g i = M g i) : xat G M' g i L H' := by
  obtain o | ⟨n, b | g0⟩ := L
  · obtain ⟨r, h1, h2⟩ := h
    refine ⟨r, h1, (h2.kept hq).to fun k _ => ?_⟩
    simp only [xV, hm]
  · show H'[G.1 g i]? = some (arrV _ n (fun j => .int (M' g i j)))
    rw [hq, hm]; exact h
  · exact hq.trans h
/-- one cell written: the others stay -/
theorem xRp.put {G : xG} {M : xM} {g i : Nat} {L : xL} {H H' : Heap} {f : Nat → Int32} {U : State} (hK : xK G U) (hR : xRp G M H) (hl : xlay g i = some L) (hn : xat G (uc M g i f) g i L H') (oq : ∀ q : Nat, q ≠ G.1 g i → H'[q]? = H[q]?) : xRp G (uc M g i f) H' := by
  intro g' i' L' hl'
  by_cases h : g' = g ∧ i' = i
  · obtain ⟨rfl, rfl⟩ := h
    cases hl.symm.trans hl'
    exact hn
  · exact (hR g' i' L' hl').kept (oq _ (fun e => h (hK.2.2.2.2.2 g' i' g i L' L hl' hl e))) (uc_ne M f h)
/-! ===== contracts over the whole world ===== -/
def xPre (G : xG) (M : xM) (av : List Value) : Array Value → State → Prop := va_Pc av (fun U => xRp G M U.heap ∧ xK G U)
def xPi (G : xG) (post : Int32 → xM → Prop) : Array Value → State → Outcome → State → Prop := va_Qi post (fun M' t => xRp G M' t.heap) (xA G)
def xPv (G : xG) (post : xM → Prop) : Array Value → State → Outcome → State → Prop := va_Qv post (fun M' t => xRp G M' t.heap) (xA G)
theorem xPre.blind {G : xG} {M : xM} {av : List Value} : FrameBlind (xPre G M av) := fun a U g mk q => ⟨q.1, q.2.1, q.2.2.call g mk a⟩
/-- what a walk knows of its method -/
def xC (p : Program) (s : State) (m : MethodId) (args : Array Value) (c : Code) (cc : ByteArray) (own : String) (nL : Nat) (G : xG) : Prop :=
  p.tables.exec = Jvm.exec ∧ c.code = cc ∧ c.maxLocals = nL ∧ s.vm.findClass own = some m.cls ∧ (∀ w ∈ xTG, w.before args s = true) ∧ xK G s
/-- a field's link: class ci's field k, by its entry in own's pool -/
def xFL (own : String) (idx ci k : Nat) : Prop := ∃ (C : String) (T : u_T) (N : Nat), xcl[ci]? = some (C, T, N) ∧ k < N ∧ (∀ w ∈ u_ws C T N, w ∈ xTG) ∧ (T k).1 = C ∧
  ((Cond.fieldLink own idx C (T k).2.1 (T k).2.2.1 ∈ xTG) ∨ (∃ host : String, Cond.fieldLinkNest own idx C (T k).2.1 (T k).2.2.1 host ∈ xNW))
/-- and it may be written -/
def xFP (ci k : Nat) (ty : FieldType) : Prop := ∃ (C : String) (T : u_T) (N : Nat) (ty0 : Nat → FieldType), xcl[ci]? = some (C, T, N) ∧ (∀ k, k < N → parseFieldDescriptor (T k).2.2.1 = some (ty0 k)) ∧ (∀ a, a < N → ∀ b, b < N → a ≠ b → (T a).2.1 ≠ (T b).2.1) ∧ (T k).2.2.2 = false ∧ parseFieldDescriptor (T k).2.2.1 = some ty
section XR
variable {p : Program} {l : Launch} {e : Env} {R : Room} {s : State} {m : MethodId} {args : Array Value} {below : List Frame} {meth : Method} {c : Code} {H : Heap} {locs : List Loc} {cells slots : Nat} {Q : State → Prop}
variable {cc : ByteArray} {pc : Nat} {ls : Array Slot} {rest : List Value} {own : String} {nL : Nat} {G : xG} {M : xM}
theorem xr_get {g i ci idx k : Nat} {fks : List (Option (Nat × Nat))} {v : Value} (hC : xC p s m args c cc own nL G) (hR : xRp G M H) (hl : xlay g i = some (.inl (ci, fks))) (hf : xFL own idx ci k) (hv : xV G M g i fks k = v) (hd : decode cc pc = .ok (.getfield idx, 3))
    (kk : W p l e R s m args below meth c H locs cells slots Q (F0 m (pc + 3) ls (v :: rest))) : W p l e R s m args below meth c H locs cells slots Q (F0 m pc ls (.ref (G.1 g i) :: rest)) := by
  obtain ⟨hx, hb, -, hown, hts, hK⟩ := hC
  obtain ⟨C, T, N, hc, hk, hin, hdecl, hlink⟩ := hf
  obtain ⟨r, h1, cell, q1, q2, q3, q4⟩ := hR g i _ hl
  have hr : r = (C, T, N) := Option.some.inj (h1.symm.trans hc)
  subst hr
  obtain ⟨hS, hfc, kC, hkC, hkind⟩ := hK.1 ci _ hc
  obtain ⟨cf, kf, fi, f, hi, hsl⟩ := hS k hk
  have hst := (u_facts hfc hkC (u_lays hts hin hk) hi).1
  have hi' : s.fieldFound? C (T k).2.1 (T k).2.2.1 = some (cf, kf, fi, f) := hdecl ▸ hi
  have hslot : cell.slots[f.slot]? = some v := by rw [hsl, q4 k hk, hv]
  rcases hlink with hl1 | ⟨host, hl1⟩
  · exact W.getf hx hb hown (hts _ hl1) hi' hst q1 (by rw [q3]; exact fun h => by cases h) hslot rfl rfl hd kk
  · exact va_Wgetf hx hb hown (va_Nw.use rfl (hK.2.2.2.2.1 _ hl1)) hi' hst q1 (by rw [q3]; exact fun h => by cases h) hslot rfl rfl hd kk
theorem xr_put {g i ci idx k : Nat} {fks : List (Option (Nat × Nat))} {v : Int32} {ty : FieldType} (hC : xC p s m args c cc own nL G) (hR : xRp G M H) (hS0 : va_S (xA G) s.heap H locs) (hl : xlay g i = some (.inl (ci, fks))) (hf : xFL own idx ci k) (hp : xFP ci k ty) (hfk : fks[k]? = some none) (hn : narrow ty (.int v) = .int v) (hfit : fits ty (.int v) = true) (hd : decode cc pc = .ok (.putfield idx, 3))
    (kk : ∀ (H : Heap) (locs : List Loc), xRp G (us M g i k v) H → va_S (xA G) s.heap H locs → W p l e R s m args below meth c H locs cells slots Q (F0 m (pc + 3) ls rest)) : W p l e R s m args below meth c H locs cells slots Q (F0 m pc ls (.int v :: .ref (G.1 g i) :: rest)) := by
  obtain ⟨hx, hb, -, hown, hts, hK⟩ := hC
  obtain ⟨C, T, N, hc, hk, hin, hdecl, hlink⟩ := hf
  obtain ⟨C', T', N', ty0, hc', hty, hnm, hfin, hpt⟩ := hp
  cases Option.some.inj (hc.symm.trans hc')
  obtain ⟨r, h1, cell, q1, q2, q3, q4⟩ := hR g i _ hl
  have hr : r = (C, T, N) := Option.some.inj (h1.symm.trans hc)
  subst hr
  have hKc := hK.1 ci _ hc
  obtain ⟨hS, hfc, kC, hkC, hkind⟩ := hKc
  have hap : ∀ x y, x < N → y < N → x ≠ y → (G.2.1.2 ci) x ≠ (G.2.1.2 ci) y := by
    intro x y hx hy hne
    obtain ⟨_, _, _, fa, hia, ea⟩ := hS x hx
    obtain ⟨_, _, _, fb, hib, eb⟩ := hS y hy
    rw [← ea, ← eb]
    refine u_apart (u_lays hts hin hx) (u_lays hts hin hy) hia hib ?_
    rw [(State.fieldFound?_type hia (hty x hx)).1, (State.fieldFound?_type hib (hty y hy)).1]
    exact hnm x hx y hy hne
  obtain ⟨cf, kf, fi, f, hi, hsl⟩ := hS k hk
  have hlay := hts _ (hin _ (u_in_lay hk))
  unfold u_lay at hlay
  rw [if_neg (by rw [hfin]; decide)] at hlay
  have hst := (u_facts hfc hkC (u_lays hts hin hk) hi).1
  have h6 := u_store hfc hkC hkind hlay hi hpt hn hfit
  have hi' : s.fieldFound? C (T k).2.1 (T k).2.2.1 = some (cf, kf, fi, f) := hdecl ▸ hi
  have fin : ∀ H' : Heap, H'[G.1 g i]? = some (cell.setSlot f.slot (.int v)) → H'.size = H.size → (∀ q, q ≠ G.1 g i → H'[q]? = H[q]?) → W p l e R s m args below meth c H' (locs ++ [⟨G.1 g i, f.slot⟩]) cells slots Q (F0 m (pc + 3) ls rest) := by
    intro H' e1 e2 e3
    refine kk H' _ (hR.put hK hl ⟨_, hc, ?_⟩ e3) (hS0.put e2 e3 ⟨g, i, _, hl, rfl⟩)
    rw [hsl] at e1
    refine t_OB.to (V := updV (xV G M g i fks) k (.int v)) ⟨_, e1, q2, q3, t_set q4 hap hk (.int v)⟩ (fun j _ => ?_)
    by_cases hj : j = k
    · subst hj
      simp [updV, xV, hfk, uc, upd]
    · have e4 : ∀ j', j' ≠ k → uc M g i (upd (M g i) k v) g i j' = M g i j' := fun j' h => by simp [uc, upd, h]
      simp only [updV, if_neg hj, xV, e4 j hj]
  rcases hlink with hl1 | ⟨host, hl1⟩
  · exact W.putK hx hb (f := f) ⟨hown, hts _ hl1, ⟨_, _, _, hi'⟩, hst⟩ (by rw [q2]; exact h6) q1 q3 (by rw [hsl]; exact k2_hasslot (q4 k hk)) rfl rfl hd fin
  · exact va_WputK hx hb (f := f) hown (va_Nw.use rfl (hK.2.2.2.2.1 _ hl1)) hi' hst (by rw [q2]; exact h6) q1 q3 (by rw [hsl]; exact k2_hasslot (q4 k hk)) rfl rfl hd fin
theorem xr_iald {g i n : Nat} {j : Int32} (hC : xC p s m args c cc own nL G) (hR : xRp G M H) (hl : xlay g i = some (.inr (n, .inl false))) (hin : vp_in j n) (hd : decode cc pc = .ok (.iaload, 1))
    (kk : W p l e R s m args below meth c H locs cells slots Q (F0 m (pc + 1) ls (.int (M g i j.toNatClampNeg) :: rest))) : W p l e R s m args below meth c H locs cells slots Q (F0 m pc ls (.int j :: .ref (G.1 g i) :: rest)) := by
  obtain ⟨hx, hb, -, -, -, hK⟩ := hC
  have hlt : j.toNatClampNeg < n := Nat.not_le.mp fun q => hin (Or.inr q)
  exact W.iald (v := .int (M g i j.toNatClampNeg)) hx hb (hR g i _ hl) (hK.2.1 g i n hl n _) (fun q => by cases q) (by rw [arrV_size]; exact hin) (by rw [arrV_read _ _ hlt]) rfl rfl hd kk
theorem xr_zald {g i n : Nat} {j : Int32} (hC : xC p s m args c cc own nL G) (hR : xRp G M H) (hl : xlay g i = some (.inr (n, .inl true))) (hin : vp_in j n) (hd : decode cc pc = .ok (.baload, 1))
    (kk : W p l e R s m args below meth c H locs cells slots Q (F0 m (pc + 1) ls (.int (M g i j.toNatClampNeg) :: rest))) : W p l e R s m args below meth c H locs cells slots Q (F0 m pc ls (.int j :: .ref (G.1 g i) :: rest)) := by
  obtain ⟨hx, hb, -, -, -, hK⟩ := hC
  have hlt : j.toNatClampNeg < n := Nat.not_le.mp fun q => hin (Or.inr q)
  exact W.zald (v := .int (M g i j.toNatClampNeg)) hx hb (hR g i _ hl) (hK.2.2.1 g i n hl n _) (fun q => by cases q) (by rw [arrV_size]; exact hin) (by rw [arrV_read _ _ hlt]) rfl rfl hd kk
theorem xr_aald {g i n g0 : Nat} {j : Int32} (hC : xC p s m args c cc own nL G) (hR : xRp G M H) (hl : xlay g i = some (.inr (n, .inr g0))) (hin : vp_in j n) (hd : decode cc pc = .ok (.aaload, 1))
    (kk : W p l e R s m args below meth c H locs cells slots Q (F0 m (pc + 1) ls (.ref (G.1 (g0 + j.toNatClampNeg) 0) :: rest))) : W p l e R s m args below meth c H locs cells slots Q (F0 m pc ls (.int j :: .ref (G.1 g i) :: rest)) := by
  obtain ⟨hx, hb, -, -, -, hK⟩ := hC
  have hlt : j.toNatClampNeg < n := Nat.not_le.mp fun q => hin (Or.inr q)
  obtain ⟨C, hA⟩ := hK.2.2.2.1 g i n g0 hl
  exact W.aald (v := .ref (G.1 (g0 + j.toNatClampNeg) 0)) (ty := .object C) hx hb (hR g i _ hl) (hA n _) rfl (fun q => by cases q) (by rw [arrV_size]; exact hin) (by rw [arrV_read _ _ hlt]) rfl rfl hd kk
theorem xr_alen {g i n : Nat} {bz : Bool} {v : Int32} (hC : xC p s m args c cc own nL G) (hR : xRp G M H) (hl : xlay g i = some (.inr (n, .inl bz))) (hv : Int32.ofNat n = v) (hd : decode cc pc = .ok (.arraylength, 1))
    (kk : W p l e R s m args below meth c H locs cells slots Q (F0 m (pc + 1) ls (.int v :: rest))) : W p l e R s m args below meth c H locs cells slots Q (F0 m pc ls (.ref (G.1 g i) :: rest)) := by
  obtain ⟨hx, hb, -, -, -, hK⟩ := hC
  subst hv
  cases bz
  · exact W.alen (n := Int32.ofNat n) hx hb (hR g i _ hl) (hK.2.1 g i n hl n _) (by rw [arrV_size] <;> rfl) rfl rfl hd kk
  · exact W.alen (n := Int32.ofNat n) hx hb (hR g i _ hl) (hK.2.2.1 g i n hl n _) (by rw [arrV_size] <;> rfl) rfl rfl hd kk
theorem xr_iast {g i n : Nat} {j v : Int32} (hC : xC p s m args c cc own nL G) (hR : xRp G M H) (hS0 : va_S (xA G) s.heap H locs) (hl : xlay g i = some (.inr (n, .inl false))) (hin : vp_in j n) (hd : decode cc pc = .ok (.iastore, 1))
    (kk : ∀ (H : Heap) (locs : List Loc), xRp G (us M g i j.toNatClampNeg v) H → va_S (xA G) s.heap H locs → W p l e R s m args below meth c H locs cells slots Q (F0 m (pc + 1) ls rest)) : W p l e R s m args below meth c H locs cells slots Q (F0 m pc ls (.int v :: .int j :: .ref (G.1 g i) :: rest)) := by
  obtain ⟨hx, hb, -, -, -, hK⟩ := hC
  refine W.iast hx hb (hR g i _ hl) (hK.2.1 g i n hl n _) (fun q => by cases q) (by rw [arrV_size]; exact hin) rfl rfl hd fun H1 e1 z oq => ?_
  refine kk H1 _ (hR.put hK hl ?_ oq) (hS0.put z oq ⟨g, i, _, hl, rfl⟩)
  show H1[G.1 g i]? = some (arrV _ n _)
  rw [e1, arrV_store]
  congr 2
  funext q
  by_cases hq : q = j.toNatClampNeg
  · subst hq
    simp [updV, uc, upd]
  · simp [updV, uc, upd, hq]
theorem xr_zast {g i n : Nat} {j v : Int32} (hC : xC p s m args c cc own nL G) (hR : xRp G M H) (hS0 : va_S (xA G) s.heap H locs) (hl : xlay g i = some (.inr (n, .inl true))) (hin : vp_in j n) (hv : v &&& 1 = v) (hd : decode cc pc = .ok (.bastore, 1))
    (kk : ∀ (H : Heap) (locs : List Loc), xRp G (us M g i j.toNatClampNeg v) H → va_S (xA G) s.heap H locs → W p l e R s m args below meth c H locs cells slots Q (F0 m (pc + 1) ls rest)) : W p l e R s m args below meth c H locs cells slots Q (F0 m pc ls (.int v :: .int j :: .ref (G.1 g i) :: rest)) := by
  obtain ⟨hx, hb, -, -, -, hK⟩ := hC
  refine W.zast hx hb (hR g i _ hl) (hK.2.2.1 g i n hl n _) (fun q => by cases q) (by rw [arrV_size]; exact hin) rfl rfl hd fun H1 e1 z oq => ?_
  refine kk H1 _ (hR.put hK hl ?_ oq) (hS0.put z oq ⟨g, i, _, hl, rfl⟩)
  show H1[G.1 g i]? = some (arrV _ n _)
  rw [e1, arrV_store]
  congr 2
  funext q
  have hn : narrow .boolean (.int v) = .int v := by show Value.int (v &&& 1) = .int v; rw [hv]
  by_cases hq : q = j.toNatClampNeg
  · subst hq
    simp [updV, uc, upd, hn]
  · simp [updV, uc, upd, hq]
theorem xr_iret {post : Int32 → xM → Prop} {v : Int32} (hC : xC p s m args c cc own nL G) (hr : meth.sig.returnType = some .int) (hlk : meth.locks = false) (hR : xRp G M H) (hS : va_S (xA G) s.heap H locs) (h : post v M) (hd : decode cc pc = .ok (.ireturn, 1)) : W p l e R s m args below meth c H locs 0 0 (MQ below (xPi G post) args s 0 0 (xA G)) (F0 m pc ls [.int v]) :=
  W.iret hC.1 hC.2.1 hr (fun t ht hW => ⟨⟨v, M, rfl, h, by show xRp G M t.heap; rw [ht]; exact hR⟩, hS.F ht⟩) hS.2.2 hd hlk
theorem xr_zret {post : Int32 → xM → Prop} {v : Int32} (hC : xC p s m args c cc own nL G) (hr : meth.sig.returnType = some .boolean) (hlk : meth.locks = false) (hR : xRp G M H) (hS : va_S (xA G) s.heap H locs) (hv : v &&& 1 = v) (h : post v M) (hd : decode cc pc = .ok (.ireturn, 1)) : W p l e R s m args below meth c H locs 0 0 (MQ below (xPi G post) args s 0 0 (xA G)) (F0 m pc ls [.int v]) :=
  W.zret hC.1 hC.2.1 hr (by show Value.int (v &&& 1) = .int v; rw [hv]) (fun t ht hW => ⟨⟨v, M, rfl, h, by show xRp G M t.heap; rw [ht]; exact hR⟩, hS.F ht⟩) hS.2.2 hd hlk
theorem xr_vret {post : xM → Prop} (hC : xC p s m args c cc own nL G) (hr : meth.sig.returnType = none) (hlk : meth.locks = false) (hR : xRp G M H) (hS : va_S (xA G) s.heap H locs) (h : post M) (hd : decode cc pc = .ok (.return_, 1)) : W p l e R s m args below meth c H locs 0 0 (MQ below (xPv G post) args s 0 0 (xA G)) (F0 m pc ls []) :=
  W.vret hC.1 hC.2.1 hr (fun t ht hW => ⟨⟨M, rfl, h, by show xRp G M t.heap; rw [ht]; exact hR⟩, hS.F ht⟩) hS.2.2 hd hlk
/-- an instance method's link and code, among the words -/
def xVL (own : String) (idx ci : Nat) (y : MethodName) (bytes : ByteArray) (maxL : Nat) (ret : Option FieldType) (n : Nat) : Prop :=
  (∃ (C : String) (T : u_T) (N : Nat), xcl[ci]? = some (C, T, N) ∧ y.cls = C) ∧ (∀ w ∈ wsV own idx y.cls y (Cond.code y bytes maxL ret :: xTG), w ∈ xTG) ∧ (y.cls ≠ "java/lang/invoke/MethodHandle" ∧ y.cls ≠ "java/lang/invoke/VarHandle" ∧ (parseMethodDescriptor y.desc).map (fun d => d.parameters.length) = some n)
def xSL (own : String) (idx : Nat) (y : MethodName) (bytes : ByteArray) (maxL : Nat) (ret : Option FieldType) (n : Nat) : Prop :=
  (∀ w ∈ va_wsS own idx y (Cond.code y bytes maxL ret :: xTG), w ∈ xTG) ∧ (y.cls ≠ "java/lang/invoke/MethodHandle" ∧ y.cls ≠ "java/lang/invoke/VarHandle" ∧ (parseMethodDescriptor y.desc).map (fun d => d.parameters.length) = some n)
theorem xVL.of {own : String} {idx ci : Nat} {y : MethodName} {bytes : ByteArray} {maxL : Nat} {ret : Option FieldType} {n : Nat} {C : String} {T : u_T} {N : Nat} (hc : xcl[ci]? = some (C, T, N)) (hy : y.cls = C) (h1 : Cond.methodLink own idx y ∈ xTG) (h2 : Cond.instanceMethod y ∈ xTG) (h3 : Cond.selects y.cls y y ∈ xTG) (h4 : Cond.initialized y.cls ∈ xTG) (h5 : Cond.code y bytes maxL ret ∈ xTG)
    (hd : y.cls ≠ "java/lang/invoke/MethodHandle" ∧ y.cls ≠ "java/lang/invoke/VarHandle" ∧ (parseMethodDescriptor y.desc).map (fun d => d.parameters.length) = some n) : xVL own idx ci y bytes maxL ret n := by
  refine ⟨⟨C, T, N, hc, hy⟩, fun w hw => ?_, hd⟩
  unfold wsV at hw
  rcases List.mem_append.mp hw with hw | hw
  · simp only [List.mem_cons, List.not_mem_nil, or_false] at hw
    rcases hw with rfl | rfl | rfl | rfl
    · exact h1
    · exact h2
    · exact h3
    · exact h4
  · exact xcons h5 w hw
theorem xSL.of {own : String} {idx : Nat} {y : MethodName} {bytes : ByteArray} {maxL : Nat} {ret : Option FieldType} {n : Nat} (h1 : Cond.methodLink own idx y ∈ xTG) (h2 : Cond.static y ∈ xTG) (h4 : Cond.initialized y.cls ∈ xTG) (h5 : Cond.code y bytes maxL ret ∈ xTG)
    (hd : y.cls ≠ "java/lang/invoke/MethodHandle" ∧ y.cls ≠ "java/lang/invoke/VarHandle" ∧ (parseMethodDescriptor y.desc).map (fun d => d.parameters.length) = some n) : xSL own idx y bytes maxL ret n := by
  refine ⟨fun w hw => ?_, hd⟩
  unfold va_wsS at hw
  rcases List.mem_append.mp hw with hw | hw
  · simp only [List.mem_cons, List.not_mem_nil, or_false] at hw
    rcases hw with rfl | rfl | rfl
    · exact h1
    · exact h2
    · exact h4
  · exact xcons h5 w hw
theorem xr_recv {g i ci : Nat} {fks : List (Option (Nat × Nat))} {C : String} {T : u_T} {N : Nat} (hK : xK G s) (hR : xRp G M H) (hl : xlay g i = some (.inl (ci, fks))) (hc : xcl[ci]? = some (C, T, N)) : ∃ cell : Cell, H[G.1 g i]? = some cell ∧ cell.vm.isStatics = false ∧ s.vm.findClass C = some cell.cls := by
  obtain ⟨r, h1, cell, q1, q2, q3, -⟩ := hR g i _ hl
  exact ⟨cell, q1, by rw [q3]; rfl, by rw [q2]; exact (hK.1 ci _ hc).2.1⟩
/-- the room that a callee asks of its caller -/
def xRm (rm R : Room) (maxL : Nat) : Prop := rm.cells = 0 ∧ rm.slots = 0 ∧ rm.frames + 1 ≤ R.frames ∧ 8 + (maxL + 11) + rm.locals ≤ R.locals
theorem xr_callV {y : MethodName} {bytes : ByteArray} {maxL n idx g i ci : Nat} {ret : Option FieldType} {rm : Room} {As st : List Value} {fks : List (Option (Nat × Nat))} {post : Int32 → xM → Prop} (hC : xC p s m args c cc own nL G) (hR : xRp G M H) (hS : va_S (xA G) s.heap H locs)
    (hM : Met l y (Cond.code y bytes maxL ret :: xTG) rm (xPre G M (.ref (G.1 g i) :: As)) (xPi G post) 0 0 (xA G)) (hlay : xlay g i = some (.inl (ci, fks))) (hv : xVL own idx ci y bytes maxL ret n) (hrm : xRm rm R maxL) (hn : As.length = n) (hls : ls.size = nL) (hst : st = As.reverse ++ .ref (G.1 g i) :: rest) (hW : (rest.map fun v => v.category).sum ≤ 8) (hd : decode cc pc = .ok (.invokevirtual idx, 3))
    (kk : ∀ (r : Int32) (M : xM) (H : Heap) (locs : List Loc), post r M → xRp G M H → va_S (xA G) s.heap H locs → W p l e R s m args below meth c H locs 0 0 Q (F0 m (pc + 3) ls (.int r :: rest))) : W p l e R s m args below meth c H locs 0 0 Q (F0 m pc ls st) := by
  obtain ⟨hx, hb, hml, hown, hts, hK⟩ := hC
  obtain ⟨⟨C, T, N, hc, hy⟩, hin, hdd⟩ := hv
  refine va_calli (va_runV (Ts := xTG) (As := As) (rest := rest) ⟨hx, hb, hml, hown, hts⟩ hM (cwV n hts (xgood hin) rfl hrm.1 hrm.2.1 ⟨rfl, hdd⟩ hrm.2.2) ⟨xPre.blind, by rw [hy]; exact xr_recv hK hR hlay hc, fun U hU hW => ⟨rfl, by rw [hU]; exact hR, hK.warm hW⟩⟩ rfl hn hls hst (lv_room hW) hd ⟨Nat.zero_le _, Nat.zero_le _⟩) hS (fun _ _ h => h) (fun _ h => h) (fun r u t H1 locs ht hvm hw hB hz1 hk1 hS => kk r u H1 locs hw (by rw [← ht]; exact hB) hS)
theorem xr_callVv {y : MethodName} {bytes : ByteArray} {maxL n idx g i ci : Nat} {ret : Option FieldType} {rm : Room} {As st : List Value} {fks : List (Option (Nat × Nat))} {post : xM → Prop} (hC : xC p s m args c cc own nL G) (hR : xRp G M H) (hS : va_S (xA G) s.heap H locs)
    (hM : Met l y (Cond.code y bytes maxL ret :: xTG) rm (xPre G M (.ref (G.1 g i) :: As)) (xPv G post) 0 0 (xA G)) (hlay : xlay g i = some (.inl (ci, fks))) (hv : xVL own idx ci y bytes maxL ret n) (hrm : xRm rm R maxL) (hn : As.length = n) (hls : ls.size = nL) (hst : st = As.reverse ++ .ref (G.1 g i) :: rest) (hW : (rest.map fun v => v.category).sum ≤ 8) (hd : decode cc pc = .ok (.invokevirtual idx, 3))
    (kk : ∀ (M : xM) (H : Heap) (locs : List Loc), post M → xRp G M H → va_S (xA G) s.heap H locs → W p l e R s m args below meth c H locs 0 0 Q (F0 m (pc + 3) ls rest)) : W p l e R s m args below meth c H locs 0 0 Q (F0 m pc ls st) := by
  obtain ⟨hx, hb, hml, hown, hts, hK⟩ := hC
  obtain ⟨⟨C, T, N, hc, hy⟩, hin, hdd⟩ := hv
  refine va_callv (va_runV (Ts := xTG) (As := As) (rest := rest) ⟨hx, hb, hml, hown, hts⟩ hM (cwV n hts (xgood hin) rfl hrm.1 hrm.2.1 ⟨rfl, hdd⟩ hrm.2.2) ⟨xPre.blind, by rw [hy]; exact xr_recv hK hR hlay hc, fun U hU hW => ⟨rfl, by rw [hU]; exact hR, hK.warm hW⟩⟩ rfl hn hls hst (lv_room hW) hd ⟨Nat.zero_le _, Nat.zero_le _⟩) hS (fun _ _ h => h) (fun _ h => h) (fun u t H1 locs ht hvm hw hB hz1 hk1 hS => kk u H1 locs hw (by rw [← ht]; exact hB) hS)
theorem xr_callS {y : MethodName} {bytes : ByteArray} {maxL n idx : Nat} {ret : Option FieldType} {rm : Room} {As st : List Value} {post : Int32 → xM → Prop} (hC : xC p s m args c cc own nL G) (hR : xRp G M H) (hS : va_S (xA G) s.heap H locs)
    (hM : Met l y (Cond.code y bytes maxL ret :: xTG) rm (xPre G M As) (xPi G post) 0 0 (xA G)) (hv : xSL own idx y bytes maxL ret n) (hrm : xRm rm R maxL) (hn : As.length = n) (hls : ls.size = nL) (hst : st = As.reverse ++ rest) (hW : (rest.map fun v => v.category).sum ≤ 8) (hd : decode cc pc = .ok (.invokestatic idx, 3))
    (kk : ∀ (r : Int32) (M : xM) (H : Heap) (locs : List Loc), post r M → xRp G M H → va_S (xA G) s.heap H locs → W p l e R s m args below meth c H locs 0 0 Q (F0 m (pc + 3) ls (.int r :: rest))) : W p l e R s m args below meth c H locs 0 0 Q (F0 m pc ls st) := by
  obtain ⟨hx, hb, hml, hown, hts, hK⟩ := hC
  obtain ⟨hin, hdd⟩ := hv
  refine va_calli (va_runS (Ts := xTG) (As := As) (rest := rest) ⟨hx, hb, hml, hown, hts⟩ hM (va_cwS n hts (xgood hin) rfl hrm.1 hrm.2.1 hdd hrm.2.2) ⟨xPre.blind, fun U hU hW => ⟨rfl, by rw [hU]; exact hR, hK.warm hW⟩⟩ rfl hn hls hst (lv_room hW) hd ⟨Nat.zero_le _, Nat.zero_le _⟩) hS (fun _ _ h => h) (fun _ h => h) (fun r u t H1 locs ht hvm hw hB hz1 hk1 hS => kk r u H1 locs hw (by rw [← ht]; exact hB) hS)
theorem xr_callSv {y : MethodName} {bytes : ByteArray} {maxL n idx : Nat} {ret : Option FieldType} {rm : Room} {As st : List Value} {post : xM → Prop} (hC : xC p s m args c cc own nL G) (hR : xRp G M H) (hS : va_S (xA G) s.heap H locs)
    (hM : Met l y (Cond.code y bytes maxL ret :: xTG) rm (xPre G M As) (xPv G post) 0 0 (xA G)) (hv : xSL own idx y bytes maxL ret n) (hrm : xRm rm R maxL) (hn : As.length = n) (hls : ls.size = nL) (hst : st = As.reverse ++ rest) (hW : (rest.map fun v => v.category).sum ≤ 8) (hd : decode cc pc = .ok (.invokestatic idx, 3))
    (kk : ∀ (M : xM) (H : Heap) (locs : List Loc), post M → xRp G M H → va_S (xA G) s.heap H locs → W p l e R s m args below meth c H locs 0 0 Q (F0 m (pc + 3) ls rest)) : W p l e R s m args below meth c H locs 0 0 Q (F0 m pc ls st) := by
  obtain ⟨hx, hb, hml, hown, hts, hK⟩ := hC
  obtain ⟨hin, hdd⟩ := hv
  refine va_callv (va_runS (Ts := xTG) (As := As) (rest := rest) ⟨hx, hb, hml, hown, hts⟩ hM (va_cwS n hts (xgood hin) rfl hrm.1 hrm.2.1 hdd hrm.2.2) ⟨xPre.blind, fun U hU hW => ⟨rfl, by rw [hU]; exact hR, hK.warm hW⟩⟩ rfl hn hls hst (lv_room hW) hd ⟨Nat.zero_le _, Nat.zero_le _⟩) hS (fun _ _ h => h) (fun _ h => h) (fun u t H1 locs ht hvm hw hB hz1 hk1 hS => kk u H1 locs hw (by rw [← ht]; exact hB) hS)
end XR
/-! ===== joins ===== -/
def xj {α : Sort _} (P : α → Prop) (J : α) : Prop := P J
theorem xj_open {α : Sort _} {P : α → Prop} {J : α} (h : xj P J) : ∃ J' : α, J' = J ∧ P J' := ⟨J, rfl, h⟩
theorem xmem0 {w : Cond} (h : w ∈ k2_sels lw_privs) : w ∈ lw_tbl := List.mem_append_left _ h
theorem xtg0 {w : Cond} (i : Nat) (h : (k2_sels lw_privs)[i]? = some w) (hg : goodWord w = true) : w ∈ xTG := List.mem_filter.mpr ⟨xmem0 (List.mem_of_getElem? h), hg⟩
theorem xmem1 {w : Cond} (h : w ∈ tables_1_1) : w ∈ lw_tbl := List.mem_append_right _ (List.mem_append_left _ h)
theorem xtg1 {w : Cond} (i : Nat) (h : (tables_1_1)[i]? = some w) (hg : goodWord w = true) : w ∈ xTG := List.mem_filter.mpr ⟨xmem1 (List.mem_of_getElem? h), hg⟩
theorem xnw1 {w : Cond} (i : Nat) (h : (tables_1_1)[i]? = some w) (hg : xNest w = true) : w ∈ xNW := List.mem_filter.mpr ⟨xmem1 (List.mem_of_getElem? h), hg⟩
theorem xmem2 {w : Cond} (h : w ∈ tables_1_2) : w ∈ lw_tbl := List.mem_append_right _ (List.mem_append_right _ (List.mem_append_left _ h))
theorem xtg2 {w : Cond} (i : Nat) (h : (tables_1_2)[i]? = some w) (hg : goodWord w = true) : w ∈ xTG := List.mem_filter.mpr ⟨xmem2 (List.mem_of_getElem? h), hg⟩
theorem xnw2 {w : Cond} (i : Nat) (h : (tables_1_2)[i]? = some w) (hg : xNest w = true) : w ∈ xNW := List.mem_filter.mpr ⟨xmem2 (List.mem_of_getElem? h), hg⟩
theorem xmem3 {w : Cond} (h : w ∈ tables_1_3) : w ∈ lw_tbl := List.mem_append_right _ (List.mem_append_right _ (List.mem_append_right _ (List.mem_append_left _ h)))
theorem xtg3 {w : Cond} (i : Nat) (h : (tables_1_3)[i]? = some w) (hg : goodWord w = true) : w ∈ xTG := List.mem_filter.mpr ⟨xmem3 (List.mem_of_getElem? h), hg⟩
theorem xnw3 {w : Cond} (i : Nat) (h : (tables_1_3)[i]? = some w) (hg : xNest w = true) : w ∈ xNW := List.mem_filter.mpr ⟨xmem3 (List.mem_of_getElem? h), hg⟩
theorem xmem4 {w : Cond} (h : w ∈ tables_1_4) : w ∈ lw_tbl := List.mem_append_right _ (List.mem_append_right _ (List.mem_append_right _ (List.mem_append_right _ (List.mem_append_left _ h))))
theorem xtg4 {w : Cond} (i : Nat) (h : (tables_1_4)[i]? = some w) (hg : goodWord w = true) : w ∈ xTG := List.mem_filter.mpr ⟨xmem4 (List.mem_of_getElem? h), hg⟩
theorem xnw4 {w : Cond} (i : Nat) (h : (tables_1_4)[i]? = some w) (hg : xNest w = true) : w ∈ xNW := List.mem_filter.mpr ⟨xmem4 (List.mem_of_getElem? h), hg⟩
theorem xmem5 {w : Cond} (h : w ∈ tables_1_5) : w ∈ lw_tbl := List.mem_append_right _ (List.mem_append_right _ (List.mem_append_right _ (List.mem_append_right _ (List.mem_append_right _ h))))
theorem xtg5 {w : Cond} (i : Nat) (h : (tables_1_5)[i]? = some w) (hg : goodWord w = true) : w ∈ xTG := List.mem_filter.mpr ⟨xmem5 (List.mem_of_getElem? h), hg⟩
theorem xnw5 {w : Cond} (i : Nat) (h : (tables_1_5)[i]? = some w) (hg : xNest w = true) : w ∈ xNW := List.mem_filter.mpr ⟨xmem5 (List.mem_of_getElem? h), hg⟩
theorem xmx_i : Cond.initialized "java/lang/Math" ∈ xTG := (xtg1 12 rfl rfl)
theorem xmx_s : Cond.static Lib.Math.max.name ∈ xTG := (xtg2 123 rfl rfl)
theorem xmx_c : Cond.code Lib.Math.max.name Lib.Math.max.code 2 (some .int) ∈ xTG := (xtg2 124 rfl rfl)
theorem xmn_s : Cond.static Lib.Math.min.name ∈ xTG := (xtg2 164 rfl rfl)
theorem xmn_c : Cond.code Lib.Math.min.name Lib.Math.min.code 2 (some .int) ∈ xTG := (xtg2 165 rfl rfl)
theorem xcp_s : Cond.static arraycopyName ∈ xTG := (xtg3 100 rfl rfl)
theorem xcp_n : Cond.native arraycopyName ∈ xTG := (xtg3 101 rfl rfl)
theorem xcp_i : Cond.initialized "java/lang/System" ∈ xTG := (xtg1 14 rfl rfl)
theorem xnb {v : Int32} (h : v &&& 1 = v) : narrow .boolean (.int v) = .int v := by show Value.int (v &&& 1) = .int v; rw [h]
theorem xb01 {v : Int32} (h : v &&& 1 = v) : v = 0 ∨ v = 1 := by
  have h1 := pk_and v (m := 1) 1 (by decide)
  rw [h] at h1
  rcases (show v.toBitVec.toNat % 2 ^ 1 = 0 ∨ v.toBitVec.toNat % 2 ^ 1 = 1 by omega) with e | e
  · rw [e] at h1; exact Or.inl h1
  · rw [e] at h1; exact Or.inr h1
theorem xfb {v : Int32} (h : v &&& 1 = v) : fits .boolean (.int v) = true := by rcases xb01 h with rfl | rfl <;> rfl
theorem xsw4 {x : Int32} (h0 : ¬ x = (0 : Int32)) (h1 : ¬ x = (1 : Int32)) (h2 : ¬ x = (2 : Int32)) (h3 : ¬ x = (3 : Int32)) : x.toInt < 0 ∨ 3 < x.toInt := by
  have g0 := lv_neT (a := 0) h0 rfl
  have g1 := lv_neT (a := 1) h1 rfl
  have g2 := lv_neT (a := 2) h2 rfl
  have g3 := lv_neT (a := 3) h3 rfl
  omega
theorem xsw5 {x : Int32} (h0 : ¬ x = (0 : Int32)) (h1 : ¬ x = (1 : Int32)) (h2 : ¬ x = (2 : Int32)) (h3 : ¬ x = (3 : Int32)) (h4 : ¬ x = (4 : Int32)) : x.toInt < 0 ∨ 4 < x.toInt := by
  have g0 := lv_neT (a := 0) h0 rfl
  have g1 := lv_neT (a := 1) h1 rfl
  have g2 := lv_neT (a := 2) h2 rfl
  have g3 := lv_neT (a := 3) h3 rfl
  have g4 := lv_neT (a := 4) h4 rfl
  omega
section XR2
variable {p : Program} {l : Launch} {e : Env} {R : Room} {s : State} {m : MethodId} {args : Array Value} {below : List Frame} {meth : Method} {c : Code} {H : Heap} {locs : List Loc} {Q : State → Prop}
variable {cc : ByteArray} {pc : Nat} {ls : Array Slot} {rest : List Value} {own : String} {nL : Nat} {G : xG} {M : xM}
theorem xr_max {idx : Nat} {x y : Int32} (hC : xC p s m args c cc own nL G) (hl : Cond.methodLink own idx Lib.Math.max.name ∈ xTG) (hls : ls.size = nL) (hf : 1 ≤ R.frames) (hlo : (rest.map fun v => v.category).sum + 13 ≤ R.locals) (hd : decode cc pc = .ok (.invokestatic idx, 3))
    (kk : W p l e R s m args below meth c H locs 0 0 Q (F0 m (pc + 3) ls (.int (if x < y then y else x) :: rest))) : W p l e R s m args below meth c H locs 0 0 Q (F0 m pc ls (.int y :: .int x :: rest)) :=
  va_mmax hC.1 hC.2.1 (hC.2.2.1.trans hls.symm) hC.2.2.2.1 (hC.2.2.2.2.1 _ hl) (hC.2.2.2.2.1 _ xmx_s) (hC.2.2.2.2.1 _ xmx_i) (hC.2.2.2.2.1 _ xmx_c) hf hlo (Nat.zero_le _) (Nat.zero_le _) hd kk
theorem xr_min {idx : Nat} {x y : Int32} (hC : xC p s m args c cc own nL G) (hl : Cond.methodLink own idx Lib.Math.min.name ∈ xTG) (hls : ls.size = nL) (hf : 1 ≤ R.frames) (hlo : (rest.map fun v => v.category).sum + 13 ≤ R.locals) (hd : decode cc pc = .ok (.invokestatic idx, 3))
    (kk : W p l e R s m args below meth c H locs 0 0 Q (F0 m (pc + 3) ls (.int (if y < x then y else x) :: rest))) : W p l e R s m args below meth c H locs 0 0 Q (F0 m pc ls (.int y :: .int x :: rest)) :=
  va_mmin hC.1 hC.2.1 (hC.2.2.1.trans hls.symm) hC.2.2.2.1 (hC.2.2.2.2.1 _ hl) (hC.2.2.2.2.1 _ xmn_s) (hC.2.2.2.2.1 _ xmx_i) (hC.2.2.2.2.1 _ xmn_c) hf hlo (Nat.zero_le _) (Nat.zero_le _) hd kk
theorem xr_copy {idx g i g' i' n0 n1 : Nat} {sp dp n : Int32} (hC : xC p s m args c cc own nL G) (hR : xRp G M H) (hS : va_S (xA G) s.heap H locs) (hl : Cond.methodLink own idx arraycopyName ∈ xTG) (hl0 : xlay g i = some (.inr (n0, .inl false))) (hl1 : xlay g' i' = some (.inr (n1, .inl false))) (hne : G.1 g i ≠ G.1 g' i') (h1 : ¬ sp < 0) (h2 : ¬ dp < 0) (h3 : ¬ n < 0) (h4 : sp.toNatClampNeg + n.toNatClampNeg ≤ n0) (h5 : dp.toNatClampNeg + n.toNatClampNeg ≤ n1) (hls : ls.size = nL) (hf : 1 ≤ R.frames) (hlo : (rest.map fun v => v.category).sum + (nativeFrameWords "java/lang/System" "arraycopy" 5 + 11) ≤ R.locals) (hd : decode cc pc = .ok (.invokestatic idx, 3))
    (kk : ∀ (H : Heap) (locs : List Loc), xRp G (uc M g' i' (va_cpy (M g i) (M g' i') sp.toNatClampNeg dp.toNatClampNeg n.toNatClampNeg)) H → va_S (xA G) s.heap H locs → W p l e R s m args below meth c H locs 0 0 Q (F0 m (pc + 3) ls rest)) : W p l e R s m args below meth c H locs 0 0 Q (F0 m pc ls (.int n :: .int dp :: .ref (G.1 g' i') :: .int sp :: .ref (G.1 g i) :: rest)) := by
  obtain ⟨hx, hb, hml, hown, hts, hK⟩ := hC
  have hP : va_P G.2.1 [] [(G.1 g i, .inl (G.2.2 g i, n0, .inl (M g i))), (G.1 g' i', .inl (G.2.2 g' i', n1, .inl (M g' i')))] H := by
    intro k q hq
    match k, hq with
    | 0, hq => cases hq; exact hR g i _ hl0
    | 1, hq => cases hq; exact hR g' i' _ hl1
    | k + 2, hq => simp at hq
  have hD : va_D (xA G) [(G.1 g i, .inl (G.2.2 g i, n0, .inl (M g i))), (G.1 g' i', .inl (G.2.2 g' i', n1, .inl (M g' i')))] := by
    refine ⟨fun a b x y hx hy hxy => ?_, fun k q hq => ?_⟩
    · match a, b, hx, hy with
      | 0, 0, _, _ => rfl
      | 1, 1, _, _ => rfl
      | 0, 1, hx, hy => cases hx; cases hy; exact absurd hxy hne
      | 1, 0, hx, hy => cases hx; cases hy; exact absurd hxy.symm hne
      | a + 2, _, hx, _ => simp at hx
      | _, b + 2, _, hy => simp at hy
    · match k, hq with
      | 0, hq => cases hq; exact ⟨g, i, _, hl0, rfl⟩
      | 1, hq => cases hq; exact ⟨g', i', _, hl1, rfl⟩
      | k + 2, hq => simp at hq
  have nn : ∀ z : Int32, ¬ z < 0 → z.toInt = (z.toNatClampNeg : Int) := by
    intro z hz
    have hz0 : (0 : Int) ≤ z.toInt := by
      have := Int32.not_lt.mp hz
      simpa using Int32.le_iff_toInt_le.mp this
    show z.toInt = ((z.toInt.toNat : Nat) : Int)
    omega
  intro T hT X
  have hc0 : H[G.1 g i]? = some (vp_cell (G.2.2 g i) (n0, .inl (M g i))) := hR g i _ hl0
  have hc1 : H[G.1 g' i']? = some (vp_cell (G.2.2 g' i') (n1, .inl (M g' i'))) := hR g' i' _ hl1
  obtain ⟨-, k0, hk0, cm0, hkk0⟩ := hK.2.1 g i n0 hl0 n0 (fun j => .int (M g i j))
  obtain ⟨-, k1, hk1, cm1, hkk1⟩ := hK.2.1 g' i' n1 hl1 n1 (fun j => .int (M g' i' j))
  obtain ⟨vm', X', step⟩ := X.arraycopy hx hown (hts _ hl) (hts _ xcp_n) (hts _ xcp_s) (hts _ xcp_i) (src := G.1 g i) (dst := G.1 g' i') (cs := vp_cell (G.2.2 g i) (n0, .inl (M g i))) (cd := vp_cell (G.2.2 g' i') (n1, .inl (M g' i'))) (srcPos := sp) (destPos := dp) (n := n) (by rw [hT]; exact hc0) (by rw [hT]; exact hc1)
    (fun _ h => by cases h) (fun _ h => by cases h) (fun h => by cases h) (fun h => by cases h) hk0 hk1 hkk0 hkk1 (by simp [refKind]) h1 h2 h3
    (by rw [nn sp h1, nn n h3]; show ¬ _ > ((arrV (G.2.2 g i) n0 (fun j => .int (M g i j))).slots.size : Int); rw [arrV_size]; omega)
    (by rw [nn dp h2, nn n h3]; show ¬ _ > ((arrV (G.2.2 g' i') n1 (fun j => .int (M g' i' j))).slots.size : Int); rw [arrV_size]; omega)
    (fun vm₁ _ i2 hi => by
      have e : (vp_cell (G.2.2 g i) (n0, .inl (M g i))).slots.getD (sp.toNatClampNeg + i2) .null = .int (M g i (sp.toNatClampNeg + i2)) := by
        show (arrV (G.2.2 g i) n0 (fun j => .int (M g i j))).slots.getD _ _ = _
        rw [Array.getD_eq_getD_getElem?, arrV_read _ _ (by omega)]
        rfl
      refine ⟨?_, ?_⟩
      · rw [e]
        rfl
      · rw [e]
        exact trivial)
    (g := F0 m pc ls (.int n :: .int dp :: .ref (G.1 g' i') :: .int sp :: .ref (G.1 g i) :: rest)) rfl (by rw [hml]; exact hls) (rest := rest) rfl (by rw [hb]; exact hd) hf (by show 2 * 0 + _ + _ ≤ _; omega)
  have e1 : copied (vp_cell (G.2.2 g i) (n0, .inl (M g i))) (vp_cell (G.2.2 g' i') (n1, .inl (M g' i'))) sp dp n = vp_cell (G.2.2 g' i') (n1, .inl (va_cpy (M g i) (M g' i') sp.toNatClampNeg dp.toNatClampNeg n.toNatClampNeg)) := va_copied (fun z => .int z) (G.2.2 g i) (G.2.2 g' i') (M g i) (M g' i') h4
  rw [e1] at X' step
  have hl' : G.1 g' i' < H.size := (Array.getElem?_eq_some_iff.mp hc1).1
  have hheap : ((T.setVm vm').setCell (G.1 g' i') (vp_cell (G.2.2 g' i') (n1, .inl (va_cpy (M g i) (M g' i') sp.toNatClampNeg dp.toNatClampNeg n.toNatClampNeg)))).heap = H.setIfInBounds (G.1 g' i') (vp_cell (G.2.2 g' i') (n1, .inl (va_cpy (M g i) (M g' i') sp.toNatClampNeg dp.toNatClampNeg n.toNatClampNeg))) := by rw [← hT]; rfl
  have oq : ∀ q : Nat, q ≠ G.1 g' i' → (H.setIfInBounds (G.1 g' i') (vp_cell (G.2.2 g' i') (n1, .inl (va_cpy (M g i) (M g' i') sp.toNatClampNeg dp.toNatClampNeg n.toNatClampNeg))))[q]? = H[q]? := fun q hq => by simp [Array.getElem?_setIfInBounds, Ne.symm hq]
  obtain ⟨t, a1, b1⟩ := kk _ _ (hR.put hK hl1 (show (H.setIfInBounds (G.1 g' i') _)[G.1 g' i']? = some (arrV (G.2.2 g' i') n1 (fun j => .int (uc M g' i' (va_cpy (M g i) (M g' i') sp.toNatClampNeg dp.toNatClampNeg n.toNatClampNeg) g' i' j))) by rw [uc_self]; simp [Array.getElem?_setIfInBounds, hl', vp_cell]) oq) ⟨by simp; exact hS.1, fun q g1 g2 => by
      rw [oq q (fun e => g2 (by rw [e]; exact ⟨g', i', _, hl1, rfl⟩))]
      exact hS.2.1 q g1 g2, fun q hq => by
      rcases List.mem_append.mp hq with h | h
      · exact hS.2.2 q h
      · obtain ⟨z, -, hz⟩ := List.mem_map.mp h
        rw [← hz]
        exact ⟨g', i', _, hl1, rfl⟩⟩ _ hheap X'
  exact ⟨t, step t a1, b1⟩
end XR2
/-- a contract out of its walk -/
theorem xMet {l : Launch} {G : xG} {M : xM} {y : MethodName} {own : String} {bytes : ByteArray} {maxL : Nat} {ret : Option FieldType} {rm : Room} {Qc : Array Value → State → Outcome → State → Prop} (av : List Value) (hy : plainName y.cls = true ∨ plainFor y = true) (hyo : y.cls = own) (hlen : (lg_sl av).length ≤ maxL)
    (walk : ∀ (p : Program) (e : Env) (s : State) (m : MethodId) (args : Array Value) (below : List Frame) (meth : Method) (c : Code) (ls : Array Slot), xC p s m args c bytes own maxL G → meth.sig.returnType = ret → meth.locks = false → xRp G M s.heap → va_S (xA G) s.heap s.heap [] → lv_has ls maxL (lv_args 0 av) → W p l e rm s m args below meth c s.heap [] 0 0 (MQ below Qc args s 0 0 (xA G)) (F0 m 0 ls [])) :
    Met l y (Cond.code y bytes maxL ret :: xTG) rm (xPre G M av) Qc 0 0 (xA G) := by
  suffices body : ∀ (p : Program) (e : Env) (s : State) (m : MethodId) (args : Array Value) (below : List Frame) (meth : Method) (c : Code) (s₁ : State), BodyLoose p l y (headSpec (Cond.code y bytes maxL ret :: xTG) rm) bytes maxL ret e s m args below meth c s₁ → c.maxLocals = maxL → xPre G M av args s → W p l e (headSpec (Cond.code y bytes maxL ret :: xTG) rm).room s m args below meth c s.heap [] 0 0 (MQ below Qc args s 0 0 (xA G)) (entryFrame m args maxL) from
    hy.elim (fun h => Met.ofW (cc := bytes) (maxL := maxL) (ret := ret) h rfl body) (fun h => va_MetF (cc := bytes) (maxL := maxL) (ret := ret) h rfl body)
  intro p e s m args below meth c s₁ B hml hv
  obtain ⟨rfl, hR, hK⟩ := hv
  have hts := atoms_spec (ws := Cond.code y bytes maxL ret :: xTG) B.pre
  have hown : s.vm.findClass own = some m.cls := hyo ▸ findClass_of_methodNamed B.named
  have hl := lv_entry av (n := maxL) hlen
  rw [lg_entry_eq]
  generalize (lg_sl av ++ List.replicate (maxL - (lg_sl av).length) Slot.unset).toArray = ls at hl ⊢
  exact walk p e s m _ below meth c ls ⟨B.exec, B.bytes, hml, hown, fun w hw => hts w (List.mem_cons_of_mem _ hw), hK⟩ B.returns B.notSynchronized hR va_S.rf hl
theorem xin3 {j : Int32} (h : vp_in j 3) : 1 + j.toNatClampNeg < 4 := by
  have := Nat.not_le.mp fun q => h (Or.inr q)
  omega
theorem xin4 {j : Int32} (h : vp_in j 4) : 4 ≤ 4 + j.toNatClampNeg ∧ 4 + j.toNatClampNeg < 8 := by
  have := Nat.not_le.mp fun q => h (Or.inr q)
  omega
