set_option maxHeartbeats 4000000 in
set_option maxRecDepth 100000 in
theorem lc_0 {p : Program} {l : Launch} {e : Env} {s : State} {m : MethodId} {below : List Frame} {meth : Method} {c : Code} {G : xG} {b L : Nat} {xs : Nat → Int32} (hC : xC p s m #[Value.ref b] c code R_law 4 G) (hX : va_X b L xs s s.heap) (hbl : b < s.heap.size) (hbA : ¬ xA G b) {xInv : xM → Prop} {x3 : Int32} {w1 : Int32} (hi1 : vp_in (x3 + (1 : Int32)) L) (ew1 : xs (x3 + (1 : Int32)).toNatClampNeg = w1) {w2 : Int32} (hi2 : vp_in (x3 + (2 : Int32)) L) (ew2 : xs (x3 + (2 : Int32)).toNatClampNeg = w2) {w3 : Int32} (hi3 : vp_in (x3 + (3 : Int32)) L) (ew3 : xs (x3 + (3 : Int32)).toNatClampNeg = w3) (tail : ∀ (M : xM) (H : Heap) (locs : List Loc) (ls : Array Slot), xInv M → xRp G M H → va_S (xA G) s.heap H locs → lv_has ls 4 [(0, .ref b), (1, .ref (G.1 8 0)), (2, .ref (G.1 9 0)), (3, .int x3)] → W p l e room_1 s m #[Value.ref b] below meth c H locs 600000 7302250 (lw_Z below #[Value.ref b] s) (F0 m 1248 ls [])) (op_sheet : ∀ (M : xM) (a b c : Int32), xInv M → xw_CA_sheet a b c M (fun r M1 => xw_Mo_sheet a b c M1 (fun q M2 => r = q ∧ xInv M2))) (M : xM) (H : Heap) (locs : List Loc) (ls : Array Slot) (hI : xInv M) (hR : xRp G M H) (hS : va_S (xA G) s.heap H locs) (hl : lv_has ls 4 [(0, .ref b), (1, .ref (G.1 8 0)), (2, .ref (G.1 9 0)), (3, .int x3)]) : W p l e room_1 s m #[Value.ref b] below meth c H locs 600000 7302250 (lw_Z below #[Value.ref b] s) (F0 m 184 ls []) := by
  have hx := hC.1
  have hb := hC.2.1
  refine lv_aload_n (pc := 184) hx hb xd_law_184 rfl (lv_at hl 1 rfl) ?_
  refine lv_aload_n (pc := 185) hx hb xd_law_185 rfl (lv_at hl 0 rfl) ?_
  refine lv_iload_n (pc := 186) hx hb xd_law_186 rfl (lv_at hl 3 rfl) ?_
  refine lv_iconst (pc := 187) (v := (1 : Int32)) hx hb xd_law_187 (by decide) ?_
  refine lv_iadd (pc := 188) hx hb xd_law_188 ?_
  refine va_sld (pc := 189) hx hb hX hbl hbA hS hi1 xd_law_189 ?_
  rw [ew1]
  refine lv_aload_n (pc := 190) hx hb xd_law_190 rfl (lv_at hl 0 rfl) ?_
  refine lv_iload_n (pc := 191) hx hb xd_law_191 rfl (lv_at hl 3 rfl) ?_
  refine lv_iconst (pc := 192) (v := (2 : Int32)) hx hb xd_law_192 (by decide) ?_
  refine lv_iadd (pc := 193) hx hb xd_law_193 ?_
  refine va_sld (pc := 194) hx hb hX hbl hbA hS hi2 xd_law_194 ?_
  rw [ew2]
  refine lv_aload_n (pc := 195) hx hb xd_law_195 rfl (lv_at hl 0 rfl) ?_
  refine lv_iload_n (pc := 196) hx hb xd_law_196 rfl (lv_at hl 3 rfl) ?_
  refine lv_iconst (pc := 197) (v := (3 : Int32)) hx hb xd_law_197 (by decide) ?_
  refine lv_iadd (pc := 198) hx hb xd_law_198 ?_
  refine va_sld (pc := 199) hx hb hX hbl hbA hS hi3 xd_law_199 ?_
  rw [ew3]
  have h := op_sheet M w1 w2 w3 hI
  refine xr_callL (pc := 200) (As := [.int w1, .int w2, .int w3]) (rest := []) hC hR hS (xc_CA_sheet l G h) xo_C0 xv_law_13 ⟨rfl, rfl, Nat.le_of_ble_eq_true rfl, Nat.le_of_ble_eq_true rfl⟩ rfl hl.1 rfl (Nat.le_of_ble_eq_true rfl) (Nat.le_of_ble_eq_true rfl) (Nat.le_of_ble_eq_true rfl) xd_law_200 (fun r0 M H locs h hR hS => ?_)
  refine lv_aload_n (pc := 203) hx hb xd_law_203 rfl (lv_at hl 2 rfl) ?_
  refine lv_aload_n (pc := 204) hx hb xd_law_204 rfl (lv_at hl 0 rfl) ?_
  refine lv_iload_n (pc := 205) hx hb xd_law_205 rfl (lv_at hl 3 rfl) ?_
  refine lv_iconst (pc := 206) (v := (1 : Int32)) hx hb xd_law_206 (by decide) ?_
  refine lv_iadd (pc := 207) hx hb xd_law_207 ?_
  refine va_sld (pc := 208) hx hb hX hbl hbA hS hi1 xd_law_208 ?_
  rw [ew1]
  refine lv_aload_n (pc := 209) hx hb xd_law_209 rfl (lv_at hl 0 rfl) ?_
  refine lv_iload_n (pc := 210) hx hb xd_law_210 rfl (lv_at hl 3 rfl) ?_
  refine lv_iconst (pc := 211) (v := (2 : Int32)) hx hb xd_law_211 (by decide) ?_
  refine lv_iadd (pc := 212) hx hb xd_law_212 ?_
  refine va_sld (pc := 213) hx hb hX hbl hbA hS hi2 xd_law_213 ?_
  rw [ew2]
  refine lv_aload_n (pc := 214) hx hb xd_law_214 rfl (lv_at hl 0 rfl) ?_
  refine lv_iload_n (pc := 215) hx hb xd_law_215 rfl (lv_at hl 3 rfl) ?_
  refine lv_iconst (pc := 216) (v := (3 : Int32)) hx hb xd_law_216 (by decide) ?_
  refine lv_iadd (pc := 217) hx hb xd_law_217 ?_
  refine va_sld (pc := 218) hx hb hX hbl hbA hS hi3 xd_law_218 ?_
  rw [ew3]
  refine xr_callL (pc := 219) (As := [.int w1, .int w2, .int w3]) (rest := [.int r0]) hC hR hS (xc_Mo_sheet l G h) xo_M0 xv_law_17 ⟨rfl, rfl, Nat.le_of_ble_eq_true rfl, Nat.le_of_ble_eq_true rfl⟩ rfl hl.1 rfl (Nat.le_of_ble_eq_true rfl) (Nat.le_of_ble_eq_true rfl) (Nat.le_of_ble_eq_true rfl) xd_law_219 (fun r1 M H locs h hR hS => ?_)
  refine lv_icmp_eq (pc := 222) (tgt := 1248) hx hb xd_law_222 (by decide) (fun _ => ?_) (fun hq => absurd h.1 hq)
  exact tail M H locs ls h.2 hR hS hl
set_option maxHeartbeats 4000000 in
set_option maxRecDepth 100000 in
theorem lc_1 {p : Program} {l : Launch} {e : Env} {s : State} {m : MethodId} {below : List Frame} {meth : Method} {c : Code} {G : xG} {b L : Nat} {xs : Nat → Int32} (hC : xC p s m #[Value.ref b] c code R_law 4 G) (hX : va_X b L xs s s.heap) (hbl : b < s.heap.size) (hbA : ¬ xA G b) {xInv : xM → Prop} {x3 : Int32} {w1 : Int32} (hi1 : vp_in (x3 + (1 : Int32)) L) (ew1 : xs (x3 + (1 : Int32)).toNatClampNeg = w1) {w2 : Int32} (hi2 : vp_in (x3 + (2 : Int32)) L) (ew2 : xs (x3 + (2 : Int32)).toNatClampNeg = w2) {w3 : Int32} (hi3 : vp_in (x3 + (3 : Int32)) L) (ew3 : xs (x3 + (3 : Int32)).toNatClampNeg = w3) (tail : ∀ (M : xM) (H : Heap) (locs : List Loc) (ls : Array Slot), xInv M → xRp G M H → va_S (xA G) s.heap H locs → lv_has ls 4 [(0, .ref b), (1, .ref (G.1 8 0)), (2, .ref (G.1 9 0)), (3, .int x3)] → W p l e room_1 s m #[Value.ref b] below meth c H locs 600000 7302250 (lw_Z below #[Value.ref b] s) (F0 m 1248 ls [])) (op_write : ∀ (M : xM) (a b c : Int32), xInv M → xw_CA_write a b c M (fun r M1 => xw_Mo_write a b c M1 (fun q M2 => r = q ∧ xInv M2))) (M : xM) (H : Heap) (locs : List Loc) (ls : Array Slot) (hI : xInv M) (hR : xRp G M H) (hS : va_S (xA G) s.heap H locs) (hl : lv_has ls 4 [(0, .ref b), (1, .ref (G.1 8 0)), (2, .ref (G.1 9 0)), (3, .int x3)]) : W p l e room_1 s m #[Value.ref b] below meth c H locs 600000 7302250 (lw_Z below #[Value.ref b] s) (F0 m 227 ls []) := by
  have hx := hC.1
  have hb := hC.2.1
  refine lv_aload_n (pc := 227) hx hb xd_law_227 rfl (lv_at hl 1 rfl) ?_
  refine lv_aload_n (pc := 228) hx hb xd_law_228 rfl (lv_at hl 0 rfl) ?_
  refine lv_iload_n (pc := 229) hx hb xd_law_229 rfl (lv_at hl 3 rfl) ?_
  refine lv_iconst (pc := 230) (v := (1 : Int32)) hx hb xd_law_230 (by decide) ?_
  refine lv_iadd (pc := 231) hx hb xd_law_231 ?_
  refine va_sld (pc := 232) hx hb hX hbl hbA hS hi1 xd_law_232 ?_
  rw [ew1]
  refine lv_aload_n (pc := 233) hx hb xd_law_233 rfl (lv_at hl 0 rfl) ?_
  refine lv_iload_n (pc := 234) hx hb xd_law_234 rfl (lv_at hl 3 rfl) ?_
  refine lv_iconst (pc := 235) (v := (2 : Int32)) hx hb xd_law_235 (by decide) ?_
  refine lv_iadd (pc := 236) hx hb xd_law_236 ?_
  refine va_sld (pc := 237) hx hb hX hbl hbA hS hi2 xd_law_237 ?_
  rw [ew2]
  refine lv_aload_n (pc := 238) hx hb xd_law_238 rfl (lv_at hl 0 rfl) ?_
  refine lv_iload_n (pc := 239) hx hb xd_law_239 rfl (lv_at hl 3 rfl) ?_
  refine lv_iconst (pc := 240) (v := (3 : Int32)) hx hb xd_law_240 (by decide) ?_
  refine lv_iadd (pc := 241) hx hb xd_law_241 ?_
  refine va_sld (pc := 242) hx hb hX hbl hbA hS hi3 xd_law_242 ?_
  rw [ew3]
  have h := op_write M w1 w2 w3 hI
  refine xr_callL (pc := 243) (As := [.int w1, .int w2, .int w3]) (rest := []) hC hR hS (xc_CA_write l G h) xo_C0 xv_law_18 ⟨rfl, rfl, Nat.le_of_ble_eq_true rfl, Nat.le_of_ble_eq_true rfl⟩ rfl hl.1 rfl (Nat.le_of_ble_eq_true rfl) (Nat.le_of_ble_eq_true rfl) (Nat.le_of_ble_eq_true rfl) xd_law_243 (fun r0 M H locs h hR hS => ?_)
  refine lv_aload_n (pc := 246) hx hb xd_law_246 rfl (lv_at hl 2 rfl) ?_
  refine lv_aload_n (pc := 247) hx hb xd_law_247 rfl (lv_at hl 0 rfl) ?_
  refine lv_iload_n (pc := 248) hx hb xd_law_248 rfl (lv_at hl 3 rfl) ?_
  refine lv_iconst (pc := 249) (v := (1 : Int32)) hx hb xd_law_249 (by decide) ?_
  refine lv_iadd (pc := 250) hx hb xd_law_250 ?_
  refine va_sld (pc := 251) hx hb hX hbl hbA hS hi1 xd_law_251 ?_
  rw [ew1]
  refine lv_aload_n (pc := 252) hx hb xd_law_252 rfl (lv_at hl 0 rfl) ?_
  refine lv_iload_n (pc := 253) hx hb xd_law_253 rfl (lv_at hl 3 rfl) ?_
  refine lv_iconst (pc := 254) (v := (2 : Int32)) hx hb xd_law_254 (by decide) ?_
  refine lv_iadd (pc := 255) hx hb xd_law_255 ?_
  refine va_sld (pc := 256) hx hb hX hbl hbA hS hi2 xd_law_256 ?_
  rw [ew2]
  refine lv_aload_n (pc := 257) hx hb xd_law_257 rfl (lv_at hl 0 rfl) ?_
  refine lv_iload_n (pc := 258) hx hb xd_law_258 rfl (lv_at hl 3 rfl) ?_
  refine lv_iconst (pc := 259) (v := (3 : Int32)) hx hb xd_law_259 (by decide) ?_
  refine lv_iadd (pc := 260) hx hb xd_law_260 ?_
  refine va_sld (pc := 261) hx hb hX hbl hbA hS hi3 xd_law_261 ?_
  rw [ew3]
  refine xr_callL (pc := 262) (As := [.int w1, .int w2, .int w3]) (rest := [.int r0]) hC hR hS (xc_Mo_write l G h) xo_M0 xv_law_21 ⟨rfl, rfl, Nat.le_of_ble_eq_true rfl, Nat.le_of_ble_eq_true rfl⟩ rfl hl.1 rfl (Nat.le_of_ble_eq_true rfl) (Nat.le_of_ble_eq_true rfl) (Nat.le_of_ble_eq_true rfl) xd_law_262 (fun r1 M H locs h hR hS => ?_)
  refine lv_icmp_eq (pc := 265) (tgt := 1248) hx hb xd_law_265 (by decide) (fun _ => ?_) (fun hq => absurd h.1 hq)
  exact tail M H locs ls h.2 hR hS hl
set_option maxHeartbeats 4000000 in
set_option maxRecDepth 100000 in
theorem lc_2 {p : Program} {l : Launch} {e : Env} {s : State} {m : MethodId} {below : List Frame} {meth : Method} {c : Code} {G : xG} {b L : Nat} {xs : Nat → Int32} (hC : xC p s m #[Value.ref b] c code R_law 4 G) (hX : va_X b L xs s s.heap) (hbl : b < s.heap.size) (hbA : ¬ xA G b) {xInv : xM → Prop} {x3 : Int32} {w1 : Int32} (hi1 : vp_in (x3 + (1 : Int32)) L) (ew1 : xs (x3 + (1 : Int32)).toNatClampNeg = w1) {w2 : Int32} (hi2 : vp_in (x3 + (2 : Int32)) L) (ew2 : xs (x3 + (2 : Int32)).toNatClampNeg = w2) {w3 : Int32} (hi3 : vp_in (x3 + (3 : Int32)) L) (ew3 : xs (x3 + (3 : Int32)).toNatClampNeg = w3) (tail : ∀ (M : xM) (H : Heap) (locs : List Loc) (ls : Array Slot), xInv M → xRp G M H → va_S (xA G) s.heap H locs → lv_has ls 4 [(0, .ref b), (1, .ref (G.1 8 0)), (2, .ref (G.1 9 0)), (3, .int x3)] → W p l e room_1 s m #[Value.ref b] below meth c H locs 600000 7302250 (lw_Z below #[Value.ref b] s) (F0 m 1248 ls [])) (op_weak : ∀ (M : xM) (a b c : Int32), xInv M → xw_CA_weak a b c M (fun r M1 => xw_Mo_weak a b c M1 (fun q M2 => r = q ∧ xInv M2))) (M : xM) (H : Heap) (locs : List Loc) (ls : Array Slot) (hI : xInv M) (hR : xRp G M H) (hS : va_S (xA G) s.heap H locs) (hl : lv_has ls 4 [(0, .ref b), (1, .ref (G.1 8 0)), (2, .ref (G.1 9 0)), (3, .int x3)]) : W p l e room_1 s m #[Value.ref b] below meth c H locs 600000 7302250 (lw_Z below #[Value.ref b] s) (F0 m 270 ls []) := by
  have hx := hC.1
  have hb := hC.2.1
  refine lv_aload_n (pc := 270) hx hb xd_law_270 rfl (lv_at hl 1 rfl) ?_
  refine lv_aload_n (pc := 271) hx hb xd_law_271 rfl (lv_at hl 0 rfl) ?_
  refine lv_iload_n (pc := 272) hx hb xd_law_272 rfl (lv_at hl 3 rfl) ?_
  refine lv_iconst (pc := 273) (v := (1 : Int32)) hx hb xd_law_273 (by decide) ?_
  refine lv_iadd (pc := 274) hx hb xd_law_274 ?_
  refine va_sld (pc := 275) hx hb hX hbl hbA hS hi1 xd_law_275 ?_
  rw [ew1]
  refine lv_aload_n (pc := 276) hx hb xd_law_276 rfl (lv_at hl 0 rfl) ?_
  refine lv_iload_n (pc := 277) hx hb xd_law_277 rfl (lv_at hl 3 rfl) ?_
  refine lv_iconst (pc := 278) (v := (2 : Int32)) hx hb xd_law_278 (by decide) ?_
  refine lv_iadd (pc := 279) hx hb xd_law_279 ?_
  refine va_sld (pc := 280) hx hb hX hbl hbA hS hi2 xd_law_280 ?_
  rw [ew2]
  refine lv_aload_n (pc := 281) hx hb xd_law_281 rfl (lv_at hl 0 rfl) ?_
  refine lv_iload_n (pc := 282) hx hb xd_law_282 rfl (lv_at hl 3 rfl) ?_
  refine lv_iconst (pc := 283) (v := (3 : Int32)) hx hb xd_law_283 (by decide) ?_
  refine lv_iadd (pc := 284) hx hb xd_law_284 ?_
  refine va_sld (pc := 285) hx hb hX hbl hbA hS hi3 xd_law_285 ?_
  rw [ew3]
  have h := op_weak M w1 w2 w3 hI
  refine xr_callL (pc := 286) (As := [.int w1, .int w2, .int w3]) (rest := []) hC hR hS (xc_CA_weak l G h) xo_C0 xv_law_22 ⟨rfl, rfl, Nat.le_of_ble_eq_true rfl, Nat.le_of_ble_eq_true rfl⟩ rfl hl.1 rfl (Nat.le_of_ble_eq_true rfl) (Nat.le_of_ble_eq_true rfl) (Nat.le_of_ble_eq_true rfl) xd_law_286 (fun r0 M H locs h hR hS => ?_)
  refine lv_aload_n (pc := 289) hx hb xd_law_289 rfl (lv_at hl 2 rfl) ?_
  refine lv_aload_n (pc := 290) hx hb xd_law_290 rfl (lv_at hl 0 rfl) ?_
  refine lv_iload_n (pc := 291) hx hb xd_law_291 rfl (lv_at hl 3 rfl) ?_
  refine lv_iconst (pc := 292) (v := (1 : Int32)) hx hb xd_law_292 (by decide) ?_
  refine lv_iadd (pc := 293) hx hb xd_law_293 ?_
  refine va_sld (pc := 294) hx hb hX hbl hbA hS hi1 xd_law_294 ?_
  rw [ew1]
  refine lv_aload_n (pc := 295) hx hb xd_law_295 rfl (lv_at hl 0 rfl) ?_
  refine lv_iload_n (pc := 296) hx hb xd_law_296 rfl (lv_at hl 3 rfl) ?_
  refine lv_iconst (pc := 297) (v := (2 : Int32)) hx hb xd_law_297 (by decide) ?_
  refine lv_iadd (pc := 298) hx hb xd_law_298 ?_
  refine va_sld (pc := 299) hx hb hX hbl hbA hS hi2 xd_law_299 ?_
  rw [ew2]
  refine lv_aload_n (pc := 300) hx hb xd_law_300 rfl (lv_at hl 0 rfl) ?_
  refine lv_iload_n (pc := 301) hx hb xd_law_301 rfl (lv_at hl 3 rfl) ?_
  refine lv_iconst (pc := 302) (v := (3 : Int32)) hx hb xd_law_302 (by decide) ?_
  refine lv_iadd (pc := 303) hx hb xd_law_303 ?_
  refine va_sld (pc := 304) hx hb hX hbl hbA hS hi3 xd_law_304 ?_
  rw [ew3]
  refine xr_callL (pc := 305) (As := [.int w1, .int w2, .int w3]) (rest := [.int r0]) hC hR hS (xc_Mo_weak l G h) xo_M0 xv_law_25 ⟨rfl, rfl, Nat.le_of_ble_eq_true rfl, Nat.le_of_ble_eq_true rfl⟩ rfl hl.1 rfl (Nat.le_of_ble_eq_true rfl) (Nat.le_of_ble_eq_true rfl) (Nat.le_of_ble_eq_true rfl) xd_law_305 (fun r1 M H locs h hR hS => ?_)
  refine lv_icmp_eq (pc := 308) (tgt := 1248) hx hb xd_law_308 (by decide) (fun _ => ?_) (fun hq => absurd h.1 hq)
  exact tail M H locs ls h.2 hR hS hl
set_option maxHeartbeats 4000000 in
set_option maxRecDepth 100000 in
theorem lc_3 {p : Program} {l : Launch} {e : Env} {s : State} {m : MethodId} {below : List Frame} {meth : Method} {c : Code} {G : xG} {b L : Nat} {xs : Nat → Int32} (hC : xC p s m #[Value.ref b] c code R_law 4 G) (hX : va_X b L xs s s.heap) (hbl : b < s.heap.size) (hbA : ¬ xA G b) {xInv : xM → Prop} {x3 : Int32} {w1 : Int32} (hi1 : vp_in (x3 + (1 : Int32)) L) (ew1 : xs (x3 + (1 : Int32)).toNatClampNeg = w1) {w2 : Int32} (hi2 : vp_in (x3 + (2 : Int32)) L) (ew2 : xs (x3 + (2 : Int32)).toNatClampNeg = w2) {w3 : Int32} (hi3 : vp_in (x3 + (3 : Int32)) L) (ew3 : xs (x3 + (3 : Int32)).toNatClampNeg = w3) (tail : ∀ (M : xM) (H : Heap) (locs : List Loc) (ls : Array Slot), xInv M → xRp G M H → va_S (xA G) s.heap H locs → lv_has ls 4 [(0, .ref b), (1, .ref (G.1 8 0)), (2, .ref (G.1 9 0)), (3, .int x3)] → W p l e room_1 s m #[Value.ref b] below meth c H locs 600000 7302250 (lw_Z below #[Value.ref b] s) (F0 m 1248 ls [])) (op_levels : ∀ (M : xM) (a : Int32), xInv M → xw_CA_levels a M (fun r M1 => xw_Mo_levels a M1 (fun q M2 => r = q ∧ xInv M2))) (M : xM) (H : Heap) (locs : List Loc) (ls : Array Slot) (hI : xInv M) (hR : xRp G M H) (hS : va_S (xA G) s.heap H locs) (hl : lv_has ls 4 [(0, .ref b), (1, .ref (G.1 8 0)), (2, .ref (G.1 9 0)), (3, .int x3)]) : W p l e room_1 s m #[Value.ref b] below meth c H locs 600000 7302250 (lw_Z below #[Value.ref b] s) (F0 m 313 ls []) := by
  have hx := hC.1
  have hb := hC.2.1
  refine lv_aload_n (pc := 313) hx hb xd_law_313 rfl (lv_at hl 1 rfl) ?_
  refine lv_aload_n (pc := 314) hx hb xd_law_314 rfl (lv_at hl 0 rfl) ?_
  refine lv_iload_n (pc := 315) hx hb xd_law_315 rfl (lv_at hl 3 rfl) ?_
  refine lv_iconst (pc := 316) (v := (1 : Int32)) hx hb xd_law_316 (by decide) ?_
  refine lv_iadd (pc := 317) hx hb xd_law_317 ?_
  refine va_sld (pc := 318) hx hb hX hbl hbA hS hi1 xd_law_318 ?_
  rw [ew1]
  have h := op_levels M w1 hI
  refine xr_callL (pc := 319) (As := [.int w1]) (rest := []) hC hR hS (xc_CA_levels l G h) xo_C0 xv_law_26 ⟨rfl, rfl, Nat.le_of_ble_eq_true rfl, Nat.le_of_ble_eq_true rfl⟩ rfl hl.1 rfl (Nat.le_of_ble_eq_true rfl) (Nat.le_of_ble_eq_true rfl) (Nat.le_of_ble_eq_true rfl) xd_law_319 (fun r0 M H locs h hR hS => ?_)
  refine lv_aload_n (pc := 322) hx hb xd_law_322 rfl (lv_at hl 2 rfl) ?_
  refine lv_aload_n (pc := 323) hx hb xd_law_323 rfl (lv_at hl 0 rfl) ?_
  refine lv_iload_n (pc := 324) hx hb xd_law_324 rfl (lv_at hl 3 rfl) ?_
  refine lv_iconst (pc := 325) (v := (1 : Int32)) hx hb xd_law_325 (by decide) ?_
  refine lv_iadd (pc := 326) hx hb xd_law_326 ?_
  refine va_sld (pc := 327) hx hb hX hbl hbA hS hi1 xd_law_327 ?_
  rw [ew1]
  refine xr_callL (pc := 328) (As := [.int w1]) (rest := [.int r0]) hC hR hS (xc_Mo_levels l G h) xo_M0 xv_law_30 ⟨rfl, rfl, Nat.le_of_ble_eq_true rfl, Nat.le_of_ble_eq_true rfl⟩ rfl hl.1 rfl (Nat.le_of_ble_eq_true rfl) (Nat.le_of_ble_eq_true rfl) (Nat.le_of_ble_eq_true rfl) xd_law_328 (fun r1 M H locs h hR hS => ?_)
  refine lv_icmp_eq (pc := 331) (tgt := 1248) hx hb xd_law_331 (by decide) (fun _ => ?_) (fun hq => absurd h.1 hq)
  exact tail M H locs ls h.2 hR hS hl
set_option maxHeartbeats 4000000 in
set_option maxRecDepth 100000 in
theorem lc_4 {p : Program} {l : Launch} {e : Env} {s : State} {m : MethodId} {below : List Frame} {meth : Method} {c : Code} {G : xG} {b L : Nat} {xs : Nat → Int32} (hC : xC p s m #[Value.ref b] c code R_law 4 G) (hX : va_X b L xs s s.heap) (hbl : b < s.heap.size) (hbA : ¬ xA G b) {xInv : xM → Prop} {x3 : Int32} {w1 : Int32} (hi1 : vp_in (x3 + (1 : Int32)) L) (ew1 : xs (x3 + (1 : Int32)).toNatClampNeg = w1) {w2 : Int32} (hi2 : vp_in (x3 + (2 : Int32)) L) (ew2 : xs (x3 + (2 : Int32)).toNatClampNeg = w2) {w3 : Int32} (hi3 : vp_in (x3 + (3 : Int32)) L) (ew3 : xs (x3 + (3 : Int32)).toNatClampNeg = w3) (tail : ∀ (M : xM) (H : Heap) (locs : List Loc) (ls : Array Slot), xInv M → xRp G M H → va_S (xA G) s.heap H locs → lv_has ls 4 [(0, .ref b), (1, .ref (G.1 8 0)), (2, .ref (G.1 9 0)), (3, .int x3)] → W p l e room_1 s m #[Value.ref b] below meth c H locs 600000 7302250 (lw_Z below #[Value.ref b] s) (F0 m 1248 ls [])) (op_weights : ∀ (M : xM) (a b c : Int32), xInv M → xw_CA_weights a b c M (fun r M1 => xw_Mo_weights a b c M1 (fun q M2 => r = q ∧ xInv M2))) (M : xM) (H : Heap) (locs : List Loc) (ls : Array Slot) (hI : xInv M) (hR : xRp G M H) (hS : va_S (xA G) s.heap H locs) (hl : lv_has ls 4 [(0, .ref b), (1, .ref (G.1 8 0)), (2, .ref (G.1 9 0)), (3, .int x3)]) : W p l e room_1 s m #[Value.ref b] below meth c H locs 600000 7302250 (lw_Z below #[Value.ref b] s) (F0 m 336 ls []) := by
  have hx := hC.1
  have hb := hC.2.1
  refine lv_aload_n (pc := 336) hx hb xd_law_336 rfl (lv_at hl 1 rfl) ?_
  refine lv_aload_n (pc := 337) hx hb xd_law_337 rfl (lv_at hl 0 rfl) ?_
  refine lv_iload_n (pc := 338) hx hb xd_law_338 rfl (lv_at hl 3 rfl) ?_
  refine lv_iconst (pc := 339) (v := (1 : Int32)) hx hb xd_law_339 (by decide) ?_
  refine lv_iadd (pc := 340) hx hb xd_law_340 ?_
  refine va_sld (pc := 341) hx hb hX hbl hbA hS hi1 xd_law_341 ?_
  rw [ew1]
  refine lv_aload_n (pc := 342) hx hb xd_law_342 rfl (lv_at hl 0 rfl) ?_
  refine lv_iload_n (pc := 343) hx hb xd_law_343 rfl (lv_at hl 3 rfl) ?_
  refine lv_iconst (pc := 344) (v := (2 : Int32)) hx hb xd_law_344 (by decide) ?_
  refine lv_iadd (pc := 345) hx hb xd_law_345 ?_
  refine va_sld (pc := 346) hx hb hX hbl hbA hS hi2 xd_law_346 ?_
  rw [ew2]
  refine lv_aload_n (pc := 347) hx hb xd_law_347 rfl (lv_at hl 0 rfl) ?_
  refine lv_iload_n (pc := 348) hx hb xd_law_348 rfl (lv_at hl 3 rfl) ?_
  refine lv_iconst (pc := 349) (v := (3 : Int32)) hx hb xd_law_349 (by decide) ?_
  refine lv_iadd (pc := 350) hx hb xd_law_350 ?_
  refine va_sld (pc := 351) hx hb hX hbl hbA hS hi3 xd_law_351 ?_
  rw [ew3]
  have h := op_weights M w1 w2 w3 hI
  refine xr_callL (pc := 352) (As := [.int w1, .int w2, .int w3]) (rest := []) hC hR hS (xc_CA_weights l G h) xo_C0 xv_law_31 ⟨rfl, rfl, Nat.le_of_ble_eq_true rfl, Nat.le_of_ble_eq_true rfl⟩ rfl hl.1 rfl (Nat.le_of_ble_eq_true rfl) (Nat.le_of_ble_eq_true rfl) (Nat.le_of_ble_eq_true rfl) xd_law_352 (fun r0 M H locs h hR hS => ?_)
  refine lv_aload_n (pc := 355) hx hb xd_law_355 rfl (lv_at hl 2 rfl) ?_
  refine lv_aload_n (pc := 356) hx hb xd_law_356 rfl (lv_at hl 0 rfl) ?_
  refine lv_iload_n (pc := 357) hx hb xd_law_357 rfl (lv_at hl 3 rfl) ?_
  refine lv_iconst (pc := 358) (v := (1 : Int32)) hx hb xd_law_358 (by decide) ?_
  refine lv_iadd (pc := 359) hx hb xd_law_359 ?_
  refine va_sld (pc := 360) hx hb hX hbl hbA hS hi1 xd_law_360 ?_
  rw [ew1]
  refine lv_aload_n (pc := 361) hx hb xd_law_361 rfl (lv_at hl 0 rfl) ?_
  refine lv_iload_n (pc := 362) hx hb xd_law_362 rfl (lv_at hl 3 rfl) ?_
  refine lv_iconst (pc := 363) (v := (2 : Int32)) hx hb xd_law_363 (by decide) ?_
  refine lv_iadd (pc := 364) hx hb xd_law_364 ?_
  refine va_sld (pc := 365) hx hb hX hbl hbA hS hi2 xd_law_365 ?_
  rw [ew2]
  refine lv_aload_n (pc := 366) hx hb xd_law_366 rfl (lv_at hl 0 rfl) ?_
  refine lv_iload_n (pc := 367) hx hb xd_law_367 rfl (lv_at hl 3 rfl) ?_
  refine lv_iconst (pc := 368) (v := (3 : Int32)) hx hb xd_law_368 (by decide) ?_
  refine lv_iadd (pc := 369) hx hb xd_law_369 ?_
  refine va_sld (pc := 370) hx hb hX hbl hbA hS hi3 xd_law_370 ?_
  rw [ew3]
  refine xr_callL (pc := 371) (As := [.int w1, .int w2, .int w3]) (rest := [.int r0]) hC hR hS (xc_Mo_weights l G h) xo_M0 xv_law_34 ⟨rfl, rfl, Nat.le_of_ble_eq_true rfl, Nat.le_of_ble_eq_true rfl⟩ rfl hl.1 rfl (Nat.le_of_ble_eq_true rfl) (Nat.le_of_ble_eq_true rfl) (Nat.le_of_ble_eq_true rfl) xd_law_371 (fun r1 M H locs h hR hS => ?_)
  refine lv_icmp_eq (pc := 374) (tgt := 1248) hx hb xd_law_374 (by decide) (fun _ => ?_) (fun hq => absurd h.1 hq)
  exact tail M H locs ls h.2 hR hS hl
set_option maxHeartbeats 4000000 in
set_option maxRecDepth 100000 in
theorem lc_5 {p : Program} {l : Launch} {e : Env} {s : State} {m : MethodId} {below : List Frame} {meth : Method} {c : Code} {G : xG} {b L : Nat} {xs : Nat → Int32} (hC : xC p s m #[Value.ref b] c code R_law 4 G) (hX : va_X b L xs s s.heap) (hbl : b < s.heap.size) (hbA : ¬ xA G b) {xInv : xM → Prop} {x3 : Int32} {w1 : Int32} (hi1 : vp_in (x3 + (1 : Int32)) L) (ew1 : xs (x3 + (1 : Int32)).toNatClampNeg = w1) {w2 : Int32} (hi2 : vp_in (x3 + (2 : Int32)) L) (ew2 : xs (x3 + (2 : Int32)).toNatClampNeg = w2) {w3 : Int32} (hi3 : vp_in (x3 + (3 : Int32)) L) (ew3 : xs (x3 + (3 : Int32)).toNatClampNeg = w3) (tail : ∀ (M : xM) (H : Heap) (locs : List Loc) (ls : Array Slot), xInv M → xRp G M H → va_S (xA G) s.heap H locs → lv_has ls 4 [(0, .ref b), (1, .ref (G.1 8 0)), (2, .ref (G.1 9 0)), (3, .int x3)] → W p l e room_1 s m #[Value.ref b] below meth c H locs 600000 7302250 (lw_Z below #[Value.ref b] s) (F0 m 1248 ls [])) (op_sights : ∀ (M : xM) (a : Int32), xInv M → xw_CA_sights a M (fun r M1 => xw_Mo_sights a M1 (fun q M2 => r = q ∧ xInv M2))) (M : xM) (H : Heap) (locs : List Loc) (ls : Array Slot) (hI : xInv M) (hR : xRp G M H) (hS : va_S (xA G) s.heap H locs) (hl : lv_has ls 4 [(0, .ref b), (1, .ref (G.1 8 0)), (2, .ref (G.1 9 0)), (3, .int x3)]) : W p l e room_1 s m #[Value.ref b] below meth c H locs 600000 7302250 (lw_Z below #[Value.ref b] s) (F0 m 379 ls []) := by
  have hx := hC.1
  have hb := hC.2.1
  refine lv_aload_n (pc := 379) hx hb xd_law_379 rfl (lv_at hl 1 rfl) ?_
  refine lv_aload_n (pc := 380) hx hb xd_law_380 rfl (lv_at hl 0 rfl) ?_
  refine lv_iload_n (pc := 381) hx hb xd_law_381 rfl (lv_at hl 3 rfl) ?_
  refine lv_iconst (pc := 382) (v := (1 : Int32)) hx hb xd_law_382 (by decide) ?_
  refine lv_iadd (pc := 383) hx hb xd_law_383 ?_
  refine va_sld (pc := 384) hx hb hX hbl hbA hS hi1 xd_law_384 ?_
  rw [ew1]
  have h := op_sights M w1 hI
  refine xr_callL (pc := 385) (As := [.int w1]) (rest := []) hC hR hS (xc_CA_sights l G h) xo_C0 xv_law_35 ⟨rfl, rfl, Nat.le_of_ble_eq_true rfl, Nat.le_of_ble_eq_true rfl⟩ rfl hl.1 rfl (Nat.le_of_ble_eq_true rfl) (Nat.le_of_ble_eq_true rfl) (Nat.le_of_ble_eq_true rfl) xd_law_385 (fun r0 M H locs h hR hS => ?_)
  refine lv_aload_n (pc := 388) hx hb xd_law_388 rfl (lv_at hl 2 rfl) ?_
  refine lv_aload_n (pc := 389) hx hb xd_law_389 rfl (lv_at hl 0 rfl) ?_
  refine lv_iload_n (pc := 390) hx hb xd_law_390 rfl (lv_at hl 3 rfl) ?_
  refine lv_iconst (pc := 391) (v := (1 : Int32)) hx hb xd_law_391 (by decide) ?_
  refine lv_iadd (pc := 392) hx hb xd_law_392 ?_
  refine va_sld (pc := 393) hx hb hX hbl hbA hS hi1 xd_law_393 ?_
  rw [ew1]
  refine xr_callL (pc := 394) (As := [.int w1]) (rest := [.int r0]) hC hR hS (xc_Mo_sights l G h) xo_M0 xv_law_38 ⟨rfl, rfl, Nat.le_of_ble_eq_true rfl, Nat.le_of_ble_eq_true rfl⟩ rfl hl.1 rfl (Nat.le_of_ble_eq_true rfl) (Nat.le_of_ble_eq_true rfl) (Nat.le_of_ble_eq_true rfl) xd_law_394 (fun r1 M H locs h hR hS => ?_)
  refine lv_icmp_eq (pc := 397) (tgt := 1248) hx hb xd_law_397 (by decide) (fun _ => ?_) (fun hq => absurd h.1 hq)
  exact tail M H locs ls h.2 hR hS hl
set_option maxHeartbeats 4000000 in
set_option maxRecDepth 100000 in
theorem lc_6 {p : Program} {l : Launch} {e : Env} {s : State} {m : MethodId} {below : List Frame} {meth : Method} {c : Code} {G : xG} {b L : Nat} {xs : Nat → Int32} (hC : xC p s m #[Value.ref b] c code R_law 4 G) (hX : va_X b L xs s s.heap) (hbl : b < s.heap.size) (hbA : ¬ xA G b) {xInv : xM → Prop} {x3 : Int32} {w1 : Int32} (hi1 : vp_in (x3 + (1 : Int32)) L) (ew1 : xs (x3 + (1 : Int32)).toNatClampNeg = w1) {w2 : Int32} (hi2 : vp_in (x3 + (2 : Int32)) L) (ew2 : xs (x3 + (2 : Int32)).toNatClampNeg = w2) {w3 : Int32} (hi3 : vp_in (x3 + (3 : Int32)) L) (ew3 : xs (x3 + (3 : Int32)).toNatClampNeg = w3) (tail : ∀ (M : xM) (H : Heap) (locs : List Loc) (ls : Array Slot), xInv M → xRp G M H → va_S (xA G) s.heap H locs → lv_has ls 4 [(0, .ref b), (1, .ref (G.1 8 0)), (2, .ref (G.1 9 0)), (3, .int x3)] → W p l e room_1 s m #[Value.ref b] below meth c H locs 600000 7302250 (lw_Z below #[Value.ref b] s) (F0 m 1248 ls [])) (op_grid : ∀ (M : xM) (a : Int32), xInv M → xw_CA_grid a M (fun r M1 => xw_Mo_grid a M1 (fun q M2 => r = q ∧ xInv M2))) (M : xM) (H : Heap) (locs : List Loc) (ls : Array Slot) (hI : xInv M) (hR : xRp G M H) (hS : va_S (xA G) s.heap H locs) (hl : lv_has ls 4 [(0, .ref b), (1, .ref (G.1 8 0)), (2, .ref (G.1 9 0)), (3, .int x3)]) : W p l e room_1 s m #[Value.ref b] below meth c H locs 600000 7302250 (lw_Z below #[Value.ref b] s) (F0 m 402 ls []) := by
  have hx := hC.1
  have hb := hC.2.1
  refine lv_aload_n (pc := 402) hx hb xd_law_402 rfl (lv_at hl 1 rfl) ?_
  refine lv_aload_n (pc := 403) hx hb xd_law_403 rfl (lv_at hl 0 rfl) ?_
  refine lv_iload_n (pc := 404) hx hb xd_law_404 rfl (lv_at hl 3 rfl) ?_
  refine lv_iconst (pc := 405) (v := (1 : Int32)) hx hb xd_law_405 (by decide) ?_
  refine lv_iadd (pc := 406) hx hb xd_law_406 ?_
  refine va_sld (pc := 407) hx hb hX hbl hbA hS hi1 xd_law_407 ?_
  rw [ew1]
  have h := op_grid M w1 hI
  refine xr_callL (pc := 408) (As := [.int w1]) (rest := []) hC hR hS (xc_CA_grid l G h) xo_C0 xv_law_39 ⟨rfl, rfl, Nat.le_of_ble_eq_true rfl, Nat.le_of_ble_eq_true rfl⟩ rfl hl.1 rfl (Nat.le_of_ble_eq_true rfl) (Nat.le_of_ble_eq_true rfl) (Nat.le_of_ble_eq_true rfl) xd_law_408 (fun r0 M H locs h hR hS => ?_)
  refine lv_aload_n (pc := 411) hx hb xd_law_411 rfl (lv_at hl 2 rfl) ?_
  refine lv_aload_n (pc := 412) hx hb xd_law_412 rfl (lv_at hl 0 rfl) ?_
  refine lv_iload_n (pc := 413) hx hb xd_law_413 rfl (lv_at hl 3 rfl) ?_
  refine lv_iconst (pc := 414) (v := (1 : Int32)) hx hb xd_law_414 (by decide) ?_
  refine lv_iadd (pc := 415) hx hb xd_law_415 ?_
  refine va_sld (pc := 416) hx hb hX hbl hbA hS hi1 xd_law_416 ?_
  rw [ew1]
  refine xr_callL (pc := 417) (As := [.int w1]) (rest := [.int r0]) hC hR hS (xc_Mo_grid l G h) xo_M0 xv_law_42 ⟨rfl, rfl, Nat.le_of_ble_eq_true rfl, Nat.le_of_ble_eq_true rfl⟩ rfl hl.1 rfl (Nat.le_of_ble_eq_true rfl) (Nat.le_of_ble_eq_true rfl) (Nat.le_of_ble_eq_true rfl) xd_law_417 (fun r1 M H locs h hR hS => ?_)
  refine lv_icmp_eq (pc := 420) (tgt := 1248) hx hb xd_law_420 (by decide) (fun _ => ?_) (fun hq => absurd h.1 hq)
  exact tail M H locs ls h.2 hR hS hl
set_option maxHeartbeats 4000000 in
set_option maxRecDepth 100000 in
theorem lc_7 {p : Program} {l : Launch} {e : Env} {s : State} {m : MethodId} {below : List Frame} {meth : Method} {c : Code} {G : xG} {b L : Nat} {xs : Nat → Int32} (hC : xC p s m #[Value.ref b] c code R_law 4 G) (hX : va_X b L xs s s.heap) (hbl : b < s.heap.size) (hbA : ¬ xA G b) {xInv : xM → Prop} {x3 : Int32} {w1 : Int32} (hi1 : vp_in (x3 + (1 : Int32)) L) (ew1 : xs (x3 + (1 : Int32)).toNatClampNeg = w1) {w2 : Int32} (hi2 : vp_in (x3 + (2 : Int32)) L) (ew2 : xs (x3 + (2 : Int32)).toNatClampNeg = w2) {w3 : Int32} (hi3 : vp_in (x3 + (3 : Int32)) L) (ew3 : xs (x3 + (3 : Int32)).toNatClampNeg = w3) (tail : ∀ (M : xM) (H : Heap) (locs : List Loc) (ls : Array Slot), xInv M → xRp G M H → va_S (xA G) s.heap H locs → lv_has ls 4 [(0, .ref b), (1, .ref (G.1 8 0)), (2, .ref (G.1 9 0)), (3, .int x3)] → W p l e room_1 s m #[Value.ref b] below meth c H locs 600000 7302250 (lw_Z below #[Value.ref b] s) (F0 m 1248 ls [])) (op_place : ∀ (M : xM) (a : Int32), xInv M → xw_CA_place a M (fun r M1 => xw_Mo_place a M1 (fun q M2 => r = q ∧ xInv M2))) (M : xM) (H : Heap) (locs : List Loc) (ls : Array Slot) (hI : xInv M) (hR : xRp G M H) (hS : va_S (xA G) s.heap H locs) (hl : lv_has ls 4 [(0, .ref b), (1, .ref (G.1 8 0)), (2, .ref (G.1 9 0)), (3, .int x3)]) : W p l e room_1 s m #[Value.ref b] below meth c H locs 600000 7302250 (lw_Z below #[Value.ref b] s) (F0 m 425 ls []) := by
  have hx := hC.1
  have hb := hC.2.1
  refine lv_aload_n (pc := 425) hx hb xd_law_425 rfl (lv_at hl 1 rfl) ?_
  refine lv_aload_n (pc := 426) hx hb xd_law_426 rfl (lv_at hl 0 rfl) ?_
  refine lv_iload_n (pc := 427) hx hb xd_law_427 rfl (lv_at hl 3 rfl) ?_
  refine lv_iconst (pc := 428) (v := (1 : Int32)) hx hb xd_law_428 (by decide) ?_
  refine lv_iadd (pc := 429) hx hb xd_law_429 ?_
  refine va_sld (pc := 430) hx hb hX hbl hbA hS hi1 xd_law_430 ?_
  rw [ew1]
  have h := op_place M w1 hI
  refine xr_callL (pc := 431) (As := [.int w1]) (rest := []) hC hR hS (xc_CA_place l G h) xo_C0 xv_law_43 ⟨rfl, rfl, Nat.le_of_ble_eq_true rfl, Nat.le_of_ble_eq_true rfl⟩ rfl hl.1 rfl (Nat.le_of_ble_eq_true rfl) (Nat.le_of_ble_eq_true rfl) (Nat.le_of_ble_eq_true rfl) xd_law_431 (fun r0 M H locs h hR hS => ?_)
  refine lv_aload_n (pc := 434) hx hb xd_law_434 rfl (lv_at hl 2 rfl) ?_
  refine lv_aload_n (pc := 435) hx hb xd_law_435 rfl (lv_at hl 0 rfl) ?_
  refine lv_iload_n (pc := 436) hx hb xd_law_436 rfl (lv_at hl 3 rfl) ?_
  refine lv_iconst (pc := 437) (v := (1 : Int32)) hx hb xd_law_437 (by decide) ?_
  refine lv_iadd (pc := 438) hx hb xd_law_438 ?_
  refine va_sld (pc := 439) hx hb hX hbl hbA hS hi1 xd_law_439 ?_
  rw [ew1]
  refine xr_callL (pc := 440) (As := [.int w1]) (rest := [.int r0]) hC hR hS (xc_Mo_place l G h) xo_M0 xv_law_46 ⟨rfl, rfl, Nat.le_of_ble_eq_true rfl, Nat.le_of_ble_eq_true rfl⟩ rfl hl.1 rfl (Nat.le_of_ble_eq_true rfl) (Nat.le_of_ble_eq_true rfl) (Nat.le_of_ble_eq_true rfl) xd_law_440 (fun r1 M H locs h hR hS => ?_)
  refine lv_icmp_eq (pc := 443) (tgt := 1248) hx hb xd_law_443 (by decide) (fun _ => ?_) (fun hq => absurd h.1 hq)
  exact tail M H locs ls h.2 hR hS hl
set_option maxHeartbeats 4000000 in
set_option maxRecDepth 100000 in
theorem lc_8 {p : Program} {l : Launch} {e : Env} {s : State} {m : MethodId} {below : List Frame} {meth : Method} {c : Code} {G : xG} {b L : Nat} {xs : Nat → Int32} (hC : xC p s m #[Value.ref b] c code R_law 4 G) (hX : va_X b L xs s s.heap) (hbl : b < s.heap.size) (hbA : ¬ xA G b) {xInv : xM → Prop} {x3 : Int32} {w1 : Int32} (hi1 : vp_in (x3 + (1 : Int32)) L) (ew1 : xs (x3 + (1 : Int32)).toNatClampNeg = w1) {w2 : Int32} (hi2 : vp_in (x3 + (2 : Int32)) L) (ew2 : xs (x3 + (2 : Int32)).toNatClampNeg = w2) {w3 : Int32} (hi3 : vp_in (x3 + (3 : Int32)) L) (ew3 : xs (x3 + (3 : Int32)).toNatClampNeg = w3) (tail : ∀ (M : xM) (H : Heap) (locs : List Loc) (ls : Array Slot), xInv M → xRp G M H → va_S (xA G) s.heap H locs → lv_has ls 4 [(0, .ref b), (1, .ref (G.1 8 0)), (2, .ref (G.1 9 0)), (3, .int x3)] → W p l e room_1 s m #[Value.ref b] below meth c H locs 600000 7302250 (lw_Z below #[Value.ref b] s) (F0 m 1248 ls [])) (op_seen : ∀ (M : xM) (a b : Int32), xInv M → xw_CA_seen a b M (fun r M1 => xw_Mo_seen a b M1 (fun q M2 => r = q ∧ xInv M2))) (M : xM) (H : Heap) (locs : List Loc) (ls : Array Slot) (hI : xInv M) (hR : xRp G M H) (hS : va_S (xA G) s.heap H locs) (hl : lv_has ls 4 [(0, .ref b), (1, .ref (G.1 8 0)), (2, .ref (G.1 9 0)), (3, .int x3)]) : W p l e room_1 s m #[Value.ref b] below meth c H locs 600000 7302250 (lw_Z below #[Value.ref b] s) (F0 m 448 ls []) := by
  have hx := hC.1
  have hb := hC.2.1
  refine lv_aload_n (pc := 448) hx hb xd_law_448 rfl (lv_at hl 1 rfl) ?_
  refine lv_aload_n (pc := 449) hx hb xd_law_449 rfl (lv_at hl 0 rfl) ?_
  refine lv_iload_n (pc := 450) hx hb xd_law_450 rfl (lv_at hl 3 rfl) ?_
  refine lv_iconst (pc := 451) (v := (1 : Int32)) hx hb xd_law_451 (by decide) ?_
  refine lv_iadd (pc := 452) hx hb xd_law_452 ?_
  refine va_sld (pc := 453) hx hb hX hbl hbA hS hi1 xd_law_453 ?_
  rw [ew1]
  refine lv_aload_n (pc := 454) hx hb xd_law_454 rfl (lv_at hl 0 rfl) ?_
  refine lv_iload_n (pc := 455) hx hb xd_law_455 rfl (lv_at hl 3 rfl) ?_
  refine lv_iconst (pc := 456) (v := (2 : Int32)) hx hb xd_law_456 (by decide) ?_
  refine lv_iadd (pc := 457) hx hb xd_law_457 ?_
  refine va_sld (pc := 458) hx hb hX hbl hbA hS hi2 xd_law_458 ?_
  rw [ew2]
  have h := op_seen M w1 w2 hI
  refine xr_callL (pc := 459) (As := [.int w1, .int w2]) (rest := []) hC hR hS (xc_CA_seen l G h) xo_C0 xv_law_47 ⟨rfl, rfl, Nat.le_of_ble_eq_true rfl, Nat.le_of_ble_eq_true rfl⟩ rfl hl.1 rfl (Nat.le_of_ble_eq_true rfl) (Nat.le_of_ble_eq_true rfl) (Nat.le_of_ble_eq_true rfl) xd_law_459 (fun r0 M H locs h hR hS => ?_)
  refine lv_aload_n (pc := 462) hx hb xd_law_462 rfl (lv_at hl 2 rfl) ?_
  refine lv_aload_n (pc := 463) hx hb xd_law_463 rfl (lv_at hl 0 rfl) ?_
  refine lv_iload_n (pc := 464) hx hb xd_law_464 rfl (lv_at hl 3 rfl) ?_
  refine lv_iconst (pc := 465) (v := (1 : Int32)) hx hb xd_law_465 (by decide) ?_
  refine lv_iadd (pc := 466) hx hb xd_law_466 ?_
  refine va_sld (pc := 467) hx hb hX hbl hbA hS hi1 xd_law_467 ?_
  rw [ew1]
  refine lv_aload_n (pc := 468) hx hb xd_law_468 rfl (lv_at hl 0 rfl) ?_
  refine lv_iload_n (pc := 469) hx hb xd_law_469 rfl (lv_at hl 3 rfl) ?_
  refine lv_iconst (pc := 470) (v := (2 : Int32)) hx hb xd_law_470 (by decide) ?_
  refine lv_iadd (pc := 471) hx hb xd_law_471 ?_
  refine va_sld (pc := 472) hx hb hX hbl hbA hS hi2 xd_law_472 ?_
  rw [ew2]
  refine xr_callL (pc := 473) (As := [.int w1, .int w2]) (rest := [.int r0]) hC hR hS (xc_Mo_seen l G h) xo_M0 xv_law_51 ⟨rfl, rfl, Nat.le_of_ble_eq_true rfl, Nat.le_of_ble_eq_true rfl⟩ rfl hl.1 rfl (Nat.le_of_ble_eq_true rfl) (Nat.le_of_ble_eq_true rfl) (Nat.le_of_ble_eq_true rfl) xd_law_473 (fun r1 M H locs h hR hS => ?_)
  refine lv_icmp_eq (pc := 476) (tgt := 1248) hx hb xd_law_476 (by decide) (fun _ => ?_) (fun hq => absurd h.1 hq)
  exact tail M H locs ls h.2 hR hS hl
set_option maxHeartbeats 4000000 in
set_option maxRecDepth 100000 in
theorem lc_9 {p : Program} {l : Launch} {e : Env} {s : State} {m : MethodId} {below : List Frame} {meth : Method} {c : Code} {G : xG} {b L : Nat} {xs : Nat → Int32} (hC : xC p s m #[Value.ref b] c code R_law 4 G) (hX : va_X b L xs s s.heap) (hbl : b < s.heap.size) (hbA : ¬ xA G b) {xInv : xM → Prop} {x3 : Int32} {w1 : Int32} (hi1 : vp_in (x3 + (1 : Int32)) L) (ew1 : xs (x3 + (1 : Int32)).toNatClampNeg = w1) {w2 : Int32} (hi2 : vp_in (x3 + (2 : Int32)) L) (ew2 : xs (x3 + (2 : Int32)).toNatClampNeg = w2) {w3 : Int32} (hi3 : vp_in (x3 + (3 : Int32)) L) (ew3 : xs (x3 + (3 : Int32)).toNatClampNeg = w3) (tail : ∀ (M : xM) (H : Heap) (locs : List Loc) (ls : Array Slot), xInv M → xRp G M H → va_S (xA G) s.heap H locs → lv_has ls 4 [(0, .ref b), (1, .ref (G.1 8 0)), (2, .ref (G.1 9 0)), (3, .int x3)] → W p l e room_1 s m #[Value.ref b] below meth c H locs 600000 7302250 (lw_Z below #[Value.ref b] s) (F0 m 1248 ls [])) (op_light : ∀ (M : xM) (a : Int32), xInv M → xw_CA_light a M (fun r M1 => xw_Mo_light a M1 (fun q M2 => r = q ∧ xInv M2))) (M : xM) (H : Heap) (locs : List Loc) (ls : Array Slot) (hI : xInv M) (hR : xRp G M H) (hS : va_S (xA G) s.heap H locs) (hl : lv_has ls 4 [(0, .ref b), (1, .ref (G.1 8 0)), (2, .ref (G.1 9 0)), (3, .int x3)]) : W p l e room_1 s m #[Value.ref b] below meth c H locs 600000 7302250 (lw_Z below #[Value.ref b] s) (F0 m 481 ls []) := by
  have hx := hC.1
  have hb := hC.2.1
  refine lv_aload_n (pc := 481) hx hb xd_law_481 rfl (lv_at hl 1 rfl) ?_
  refine lv_aload_n (pc := 482) hx hb xd_law_482 rfl (lv_at hl 0 rfl) ?_
  refine lv_iload_n (pc := 483) hx hb xd_law_483 rfl (lv_at hl 3 rfl) ?_
  refine lv_iconst (pc := 484) (v := (1 : Int32)) hx hb xd_law_484 (by decide) ?_
  refine lv_iadd (pc := 485) hx hb xd_law_485 ?_
  refine va_sld (pc := 486) hx hb hX hbl hbA hS hi1 xd_law_486 ?_
  rw [ew1]
  have h := op_light M w1 hI
  refine xr_callL (pc := 487) (As := [.int w1]) (rest := []) hC hR hS (xc_CA_light l G h) xo_C0 xv_law_52 ⟨rfl, rfl, Nat.le_of_ble_eq_true rfl, Nat.le_of_ble_eq_true rfl⟩ rfl hl.1 rfl (Nat.le_of_ble_eq_true rfl) (Nat.le_of_ble_eq_true rfl) (Nat.le_of_ble_eq_true rfl) xd_law_487 (fun r0 M H locs h hR hS => ?_)
  refine lv_aload_n (pc := 490) hx hb xd_law_490 rfl (lv_at hl 2 rfl) ?_
  refine lv_aload_n (pc := 491) hx hb xd_law_491 rfl (lv_at hl 0 rfl) ?_
  refine lv_iload_n (pc := 492) hx hb xd_law_492 rfl (lv_at hl 3 rfl) ?_
  refine lv_iconst (pc := 493) (v := (1 : Int32)) hx hb xd_law_493 (by decide) ?_
  refine lv_iadd (pc := 494) hx hb xd_law_494 ?_
  refine va_sld (pc := 495) hx hb hX hbl hbA hS hi1 xd_law_495 ?_
  rw [ew1]
  refine xr_callL (pc := 496) (As := [.int w1]) (rest := [.int r0]) hC hR hS (xc_Mo_light l G h) xo_M0 xv_law_55 ⟨rfl, rfl, Nat.le_of_ble_eq_true rfl, Nat.le_of_ble_eq_true rfl⟩ rfl hl.1 rfl (Nat.le_of_ble_eq_true rfl) (Nat.le_of_ble_eq_true rfl) (Nat.le_of_ble_eq_true rfl) xd_law_496 (fun r1 M H locs h hR hS => ?_)
  refine lv_icmp_eq (pc := 499) (tgt := 1248) hx hb xd_law_499 (by decide) (fun _ => ?_) (fun hq => absurd h.1 hq)
  exact tail M H locs ls h.2 hR hS hl
set_option maxHeartbeats 4000000 in
set_option maxRecDepth 100000 in
theorem lc_10 {p : Program} {l : Launch} {e : Env} {s : State} {m : MethodId} {below : List Frame} {meth : Method} {c : Code} {G : xG} {b L : Nat} {xs : Nat → Int32} (hC : xC p s m #[Value.ref b] c code R_law 4 G) (hX : va_X b L xs s s.heap) (hbl : b < s.heap.size) (hbA : ¬ xA G b) {xInv : xM → Prop} {x3 : Int32} {w1 : Int32} (hi1 : vp_in (x3 + (1 : Int32)) L) (ew1 : xs (x3 + (1 : Int32)).toNatClampNeg = w1) {w2 : Int32} (hi2 : vp_in (x3 + (2 : Int32)) L) (ew2 : xs (x3 + (2 : Int32)).toNatClampNeg = w2) {w3 : Int32} (hi3 : vp_in (x3 + (3 : Int32)) L) (ew3 : xs (x3 + (3 : Int32)).toNatClampNeg = w3) (tail : ∀ (M : xM) (H : Heap) (locs : List Loc) (ls : Array Slot), xInv M → xRp G M H → va_S (xA G) s.heap H locs → lv_has ls 4 [(0, .ref b), (1, .ref (G.1 8 0)), (2, .ref (G.1 9 0)), (3, .int x3)] → W p l e room_1 s m #[Value.ref b] below meth c H locs 600000 7302250 (lw_Z below #[Value.ref b] s) (F0 m 1248 ls [])) (op_distance : ∀ (M : xM) (a b c : Int32), xInv M → xw_CA_distance a b c M (fun r M1 => xw_Mo_distance a b c M1 (fun q M2 => r = q ∧ xInv M2))) (M : xM) (H : Heap) (locs : List Loc) (ls : Array Slot) (hI : xInv M) (hR : xRp G M H) (hS : va_S (xA G) s.heap H locs) (hl : lv_has ls 4 [(0, .ref b), (1, .ref (G.1 8 0)), (2, .ref (G.1 9 0)), (3, .int x3)]) : W p l e room_1 s m #[Value.ref b] below meth c H locs 600000 7302250 (lw_Z below #[Value.ref b] s) (F0 m 504 ls []) := by
  have hx := hC.1
  have hb := hC.2.1
  refine lv_aload_n (pc := 504) hx hb xd_law_504 rfl (lv_at hl 1 rfl) ?_
  refine lv_aload_n (pc := 505) hx hb xd_law_505 rfl (lv_at hl 0 rfl) ?_
  refine lv_iload_n (pc := 506) hx hb xd_law_506 rfl (lv_at hl 3 rfl) ?_
  refine lv_iconst (pc := 507) (v := (1 : Int32)) hx hb xd_law_507 (by decide) ?_
  refine lv_iadd (pc := 508) hx hb xd_law_508 ?_
  refine va_sld (pc := 509) hx hb hX hbl hbA hS hi1 xd_law_509 ?_
  rw [ew1]
  refine lv_aload_n (pc := 510) hx hb xd_law_510 rfl (lv_at hl 0 rfl) ?_
  refine lv_iload_n (pc := 511) hx hb xd_law_511 rfl (lv_at hl 3 rfl) ?_
  refine lv_iconst (pc := 512) (v := (2 : Int32)) hx hb xd_law_512 (by decide) ?_
  refine lv_iadd (pc := 513) hx hb xd_law_513 ?_
  refine va_sld (pc := 514) hx hb hX hbl hbA hS hi2 xd_law_514 ?_
  rw [ew2]
  refine lv_aload_n (pc := 515) hx hb xd_law_515 rfl (lv_at hl 0 rfl) ?_
  refine lv_iload_n (pc := 516) hx hb xd_law_516 rfl (lv_at hl 3 rfl) ?_
  refine lv_iconst (pc := 517) (v := (3 : Int32)) hx hb xd_law_517 (by decide) ?_
  refine lv_iadd (pc := 518) hx hb xd_law_518 ?_
  refine va_sld (pc := 519) hx hb hX hbl hbA hS hi3 xd_law_519 ?_
  rw [ew3]
  have h := op_distance M w1 w2 w3 hI
  refine xr_callL (pc := 520) (As := [.int w1, .int w2, .int w3]) (rest := []) hC hR hS (xc_CA_distance l G h) xo_C0 xv_law_56 ⟨rfl, rfl, Nat.le_of_ble_eq_true rfl, Nat.le_of_ble_eq_true rfl⟩ rfl hl.1 rfl (Nat.le_of_ble_eq_true rfl) (Nat.le_of_ble_eq_true rfl) (Nat.le_of_ble_eq_true rfl) xd_law_520 (fun r0 M H locs h hR hS => ?_)
  refine lv_aload_n (pc := 523) hx hb xd_law_523 rfl (lv_at hl 2 rfl) ?_
  refine lv_aload_n (pc := 524) hx hb xd_law_524 rfl (lv_at hl 0 rfl) ?_
  refine lv_iload_n (pc := 525) hx hb xd_law_525 rfl (lv_at hl 3 rfl) ?_
  refine lv_iconst (pc := 526) (v := (1 : Int32)) hx hb xd_law_526 (by decide) ?_
  refine lv_iadd (pc := 527) hx hb xd_law_527 ?_
  refine va_sld (pc := 528) hx hb hX hbl hbA hS hi1 xd_law_528 ?_
  rw [ew1]
  refine lv_aload_n (pc := 529) hx hb xd_law_529 rfl (lv_at hl 0 rfl) ?_
  refine lv_iload_n (pc := 530) hx hb xd_law_530 rfl (lv_at hl 3 rfl) ?_
  refine lv_iconst (pc := 531) (v := (2 : Int32)) hx hb xd_law_531 (by decide) ?_
  refine lv_iadd (pc := 532) hx hb xd_law_532 ?_
  refine va_sld (pc := 533) hx hb hX hbl hbA hS hi2 xd_law_533 ?_
  rw [ew2]
  refine lv_aload_n (pc := 534) hx hb xd_law_534 rfl (lv_at hl 0 rfl) ?_
  refine lv_iload_n (pc := 535) hx hb xd_law_535 rfl (lv_at hl 3 rfl) ?_
  refine lv_iconst (pc := 536) (v := (3 : Int32)) hx hb xd_law_536 (by decide) ?_
  refine lv_iadd (pc := 537) hx hb xd_law_537 ?_
  refine va_sld (pc := 538) hx hb hX hbl hbA hS hi3 xd_law_538 ?_
  rw [ew3]
  refine xr_callL (pc := 539) (As := [.int w1, .int w2, .int w3]) (rest := [.int r0]) hC hR hS (xc_Mo_distance l G h) xo_M0 xv_law_59 ⟨rfl, rfl, Nat.le_of_ble_eq_true rfl, Nat.le_of_ble_eq_true rfl⟩ rfl hl.1 rfl (Nat.le_of_ble_eq_true rfl) (Nat.le_of_ble_eq_true rfl) (Nat.le_of_ble_eq_true rfl) xd_law_539 (fun r1 M H locs h hR hS => ?_)
  refine lv_icmp_eq (pc := 542) (tgt := 1248) hx hb xd_law_542 (by decide) (fun _ => ?_) (fun hq => absurd h.1 hq)
  exact tail M H locs ls h.2 hR hS hl
set_option maxHeartbeats 4000000 in
set_option maxRecDepth 100000 in
theorem lc_11 {p : Program} {l : Launch} {e : Env} {s : State} {m : MethodId} {below : List Frame} {meth : Method} {c : Code} {G : xG} {b L : Nat} {xs : Nat → Int32} (hC : xC p s m #[Value.ref b] c code R_law 4 G) (hX : va_X b L xs s s.heap) (hbl : b < s.heap.size) (hbA : ¬ xA G b) {xInv : xM → Prop} {x3 : Int32} {w1 : Int32} (hi1 : vp_in (x3 + (1 : Int32)) L) (ew1 : xs (x3 + (1 : Int32)).toNatClampNeg = w1) {w2 : Int32} (hi2 : vp_in (x3 + (2 : Int32)) L) (ew2 : xs (x3 + (2 : Int32)).toNatClampNeg = w2) {w3 : Int32} (hi3 : vp_in (x3 + (3 : Int32)) L) (ew3 : xs (x3 + (3 : Int32)).toNatClampNeg = w3) (tail : ∀ (M : xM) (H : Heap) (locs : List Loc) (ls : Array Slot), xInv M → xRp G M H → va_S (xA G) s.heap H locs → lv_has ls 4 [(0, .ref b), (1, .ref (G.1 8 0)), (2, .ref (G.1 9 0)), (3, .int x3)] → W p l e room_1 s m #[Value.ref b] below meth c H locs 600000 7302250 (lw_Z below #[Value.ref b] s) (F0 m 1248 ls [])) (op_apart : ∀ (M : xM) (a b : Int32), xInv M → xw_CA_apart a b M (fun r M1 => xw_Mo_apart a b M1 (fun q M2 => r = q ∧ xInv M2))) (M : xM) (H : Heap) (locs : List Loc) (ls : Array Slot) (hI : xInv M) (hR : xRp G M H) (hS : va_S (xA G) s.heap H locs) (hl : lv_has ls 4 [(0, .ref b), (1, .ref (G.1 8 0)), (2, .ref (G.1 9 0)), (3, .int x3)]) : W p l e room_1 s m #[Value.ref b] below meth c H locs 600000 7302250 (lw_Z below #[Value.ref b] s) (F0 m 547 ls []) := by
  have hx := hC.1
  have hb := hC.2.1
  refine lv_aload_n (pc := 547) hx hb xd_law_547 rfl (lv_at hl 1 rfl) ?_
  refine lv_aload_n (pc := 548) hx hb xd_law_548 rfl (lv_at hl 0 rfl) ?_
  refine lv_iload_n (pc := 549) hx hb xd_law_549 rfl (lv_at hl 3 rfl) ?_
  refine lv_iconst (pc := 550) (v := (1 : Int32)) hx hb xd_law_550 (by decide) ?_
  refine lv_iadd (pc := 551) hx hb xd_law_551 ?_
  refine va_sld (pc := 552) hx hb hX hbl hbA hS hi1 xd_law_552 ?_
  rw [ew1]
  refine lv_aload_n (pc := 553) hx hb xd_law_553 rfl (lv_at hl 0 rfl) ?_
  refine lv_iload_n (pc := 554) hx hb xd_law_554 rfl (lv_at hl 3 rfl) ?_
  refine lv_iconst (pc := 555) (v := (2 : Int32)) hx hb xd_law_555 (by decide) ?_
  refine lv_iadd (pc := 556) hx hb xd_law_556 ?_
  refine va_sld (pc := 557) hx hb hX hbl hbA hS hi2 xd_law_557 ?_
  rw [ew2]
  have h := op_apart M w1 w2 hI
  refine xr_callL (pc := 558) (As := [.int w1, .int w2]) (rest := []) hC hR hS (xc_CA_apart l G h) xo_C0 xv_law_60 ⟨rfl, rfl, Nat.le_of_ble_eq_true rfl, Nat.le_of_ble_eq_true rfl⟩ rfl hl.1 rfl (Nat.le_of_ble_eq_true rfl) (Nat.le_of_ble_eq_true rfl) (Nat.le_of_ble_eq_true rfl) xd_law_558 (fun r0 M H locs h hR hS => ?_)
  refine lv_aload_n (pc := 561) hx hb xd_law_561 rfl (lv_at hl 2 rfl) ?_
  refine lv_aload_n (pc := 562) hx hb xd_law_562 rfl (lv_at hl 0 rfl) ?_
  refine lv_iload_n (pc := 563) hx hb xd_law_563 rfl (lv_at hl 3 rfl) ?_
  refine lv_iconst (pc := 564) (v := (1 : Int32)) hx hb xd_law_564 (by decide) ?_
  refine lv_iadd (pc := 565) hx hb xd_law_565 ?_
  refine va_sld (pc := 566) hx hb hX hbl hbA hS hi1 xd_law_566 ?_
  rw [ew1]
  refine lv_aload_n (pc := 567) hx hb xd_law_567 rfl (lv_at hl 0 rfl) ?_
  refine lv_iload_n (pc := 568) hx hb xd_law_568 rfl (lv_at hl 3 rfl) ?_
  refine lv_iconst (pc := 569) (v := (2 : Int32)) hx hb xd_law_569 (by decide) ?_
  refine lv_iadd (pc := 570) hx hb xd_law_570 ?_
  refine va_sld (pc := 571) hx hb hX hbl hbA hS hi2 xd_law_571 ?_
  rw [ew2]
  refine xr_callL (pc := 572) (As := [.int w1, .int w2]) (rest := [.int r0]) hC hR hS (xc_Mo_apart l G h) xo_M0 xv_law_63 ⟨rfl, rfl, Nat.le_of_ble_eq_true rfl, Nat.le_of_ble_eq_true rfl⟩ rfl hl.1 rfl (Nat.le_of_ble_eq_true rfl) (Nat.le_of_ble_eq_true rfl) (Nat.le_of_ble_eq_true rfl) xd_law_572 (fun r1 M H locs h hR hS => ?_)
  refine lv_icmp_eq (pc := 575) (tgt := 1248) hx hb xd_law_575 (by decide) (fun _ => ?_) (fun hq => absurd h.1 hq)
  exact tail M H locs ls h.2 hR hS hl
