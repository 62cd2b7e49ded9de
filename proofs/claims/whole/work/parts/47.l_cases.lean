def SK_0 (Rel : ZS → Prop) : Prop := ∀ (z : ZS) (p1 : Int32), Rel z → V_X11_air z p1 (fun r z1 => V_X12_air z1 p1 (fun r2 z2 => r2 = r ∧ Rel z2))
set_option maxHeartbeats 4000000 in
theorem L_0 {p : Program} {l : Launch} {e : Env} {s : State} {m : MethodId} {below : List Frame} {meth : Method} {c : Code} {D : va_G} {ad : Nat → Nat → Nat} {cs : Nat → ClassId} {sk : (Nat → Nat) × (Nat → Nat)} {b Ln : Nat} {xs : Nat → Int32} {Q : State → Prop} {z : ZS} {H : Heap} {locs : List Loc} {ls : Array Slot} {cells slots j : Nat} (hst : l.stackTraces = false) (C0 : LX p m c s b Ln xs D cs sk) (Rel : ZS → Prop) (SK : SK_0 Rel) (hz : Rel z) (hj : j + 7 ≤ Ln) (hw : OW D ad cs (fun q : Nat => s.heap.size ≤ q) s.heap z H locs) (hl : lv_has ls 8 [(0, .ref b), (1, .ref (ad 0 100)), (2, .ref (ad 14 100)), (3, .ref (ad 15 0)), (4, .int (nI j))]) (hce : cells + 300 ≤ 600128) (hsl : slots + 3000 ≤ 7301098) (kk : ∀ (z1 : ZS) (H1 : Heap) (locs1 : List Loc), Rel z1 → OW D ad cs (fun q : Nat => s.heap.size ≤ q) s.heap z1 H1 locs1 → W p l e room_1 s m #[Value.ref b] below meth c H1 locs1 (cells + 300) (slots + 3000) Q (F0 m 2120 ls [])) : W p l e room_1 s m #[Value.ref b] below meth c H locs cells slots Q (F0 m 200 ls []) := by
  have E := C0.1
  have hx := E.1.1
  have hb := E.1.2.1
  have hA : ∀ q, s.heap.size ≤ q → (fun q : Nat => s.heap.size ≤ q) q := fun _ h => h
  refine lv_aload_n hx hb dL_law_200 rfl (lv_at hl 1 rfl) ?_
  refine lv_aload_n hx hb dL_law_201 rfl (lv_at hl 0 rfl) ?_
  refine lv_iload hx hb dL_law_202 (lv_at hl 4 rfl) ?_
  refine lv_iconst (v := 1) hx hb dL_law_204 (by decide) ?_
  refine lv_iadd hx hb dL_law_205 ?_
  refine lw_ld C0 hw hj (k := 1) (by decide) rfl dL_law_206 ?_
  refine xcVI (As := [.int (xs (j + 1))]) (rest := []) E hw hA (c_X11_air l D ad cs sk z (xs (j + 1)) _ (SK z (xs (j + 1)) hz)) lk_11_air lo_11_air ⟨Nat.le_of_ble_eq_true rfl, Nat.le_of_ble_eq_true rfl⟩ (xrc E hw ky_0_100 rfl) rfl hl.1 rfl (Nat.le_of_ble_eq_true rfl) dL_law_207 ⟨by simp only [rmq, room_1]; omega, by simp only [rmq, room_1]; omega⟩ (fun r1 z1 H locs hp hw => ?_)
  refine lv_aload_n hx hb dL_law_210 rfl (lv_at hl 2 rfl) ?_
  refine lv_aload_n hx hb dL_law_211 rfl (lv_at hl 0 rfl) ?_
  refine lv_iload hx hb dL_law_212 (lv_at hl 4 rfl) ?_
  refine lv_iconst (v := 1) hx hb dL_law_214 (by decide) ?_
  refine lv_iadd hx hb dL_law_215 ?_
  refine lw_ld C0 hw hj (k := 1) (by decide) rfl dL_law_216 ?_
  refine xcVI (As := [.int (xs (j + 1))]) (rest := [.int r1]) E hw hA (c_X12_air l D ad cs sk z1 (xs (j + 1)) _ hp) lk_12_air lo_12_air ⟨Nat.le_of_ble_eq_true rfl, Nat.le_of_ble_eq_true rfl⟩ (xrc E hw ky_14_100 rfl) rfl hl.1 rfl (Nat.le_of_ble_eq_true rfl) dL_law_217 ⟨by simp only [rmq, room_1]; omega, by simp only [rmq, room_1]; omega⟩ (fun r2 z2 H locs hp hw => ?_)
  refine lv_icmp_eq (tgt := 2120) hx hb dL_law_220 (by decide) (fun _ => ?_) (fun c9 => absurd hp.1.symm c9)
  exact W.widen (k := cells + 300) (n := slots + 3000) (by simp only [rmq]; omega) (by simp only [rmq]; omega) (kk z2 H locs hp.2 hw)
def SK_1 (Rel : ZS → Prop) : Prop := ∀ (z : ZS) (p1 p2 : Int32), (p2 = 0 ∨ p2 = 1) → Rel z → V_X11_wind z p1 p2 (fun r z1 => V_X12_wind z1 p1 p2 (fun r2 z2 => r2 = r ∧ Rel z2))
set_option maxHeartbeats 4000000 in
theorem L_1 {p : Program} {l : Launch} {e : Env} {s : State} {m : MethodId} {below : List Frame} {meth : Method} {c : Code} {D : va_G} {ad : Nat → Nat → Nat} {cs : Nat → ClassId} {sk : (Nat → Nat) × (Nat → Nat)} {b Ln : Nat} {xs : Nat → Int32} {Q : State → Prop} {z : ZS} {H : Heap} {locs : List Loc} {ls : Array Slot} {cells slots j : Nat} (hst : l.stackTraces = false) (C0 : LX p m c s b Ln xs D cs sk) (Rel : ZS → Prop) (SK : SK_1 Rel) (hz : Rel z) (hj : j + 7 ≤ Ln) (hw : OW D ad cs (fun q : Nat => s.heap.size ≤ q) s.heap z H locs) (hl : lv_has ls 8 [(0, .ref b), (1, .ref (ad 0 100)), (2, .ref (ad 14 100)), (3, .ref (ad 15 0)), (4, .int (nI j))]) (hce : cells + 300 ≤ 600128) (hsl : slots + 3000 ≤ 7301098) (kk : ∀ (z1 : ZS) (H1 : Heap) (locs1 : List Loc), Rel z1 → OW D ad cs (fun q : Nat => s.heap.size ≤ q) s.heap z1 H1 locs1 → W p l e room_1 s m #[Value.ref b] below meth c H1 locs1 (cells + 300) (slots + 3000) Q (F0 m 2120 ls [])) : W p l e room_1 s m #[Value.ref b] below meth c H locs cells slots Q (F0 m 225 ls []) := by
  have E := C0.1
  have hx := E.1.1
  have hb := E.1.2.1
  have hA : ∀ q, s.heap.size ≤ q → (fun q : Nat => s.heap.size ≤ q) q := fun _ h => h
  refine lv_aload_n hx hb dL_law_225 rfl (lv_at hl 1 rfl) ?_
  refine lv_aload_n hx hb dL_law_226 rfl (lv_at hl 0 rfl) ?_
  refine lv_iload hx hb dL_law_227 (lv_at hl 4 rfl) ?_
  refine lv_iconst (v := 1) hx hb dL_law_229 (by decide) ?_
  refine lv_iadd hx hb dL_law_230 ?_
  refine lw_ld C0 hw hj (k := 1) (by decide) rfl dL_law_231 ?_
  refine lv_aload_n hx hb dL_law_232 rfl (lv_at hl 0 rfl) ?_
  refine lv_iload hx hb dL_law_233 (lv_at hl 4 rfl) ?_
  refine lv_iconst (v := 2) hx hb dL_law_235 (by decide) ?_
  refine lv_iadd hx hb dL_law_236 ?_
  refine lw_ld C0 hw hj (k := 2) (by decide) rfl dL_law_237 ?_
  refine lv_if_eq (tgt := 245) hx hb dL_law_238 (by decide) (fun c1 => ?_) (fun c1 => ?_)
  · refine lv_iconst (v := 0) hx hb dL_law_245 (by decide) ?_
    refine xcVI (As := [.int (xs (j + 1)), .int (0 : Int32)]) (rest := []) E hw hA (c_X11_wind l D ad cs sk z (xs (j + 1)) (0 : Int32) _ (SK z (xs (j + 1)) (0 : Int32) (by decide) hz)) lk_11_wind lo_11_wind ⟨Nat.le_of_ble_eq_true rfl, Nat.le_of_ble_eq_true rfl⟩ (xrc E hw ky_0_100 rfl) rfl hl.1 rfl (Nat.le_of_ble_eq_true rfl) dL_law_246 ⟨by simp only [rmq, room_1]; omega, by simp only [rmq, room_1]; omega⟩ (fun r1 z1 H locs hp hw => ?_)
    refine lv_aload_n hx hb dL_law_249 rfl (lv_at hl 2 rfl) ?_
    refine lv_aload_n hx hb dL_law_250 rfl (lv_at hl 0 rfl) ?_
    refine lv_iload hx hb dL_law_251 (lv_at hl 4 rfl) ?_
    refine lv_iconst (v := 1) hx hb dL_law_253 (by decide) ?_
    refine lv_iadd hx hb dL_law_254 ?_
    refine lw_ld C0 hw hj (k := 1) (by decide) rfl dL_law_255 ?_
    refine lv_aload_n hx hb dL_law_256 rfl (lv_at hl 0 rfl) ?_
    refine lv_iload hx hb dL_law_257 (lv_at hl 4 rfl) ?_
    refine lv_iconst (v := 2) hx hb dL_law_259 (by decide) ?_
    refine lv_iadd hx hb dL_law_260 ?_
    refine lw_ld C0 hw hj (k := 2) (by decide) rfl dL_law_261 ?_
    refine lv_if_eq (tgt := 269) hx hb dL_law_262 (by decide) (fun _ => ?_) (fun c8 => absurd c1 c8)
    refine lv_iconst (v := 0) hx hb dL_law_269 (by decide) ?_
    refine xcVI (As := [.int (xs (j + 1)), .int (0 : Int32)]) (rest := [.int r1]) E hw hA (c_X12_wind l D ad cs sk z1 (xs (j + 1)) (0 : Int32) _ hp) lk_12_wind lo_12_wind ⟨Nat.le_of_ble_eq_true rfl, Nat.le_of_ble_eq_true rfl⟩ (xrc E hw ky_14_100 rfl) rfl hl.1 rfl (Nat.le_of_ble_eq_true rfl) dL_law_270 ⟨by simp only [rmq, room_1]; omega, by simp only [rmq, room_1]; omega⟩ (fun r2 z2 H locs hp hw => ?_)
    refine lv_icmp_eq (tgt := 2120) hx hb dL_law_273 (by decide) (fun _ => ?_) (fun c9 => absurd hp.1.symm c9)
    exact W.widen (k := cells + 300) (n := slots + 3000) (by simp only [rmq]; omega) (by simp only [rmq]; omega) (kk z2 H locs hp.2 hw)
  · refine lv_iconst (v := 1) hx hb dL_law_241 (by decide) ?_
    refine lv_goto (tgt := 246) hx hb dL_law_242 (by decide) ?_
    refine xcVI (As := [.int (xs (j + 1)), .int (1 : Int32)]) (rest := []) E hw hA (c_X11_wind l D ad cs sk z (xs (j + 1)) (1 : Int32) _ (SK z (xs (j + 1)) (1 : Int32) (by decide) hz)) lk_11_wind lo_11_wind ⟨Nat.le_of_ble_eq_true rfl, Nat.le_of_ble_eq_true rfl⟩ (xrc E hw ky_0_100 rfl) rfl hl.1 rfl (Nat.le_of_ble_eq_true rfl) dL_law_246 ⟨by simp only [rmq, room_1]; omega, by simp only [rmq, room_1]; omega⟩ (fun r1 z1 H locs hp hw => ?_)
    refine lv_aload_n hx hb dL_law_249 rfl (lv_at hl 2 rfl) ?_
    refine lv_aload_n hx hb dL_law_250 rfl (lv_at hl 0 rfl) ?_
    refine lv_iload hx hb dL_law_251 (lv_at hl 4 rfl) ?_
    refine lv_iconst (v := 1) hx hb dL_law_253 (by decide) ?_
    refine lv_iadd hx hb dL_law_254 ?_
    refine lw_ld C0 hw hj (k := 1) (by decide) rfl dL_law_255 ?_
    refine lv_aload_n hx hb dL_law_256 rfl (lv_at hl 0 rfl) ?_
    refine lv_iload hx hb dL_law_257 (lv_at hl 4 rfl) ?_
    refine lv_iconst (v := 2) hx hb dL_law_259 (by decide) ?_
    refine lv_iadd hx hb dL_law_260 ?_
    refine lw_ld C0 hw hj (k := 2) (by decide) rfl dL_law_261 ?_
    refine lv_if_eq (tgt := 269) hx hb dL_law_262 (by decide) (fun c8 => absurd c8 c1) (fun _ => ?_)
    refine lv_iconst (v := 1) hx hb dL_law_265 (by decide) ?_
    refine lv_goto (tgt := 270) hx hb dL_law_266 (by decide) ?_
    refine xcVI (As := [.int (xs (j + 1)), .int (1 : Int32)]) (rest := [.int r1]) E hw hA (c_X12_wind l D ad cs sk z1 (xs (j + 1)) (1 : Int32) _ hp) lk_12_wind lo_12_wind ⟨Nat.le_of_ble_eq_true rfl, Nat.le_of_ble_eq_true rfl⟩ (xrc E hw ky_14_100 rfl) rfl hl.1 rfl (Nat.le_of_ble_eq_true rfl) dL_law_270 ⟨by simp only [rmq, room_1]; omega, by simp only [rmq, room_1]; omega⟩ (fun r2 z2 H locs hp hw => ?_)
    refine lv_icmp_eq (tgt := 2120) hx hb dL_law_273 (by decide) (fun _ => ?_) (fun c9 => absurd hp.1.symm c9)
    exact W.widen (k := cells + 300) (n := slots + 3000) (by simp only [rmq]; omega) (by simp only [rmq]; omega) (kk z2 H locs hp.2 hw)
def SK_2 (Rel : ZS → Prop) : Prop := ∀ (z : ZS) (p1 p2 : Int32), Rel z → V_X11_set z p1 p2 (fun r z1 => V_X12_set z1 p1 p2 (fun r2 z2 => r2 = r ∧ Rel z2))
set_option maxHeartbeats 4000000 in
theorem L_2 {p : Program} {l : Launch} {e : Env} {s : State} {m : MethodId} {below : List Frame} {meth : Method} {c : Code} {D : va_G} {ad : Nat → Nat → Nat} {cs : Nat → ClassId} {sk : (Nat → Nat) × (Nat → Nat)} {b Ln : Nat} {xs : Nat → Int32} {Q : State → Prop} {z : ZS} {H : Heap} {locs : List Loc} {ls : Array Slot} {cells slots j : Nat} (hst : l.stackTraces = false) (C0 : LX p m c s b Ln xs D cs sk) (Rel : ZS → Prop) (SK : SK_2 Rel) (hz : Rel z) (hj : j + 7 ≤ Ln) (hw : OW D ad cs (fun q : Nat => s.heap.size ≤ q) s.heap z H locs) (hl : lv_has ls 8 [(0, .ref b), (1, .ref (ad 0 100)), (2, .ref (ad 14 100)), (3, .ref (ad 15 0)), (4, .int (nI j))]) (hce : cells + 300 ≤ 600128) (hsl : slots + 3000 ≤ 7301098) (kk : ∀ (z1 : ZS) (H1 : Heap) (locs1 : List Loc), Rel z1 → OW D ad cs (fun q : Nat => s.heap.size ≤ q) s.heap z1 H1 locs1 → W p l e room_1 s m #[Value.ref b] below meth c H1 locs1 (cells + 300) (slots + 3000) Q (F0 m 2120 ls [])) : W p l e room_1 s m #[Value.ref b] below meth c H locs cells slots Q (F0 m 278 ls []) := by
  have E := C0.1
  have hx := E.1.1
  have hb := E.1.2.1
  have hA : ∀ q, s.heap.size ≤ q → (fun q : Nat => s.heap.size ≤ q) q := fun _ h => h
  refine lv_aload_n hx hb dL_law_278 rfl (lv_at hl 1 rfl) ?_
  refine lv_aload_n hx hb dL_law_279 rfl (lv_at hl 0 rfl) ?_
  refine lv_iload hx hb dL_law_280 (lv_at hl 4 rfl) ?_
  refine lv_iconst (v := 1) hx hb dL_law_282 (by decide) ?_
  refine lv_iadd hx hb dL_law_283 ?_
  refine lw_ld C0 hw hj (k := 1) (by decide) rfl dL_law_284 ?_
  refine lv_aload_n hx hb dL_law_285 rfl (lv_at hl 0 rfl) ?_
  refine lv_iload hx hb dL_law_286 (lv_at hl 4 rfl) ?_
  refine lv_iconst (v := 2) hx hb dL_law_288 (by decide) ?_
  refine lv_iadd hx hb dL_law_289 ?_
  refine lw_ld C0 hw hj (k := 2) (by decide) rfl dL_law_290 ?_
  refine xcVI (As := [.int (xs (j + 1)), .int (xs (j + 2))]) (rest := []) E hw hA (c_X11_set l D ad cs sk z (xs (j + 1)) (xs (j + 2)) _ (SK z (xs (j + 1)) (xs (j + 2)) hz)) lk_11_set lo_11_set ⟨Nat.le_of_ble_eq_true rfl, Nat.le_of_ble_eq_true rfl⟩ (xrc E hw ky_0_100 rfl) rfl hl.1 rfl (Nat.le_of_ble_eq_true rfl) dL_law_291 ⟨by simp only [rmq, room_1]; omega, by simp only [rmq, room_1]; omega⟩ (fun r1 z1 H locs hp hw => ?_)
  refine lv_aload_n hx hb dL_law_294 rfl (lv_at hl 2 rfl) ?_
  refine lv_aload_n hx hb dL_law_295 rfl (lv_at hl 0 rfl) ?_
  refine lv_iload hx hb dL_law_296 (lv_at hl 4 rfl) ?_
  refine lv_iconst (v := 1) hx hb dL_law_298 (by decide) ?_
  refine lv_iadd hx hb dL_law_299 ?_
  refine lw_ld C0 hw hj (k := 1) (by decide) rfl dL_law_300 ?_
  refine lv_aload_n hx hb dL_law_301 rfl (lv_at hl 0 rfl) ?_
  refine lv_iload hx hb dL_law_302 (lv_at hl 4 rfl) ?_
  refine lv_iconst (v := 2) hx hb dL_law_304 (by decide) ?_
  refine lv_iadd hx hb dL_law_305 ?_
  refine lw_ld C0 hw hj (k := 2) (by decide) rfl dL_law_306 ?_
  refine xcVI (As := [.int (xs (j + 1)), .int (xs (j + 2))]) (rest := [.int r1]) E hw hA (c_X12_set l D ad cs sk z1 (xs (j + 1)) (xs (j + 2)) _ hp) lk_12_set lo_12_set ⟨Nat.le_of_ble_eq_true rfl, Nat.le_of_ble_eq_true rfl⟩ (xrc E hw ky_14_100 rfl) rfl hl.1 rfl (Nat.le_of_ble_eq_true rfl) dL_law_307 ⟨by simp only [rmq, room_1]; omega, by simp only [rmq, room_1]; omega⟩ (fun r2 z2 H locs hp hw => ?_)
  refine lv_icmp_eq (tgt := 2120) hx hb dL_law_310 (by decide) (fun _ => ?_) (fun c9 => absurd hp.1.symm c9)
  exact W.widen (k := cells + 300) (n := slots + 3000) (by simp only [rmq]; omega) (by simp only [rmq]; omega) (kk z2 H locs hp.2 hw)
def SK_3 (Rel : ZS → Prop) : Prop := ∀ (z : ZS) (p1 p2 : Int32), Rel z → V_X11_faller z p1 p2 (fun r z1 => V_X12_faller z1 p1 p2 (fun r2 z2 => r2 = r ∧ Rel z2))
set_option maxHeartbeats 4000000 in
theorem L_3 {p : Program} {l : Launch} {e : Env} {s : State} {m : MethodId} {below : List Frame} {meth : Method} {c : Code} {D : va_G} {ad : Nat → Nat → Nat} {cs : Nat → ClassId} {sk : (Nat → Nat) × (Nat → Nat)} {b Ln : Nat} {xs : Nat → Int32} {Q : State → Prop} {z : ZS} {H : Heap} {locs : List Loc} {ls : Array Slot} {cells slots j : Nat} (hst : l.stackTraces = false) (C0 : LX p m c s b Ln xs D cs sk) (Rel : ZS → Prop) (SK : SK_3 Rel) (hz : Rel z) (hj : j + 7 ≤ Ln) (hw : OW D ad cs (fun q : Nat => s.heap.size ≤ q) s.heap z H locs) (hl : lv_has ls 8 [(0, .ref b), (1, .ref (ad 0 100)), (2, .ref (ad 14 100)), (3, .ref (ad 15 0)), (4, .int (nI j))]) (hce : cells + 300 ≤ 600128) (hsl : slots + 3000 ≤ 7301098) (kk : ∀ (z1 : ZS) (H1 : Heap) (locs1 : List Loc), Rel z1 → OW D ad cs (fun q : Nat => s.heap.size ≤ q) s.heap z1 H1 locs1 → W p l e room_1 s m #[Value.ref b] below meth c H1 locs1 (cells + 300) (slots + 3000) Q (F0 m 2120 ls [])) : W p l e room_1 s m #[Value.ref b] below meth c H locs cells slots Q (F0 m 315 ls []) := by
  have E := C0.1
  have hx := E.1.1
  have hb := E.1.2.1
  have hA : ∀ q, s.heap.size ≤ q → (fun q : Nat => s.heap.size ≤ q) q := fun _ h => h
  refine lv_aload_n hx hb dL_law_315 rfl (lv_at hl 1 rfl) ?_
  refine lv_aload_n hx hb dL_law_316 rfl (lv_at hl 0 rfl) ?_
  refine lv_iload hx hb dL_law_317 (lv_at hl 4 rfl) ?_
  refine lv_iconst (v := 1) hx hb dL_law_319 (by decide) ?_
  refine lv_iadd hx hb dL_law_320 ?_
  refine lw_ld C0 hw hj (k := 1) (by decide) rfl dL_law_321 ?_
  refine lv_aload_n hx hb dL_law_322 rfl (lv_at hl 0 rfl) ?_
  refine lv_iload hx hb dL_law_323 (lv_at hl 4 rfl) ?_
  refine lv_iconst (v := 2) hx hb dL_law_325 (by decide) ?_
  refine lv_iadd hx hb dL_law_326 ?_
  refine lw_ld C0 hw hj (k := 2) (by decide) rfl dL_law_327 ?_
  refine xcVI (As := [.int (xs (j + 1)), .int (xs (j + 2))]) (rest := []) E hw hA (c_X11_faller l D ad cs sk z (xs (j + 1)) (xs (j + 2)) _ (SK z (xs (j + 1)) (xs (j + 2)) hz)) lk_11_faller lo_11_faller ⟨Nat.le_of_ble_eq_true rfl, Nat.le_of_ble_eq_true rfl⟩ (xrc E hw ky_0_100 rfl) rfl hl.1 rfl (Nat.le_of_ble_eq_true rfl) dL_law_328 ⟨by simp only [rmq, room_1]; omega, by simp only [rmq, room_1]; omega⟩ (fun r1 z1 H locs hp hw => ?_)
  refine lv_aload_n hx hb dL_law_331 rfl (lv_at hl 2 rfl) ?_
  refine lv_aload_n hx hb dL_law_332 rfl (lv_at hl 0 rfl) ?_
  refine lv_iload hx hb dL_law_333 (lv_at hl 4 rfl) ?_
  refine lv_iconst (v := 1) hx hb dL_law_335 (by decide) ?_
  refine lv_iadd hx hb dL_law_336 ?_
  refine lw_ld C0 hw hj (k := 1) (by decide) rfl dL_law_337 ?_
  refine lv_aload_n hx hb dL_law_338 rfl (lv_at hl 0 rfl) ?_
  refine lv_iload hx hb dL_law_339 (lv_at hl 4 rfl) ?_
  refine lv_iconst (v := 2) hx hb dL_law_341 (by decide) ?_
  refine lv_iadd hx hb dL_law_342 ?_
  refine lw_ld C0 hw hj (k := 2) (by decide) rfl dL_law_343 ?_
  refine xcVI (As := [.int (xs (j + 1)), .int (xs (j + 2))]) (rest := [.int r1]) E hw hA (c_X12_faller l D ad cs sk z1 (xs (j + 1)) (xs (j + 2)) _ hp) lk_12_faller lo_12_faller ⟨Nat.le_of_ble_eq_true rfl, Nat.le_of_ble_eq_true rfl⟩ (xrc E hw ky_14_100 rfl) rfl hl.1 rfl (Nat.le_of_ble_eq_true rfl) dL_law_344 ⟨by simp only [rmq, room_1]; omega, by simp only [rmq, room_1]; omega⟩ (fun r2 z2 H locs hp hw => ?_)
  refine lv_icmp_eq (tgt := 2120) hx hb dL_law_347 (by decide) (fun _ => ?_) (fun c9 => absurd hp.1.symm c9)
  exact W.widen (k := cells + 300) (n := slots + 3000) (by simp only [rmq]; omega) (by simp only [rmq]; omega) (kk z2 H locs hp.2 hw)
def SK_4 (Rel : ZS → Prop) : Prop := ∀ (z : ZS) (p1 p2 : Int32), Rel z → V_X11_drift z p1 p2 (fun r z1 => V_X12_drift z1 p1 p2 (fun r2 z2 => r2 = r ∧ Rel z2))
set_option maxHeartbeats 4000000 in
theorem L_4 {p : Program} {l : Launch} {e : Env} {s : State} {m : MethodId} {below : List Frame} {meth : Method} {c : Code} {D : va_G} {ad : Nat → Nat → Nat} {cs : Nat → ClassId} {sk : (Nat → Nat) × (Nat → Nat)} {b Ln : Nat} {xs : Nat → Int32} {Q : State → Prop} {z : ZS} {H : Heap} {locs : List Loc} {ls : Array Slot} {cells slots j : Nat} (hst : l.stackTraces = false) (C0 : LX p m c s b Ln xs D cs sk) (Rel : ZS → Prop) (SK : SK_4 Rel) (hz : Rel z) (hj : j + 7 ≤ Ln) (hw : OW D ad cs (fun q : Nat => s.heap.size ≤ q) s.heap z H locs) (hl : lv_has ls 8 [(0, .ref b), (1, .ref (ad 0 100)), (2, .ref (ad 14 100)), (3, .ref (ad 15 0)), (4, .int (nI j))]) (hce : cells + 300 ≤ 600128) (hsl : slots + 3000 ≤ 7301098) (kk : ∀ (z1 : ZS) (H1 : Heap) (locs1 : List Loc), Rel z1 → OW D ad cs (fun q : Nat => s.heap.size ≤ q) s.heap z1 H1 locs1 → W p l e room_1 s m #[Value.ref b] below meth c H1 locs1 (cells + 300) (slots + 3000) Q (F0 m 2120 ls [])) : W p l e room_1 s m #[Value.ref b] below meth c H locs cells slots Q (F0 m 352 ls []) := by
  have E := C0.1
  have hx := E.1.1
  have hb := E.1.2.1
  have hA : ∀ q, s.heap.size ≤ q → (fun q : Nat => s.heap.size ≤ q) q := fun _ h => h
  refine lv_aload_n hx hb dL_law_352 rfl (lv_at hl 1 rfl) ?_
  refine lv_aload_n hx hb dL_law_353 rfl (lv_at hl 0 rfl) ?_
  refine lv_iload hx hb dL_law_354 (lv_at hl 4 rfl) ?_
  refine lv_iconst (v := 1) hx hb dL_law_356 (by decide) ?_
  refine lv_iadd hx hb dL_law_357 ?_
  refine lw_ld C0 hw hj (k := 1) (by decide) rfl dL_law_358 ?_
  refine lv_aload_n hx hb dL_law_359 rfl (lv_at hl 0 rfl) ?_
  refine lv_iload hx hb dL_law_360 (lv_at hl 4 rfl) ?_
  refine lv_iconst (v := 2) hx hb dL_law_362 (by decide) ?_
  refine lv_iadd hx hb dL_law_363 ?_
  refine lw_ld C0 hw hj (k := 2) (by decide) rfl dL_law_364 ?_
  refine xcVI (As := [.int (xs (j + 1)), .int (xs (j + 2))]) (rest := []) E hw hA (c_X11_drift l D ad cs sk z (xs (j + 1)) (xs (j + 2)) _ (SK z (xs (j + 1)) (xs (j + 2)) hz)) lk_11_drift lo_11_drift ⟨Nat.le_of_ble_eq_true rfl, Nat.le_of_ble_eq_true rfl⟩ (xrc E hw ky_0_100 rfl) rfl hl.1 rfl (Nat.le_of_ble_eq_true rfl) dL_law_365 ⟨by simp only [rmq, room_1]; omega, by simp only [rmq, room_1]; omega⟩ (fun r1 z1 H locs hp hw => ?_)
  refine lv_aload_n hx hb dL_law_368 rfl (lv_at hl 2 rfl) ?_
  refine lv_aload_n hx hb dL_law_369 rfl (lv_at hl 0 rfl) ?_
  refine lv_iload hx hb dL_law_370 (lv_at hl 4 rfl) ?_
  refine lv_iconst (v := 1) hx hb dL_law_372 (by decide) ?_
  refine lv_iadd hx hb dL_law_373 ?_
  refine lw_ld C0 hw hj (k := 1) (by decide) rfl dL_law_374 ?_
  refine lv_aload_n hx hb dL_law_375 rfl (lv_at hl 0 rfl) ?_
  refine lv_iload hx hb dL_law_376 (lv_at hl 4 rfl) ?_
  refine lv_iconst (v := 2) hx hb dL_law_378 (by decide) ?_
  refine lv_iadd hx hb dL_law_379 ?_
  refine lw_ld C0 hw hj (k := 2) (by decide) rfl dL_law_380 ?_
  refine xcVI (As := [.int (xs (j + 1)), .int (xs (j + 2))]) (rest := [.int r1]) E hw hA (c_X12_drift l D ad cs sk z1 (xs (j + 1)) (xs (j + 2)) _ hp) lk_12_drift lo_12_drift ⟨Nat.le_of_ble_eq_true rfl, Nat.le_of_ble_eq_true rfl⟩ (xrc E hw ky_14_100 rfl) rfl hl.1 rfl (Nat.le_of_ble_eq_true rfl) dL_law_381 ⟨by simp only [rmq, room_1]; omega, by simp only [rmq, room_1]; omega⟩ (fun r2 z2 H locs hp hw => ?_)
  refine lv_icmp_eq (tgt := 2120) hx hb dL_law_384 (by decide) (fun _ => ?_) (fun c9 => absurd hp.1.symm c9)
  exact W.widen (k := cells + 300) (n := slots + 3000) (by simp only [rmq]; omega) (by simp only [rmq]; omega) (kk z2 H locs hp.2 hw)
def SK_5 (Rel : ZS → Prop) : Prop := ∀ (z : ZS) (p1 p2 p3 p4 p5 : Int32), (p5 = 0 ∨ p5 = 1) → Rel z → V_X11_steers z p1 p2 p3 p4 p5 (fun r z1 => V_X12_steers z1 p1 p2 p3 p4 p5 (fun r2 z2 => r2 = r ∧ Rel z2))
set_option maxHeartbeats 4000000 in
theorem L_5 {p : Program} {l : Launch} {e : Env} {s : State} {m : MethodId} {below : List Frame} {meth : Method} {c : Code} {D : va_G} {ad : Nat → Nat → Nat} {cs : Nat → ClassId} {sk : (Nat → Nat) × (Nat → Nat)} {b Ln : Nat} {xs : Nat → Int32} {Q : State → Prop} {z : ZS} {H : Heap} {locs : List Loc} {ls : Array Slot} {cells slots j : Nat} (hst : l.stackTraces = false) (C0 : LX p m c s b Ln xs D cs sk) (Rel : ZS → Prop) (SK : SK_5 Rel) (hz : Rel z) (hj : j + 7 ≤ Ln) (hw : OW D ad cs (fun q : Nat => s.heap.size ≤ q) s.heap z H locs) (hl : lv_has ls 8 [(0, .ref b), (1, .ref (ad 0 100)), (2, .ref (ad 14 100)), (3, .ref (ad 15 0)), (4, .int (nI j))]) (hce : cells + 300 ≤ 600128) (hsl : slots + 3000 ≤ 7301098) (kk : ∀ (z1 : ZS) (H1 : Heap) (locs1 : List Loc), Rel z1 → OW D ad cs (fun q : Nat => s.heap.size ≤ q) s.heap z1 H1 locs1 → W p l e room_1 s m #[Value.ref b] below meth c H1 locs1 (cells + 300) (slots + 3000) Q (F0 m 2120 ls [])) : W p l e room_1 s m #[Value.ref b] below meth c H locs cells slots Q (F0 m 389 ls []) := by
  have E := C0.1
  have hx := E.1.1
  have hb := E.1.2.1
  have hA : ∀ q, s.heap.size ≤ q → (fun q : Nat => s.heap.size ≤ q) q := fun _ h => h
  refine lv_aload_n hx hb dL_law_389 rfl (lv_at hl 1 rfl) ?_
  refine lv_aload_n hx hb dL_law_390 rfl (lv_at hl 0 rfl) ?_
  refine lv_iload hx hb dL_law_391 (lv_at hl 4 rfl) ?_
  refine lv_iconst (v := 1) hx hb dL_law_393 (by decide) ?_
  refine lv_iadd hx hb dL_law_394 ?_
  refine lw_ld C0 hw hj (k := 1) (by decide) rfl dL_law_395 ?_
  refine lv_aload_n hx hb dL_law_396 rfl (lv_at hl 0 rfl) ?_
  refine lv_iload hx hb dL_law_397 (lv_at hl 4 rfl) ?_
  refine lv_iconst (v := 2) hx hb dL_law_399 (by decide) ?_
  refine lv_iadd hx hb dL_law_400 ?_
  refine lw_ld C0 hw hj (k := 2) (by decide) rfl dL_law_401 ?_
  refine lv_aload_n hx hb dL_law_402 rfl (lv_at hl 0 rfl) ?_
  refine lv_iload hx hb dL_law_403 (lv_at hl 4 rfl) ?_
  refine lv_iconst (v := 3) hx hb dL_law_405 (by decide) ?_
  refine lv_iadd hx hb dL_law_406 ?_
  refine lw_ld C0 hw hj (k := 3) (by decide) rfl dL_law_407 ?_
  refine lv_aload_n hx hb dL_law_408 rfl (lv_at hl 0 rfl) ?_
  refine lv_iload hx hb dL_law_409 (lv_at hl 4 rfl) ?_
  refine lv_iconst (v := 4) hx hb dL_law_411 (by decide) ?_
  refine lv_iadd hx hb dL_law_412 ?_
  refine lw_ld C0 hw hj (k := 4) (by decide) rfl dL_law_413 ?_
  refine lv_aload_n hx hb dL_law_414 rfl (lv_at hl 0 rfl) ?_
  refine lv_iload hx hb dL_law_415 (lv_at hl 4 rfl) ?_
  refine lv_iconst (v := 5) hx hb dL_law_417 (by decide) ?_
  refine lv_iadd hx hb dL_law_418 ?_
  refine lw_ld C0 hw hj (k := 5) (by decide) rfl dL_law_419 ?_
  refine lv_if_eq (tgt := 427) hx hb dL_law_420 (by decide) (fun c1 => ?_) (fun c1 => ?_)
  · refine lv_iconst (v := 0) hx hb dL_law_427 (by decide) ?_
    refine xcVI (As := [.int (xs (j + 1)), .int (xs (j + 2)), .int (xs (j + 3)), .int (xs (j + 4)), .int (0 : Int32)]) (rest := []) E hw hA (c_X11_steers l D ad cs sk z (xs (j + 1)) (xs (j + 2)) (xs (j + 3)) (xs (j + 4)) (0 : Int32) _ (SK z (xs (j + 1)) (xs (j + 2)) (xs (j + 3)) (xs (j + 4)) (0 : Int32) (by decide) hz)) lk_11_steers lo_11_steers ⟨Nat.le_of_ble_eq_true rfl, Nat.le_of_ble_eq_true rfl⟩ (xrc E hw ky_0_100 rfl) rfl hl.1 rfl (Nat.le_of_ble_eq_true rfl) dL_law_428 ⟨by simp only [rmq, room_1]; omega, by simp only [rmq, room_1]; omega⟩ (fun r1 z1 H locs hp hw => ?_)
    refine lv_aload_n hx hb dL_law_431 rfl (lv_at hl 2 rfl) ?_
    refine lv_aload_n hx hb dL_law_432 rfl (lv_at hl 0 rfl) ?_
    refine lv_iload hx hb dL_law_433 (lv_at hl 4 rfl) ?_
    refine lv_iconst (v := 1) hx hb dL_law_435 (by decide) ?_
    refine lv_iadd hx hb dL_law_436 ?_
    refine lw_ld C0 hw hj (k := 1) (by decide) rfl dL_law_437 ?_
    refine lv_aload_n hx hb dL_law_438 rfl (lv_at hl 0 rfl) ?_
    refine lv_iload hx hb dL_law_439 (lv_at hl 4 rfl) ?_
    refine lv_iconst (v := 2) hx hb dL_law_441 (by decide) ?_
    refine lv_iadd hx hb dL_law_442 ?_
    refine lw_ld C0 hw hj (k := 2) (by decide) rfl dL_law_443 ?_
    refine lv_aload_n hx hb dL_law_444 rfl (lv_at hl 0 rfl) ?_
    refine lv_iload hx hb dL_law_445 (lv_at hl 4 rfl) ?_
    refine lv_iconst (v := 3) hx hb dL_law_447 (by decide) ?_
    refine lv_iadd hx hb dL_law_448 ?_
    refine lw_ld C0 hw hj (k := 3) (by decide) rfl dL_law_449 ?_
    refine lv_aload_n hx hb dL_law_450 rfl (lv_at hl 0 rfl) ?_
    refine lv_iload hx hb dL_law_451 (lv_at hl 4 rfl) ?_
    refine lv_iconst (v := 4) hx hb dL_law_453 (by decide) ?_
    refine lv_iadd hx hb dL_law_454 ?_
    refine lw_ld C0 hw hj (k := 4) (by decide) rfl dL_law_455 ?_
    refine lv_aload_n hx hb dL_law_456 rfl (lv_at hl 0 rfl) ?_
    refine lv_iload hx hb dL_law_457 (lv_at hl 4 rfl) ?_
    refine lv_iconst (v := 5) hx hb dL_law_459 (by decide) ?_
    refine lv_iadd hx hb dL_law_460 ?_
    refine lw_ld C0 hw hj (k := 5) (by decide) rfl dL_law_461 ?_
    refine lv_if_eq (tgt := 469) hx hb dL_law_462 (by decide) (fun _ => ?_) (fun c8 => absurd c1 c8)
    refine lv_iconst (v := 0) hx hb dL_law_469 (by decide) ?_
    refine xcVI (As := [.int (xs (j + 1)), .int (xs (j + 2)), .int (xs (j + 3)), .int (xs (j + 4)), .int (0 : Int32)]) (rest := [.int r1]) E hw hA (c_X12_steers l D ad cs sk z1 (xs (j + 1)) (xs (j + 2)) (xs (j + 3)) (xs (j + 4)) (0 : Int32) _ hp) lk_12_steers lo_12_steers ⟨Nat.le_of_ble_eq_true rfl, Nat.le_of_ble_eq_true rfl⟩ (xrc E hw ky_14_100 rfl) rfl hl.1 rfl (Nat.le_of_ble_eq_true rfl) dL_law_470 ⟨by simp only [rmq, room_1]; omega, by simp only [rmq, room_1]; omega⟩ (fun r2 z2 H locs hp hw => ?_)
    refine lv_icmp_eq (tgt := 2120) hx hb dL_law_473 (by decide) (fun _ => ?_) (fun c9 => absurd hp.1.symm c9)
    exact W.widen (k := cells + 300) (n := slots + 3000) (by simp only [rmq]; omega) (by simp only [rmq]; omega) (kk z2 H locs hp.2 hw)
  · refine lv_iconst (v := 1) hx hb dL_law_423 (by decide) ?_
    refine lv_goto (tgt := 428) hx hb dL_law_424 (by decide) ?_
    refine xcVI (As := [.int (xs (j + 1)), .int (xs (j + 2)), .int (xs (j + 3)), .int (xs (j + 4)), .int (1 : Int32)]) (rest := []) E hw hA (c_X11_steers l D ad cs sk z (xs (j + 1)) (xs (j + 2)) (xs (j + 3)) (xs (j + 4)) (1 : Int32) _ (SK z (xs (j + 1)) (xs (j + 2)) (xs (j + 3)) (xs (j + 4)) (1 : Int32) (by decide) hz)) lk_11_steers lo_11_steers ⟨Nat.le_of_ble_eq_true rfl, Nat.le_of_ble_eq_true rfl⟩ (xrc E hw ky_0_100 rfl) rfl hl.1 rfl (Nat.le_of_ble_eq_true rfl) dL_law_428 ⟨by simp only [rmq, room_1]; omega, by simp only [rmq, room_1]; omega⟩ (fun r1 z1 H locs hp hw => ?_)
    refine lv_aload_n hx hb dL_law_431 rfl (lv_at hl 2 rfl) ?_
    refine lv_aload_n hx hb dL_law_432 rfl (lv_at hl 0 rfl) ?_
    refine lv_iload hx hb dL_law_433 (lv_at hl 4 rfl) ?_
    refine lv_iconst (v := 1) hx hb dL_law_435 (by decide) ?_
    refine lv_iadd hx hb dL_law_436 ?_
    refine lw_ld C0 hw hj (k := 1) (by decide) rfl dL_law_437 ?_
    refine lv_aload_n hx hb dL_law_438 rfl (lv_at hl 0 rfl) ?_
    refine lv_iload hx hb dL_law_439 (lv_at hl 4 rfl) ?_
    refine lv_iconst (v := 2) hx hb dL_law_441 (by decide) ?_
    refine lv_iadd hx hb dL_law_442 ?_
    refine lw_ld C0 hw hj (k := 2) (by decide) rfl dL_law_443 ?_
    refine lv_aload_n hx hb dL_law_444 rfl (lv_at hl 0 rfl) ?_
    refine lv_iload hx hb dL_law_445 (lv_at hl 4 rfl) ?_
    refine lv_iconst (v := 3) hx hb dL_law_447 (by decide) ?_
    refine lv_iadd hx hb dL_law_448 ?_
    refine lw_ld C0 hw hj (k := 3) (by decide) rfl dL_law_449 ?_
    refine lv_aload_n hx hb dL_law_450 rfl (lv_at hl 0 rfl) ?_
    refine lv_iload hx hb dL_law_451 (lv_at hl 4 rfl) ?_
    refine lv_iconst (v := 4) hx hb dL_law_453 (by decide) ?_
    refine lv_iadd hx hb dL_law_454 ?_
    refine lw_ld C0 hw hj (k := 4) (by decide) rfl dL_law_455 ?_
    refine lv_aload_n hx hb dL_law_456 rfl (lv_at hl 0 rfl) ?_
    refine lv_iload hx hb dL_law_457 (lv_at hl 4 rfl) ?_
    refine lv_iconst (v := 5) hx hb dL_law_459 (by decide) ?_
    refine lv_iadd hx hb dL_law_460 ?_
    refine lw_ld C0 hw hj (k := 5) (by decide) rfl dL_law_461 ?_
    refine lv_if_eq (tgt := 469) hx hb dL_law_462 (by decide) (fun c8 => absurd c8 c1) (fun _ => ?_)
    refine lv_iconst (v := 1) hx hb dL_law_465 (by decide) ?_
    refine lv_goto (tgt := 470) hx hb dL_law_466 (by decide) ?_
    refine xcVI (As := [.int (xs (j + 1)), .int (xs (j + 2)), .int (xs (j + 3)), .int (xs (j + 4)), .int (1 : Int32)]) (rest := [.int r1]) E hw hA (c_X12_steers l D ad cs sk z1 (xs (j + 1)) (xs (j + 2)) (xs (j + 3)) (xs (j + 4)) (1 : Int32) _ hp) lk_12_steers lo_12_steers ⟨Nat.le_of_ble_eq_true rfl, Nat.le_of_ble_eq_true rfl⟩ (xrc E hw ky_14_100 rfl) rfl hl.1 rfl (Nat.le_of_ble_eq_true rfl) dL_law_470 ⟨by simp only [rmq, room_1]; omega, by simp only [rmq, room_1]; omega⟩ (fun r2 z2 H locs hp hw => ?_)
    refine lv_icmp_eq (tgt := 2120) hx hb dL_law_473 (by decide) (fun _ => ?_) (fun c9 => absurd hp.1.symm c9)
    exact W.widen (k := cells + 300) (n := slots + 3000) (by simp only [rmq]; omega) (by simp only [rmq]; omega) (kk z2 H locs hp.2 hw)
def SK_6 (Rel : ZS → Prop) : Prop := ∀ (z : ZS) (p1 p2 : Int32), Rel z → V_X11_barred z p1 p2 (fun r z1 => V_X12_barred z1 p1 p2 (fun r2 z2 => r2 = r ∧ Rel z2))
set_option maxHeartbeats 4000000 in
theorem L_6 {p : Program} {l : Launch} {e : Env} {s : State} {m : MethodId} {below : List Frame} {meth : Method} {c : Code} {D : va_G} {ad : Nat → Nat → Nat} {cs : Nat → ClassId} {sk : (Nat → Nat) × (Nat → Nat)} {b Ln : Nat} {xs : Nat → Int32} {Q : State → Prop} {z : ZS} {H : Heap} {locs : List Loc} {ls : Array Slot} {cells slots j : Nat} (hst : l.stackTraces = false) (C0 : LX p m c s b Ln xs D cs sk) (Rel : ZS → Prop) (SK : SK_6 Rel) (hz : Rel z) (hj : j + 7 ≤ Ln) (hw : OW D ad cs (fun q : Nat => s.heap.size ≤ q) s.heap z H locs) (hl : lv_has ls 8 [(0, .ref b), (1, .ref (ad 0 100)), (2, .ref (ad 14 100)), (3, .ref (ad 15 0)), (4, .int (nI j))]) (hce : cells + 300 ≤ 600128) (hsl : slots + 3000 ≤ 7301098) (kk : ∀ (z1 : ZS) (H1 : Heap) (locs1 : List Loc), Rel z1 → OW D ad cs (fun q : Nat => s.heap.size ≤ q) s.heap z1 H1 locs1 → W p l e room_1 s m #[Value.ref b] below meth c H1 locs1 (cells + 300) (slots + 3000) Q (F0 m 2120 ls [])) : W p l e room_1 s m #[Value.ref b] below meth c H locs cells slots Q (F0 m 478 ls []) := by
  have E := C0.1
  have hx := E.1.1
  have hb := E.1.2.1
  have hA : ∀ q, s.heap.size ≤ q → (fun q : Nat => s.heap.size ≤ q) q := fun _ h => h
  refine lv_aload_n hx hb dL_law_478 rfl (lv_at hl 1 rfl) ?_
  refine lv_aload_n hx hb dL_law_479 rfl (lv_at hl 0 rfl) ?_
  refine lv_iload hx hb dL_law_480 (lv_at hl 4 rfl) ?_
  refine lv_iconst (v := 1) hx hb dL_law_482 (by decide) ?_
  refine lv_iadd hx hb dL_law_483 ?_
  refine lw_ld C0 hw hj (k := 1) (by decide) rfl dL_law_484 ?_
  refine lv_aload_n hx hb dL_law_485 rfl (lv_at hl 0 rfl) ?_
  refine lv_iload hx hb dL_law_486 (lv_at hl 4 rfl) ?_
  refine lv_iconst (v := 2) hx hb dL_law_488 (by decide) ?_
  refine lv_iadd hx hb dL_law_489 ?_
  refine lw_ld C0 hw hj (k := 2) (by decide) rfl dL_law_490 ?_
  refine xcVI (As := [.int (xs (j + 1)), .int (xs (j + 2))]) (rest := []) E hw hA (c_X11_barred l D ad cs sk z (xs (j + 1)) (xs (j + 2)) _ (SK z (xs (j + 1)) (xs (j + 2)) hz)) lk_11_barred lo_11_barred ⟨Nat.le_of_ble_eq_true rfl, Nat.le_of_ble_eq_true rfl⟩ (xrc E hw ky_0_100 rfl) rfl hl.1 rfl (Nat.le_of_ble_eq_true rfl) dL_law_491 ⟨by simp only [rmq, room_1]; omega, by simp only [rmq, room_1]; omega⟩ (fun r1 z1 H locs hp hw => ?_)
  refine lv_aload_n hx hb dL_law_494 rfl (lv_at hl 2 rfl) ?_
  refine lv_aload_n hx hb dL_law_495 rfl (lv_at hl 0 rfl) ?_
  refine lv_iload hx hb dL_law_496 (lv_at hl 4 rfl) ?_
  refine lv_iconst (v := 1) hx hb dL_law_498 (by decide) ?_
  refine lv_iadd hx hb dL_law_499 ?_
  refine lw_ld C0 hw hj (k := 1) (by decide) rfl dL_law_500 ?_
  refine lv_aload_n hx hb dL_law_501 rfl (lv_at hl 0 rfl) ?_
  refine lv_iload hx hb dL_law_502 (lv_at hl 4 rfl) ?_
  refine lv_iconst (v := 2) hx hb dL_law_504 (by decide) ?_
  refine lv_iadd hx hb dL_law_505 ?_
  refine lw_ld C0 hw hj (k := 2) (by decide) rfl dL_law_506 ?_
  refine xcVI (As := [.int (xs (j + 1)), .int (xs (j + 2))]) (rest := [.int r1]) E hw hA (c_X12_barred l D ad cs sk z1 (xs (j + 1)) (xs (j + 2)) _ hp) lk_12_barred lo_12_barred ⟨Nat.le_of_ble_eq_true rfl, Nat.le_of_ble_eq_true rfl⟩ (xrc E hw ky_14_100 rfl) rfl hl.1 rfl (Nat.le_of_ble_eq_true rfl) dL_law_507 ⟨by simp only [rmq, room_1]; omega, by simp only [rmq, room_1]; omega⟩ (fun r2 z2 H locs hp hw => ?_)
  refine lv_icmp_eq (tgt := 2120) hx hb dL_law_510 (by decide) (fun _ => ?_) (fun c9 => absurd hp.1.symm c9)
  exact W.widen (k := cells + 300) (n := slots + 3000) (by simp only [rmq]; omega) (by simp only [rmq]; omega) (kk z2 H locs hp.2 hw)
def SK_7 (Rel : ZS → Prop) : Prop := ∀ (z : ZS) (p1 p2 p3 p4 : Int32), Rel z → V_X11_fall z p1 p2 p3 p4 (fun r z1 => V_X12_fall z1 p1 p2 p3 p4 (fun r2 z2 => r2 = r ∧ Rel z2))
set_option maxHeartbeats 4000000 in
theorem L_7 {p : Program} {l : Launch} {e : Env} {s : State} {m : MethodId} {below : List Frame} {meth : Method} {c : Code} {D : va_G} {ad : Nat → Nat → Nat} {cs : Nat → ClassId} {sk : (Nat → Nat) × (Nat → Nat)} {b Ln : Nat} {xs : Nat → Int32} {Q : State → Prop} {z : ZS} {H : Heap} {locs : List Loc} {ls : Array Slot} {cells slots j : Nat} (hst : l.stackTraces = false) (C0 : LX p m c s b Ln xs D cs sk) (Rel : ZS → Prop) (SK : SK_7 Rel) (hz : Rel z) (hj : j + 7 ≤ Ln) (hw : OW D ad cs (fun q : Nat => s.heap.size ≤ q) s.heap z H locs) (hl : lv_has ls 8 [(0, .ref b), (1, .ref (ad 0 100)), (2, .ref (ad 14 100)), (3, .ref (ad 15 0)), (4, .int (nI j))]) (hce : cells + 300 ≤ 600128) (hsl : slots + 3000 ≤ 7301098) (kk : ∀ (z1 : ZS) (H1 : Heap) (locs1 : List Loc), Rel z1 → OW D ad cs (fun q : Nat => s.heap.size ≤ q) s.heap z1 H1 locs1 → W p l e room_1 s m #[Value.ref b] below meth c H1 locs1 (cells + 300) (slots + 3000) Q (F0 m 2120 ls [])) : W p l e room_1 s m #[Value.ref b] below meth c H locs cells slots Q (F0 m 515 ls []) := by
  have E := C0.1
  have hx := E.1.1
  have hb := E.1.2.1
  have hA : ∀ q, s.heap.size ≤ q → (fun q : Nat => s.heap.size ≤ q) q := fun _ h => h
  refine lv_aload_n hx hb dL_law_515 rfl (lv_at hl 1 rfl) ?_
  refine lv_aload_n hx hb dL_law_516 rfl (lv_at hl 0 rfl) ?_
  refine lv_iload hx hb dL_law_517 (lv_at hl 4 rfl) ?_
  refine lv_iconst (v := 1) hx hb dL_law_519 (by decide) ?_
  refine lv_iadd hx hb dL_law_520 ?_
  refine lw_ld C0 hw hj (k := 1) (by decide) rfl dL_law_521 ?_
  refine lv_aload_n hx hb dL_law_522 rfl (lv_at hl 0 rfl) ?_
  refine lv_iload hx hb dL_law_523 (lv_at hl 4 rfl) ?_
  refine lv_iconst (v := 2) hx hb dL_law_525 (by decide) ?_
  refine lv_iadd hx hb dL_law_526 ?_
  refine lw_ld C0 hw hj (k := 2) (by decide) rfl dL_law_527 ?_
  refine lv_aload_n hx hb dL_law_528 rfl (lv_at hl 0 rfl) ?_
  refine lv_iload hx hb dL_law_529 (lv_at hl 4 rfl) ?_
  refine lv_iconst (v := 3) hx hb dL_law_531 (by decide) ?_
  refine lv_iadd hx hb dL_law_532 ?_
  refine lw_ld C0 hw hj (k := 3) (by decide) rfl dL_law_533 ?_
  refine lv_aload_n hx hb dL_law_534 rfl (lv_at hl 0 rfl) ?_
  refine lv_iload hx hb dL_law_535 (lv_at hl 4 rfl) ?_
  refine lv_iconst (v := 4) hx hb dL_law_537 (by decide) ?_
  refine lv_iadd hx hb dL_law_538 ?_
  refine lw_ld C0 hw hj (k := 4) (by decide) rfl dL_law_539 ?_
  refine xcVI (As := [.int (xs (j + 1)), .int (xs (j + 2)), .int (xs (j + 3)), .int (xs (j + 4))]) (rest := []) E hw hA (c_X11_fall l D ad cs sk z (xs (j + 1)) (xs (j + 2)) (xs (j + 3)) (xs (j + 4)) _ (SK z (xs (j + 1)) (xs (j + 2)) (xs (j + 3)) (xs (j + 4)) hz)) lk_11_fall lo_11_fall ⟨Nat.le_of_ble_eq_true rfl, Nat.le_of_ble_eq_true rfl⟩ (xrc E hw ky_0_100 rfl) rfl hl.1 rfl (Nat.le_of_ble_eq_true rfl) dL_law_540 ⟨by simp only [rmq, room_1]; omega, by simp only [rmq, room_1]; omega⟩ (fun r1 z1 H locs hp hw => ?_)
  refine lv_aload_n hx hb dL_law_543 rfl (lv_at hl 2 rfl) ?_
  refine lv_aload_n hx hb dL_law_544 rfl (lv_at hl 0 rfl) ?_
  refine lv_iload hx hb dL_law_545 (lv_at hl 4 rfl) ?_
  refine lv_iconst (v := 1) hx hb dL_law_547 (by decide) ?_
  refine lv_iadd hx hb dL_law_548 ?_
  refine lw_ld C0 hw hj (k := 1) (by decide) rfl dL_law_549 ?_
  refine lv_aload_n hx hb dL_law_550 rfl (lv_at hl 0 rfl) ?_
  refine lv_iload hx hb dL_law_551 (lv_at hl 4 rfl) ?_
  refine lv_iconst (v := 2) hx hb dL_law_553 (by decide) ?_
  refine lv_iadd hx hb dL_law_554 ?_
  refine lw_ld C0 hw hj (k := 2) (by decide) rfl dL_law_555 ?_
  refine lv_aload_n hx hb dL_law_556 rfl (lv_at hl 0 rfl) ?_
  refine lv_iload hx hb dL_law_557 (lv_at hl 4 rfl) ?_
  refine lv_iconst (v := 3) hx hb dL_law_559 (by decide) ?_
  refine lv_iadd hx hb dL_law_560 ?_
  refine lw_ld C0 hw hj (k := 3) (by decide) rfl dL_law_561 ?_
  refine lv_aload_n hx hb dL_law_562 rfl (lv_at hl 0 rfl) ?_
  refine lv_iload hx hb dL_law_563 (lv_at hl 4 rfl) ?_
  refine lv_iconst (v := 4) hx hb dL_law_565 (by decide) ?_
  refine lv_iadd hx hb dL_law_566 ?_
  refine lw_ld C0 hw hj (k := 4) (by decide) rfl dL_law_567 ?_
  refine xcVI (As := [.int (xs (j + 1)), .int (xs (j + 2)), .int (xs (j + 3)), .int (xs (j + 4))]) (rest := [.int r1]) E hw hA (c_X12_fall l D ad cs sk z1 (xs (j + 1)) (xs (j + 2)) (xs (j + 3)) (xs (j + 4)) _ hp) lk_12_fall lo_12_fall ⟨Nat.le_of_ble_eq_true rfl, Nat.le_of_ble_eq_true rfl⟩ (xrc E hw ky_14_100 rfl) rfl hl.1 rfl (Nat.le_of_ble_eq_true rfl) dL_law_568 ⟨by simp only [rmq, room_1]; omega, by simp only [rmq, room_1]; omega⟩ (fun r2 z2 H locs hp hw => ?_)
  refine lv_icmp_eq (tgt := 2120) hx hb dL_law_571 (by decide) (fun _ => ?_) (fun c9 => absurd hp.1.symm c9)
  exact W.widen (k := cells + 300) (n := slots + 3000) (by simp only [rmq]; omega) (by simp only [rmq]; omega) (kk z2 H locs hp.2 hw)
def SK_8 (Rel : ZS → Prop) : Prop := ∀ (z : ZS) (p1 p2 p3 p4 p5 : Int32), Rel z → V_X11_fallBy z p1 p2 p3 p4 p5 (fun r z1 => V_X12_fallBy z1 p1 p2 p3 p4 p5 (fun r2 z2 => r2 = r ∧ Rel z2))
set_option maxHeartbeats 4000000 in
theorem L_8 {p : Program} {l : Launch} {e : Env} {s : State} {m : MethodId} {below : List Frame} {meth : Method} {c : Code} {D : va_G} {ad : Nat → Nat → Nat} {cs : Nat → ClassId} {sk : (Nat → Nat) × (Nat → Nat)} {b Ln : Nat} {xs : Nat → Int32} {Q : State → Prop} {z : ZS} {H : Heap} {locs : List Loc} {ls : Array Slot} {cells slots j : Nat} (hst : l.stackTraces = false) (C0 : LX p m c s b Ln xs D cs sk) (Rel : ZS → Prop) (SK : SK_8 Rel) (hz : Rel z) (hj : j + 7 ≤ Ln) (hw : OW D ad cs (fun q : Nat => s.heap.size ≤ q) s.heap z H locs) (hl : lv_has ls 8 [(0, .ref b), (1, .ref (ad 0 100)), (2, .ref (ad 14 100)), (3, .ref (ad 15 0)), (4, .int (nI j))]) (hce : cells + 300 ≤ 600128) (hsl : slots + 3000 ≤ 7301098) (kk : ∀ (z1 : ZS) (H1 : Heap) (locs1 : List Loc), Rel z1 → OW D ad cs (fun q : Nat => s.heap.size ≤ q) s.heap z1 H1 locs1 → W p l e room_1 s m #[Value.ref b] below meth c H1 locs1 (cells + 300) (slots + 3000) Q (F0 m 2120 ls [])) : W p l e room_1 s m #[Value.ref b] below meth c H locs cells slots Q (F0 m 576 ls []) := by
  have E := C0.1
  have hx := E.1.1
  have hb := E.1.2.1
  have hA : ∀ q, s.heap.size ≤ q → (fun q : Nat => s.heap.size ≤ q) q := fun _ h => h
  refine lv_aload_n hx hb dL_law_576 rfl (lv_at hl 1 rfl) ?_
  refine lv_aload_n hx hb dL_law_577 rfl (lv_at hl 0 rfl) ?_
  refine lv_iload hx hb dL_law_578 (lv_at hl 4 rfl) ?_
  refine lv_iconst (v := 1) hx hb dL_law_580 (by decide) ?_
  refine lv_iadd hx hb dL_law_581 ?_
  refine lw_ld C0 hw hj (k := 1) (by decide) rfl dL_law_582 ?_
  refine lv_aload_n hx hb dL_law_583 rfl (lv_at hl 0 rfl) ?_
  refine lv_iload hx hb dL_law_584 (lv_at hl 4 rfl) ?_
  refine lv_iconst (v := 2) hx hb dL_law_586 (by decide) ?_
  refine lv_iadd hx hb dL_law_587 ?_
  refine lw_ld C0 hw hj (k := 2) (by decide) rfl dL_law_588 ?_
  refine lv_aload_n hx hb dL_law_589 rfl (lv_at hl 0 rfl) ?_
  refine lv_iload hx hb dL_law_590 (lv_at hl 4 rfl) ?_
  refine lv_iconst (v := 3) hx hb dL_law_592 (by decide) ?_
  refine lv_iadd hx hb dL_law_593 ?_
  refine lw_ld C0 hw hj (k := 3) (by decide) rfl dL_law_594 ?_
  refine lv_aload_n hx hb dL_law_595 rfl (lv_at hl 0 rfl) ?_
  refine lv_iload hx hb dL_law_596 (lv_at hl 4 rfl) ?_
  refine lv_iconst (v := 4) hx hb dL_law_598 (by decide) ?_
  refine lv_iadd hx hb dL_law_599 ?_
  refine lw_ld C0 hw hj (k := 4) (by decide) rfl dL_law_600 ?_
  refine lv_aload_n hx hb dL_law_601 rfl (lv_at hl 0 rfl) ?_
  refine lv_iload hx hb dL_law_602 (lv_at hl 4 rfl) ?_
  refine lv_iconst (v := 5) hx hb dL_law_604 (by decide) ?_
  refine lv_iadd hx hb dL_law_605 ?_
  refine lw_ld C0 hw hj (k := 5) (by decide) rfl dL_law_606 ?_
  refine xcVI (As := [.int (xs (j + 1)), .int (xs (j + 2)), .int (xs (j + 3)), .int (xs (j + 4)), .int (xs (j + 5))]) (rest := []) E hw hA (c_X11_fallBy l D ad cs sk z (xs (j + 1)) (xs (j + 2)) (xs (j + 3)) (xs (j + 4)) (xs (j + 5)) _ (SK z (xs (j + 1)) (xs (j + 2)) (xs (j + 3)) (xs (j + 4)) (xs (j + 5)) hz)) lk_11_fallBy lo_11_fallBy ⟨Nat.le_of_ble_eq_true rfl, Nat.le_of_ble_eq_true rfl⟩ (xrc E hw ky_0_100 rfl) rfl hl.1 rfl (Nat.le_of_ble_eq_true rfl) dL_law_607 ⟨by simp only [rmq, room_1]; omega, by simp only [rmq, room_1]; omega⟩ (fun r1 z1 H locs hp hw => ?_)
  refine lv_aload_n hx hb dL_law_610 rfl (lv_at hl 2 rfl) ?_
  refine lv_aload_n hx hb dL_law_611 rfl (lv_at hl 0 rfl) ?_
  refine lv_iload hx hb dL_law_612 (lv_at hl 4 rfl) ?_
  refine lv_iconst (v := 1) hx hb dL_law_614 (by decide) ?_
  refine lv_iadd hx hb dL_law_615 ?_
  refine lw_ld C0 hw hj (k := 1) (by decide) rfl dL_law_616 ?_
  refine lv_aload_n hx hb dL_law_617 rfl (lv_at hl 0 rfl) ?_
  refine lv_iload hx hb dL_law_618 (lv_at hl 4 rfl) ?_
  refine lv_iconst (v := 2) hx hb dL_law_620 (by decide) ?_
  refine lv_iadd hx hb dL_law_621 ?_
  refine lw_ld C0 hw hj (k := 2) (by decide) rfl dL_law_622 ?_
  refine lv_aload_n hx hb dL_law_623 rfl (lv_at hl 0 rfl) ?_
  refine lv_iload hx hb dL_law_624 (lv_at hl 4 rfl) ?_
  refine lv_iconst (v := 3) hx hb dL_law_626 (by decide) ?_
  refine lv_iadd hx hb dL_law_627 ?_
  refine lw_ld C0 hw hj (k := 3) (by decide) rfl dL_law_628 ?_
  refine lv_aload_n hx hb dL_law_629 rfl (lv_at hl 0 rfl) ?_
  refine lv_iload hx hb dL_law_630 (lv_at hl 4 rfl) ?_
  refine lv_iconst (v := 4) hx hb dL_law_632 (by decide) ?_
  refine lv_iadd hx hb dL_law_633 ?_
  refine lw_ld C0 hw hj (k := 4) (by decide) rfl dL_law_634 ?_
  refine lv_aload_n hx hb dL_law_635 rfl (lv_at hl 0 rfl) ?_
  refine lv_iload hx hb dL_law_636 (lv_at hl 4 rfl) ?_
  refine lv_iconst (v := 5) hx hb dL_law_638 (by decide) ?_
  refine lv_iadd hx hb dL_law_639 ?_
  refine lw_ld C0 hw hj (k := 5) (by decide) rfl dL_law_640 ?_
  refine xcVI (As := [.int (xs (j + 1)), .int (xs (j + 2)), .int (xs (j + 3)), .int (xs (j + 4)), .int (xs (j + 5))]) (rest := [.int r1]) E hw hA (c_X12_fallBy l D ad cs sk z1 (xs (j + 1)) (xs (j + 2)) (xs (j + 3)) (xs (j + 4)) (xs (j + 5)) _ hp) lk_12_fallBy lo_12_fallBy ⟨Nat.le_of_ble_eq_true rfl, Nat.le_of_ble_eq_true rfl⟩ (xrc E hw ky_14_100 rfl) rfl hl.1 rfl (Nat.le_of_ble_eq_true rfl) dL_law_641 ⟨by simp only [rmq, room_1]; omega, by simp only [rmq, room_1]; omega⟩ (fun r2 z2 H locs hp hw => ?_)
  refine lv_icmp_eq (tgt := 2120) hx hb dL_law_644 (by decide) (fun _ => ?_) (fun c9 => absurd hp.1.symm c9)
  exact W.widen (k := cells + 300) (n := slots + 3000) (by simp only [rmq]; omega) (by simp only [rmq]; omega) (kk z2 H locs hp.2 hw)
def SK_9 (Rel : ZS → Prop) : Prop := ∀ (z : ZS) (p1 p2 p3 p4 p5 : Int32), Rel z → V_X11_at z p1 p2 p3 p4 p5 (fun r z1 => V_X12_at z1 p1 p2 p3 p4 p5 (fun r2 z2 => r2 = r ∧ Rel z2))
set_option maxHeartbeats 4000000 in
theorem L_9 {p : Program} {l : Launch} {e : Env} {s : State} {m : MethodId} {below : List Frame} {meth : Method} {c : Code} {D : va_G} {ad : Nat → Nat → Nat} {cs : Nat → ClassId} {sk : (Nat → Nat) × (Nat → Nat)} {b Ln : Nat} {xs : Nat → Int32} {Q : State → Prop} {z : ZS} {H : Heap} {locs : List Loc} {ls : Array Slot} {cells slots j : Nat} (hst : l.stackTraces = false) (C0 : LX p m c s b Ln xs D cs sk) (Rel : ZS → Prop) (SK : SK_9 Rel) (hz : Rel z) (hj : j + 7 ≤ Ln) (hw : OW D ad cs (fun q : Nat => s.heap.size ≤ q) s.heap z H locs) (hl : lv_has ls 8 [(0, .ref b), (1, .ref (ad 0 100)), (2, .ref (ad 14 100)), (3, .ref (ad 15 0)), (4, .int (nI j))]) (hce : cells + 300 ≤ 600128) (hsl : slots + 3000 ≤ 7301098) (kk : ∀ (z1 : ZS) (H1 : Heap) (locs1 : List Loc), Rel z1 → OW D ad cs (fun q : Nat => s.heap.size ≤ q) s.heap z1 H1 locs1 → W p l e room_1 s m #[Value.ref b] below meth c H1 locs1 (cells + 300) (slots + 3000) Q (F0 m 2120 ls [])) : W p l e room_1 s m #[Value.ref b] below meth c H locs cells slots Q (F0 m 649 ls []) := by
  have E := C0.1
  have hx := E.1.1
  have hb := E.1.2.1
  have hA : ∀ q, s.heap.size ≤ q → (fun q : Nat => s.heap.size ≤ q) q := fun _ h => h
  refine lv_aload_n hx hb dL_law_649 rfl (lv_at hl 1 rfl) ?_
  refine lv_aload_n hx hb dL_law_650 rfl (lv_at hl 0 rfl) ?_
  refine lv_iload hx hb dL_law_651 (lv_at hl 4 rfl) ?_
  refine lv_iconst (v := 1) hx hb dL_law_653 (by decide) ?_
  refine lv_iadd hx hb dL_law_654 ?_
  refine lw_ld C0 hw hj (k := 1) (by decide) rfl dL_law_655 ?_
  refine lv_aload_n hx hb dL_law_656 rfl (lv_at hl 0 rfl) ?_
  refine lv_iload hx hb dL_law_657 (lv_at hl 4 rfl) ?_
  refine lv_iconst (v := 2) hx hb dL_law_659 (by decide) ?_
  refine lv_iadd hx hb dL_law_660 ?_
  refine lw_ld C0 hw hj (k := 2) (by decide) rfl dL_law_661 ?_
  refine lv_aload_n hx hb dL_law_662 rfl (lv_at hl 0 rfl) ?_
  refine lv_iload hx hb dL_law_663 (lv_at hl 4 rfl) ?_
  refine lv_iconst (v := 3) hx hb dL_law_665 (by decide) ?_
  refine lv_iadd hx hb dL_law_666 ?_
  refine lw_ld C0 hw hj (k := 3) (by decide) rfl dL_law_667 ?_
  refine lv_aload_n hx hb dL_law_668 rfl (lv_at hl 0 rfl) ?_
  refine lv_iload hx hb dL_law_669 (lv_at hl 4 rfl) ?_
  refine lv_iconst (v := 4) hx hb dL_law_671 (by decide) ?_
  refine lv_iadd hx hb dL_law_672 ?_
  refine lw_ld C0 hw hj (k := 4) (by decide) rfl dL_law_673 ?_
  refine lv_aload_n hx hb dL_law_674 rfl (lv_at hl 0 rfl) ?_
  refine lv_iload hx hb dL_law_675 (lv_at hl 4 rfl) ?_
  refine lv_iconst (v := 5) hx hb dL_law_677 (by decide) ?_
  refine lv_iadd hx hb dL_law_678 ?_
  refine lw_ld C0 hw hj (k := 5) (by decide) rfl dL_law_679 ?_
  refine xcVI (As := [.int (xs (j + 1)), .int (xs (j + 2)), .int (xs (j + 3)), .int (xs (j + 4)), .int (xs (j + 5))]) (rest := []) E hw hA (c_X11_at l D ad cs sk z (xs (j + 1)) (xs (j + 2)) (xs (j + 3)) (xs (j + 4)) (xs (j + 5)) _ (SK z (xs (j + 1)) (xs (j + 2)) (xs (j + 3)) (xs (j + 4)) (xs (j + 5)) hz)) lk_11_at lo_11_at ⟨Nat.le_of_ble_eq_true rfl, Nat.le_of_ble_eq_true rfl⟩ (xrc E hw ky_0_100 rfl) rfl hl.1 rfl (Nat.le_of_ble_eq_true rfl) dL_law_680 ⟨by simp only [rmq, room_1]; omega, by simp only [rmq, room_1]; omega⟩ (fun r1 z1 H locs hp hw => ?_)
  refine lv_aload_n hx hb dL_law_683 rfl (lv_at hl 2 rfl) ?_
  refine lv_aload_n hx hb dL_law_684 rfl (lv_at hl 0 rfl) ?_
  refine lv_iload hx hb dL_law_685 (lv_at hl 4 rfl) ?_
  refine lv_iconst (v := 1) hx hb dL_law_687 (by decide) ?_
  refine lv_iadd hx hb dL_law_688 ?_
  refine lw_ld C0 hw hj (k := 1) (by decide) rfl dL_law_689 ?_
  refine lv_aload_n hx hb dL_law_690 rfl (lv_at hl 0 rfl) ?_
  refine lv_iload hx hb dL_law_691 (lv_at hl 4 rfl) ?_
  refine lv_iconst (v := 2) hx hb dL_law_693 (by decide) ?_
  refine lv_iadd hx hb dL_law_694 ?_
  refine lw_ld C0 hw hj (k := 2) (by decide) rfl dL_law_695 ?_
  refine lv_aload_n hx hb dL_law_696 rfl (lv_at hl 0 rfl) ?_
  refine lv_iload hx hb dL_law_697 (lv_at hl 4 rfl) ?_
  refine lv_iconst (v := 3) hx hb dL_law_699 (by decide) ?_
  refine lv_iadd hx hb dL_law_700 ?_
  refine lw_ld C0 hw hj (k := 3) (by decide) rfl dL_law_701 ?_
  refine lv_aload_n hx hb dL_law_702 rfl (lv_at hl 0 rfl) ?_
  refine lv_iload hx hb dL_law_703 (lv_at hl 4 rfl) ?_
  refine lv_iconst (v := 4) hx hb dL_law_705 (by decide) ?_
  refine lv_iadd hx hb dL_law_706 ?_
  refine lw_ld C0 hw hj (k := 4) (by decide) rfl dL_law_707 ?_
  refine lv_aload_n hx hb dL_law_708 rfl (lv_at hl 0 rfl) ?_
  refine lv_iload hx hb dL_law_709 (lv_at hl 4 rfl) ?_
  refine lv_iconst (v := 5) hx hb dL_law_711 (by decide) ?_
  refine lv_iadd hx hb dL_law_712 ?_
  refine lw_ld C0 hw hj (k := 5) (by decide) rfl dL_law_713 ?_
  refine xcVI (As := [.int (xs (j + 1)), .int (xs (j + 2)), .int (xs (j + 3)), .int (xs (j + 4)), .int (xs (j + 5))]) (rest := [.int r1]) E hw hA (c_X12_at l D ad cs sk z1 (xs (j + 1)) (xs (j + 2)) (xs (j + 3)) (xs (j + 4)) (xs (j + 5)) _ hp) lk_12_at lo_12_at ⟨Nat.le_of_ble_eq_true rfl, Nat.le_of_ble_eq_true rfl⟩ (xrc E hw ky_14_100 rfl) rfl hl.1 rfl (Nat.le_of_ble_eq_true rfl) dL_law_714 ⟨by simp only [rmq, room_1]; omega, by simp only [rmq, room_1]; omega⟩ (fun r2 z2 H locs hp hw => ?_)
  refine lv_icmp_eq (tgt := 2120) hx hb dL_law_717 (by decide) (fun _ => ?_) (fun c9 => absurd hp.1.symm c9)
  exact W.widen (k := cells + 300) (n := slots + 3000) (by simp only [rmq]; omega) (by simp only [rmq]; omega) (kk z2 H locs hp.2 hw)
def SK_10 (Rel : ZS → Prop) : Prop := ∀ (z : ZS) (p1 p2 p3 p4 : Int32), (p4 = 0 ∨ p4 = 1) → Rel z → V_X11_mean z p1 p2 p3 p4 (fun r z1 => V_X12_mean z1 p1 p2 p3 p4 (fun r2 z2 => r2 = r ∧ Rel z2))
set_option maxHeartbeats 4000000 in
theorem L_10 {p : Program} {l : Launch} {e : Env} {s : State} {m : MethodId} {below : List Frame} {meth : Method} {c : Code} {D : va_G} {ad : Nat → Nat → Nat} {cs : Nat → ClassId} {sk : (Nat → Nat) × (Nat → Nat)} {b Ln : Nat} {xs : Nat → Int32} {Q : State → Prop} {z : ZS} {H : Heap} {locs : List Loc} {ls : Array Slot} {cells slots j : Nat} (hst : l.stackTraces = false) (C0 : LX p m c s b Ln xs D cs sk) (Rel : ZS → Prop) (SK : SK_10 Rel) (hz : Rel z) (hj : j + 7 ≤ Ln) (hw : OW D ad cs (fun q : Nat => s.heap.size ≤ q) s.heap z H locs) (hl : lv_has ls 8 [(0, .ref b), (1, .ref (ad 0 100)), (2, .ref (ad 14 100)), (3, .ref (ad 15 0)), (4, .int (nI j))]) (hce : cells + 300 ≤ 600128) (hsl : slots + 3000 ≤ 7301098) (kk : ∀ (z1 : ZS) (H1 : Heap) (locs1 : List Loc), Rel z1 → OW D ad cs (fun q : Nat => s.heap.size ≤ q) s.heap z1 H1 locs1 → W p l e room_1 s m #[Value.ref b] below meth c H1 locs1 (cells + 300) (slots + 3000) Q (F0 m 2120 ls [])) : W p l e room_1 s m #[Value.ref b] below meth c H locs cells slots Q (F0 m 722 ls []) := by
  have E := C0.1
  have hx := E.1.1
  have hb := E.1.2.1
  have hA : ∀ q, s.heap.size ≤ q → (fun q : Nat => s.heap.size ≤ q) q := fun _ h => h
  refine lv_aload_n hx hb dL_law_722 rfl (lv_at hl 1 rfl) ?_
  refine lv_aload_n hx hb dL_law_723 rfl (lv_at hl 0 rfl) ?_
  refine lv_iload hx hb dL_law_724 (lv_at hl 4 rfl) ?_
  refine lv_iconst (v := 1) hx hb dL_law_726 (by decide) ?_
  refine lv_iadd hx hb dL_law_727 ?_
  refine lw_ld C0 hw hj (k := 1) (by decide) rfl dL_law_728 ?_
  refine lv_aload_n hx hb dL_law_729 rfl (lv_at hl 0 rfl) ?_
  refine lv_iload hx hb dL_law_730 (lv_at hl 4 rfl) ?_
  refine lv_iconst (v := 2) hx hb dL_law_732 (by decide) ?_
  refine lv_iadd hx hb dL_law_733 ?_
  refine lw_ld C0 hw hj (k := 2) (by decide) rfl dL_law_734 ?_
  refine lv_aload_n hx hb dL_law_735 rfl (lv_at hl 0 rfl) ?_
  refine lv_iload hx hb dL_law_736 (lv_at hl 4 rfl) ?_
  refine lv_iconst (v := 3) hx hb dL_law_738 (by decide) ?_
  refine lv_iadd hx hb dL_law_739 ?_
  refine lw_ld C0 hw hj (k := 3) (by decide) rfl dL_law_740 ?_
  refine lv_aload_n hx hb dL_law_741 rfl (lv_at hl 0 rfl) ?_
  refine lv_iload hx hb dL_law_742 (lv_at hl 4 rfl) ?_
  refine lv_iconst (v := 4) hx hb dL_law_744 (by decide) ?_
  refine lv_iadd hx hb dL_law_745 ?_
  refine lw_ld C0 hw hj (k := 4) (by decide) rfl dL_law_746 ?_
  refine lv_if_eq (tgt := 754) hx hb dL_law_747 (by decide) (fun c1 => ?_) (fun c1 => ?_)
  · refine lv_iconst (v := 0) hx hb dL_law_754 (by decide) ?_
    refine xcVI (As := [.int (xs (j + 1)), .int (xs (j + 2)), .int (xs (j + 3)), .int (0 : Int32)]) (rest := []) E hw hA (c_X11_mean l D ad cs sk z (xs (j + 1)) (xs (j + 2)) (xs (j + 3)) (0 : Int32) _ (SK z (xs (j + 1)) (xs (j + 2)) (xs (j + 3)) (0 : Int32) (by decide) hz)) lk_11_mean lo_11_mean ⟨Nat.le_of_ble_eq_true rfl, Nat.le_of_ble_eq_true rfl⟩ (xrc E hw ky_0_100 rfl) rfl hl.1 rfl (Nat.le_of_ble_eq_true rfl) dL_law_755 ⟨by simp only [rmq, room_1]; omega, by simp only [rmq, room_1]; omega⟩ (fun r1 z1 H locs hp hw => ?_)
    refine lv_aload_n hx hb dL_law_758 rfl (lv_at hl 2 rfl) ?_
    refine lv_aload_n hx hb dL_law_759 rfl (lv_at hl 0 rfl) ?_
    refine lv_iload hx hb dL_law_760 (lv_at hl 4 rfl) ?_
    refine lv_iconst (v := 1) hx hb dL_law_762 (by decide) ?_
    refine lv_iadd hx hb dL_law_763 ?_
    refine lw_ld C0 hw hj (k := 1) (by decide) rfl dL_law_764 ?_
    refine lv_aload_n hx hb dL_law_765 rfl (lv_at hl 0 rfl) ?_
    refine lv_iload hx hb dL_law_766 (lv_at hl 4 rfl) ?_
    refine lv_iconst (v := 2) hx hb dL_law_768 (by decide) ?_
    refine lv_iadd hx hb dL_law_769 ?_
    refine lw_ld C0 hw hj (k := 2) (by decide) rfl dL_law_770 ?_
    refine lv_aload_n hx hb dL_law_771 rfl (lv_at hl 0 rfl) ?_
    refine lv_iload hx hb dL_law_772 (lv_at hl 4 rfl) ?_
    refine lv_iconst (v := 3) hx hb dL_law_774 (by decide) ?_
    refine lv_iadd hx hb dL_law_775 ?_
    refine lw_ld C0 hw hj (k := 3) (by decide) rfl dL_law_776 ?_
    refine lv_aload_n hx hb dL_law_777 rfl (lv_at hl 0 rfl) ?_
    refine lv_iload hx hb dL_law_778 (lv_at hl 4 rfl) ?_
    refine lv_iconst (v := 4) hx hb dL_law_780 (by decide) ?_
    refine lv_iadd hx hb dL_law_781 ?_
    refine lw_ld C0 hw hj (k := 4) (by decide) rfl dL_law_782 ?_
    refine lv_if_eq (tgt := 790) hx hb dL_law_783 (by decide) (fun _ => ?_) (fun c8 => absurd c1 c8)
    refine lv_iconst (v := 0) hx hb dL_law_790 (by decide) ?_
    refine xcVI (As := [.int (xs (j + 1)), .int (xs (j + 2)), .int (xs (j + 3)), .int (0 : Int32)]) (rest := [.int r1]) E hw hA (c_X12_mean l D ad cs sk z1 (xs (j + 1)) (xs (j + 2)) (xs (j + 3)) (0 : Int32) _ hp) lk_12_mean lo_12_mean ⟨Nat.le_of_ble_eq_true rfl, Nat.le_of_ble_eq_true rfl⟩ (xrc E hw ky_14_100 rfl) rfl hl.1 rfl (Nat.le_of_ble_eq_true rfl) dL_law_791 ⟨by simp only [rmq, room_1]; omega, by simp only [rmq, room_1]; omega⟩ (fun r2 z2 H locs hp hw => ?_)
    refine lv_icmp_eq (tgt := 2120) hx hb dL_law_794 (by decide) (fun _ => ?_) (fun c9 => absurd hp.1.symm c9)
    exact W.widen (k := cells + 300) (n := slots + 3000) (by simp only [rmq]; omega) (by simp only [rmq]; omega) (kk z2 H locs hp.2 hw)
  · refine lv_iconst (v := 1) hx hb dL_law_750 (by decide) ?_
    refine lv_goto (tgt := 755) hx hb dL_law_751 (by decide) ?_
    refine xcVI (As := [.int (xs (j + 1)), .int (xs (j + 2)), .int (xs (j + 3)), .int (1 : Int32)]) (rest := []) E hw hA (c_X11_mean l D ad cs sk z (xs (j + 1)) (xs (j + 2)) (xs (j + 3)) (1 : Int32) _ (SK z (xs (j + 1)) (xs (j + 2)) (xs (j + 3)) (1 : Int32) (by decide) hz)) lk_11_mean lo_11_mean ⟨Nat.le_of_ble_eq_true rfl, Nat.le_of_ble_eq_true rfl⟩ (xrc E hw ky_0_100 rfl) rfl hl.1 rfl (Nat.le_of_ble_eq_true rfl) dL_law_755 ⟨by simp only [rmq, room_1]; omega, by simp only [rmq, room_1]; omega⟩ (fun r1 z1 H locs hp hw => ?_)
    refine lv_aload_n hx hb dL_law_758 rfl (lv_at hl 2 rfl) ?_
    refine lv_aload_n hx hb dL_law_759 rfl (lv_at hl 0 rfl) ?_
    refine lv_iload hx hb dL_law_760 (lv_at hl 4 rfl) ?_
    refine lv_iconst (v := 1) hx hb dL_law_762 (by decide) ?_
    refine lv_iadd hx hb dL_law_763 ?_
    refine lw_ld C0 hw hj (k := 1) (by decide) rfl dL_law_764 ?_
    refine lv_aload_n hx hb dL_law_765 rfl (lv_at hl 0 rfl) ?_
    refine lv_iload hx hb dL_law_766 (lv_at hl 4 rfl) ?_
    refine lv_iconst (v := 2) hx hb dL_law_768 (by decide) ?_
    refine lv_iadd hx hb dL_law_769 ?_
    refine lw_ld C0 hw hj (k := 2) (by decide) rfl dL_law_770 ?_
    refine lv_aload_n hx hb dL_law_771 rfl (lv_at hl 0 rfl) ?_
    refine lv_iload hx hb dL_law_772 (lv_at hl 4 rfl) ?_
    refine lv_iconst (v := 3) hx hb dL_law_774 (by decide) ?_
    refine lv_iadd hx hb dL_law_775 ?_
    refine lw_ld C0 hw hj (k := 3) (by decide) rfl dL_law_776 ?_
    refine lv_aload_n hx hb dL_law_777 rfl (lv_at hl 0 rfl) ?_
    refine lv_iload hx hb dL_law_778 (lv_at hl 4 rfl) ?_
    refine lv_iconst (v := 4) hx hb dL_law_780 (by decide) ?_
    refine lv_iadd hx hb dL_law_781 ?_
    refine lw_ld C0 hw hj (k := 4) (by decide) rfl dL_law_782 ?_
    refine lv_if_eq (tgt := 790) hx hb dL_law_783 (by decide) (fun c8 => absurd c8 c1) (fun _ => ?_)
    refine lv_iconst (v := 1) hx hb dL_law_786 (by decide) ?_
    refine lv_goto (tgt := 791) hx hb dL_law_787 (by decide) ?_
    refine xcVI (As := [.int (xs (j + 1)), .int (xs (j + 2)), .int (xs (j + 3)), .int (1 : Int32)]) (rest := [.int r1]) E hw hA (c_X12_mean l D ad cs sk z1 (xs (j + 1)) (xs (j + 2)) (xs (j + 3)) (1 : Int32) _ hp) lk_12_mean lo_12_mean ⟨Nat.le_of_ble_eq_true rfl, Nat.le_of_ble_eq_true rfl⟩ (xrc E hw ky_14_100 rfl) rfl hl.1 rfl (Nat.le_of_ble_eq_true rfl) dL_law_791 ⟨by simp only [rmq, room_1]; omega, by simp only [rmq, room_1]; omega⟩ (fun r2 z2 H locs hp hw => ?_)
    refine lv_icmp_eq (tgt := 2120) hx hb dL_law_794 (by decide) (fun _ => ?_) (fun c9 => absurd hp.1.symm c9)
    exact W.widen (k := cells + 300) (n := slots + 3000) (by simp only [rmq]; omega) (by simp only [rmq]; omega) (kk z2 H locs hp.2 hw)
def SK_11 (Rel : ZS → Prop) : Prop := ∀ (z : ZS) (p1 p2 : Int32), Rel z → V_X11_exit z p1 p2 (fun r z1 => V_X12_exit z1 p1 p2 (fun r2 z2 => r2 = r ∧ Rel z2))
set_option maxHeartbeats 4000000 in
theorem L_11 {p : Program} {l : Launch} {e : Env} {s : State} {m : MethodId} {below : List Frame} {meth : Method} {c : Code} {D : va_G} {ad : Nat → Nat → Nat} {cs : Nat → ClassId} {sk : (Nat → Nat) × (Nat → Nat)} {b Ln : Nat} {xs : Nat → Int32} {Q : State → Prop} {z : ZS} {H : Heap} {locs : List Loc} {ls : Array Slot} {cells slots j : Nat} (hst : l.stackTraces = false) (C0 : LX p m c s b Ln xs D cs sk) (Rel : ZS → Prop) (SK : SK_11 Rel) (hz : Rel z) (hj : j + 7 ≤ Ln) (hw : OW D ad cs (fun q : Nat => s.heap.size ≤ q) s.heap z H locs) (hl : lv_has ls 8 [(0, .ref b), (1, .ref (ad 0 100)), (2, .ref (ad 14 100)), (3, .ref (ad 15 0)), (4, .int (nI j))]) (hce : cells + 300 ≤ 600128) (hsl : slots + 3000 ≤ 7301098) (kk : ∀ (z1 : ZS) (H1 : Heap) (locs1 : List Loc), Rel z1 → OW D ad cs (fun q : Nat => s.heap.size ≤ q) s.heap z1 H1 locs1 → W p l e room_1 s m #[Value.ref b] below meth c H1 locs1 (cells + 300) (slots + 3000) Q (F0 m 2120 ls [])) : W p l e room_1 s m #[Value.ref b] below meth c H locs cells slots Q (F0 m 799 ls []) := by
  have E := C0.1
  have hx := E.1.1
  have hb := E.1.2.1
  have hA : ∀ q, s.heap.size ≤ q → (fun q : Nat => s.heap.size ≤ q) q := fun _ h => h
  refine lv_aload_n hx hb dL_law_799 rfl (lv_at hl 1 rfl) ?_
  refine lv_aload_n hx hb dL_law_800 rfl (lv_at hl 0 rfl) ?_
  refine lv_iload hx hb dL_law_801 (lv_at hl 4 rfl) ?_
  refine lv_iconst (v := 1) hx hb dL_law_803 (by decide) ?_
  refine lv_iadd hx hb dL_law_804 ?_
  refine lw_ld C0 hw hj (k := 1) (by decide) rfl dL_law_805 ?_
  refine lv_aload_n hx hb dL_law_806 rfl (lv_at hl 0 rfl) ?_
  refine lv_iload hx hb dL_law_807 (lv_at hl 4 rfl) ?_
  refine lv_iconst (v := 2) hx hb dL_law_809 (by decide) ?_
  refine lv_iadd hx hb dL_law_810 ?_
  refine lw_ld C0 hw hj (k := 2) (by decide) rfl dL_law_811 ?_
  refine xcVI (As := [.int (xs (j + 1)), .int (xs (j + 2))]) (rest := []) E hw hA (c_X11_exit l D ad cs sk z (xs (j + 1)) (xs (j + 2)) _ (SK z (xs (j + 1)) (xs (j + 2)) hz)) lk_11_exit lo_11_exit ⟨Nat.le_of_ble_eq_true rfl, Nat.le_of_ble_eq_true rfl⟩ (xrc E hw ky_0_100 rfl) rfl hl.1 rfl (Nat.le_of_ble_eq_true rfl) dL_law_812 ⟨by simp only [rmq, room_1]; omega, by simp only [rmq, room_1]; omega⟩ (fun r1 z1 H locs hp hw => ?_)
  refine lv_aload_n hx hb dL_law_815 rfl (lv_at hl 2 rfl) ?_
  refine lv_aload_n hx hb dL_law_816 rfl (lv_at hl 0 rfl) ?_
  refine lv_iload hx hb dL_law_817 (lv_at hl 4 rfl) ?_
  refine lv_iconst (v := 1) hx hb dL_law_819 (by decide) ?_
  refine lv_iadd hx hb dL_law_820 ?_
  refine lw_ld C0 hw hj (k := 1) (by decide) rfl dL_law_821 ?_
  refine lv_aload_n hx hb dL_law_822 rfl (lv_at hl 0 rfl) ?_
  refine lv_iload hx hb dL_law_823 (lv_at hl 4 rfl) ?_
  refine lv_iconst (v := 2) hx hb dL_law_825 (by decide) ?_
  refine lv_iadd hx hb dL_law_826 ?_
  refine lw_ld C0 hw hj (k := 2) (by decide) rfl dL_law_827 ?_
  refine xcVI (As := [.int (xs (j + 1)), .int (xs (j + 2))]) (rest := [.int r1]) E hw hA (c_X12_exit l D ad cs sk z1 (xs (j + 1)) (xs (j + 2)) _ hp) lk_12_exit lo_12_exit ⟨Nat.le_of_ble_eq_true rfl, Nat.le_of_ble_eq_true rfl⟩ (xrc E hw ky_14_100 rfl) rfl hl.1 rfl (Nat.le_of_ble_eq_true rfl) dL_law_828 ⟨by simp only [rmq, room_1]; omega, by simp only [rmq, room_1]; omega⟩ (fun r2 z2 H locs hp hw => ?_)
  refine lv_icmp_eq (tgt := 2120) hx hb dL_law_831 (by decide) (fun _ => ?_) (fun c9 => absurd hp.1.symm c9)
  exact W.widen (k := cells + 300) (n := slots + 3000) (by simp only [rmq]; omega) (by simp only [rmq]; omega) (kk z2 H locs hp.2 hw)
def SK_12 (Rel : ZS → Prop) : Prop := ∀ (z : ZS) (p1 p2 p3 p4 p5 : Int32), Rel z → V_X11_load z p1 p2 p3 p4 p5 (fun r z1 => V_X12_load z1 p1 p2 p3 p4 p5 (fun r2 z2 => r2 = r ∧ Rel z2))
set_option maxHeartbeats 4000000 in
theorem L_12 {p : Program} {l : Launch} {e : Env} {s : State} {m : MethodId} {below : List Frame} {meth : Method} {c : Code} {D : va_G} {ad : Nat → Nat → Nat} {cs : Nat → ClassId} {sk : (Nat → Nat) × (Nat → Nat)} {b Ln : Nat} {xs : Nat → Int32} {Q : State → Prop} {z : ZS} {H : Heap} {locs : List Loc} {ls : Array Slot} {cells slots j : Nat} (hst : l.stackTraces = false) (C0 : LX p m c s b Ln xs D cs sk) (Rel : ZS → Prop) (SK : SK_12 Rel) (hz : Rel z) (hj : j + 7 ≤ Ln) (hw : OW D ad cs (fun q : Nat => s.heap.size ≤ q) s.heap z H locs) (hl : lv_has ls 8 [(0, .ref b), (1, .ref (ad 0 100)), (2, .ref (ad 14 100)), (3, .ref (ad 15 0)), (4, .int (nI j))]) (hce : cells + 300 ≤ 600128) (hsl : slots + 3000 ≤ 7301098) (kk : ∀ (z1 : ZS) (H1 : Heap) (locs1 : List Loc), Rel z1 → OW D ad cs (fun q : Nat => s.heap.size ≤ q) s.heap z1 H1 locs1 → W p l e room_1 s m #[Value.ref b] below meth c H1 locs1 (cells + 300) (slots + 3000) Q (F0 m 2120 ls [])) : W p l e room_1 s m #[Value.ref b] below meth c H locs cells slots Q (F0 m 836 ls []) := by
  have E := C0.1
  have hx := E.1.1
  have hb := E.1.2.1
  have hA : ∀ q, s.heap.size ≤ q → (fun q : Nat => s.heap.size ≤ q) q := fun _ h => h
  refine lv_aload_n hx hb dL_law_836 rfl (lv_at hl 1 rfl) ?_
  refine lv_aload_n hx hb dL_law_837 rfl (lv_at hl 0 rfl) ?_
  refine lv_iload hx hb dL_law_838 (lv_at hl 4 rfl) ?_
  refine lv_iconst (v := 1) hx hb dL_law_840 (by decide) ?_
  refine lv_iadd hx hb dL_law_841 ?_
  refine lw_ld C0 hw hj (k := 1) (by decide) rfl dL_law_842 ?_
  refine lv_aload_n hx hb dL_law_843 rfl (lv_at hl 0 rfl) ?_
  refine lv_iload hx hb dL_law_844 (lv_at hl 4 rfl) ?_
  refine lv_iconst (v := 2) hx hb dL_law_846 (by decide) ?_
  refine lv_iadd hx hb dL_law_847 ?_
  refine lw_ld C0 hw hj (k := 2) (by decide) rfl dL_law_848 ?_
  refine lv_aload_n hx hb dL_law_849 rfl (lv_at hl 0 rfl) ?_
  refine lv_iload hx hb dL_law_850 (lv_at hl 4 rfl) ?_
  refine lv_iconst (v := 3) hx hb dL_law_852 (by decide) ?_
  refine lv_iadd hx hb dL_law_853 ?_
  refine lw_ld C0 hw hj (k := 3) (by decide) rfl dL_law_854 ?_
  refine lv_aload_n hx hb dL_law_855 rfl (lv_at hl 0 rfl) ?_
  refine lv_iload hx hb dL_law_856 (lv_at hl 4 rfl) ?_
  refine lv_iconst (v := 4) hx hb dL_law_858 (by decide) ?_
  refine lv_iadd hx hb dL_law_859 ?_
  refine lw_ld C0 hw hj (k := 4) (by decide) rfl dL_law_860 ?_
  refine lv_aload_n hx hb dL_law_861 rfl (lv_at hl 0 rfl) ?_
  refine lv_iload hx hb dL_law_862 (lv_at hl 4 rfl) ?_
  refine lv_iconst (v := 5) hx hb dL_law_864 (by decide) ?_
  refine lv_iadd hx hb dL_law_865 ?_
  refine lw_ld C0 hw hj (k := 5) (by decide) rfl dL_law_866 ?_
  refine xcVI (As := [.int (xs (j + 1)), .int (xs (j + 2)), .int (xs (j + 3)), .int (xs (j + 4)), .int (xs (j + 5))]) (rest := []) E hw hA (c_X11_load l D ad cs sk z (xs (j + 1)) (xs (j + 2)) (xs (j + 3)) (xs (j + 4)) (xs (j + 5)) _ (SK z (xs (j + 1)) (xs (j + 2)) (xs (j + 3)) (xs (j + 4)) (xs (j + 5)) hz)) lk_11_load lo_11_load ⟨Nat.le_of_ble_eq_true rfl, Nat.le_of_ble_eq_true rfl⟩ (xrc E hw ky_0_100 rfl) rfl hl.1 rfl (Nat.le_of_ble_eq_true rfl) dL_law_867 ⟨by simp only [rmq, room_1]; omega, by simp only [rmq, room_1]; omega⟩ (fun r1 z1 H locs hp hw => ?_)
  refine lv_aload_n hx hb dL_law_870 rfl (lv_at hl 2 rfl) ?_
  refine lv_aload_n hx hb dL_law_871 rfl (lv_at hl 0 rfl) ?_
  refine lv_iload hx hb dL_law_872 (lv_at hl 4 rfl) ?_
  refine lv_iconst (v := 1) hx hb dL_law_874 (by decide) ?_
  refine lv_iadd hx hb dL_law_875 ?_
  refine lw_ld C0 hw hj (k := 1) (by decide) rfl dL_law_876 ?_
  refine lv_aload_n hx hb dL_law_877 rfl (lv_at hl 0 rfl) ?_
  refine lv_iload hx hb dL_law_878 (lv_at hl 4 rfl) ?_
  refine lv_iconst (v := 2) hx hb dL_law_880 (by decide) ?_
  refine lv_iadd hx hb dL_law_881 ?_
  refine lw_ld C0 hw hj (k := 2) (by decide) rfl dL_law_882 ?_
  refine lv_aload_n hx hb dL_law_883 rfl (lv_at hl 0 rfl) ?_
  refine lv_iload hx hb dL_law_884 (lv_at hl 4 rfl) ?_
  refine lv_iconst (v := 3) hx hb dL_law_886 (by decide) ?_
  refine lv_iadd hx hb dL_law_887 ?_
  refine lw_ld C0 hw hj (k := 3) (by decide) rfl dL_law_888 ?_
  refine lv_aload_n hx hb dL_law_889 rfl (lv_at hl 0 rfl) ?_
  refine lv_iload hx hb dL_law_890 (lv_at hl 4 rfl) ?_
  refine lv_iconst (v := 4) hx hb dL_law_892 (by decide) ?_
  refine lv_iadd hx hb dL_law_893 ?_
  refine lw_ld C0 hw hj (k := 4) (by decide) rfl dL_law_894 ?_
  refine lv_aload_n hx hb dL_law_895 rfl (lv_at hl 0 rfl) ?_
  refine lv_iload hx hb dL_law_896 (lv_at hl 4 rfl) ?_
  refine lv_iconst (v := 5) hx hb dL_law_898 (by decide) ?_
  refine lv_iadd hx hb dL_law_899 ?_
  refine lw_ld C0 hw hj (k := 5) (by decide) rfl dL_law_900 ?_
  refine xcVI (As := [.int (xs (j + 1)), .int (xs (j + 2)), .int (xs (j + 3)), .int (xs (j + 4)), .int (xs (j + 5))]) (rest := [.int r1]) E hw hA (c_X12_load l D ad cs sk z1 (xs (j + 1)) (xs (j + 2)) (xs (j + 3)) (xs (j + 4)) (xs (j + 5)) _ hp) lk_12_load lo_12_load ⟨Nat.le_of_ble_eq_true rfl, Nat.le_of_ble_eq_true rfl⟩ (xrc E hw ky_14_100 rfl) rfl hl.1 rfl (Nat.le_of_ble_eq_true rfl) dL_law_901 ⟨by simp only [rmq, room_1]; omega, by simp only [rmq, room_1]; omega⟩ (fun r2 z2 H locs hp hw => ?_)
  refine lv_icmp_eq (tgt := 2120) hx hb dL_law_904 (by decide) (fun _ => ?_) (fun c9 => absurd hp.1.symm c9)
  exact W.widen (k := cells + 300) (n := slots + 3000) (by simp only [rmq]; omega) (by simp only [rmq]; omega) (kk z2 H locs hp.2 hw)
def SK_13 (Rel : ZS → Prop) : Prop := ∀ (z : ZS) (p1 p2 p3 p4 : Int32), Rel z → V_X11_bestLoad z p1 p2 p3 p4 (fun r z1 => V_X12_bestLoad z1 p1 p2 p3 p4 (fun r2 z2 => r2 = r ∧ Rel z2))
set_option maxHeartbeats 4000000 in
theorem L_13 {p : Program} {l : Launch} {e : Env} {s : State} {m : MethodId} {below : List Frame} {meth : Method} {c : Code} {D : va_G} {ad : Nat → Nat → Nat} {cs : Nat → ClassId} {sk : (Nat → Nat) × (Nat → Nat)} {b Ln : Nat} {xs : Nat → Int32} {Q : State → Prop} {z : ZS} {H : Heap} {locs : List Loc} {ls : Array Slot} {cells slots j : Nat} (hst : l.stackTraces = false) (C0 : LX p m c s b Ln xs D cs sk) (Rel : ZS → Prop) (SK : SK_13 Rel) (hz : Rel z) (hj : j + 7 ≤ Ln) (hw : OW D ad cs (fun q : Nat => s.heap.size ≤ q) s.heap z H locs) (hl : lv_has ls 8 [(0, .ref b), (1, .ref (ad 0 100)), (2, .ref (ad 14 100)), (3, .ref (ad 15 0)), (4, .int (nI j))]) (hce : cells + 300 ≤ 600128) (hsl : slots + 3000 ≤ 7301098) (kk : ∀ (z1 : ZS) (H1 : Heap) (locs1 : List Loc), Rel z1 → OW D ad cs (fun q : Nat => s.heap.size ≤ q) s.heap z1 H1 locs1 → W p l e room_1 s m #[Value.ref b] below meth c H1 locs1 (cells + 300) (slots + 3000) Q (F0 m 2120 ls [])) : W p l e room_1 s m #[Value.ref b] below meth c H locs cells slots Q (F0 m 909 ls []) := by
  have E := C0.1
  have hx := E.1.1
  have hb := E.1.2.1
  have hA : ∀ q, s.heap.size ≤ q → (fun q : Nat => s.heap.size ≤ q) q := fun _ h => h
  refine lv_aload_n hx hb dL_law_909 rfl (lv_at hl 1 rfl) ?_
  refine lv_aload_n hx hb dL_law_910 rfl (lv_at hl 0 rfl) ?_
  refine lv_iload hx hb dL_law_911 (lv_at hl 4 rfl) ?_
  refine lv_iconst (v := 1) hx hb dL_law_913 (by decide) ?_
  refine lv_iadd hx hb dL_law_914 ?_
  refine lw_ld C0 hw hj (k := 1) (by decide) rfl dL_law_915 ?_
  refine lv_aload_n hx hb dL_law_916 rfl (lv_at hl 0 rfl) ?_
  refine lv_iload hx hb dL_law_917 (lv_at hl 4 rfl) ?_
  refine lv_iconst (v := 2) hx hb dL_law_919 (by decide) ?_
  refine lv_iadd hx hb dL_law_920 ?_
  refine lw_ld C0 hw hj (k := 2) (by decide) rfl dL_law_921 ?_
  refine lv_aload_n hx hb dL_law_922 rfl (lv_at hl 0 rfl) ?_
  refine lv_iload hx hb dL_law_923 (lv_at hl 4 rfl) ?_
  refine lv_iconst (v := 3) hx hb dL_law_925 (by decide) ?_
  refine lv_iadd hx hb dL_law_926 ?_
  refine lw_ld C0 hw hj (k := 3) (by decide) rfl dL_law_927 ?_
  refine lv_aload_n hx hb dL_law_928 rfl (lv_at hl 0 rfl) ?_
  refine lv_iload hx hb dL_law_929 (lv_at hl 4 rfl) ?_
  refine lv_iconst (v := 4) hx hb dL_law_931 (by decide) ?_
  refine lv_iadd hx hb dL_law_932 ?_
  refine lw_ld C0 hw hj (k := 4) (by decide) rfl dL_law_933 ?_
  refine xcVI (As := [.int (xs (j + 1)), .int (xs (j + 2)), .int (xs (j + 3)), .int (xs (j + 4))]) (rest := []) E hw hA (c_X11_bestLoad l D ad cs sk z (xs (j + 1)) (xs (j + 2)) (xs (j + 3)) (xs (j + 4)) _ (SK z (xs (j + 1)) (xs (j + 2)) (xs (j + 3)) (xs (j + 4)) hz)) lk_11_bestLoad lo_11_bestLoad ⟨Nat.le_of_ble_eq_true rfl, Nat.le_of_ble_eq_true rfl⟩ (xrc E hw ky_0_100 rfl) rfl hl.1 rfl (Nat.le_of_ble_eq_true rfl) dL_law_934 ⟨by simp only [rmq, room_1]; omega, by simp only [rmq, room_1]; omega⟩ (fun r1 z1 H locs hp hw => ?_)
  refine lv_aload_n hx hb dL_law_937 rfl (lv_at hl 2 rfl) ?_
  refine lv_aload_n hx hb dL_law_938 rfl (lv_at hl 0 rfl) ?_
  refine lv_iload hx hb dL_law_939 (lv_at hl 4 rfl) ?_
  refine lv_iconst (v := 1) hx hb dL_law_941 (by decide) ?_
  refine lv_iadd hx hb dL_law_942 ?_
  refine lw_ld C0 hw hj (k := 1) (by decide) rfl dL_law_943 ?_
  refine lv_aload_n hx hb dL_law_944 rfl (lv_at hl 0 rfl) ?_
  refine lv_iload hx hb dL_law_945 (lv_at hl 4 rfl) ?_
  refine lv_iconst (v := 2) hx hb dL_law_947 (by decide) ?_
  refine lv_iadd hx hb dL_law_948 ?_
  refine lw_ld C0 hw hj (k := 2) (by decide) rfl dL_law_949 ?_
  refine lv_aload_n hx hb dL_law_950 rfl (lv_at hl 0 rfl) ?_
  refine lv_iload hx hb dL_law_951 (lv_at hl 4 rfl) ?_
  refine lv_iconst (v := 3) hx hb dL_law_953 (by decide) ?_
  refine lv_iadd hx hb dL_law_954 ?_
  refine lw_ld C0 hw hj (k := 3) (by decide) rfl dL_law_955 ?_
  refine lv_aload_n hx hb dL_law_956 rfl (lv_at hl 0 rfl) ?_
  refine lv_iload hx hb dL_law_957 (lv_at hl 4 rfl) ?_
  refine lv_iconst (v := 4) hx hb dL_law_959 (by decide) ?_
  refine lv_iadd hx hb dL_law_960 ?_
  refine lw_ld C0 hw hj (k := 4) (by decide) rfl dL_law_961 ?_
  refine xcVI (As := [.int (xs (j + 1)), .int (xs (j + 2)), .int (xs (j + 3)), .int (xs (j + 4))]) (rest := [.int r1]) E hw hA (c_X12_bestLoad l D ad cs sk z1 (xs (j + 1)) (xs (j + 2)) (xs (j + 3)) (xs (j + 4)) _ hp) lk_12_bestLoad lo_12_bestLoad ⟨Nat.le_of_ble_eq_true rfl, Nat.le_of_ble_eq_true rfl⟩ (xrc E hw ky_14_100 rfl) rfl hl.1 rfl (Nat.le_of_ble_eq_true rfl) dL_law_962 ⟨by simp only [rmq, room_1]; omega, by simp only [rmq, room_1]; omega⟩ (fun r2 z2 H locs hp hw => ?_)
  refine lv_icmp_eq (tgt := 2120) hx hb dL_law_965 (by decide) (fun _ => ?_) (fun c9 => absurd hp.1.symm c9)
  exact W.widen (k := cells + 300) (n := slots + 3000) (by simp only [rmq]; omega) (by simp only [rmq]; omega) (kk z2 H locs hp.2 hw)
def SK_14 (Rel : ZS → Prop) : Prop := ∀ (z : ZS) (p1 p2 p3 p4 p5 : Int32), Rel z → V_X11_order z p1 p2 p3 p4 p5 (fun r z1 => V_X12_order z1 p1 p2 p3 p4 p5 (fun r2 z2 => r2 = r ∧ Rel z2))
set_option maxHeartbeats 4000000 in
theorem L_14 {p : Program} {l : Launch} {e : Env} {s : State} {m : MethodId} {below : List Frame} {meth : Method} {c : Code} {D : va_G} {ad : Nat → Nat → Nat} {cs : Nat → ClassId} {sk : (Nat → Nat) × (Nat → Nat)} {b Ln : Nat} {xs : Nat → Int32} {Q : State → Prop} {z : ZS} {H : Heap} {locs : List Loc} {ls : Array Slot} {cells slots j : Nat} (hst : l.stackTraces = false) (C0 : LX p m c s b Ln xs D cs sk) (Rel : ZS → Prop) (SK : SK_14 Rel) (hz : Rel z) (hj : j + 7 ≤ Ln) (hw : OW D ad cs (fun q : Nat => s.heap.size ≤ q) s.heap z H locs) (hl : lv_has ls 8 [(0, .ref b), (1, .ref (ad 0 100)), (2, .ref (ad 14 100)), (3, .ref (ad 15 0)), (4, .int (nI j))]) (hce : cells + 300 ≤ 600128) (hsl : slots + 3000 ≤ 7301098) (kk : ∀ (z1 : ZS) (H1 : Heap) (locs1 : List Loc), Rel z1 → OW D ad cs (fun q : Nat => s.heap.size ≤ q) s.heap z1 H1 locs1 → W p l e room_1 s m #[Value.ref b] below meth c H1 locs1 (cells + 300) (slots + 3000) Q (F0 m 2120 ls [])) : W p l e room_1 s m #[Value.ref b] below meth c H locs cells slots Q (F0 m 970 ls []) := by
  have E := C0.1
  have hx := E.1.1
  have hb := E.1.2.1
  have hA : ∀ q, s.heap.size ≤ q → (fun q : Nat => s.heap.size ≤ q) q := fun _ h => h
  refine lv_aload_n hx hb dL_law_970 rfl (lv_at hl 1 rfl) ?_
  refine lv_aload_n hx hb dL_law_971 rfl (lv_at hl 0 rfl) ?_
  refine lv_iload hx hb dL_law_972 (lv_at hl 4 rfl) ?_
  refine lv_iconst (v := 1) hx hb dL_law_974 (by decide) ?_
  refine lv_iadd hx hb dL_law_975 ?_
  refine lw_ld C0 hw hj (k := 1) (by decide) rfl dL_law_976 ?_
  refine lv_aload_n hx hb dL_law_977 rfl (lv_at hl 0 rfl) ?_
  refine lv_iload hx hb dL_law_978 (lv_at hl 4 rfl) ?_
  refine lv_iconst (v := 2) hx hb dL_law_980 (by decide) ?_
  refine lv_iadd hx hb dL_law_981 ?_
  refine lw_ld C0 hw hj (k := 2) (by decide) rfl dL_law_982 ?_
  refine lv_aload_n hx hb dL_law_983 rfl (lv_at hl 0 rfl) ?_
  refine lv_iload hx hb dL_law_984 (lv_at hl 4 rfl) ?_
  refine lv_iconst (v := 3) hx hb dL_law_986 (by decide) ?_
  refine lv_iadd hx hb dL_law_987 ?_
  refine lw_ld C0 hw hj (k := 3) (by decide) rfl dL_law_988 ?_
  refine lv_aload_n hx hb dL_law_989 rfl (lv_at hl 0 rfl) ?_
  refine lv_iload hx hb dL_law_990 (lv_at hl 4 rfl) ?_
  refine lv_iconst (v := 4) hx hb dL_law_992 (by decide) ?_
  refine lv_iadd hx hb dL_law_993 ?_
  refine lw_ld C0 hw hj (k := 4) (by decide) rfl dL_law_994 ?_
  refine lv_aload_n hx hb dL_law_995 rfl (lv_at hl 0 rfl) ?_
  refine lv_iload hx hb dL_law_996 (lv_at hl 4 rfl) ?_
  refine lv_iconst (v := 5) hx hb dL_law_998 (by decide) ?_
  refine lv_iadd hx hb dL_law_999 ?_
  refine lw_ld C0 hw hj (k := 5) (by decide) rfl dL_law_1000 ?_
  refine xcVI (As := [.int (xs (j + 1)), .int (xs (j + 2)), .int (xs (j + 3)), .int (xs (j + 4)), .int (xs (j + 5))]) (rest := []) E hw hA (c_X11_order l D ad cs sk z (xs (j + 1)) (xs (j + 2)) (xs (j + 3)) (xs (j + 4)) (xs (j + 5)) _ (SK z (xs (j + 1)) (xs (j + 2)) (xs (j + 3)) (xs (j + 4)) (xs (j + 5)) hz)) lk_11_order lo_11_order ⟨Nat.le_of_ble_eq_true rfl, Nat.le_of_ble_eq_true rfl⟩ (xrc E hw ky_0_100 rfl) rfl hl.1 rfl (Nat.le_of_ble_eq_true rfl) dL_law_1001 ⟨by simp only [rmq, room_1]; omega, by simp only [rmq, room_1]; omega⟩ (fun r1 z1 H locs hp hw => ?_)
  refine lv_aload_n hx hb dL_law_1004 rfl (lv_at hl 2 rfl) ?_
  refine lv_aload_n hx hb dL_law_1005 rfl (lv_at hl 0 rfl) ?_
  refine lv_iload hx hb dL_law_1006 (lv_at hl 4 rfl) ?_
  refine lv_iconst (v := 1) hx hb dL_law_1008 (by decide) ?_
  refine lv_iadd hx hb dL_law_1009 ?_
  refine lw_ld C0 hw hj (k := 1) (by decide) rfl dL_law_1010 ?_
  refine lv_aload_n hx hb dL_law_1011 rfl (lv_at hl 0 rfl) ?_
  refine lv_iload hx hb dL_law_1012 (lv_at hl 4 rfl) ?_
  refine lv_iconst (v := 2) hx hb dL_law_1014 (by decide) ?_
  refine lv_iadd hx hb dL_law_1015 ?_
  refine lw_ld C0 hw hj (k := 2) (by decide) rfl dL_law_1016 ?_
  refine lv_aload_n hx hb dL_law_1017 rfl (lv_at hl 0 rfl) ?_
  refine lv_iload hx hb dL_law_1018 (lv_at hl 4 rfl) ?_
  refine lv_iconst (v := 3) hx hb dL_law_1020 (by decide) ?_
  refine lv_iadd hx hb dL_law_1021 ?_
  refine lw_ld C0 hw hj (k := 3) (by decide) rfl dL_law_1022 ?_
  refine lv_aload_n hx hb dL_law_1023 rfl (lv_at hl 0 rfl) ?_
  refine lv_iload hx hb dL_law_1024 (lv_at hl 4 rfl) ?_
  refine lv_iconst (v := 4) hx hb dL_law_1026 (by decide) ?_
  refine lv_iadd hx hb dL_law_1027 ?_
  refine lw_ld C0 hw hj (k := 4) (by decide) rfl dL_law_1028 ?_
  refine lv_aload_n hx hb dL_law_1029 rfl (lv_at hl 0 rfl) ?_
  refine lv_iload hx hb dL_law_1030 (lv_at hl 4 rfl) ?_
  refine lv_iconst (v := 5) hx hb dL_law_1032 (by decide) ?_
  refine lv_iadd hx hb dL_law_1033 ?_
  refine lw_ld C0 hw hj (k := 5) (by decide) rfl dL_law_1034 ?_
  refine xcVI (As := [.int (xs (j + 1)), .int (xs (j + 2)), .int (xs (j + 3)), .int (xs (j + 4)), .int (xs (j + 5))]) (rest := [.int r1]) E hw hA (c_X12_order l D ad cs sk z1 (xs (j + 1)) (xs (j + 2)) (xs (j + 3)) (xs (j + 4)) (xs (j + 5)) _ hp) lk_12_order lo_12_order ⟨Nat.le_of_ble_eq_true rfl, Nat.le_of_ble_eq_true rfl⟩ (xrc E hw ky_14_100 rfl) rfl hl.1 rfl (Nat.le_of_ble_eq_true rfl) dL_law_1035 ⟨by simp only [rmq, room_1]; omega, by simp only [rmq, room_1]; omega⟩ (fun r2 z2 H locs hp hw => ?_)
  refine lv_icmp_eq (tgt := 2120) hx hb dL_law_1038 (by decide) (fun _ => ?_) (fun c9 => absurd hp.1.symm c9)
  exact W.widen (k := cells + 300) (n := slots + 3000) (by simp only [rmq]; omega) (by simp only [rmq]; omega) (kk z2 H locs hp.2 hw)
def SK_15 (Rel : ZS → Prop) : Prop := ∀ (z : ZS) (p1 p2 p3 : Int32), Rel z → V_X11_cone z p1 p2 p3 (fun r z1 => V_X12_cone z1 p1 p2 p3 (fun r2 z2 => r2 = r ∧ Rel z2))
set_option maxHeartbeats 4000000 in
theorem L_15 {p : Program} {l : Launch} {e : Env} {s : State} {m : MethodId} {below : List Frame} {meth : Method} {c : Code} {D : va_G} {ad : Nat → Nat → Nat} {cs : Nat → ClassId} {sk : (Nat → Nat) × (Nat → Nat)} {b Ln : Nat} {xs : Nat → Int32} {Q : State → Prop} {z : ZS} {H : Heap} {locs : List Loc} {ls : Array Slot} {cells slots j : Nat} (hst : l.stackTraces = false) (C0 : LX p m c s b Ln xs D cs sk) (Rel : ZS → Prop) (SK : SK_15 Rel) (hz : Rel z) (hj : j + 7 ≤ Ln) (hw : OW D ad cs (fun q : Nat => s.heap.size ≤ q) s.heap z H locs) (hl : lv_has ls 8 [(0, .ref b), (1, .ref (ad 0 100)), (2, .ref (ad 14 100)), (3, .ref (ad 15 0)), (4, .int (nI j))]) (hce : cells + 300 ≤ 600128) (hsl : slots + 3000 ≤ 7301098) (kk : ∀ (z1 : ZS) (H1 : Heap) (locs1 : List Loc), Rel z1 → OW D ad cs (fun q : Nat => s.heap.size ≤ q) s.heap z1 H1 locs1 → W p l e room_1 s m #[Value.ref b] below meth c H1 locs1 (cells + 300) (slots + 3000) Q (F0 m 2120 ls [])) : W p l e room_1 s m #[Value.ref b] below meth c H locs cells slots Q (F0 m 1043 ls []) := by
  have E := C0.1
  have hx := E.1.1
  have hb := E.1.2.1
  have hA : ∀ q, s.heap.size ≤ q → (fun q : Nat => s.heap.size ≤ q) q := fun _ h => h
  refine lv_aload_n hx hb dL_law_1043 rfl (lv_at hl 1 rfl) ?_
  refine lv_aload_n hx hb dL_law_1044 rfl (lv_at hl 0 rfl) ?_
  refine lv_iload hx hb dL_law_1045 (lv_at hl 4 rfl) ?_
  refine lv_iconst (v := 1) hx hb dL_law_1047 (by decide) ?_
  refine lv_iadd hx hb dL_law_1048 ?_
  refine lw_ld C0 hw hj (k := 1) (by decide) rfl dL_law_1049 ?_
  refine lv_aload_n hx hb dL_law_1050 rfl (lv_at hl 0 rfl) ?_
  refine lv_iload hx hb dL_law_1051 (lv_at hl 4 rfl) ?_
  refine lv_iconst (v := 2) hx hb dL_law_1053 (by decide) ?_
  refine lv_iadd hx hb dL_law_1054 ?_
  refine lw_ld C0 hw hj (k := 2) (by decide) rfl dL_law_1055 ?_
  refine lv_aload_n hx hb dL_law_1056 rfl (lv_at hl 0 rfl) ?_
  refine lv_iload hx hb dL_law_1057 (lv_at hl 4 rfl) ?_
  refine lv_iconst (v := 3) hx hb dL_law_1059 (by decide) ?_
  refine lv_iadd hx hb dL_law_1060 ?_
  refine lw_ld C0 hw hj (k := 3) (by decide) rfl dL_law_1061 ?_
  refine xcVI (As := [.int (xs (j + 1)), .int (xs (j + 2)), .int (xs (j + 3))]) (rest := []) E hw hA (c_X11_cone l D ad cs sk z (xs (j + 1)) (xs (j + 2)) (xs (j + 3)) _ (SK z (xs (j + 1)) (xs (j + 2)) (xs (j + 3)) hz)) lk_11_cone lo_11_cone ⟨Nat.le_of_ble_eq_true rfl, Nat.le_of_ble_eq_true rfl⟩ (xrc E hw ky_0_100 rfl) rfl hl.1 rfl (Nat.le_of_ble_eq_true rfl) dL_law_1062 ⟨by simp only [rmq, room_1]; omega, by simp only [rmq, room_1]; omega⟩ (fun r1 z1 H locs hp hw => ?_)
  refine lv_aload_n hx hb dL_law_1065 rfl (lv_at hl 2 rfl) ?_
  refine lv_aload_n hx hb dL_law_1066 rfl (lv_at hl 0 rfl) ?_
  refine lv_iload hx hb dL_law_1067 (lv_at hl 4 rfl) ?_
  refine lv_iconst (v := 1) hx hb dL_law_1069 (by decide) ?_
  refine lv_iadd hx hb dL_law_1070 ?_
  refine lw_ld C0 hw hj (k := 1) (by decide) rfl dL_law_1071 ?_
  refine lv_aload_n hx hb dL_law_1072 rfl (lv_at hl 0 rfl) ?_
  refine lv_iload hx hb dL_law_1073 (lv_at hl 4 rfl) ?_
  refine lv_iconst (v := 2) hx hb dL_law_1075 (by decide) ?_
  refine lv_iadd hx hb dL_law_1076 ?_
  refine lw_ld C0 hw hj (k := 2) (by decide) rfl dL_law_1077 ?_
  refine lv_aload_n hx hb dL_law_1078 rfl (lv_at hl 0 rfl) ?_
  refine lv_iload hx hb dL_law_1079 (lv_at hl 4 rfl) ?_
  refine lv_iconst (v := 3) hx hb dL_law_1081 (by decide) ?_
  refine lv_iadd hx hb dL_law_1082 ?_
  refine lw_ld C0 hw hj (k := 3) (by decide) rfl dL_law_1083 ?_
  refine xcVI (As := [.int (xs (j + 1)), .int (xs (j + 2)), .int (xs (j + 3))]) (rest := [.int r1]) E hw hA (c_X12_cone l D ad cs sk z1 (xs (j + 1)) (xs (j + 2)) (xs (j + 3)) _ hp) lk_12_cone lo_12_cone ⟨Nat.le_of_ble_eq_true rfl, Nat.le_of_ble_eq_true rfl⟩ (xrc E hw ky_14_100 rfl) rfl hl.1 rfl (Nat.le_of_ble_eq_true rfl) dL_law_1084 ⟨by simp only [rmq, room_1]; omega, by simp only [rmq, room_1]; omega⟩ (fun r2 z2 H locs hp hw => ?_)
  refine lv_icmp_eq (tgt := 2120) hx hb dL_law_1087 (by decide) (fun _ => ?_) (fun c9 => absurd hp.1.symm c9)
  exact W.widen (k := cells + 300) (n := slots + 3000) (by simp only [rmq]; omega) (by simp only [rmq]; omega) (kk z2 H locs hp.2 hw)
def SK_16 (Rel : ZS → Prop) : Prop := ∀ (z : ZS) (p1 p2 p3 p4 : Int32), Rel z → V_X11_steering z p1 p2 p3 p4 (fun r z1 => V_X12_steering z1 p1 p2 p3 p4 (fun r2 z2 => r2 = r ∧ Rel z2))
set_option maxHeartbeats 4000000 in
theorem L_16 {p : Program} {l : Launch} {e : Env} {s : State} {m : MethodId} {below : List Frame} {meth : Method} {c : Code} {D : va_G} {ad : Nat → Nat → Nat} {cs : Nat → ClassId} {sk : (Nat → Nat) × (Nat → Nat)} {b Ln : Nat} {xs : Nat → Int32} {Q : State → Prop} {z : ZS} {H : Heap} {locs : List Loc} {ls : Array Slot} {cells slots j : Nat} (hst : l.stackTraces = false) (C0 : LX p m c s b Ln xs D cs sk) (Rel : ZS → Prop) (SK : SK_16 Rel) (hz : Rel z) (hj : j + 7 ≤ Ln) (hw : OW D ad cs (fun q : Nat => s.heap.size ≤ q) s.heap z H locs) (hl : lv_has ls 8 [(0, .ref b), (1, .ref (ad 0 100)), (2, .ref (ad 14 100)), (3, .ref (ad 15 0)), (4, .int (nI j))]) (hce : cells + 300 ≤ 600128) (hsl : slots + 3000 ≤ 7301098) (kk : ∀ (z1 : ZS) (H1 : Heap) (locs1 : List Loc), Rel z1 → OW D ad cs (fun q : Nat => s.heap.size ≤ q) s.heap z1 H1 locs1 → W p l e room_1 s m #[Value.ref b] below meth c H1 locs1 (cells + 300) (slots + 3000) Q (F0 m 2120 ls [])) : W p l e room_1 s m #[Value.ref b] below meth c H locs cells slots Q (F0 m 1092 ls []) := by
  have E := C0.1
  have hx := E.1.1
  have hb := E.1.2.1
  have hA : ∀ q, s.heap.size ≤ q → (fun q : Nat => s.heap.size ≤ q) q := fun _ h => h
  refine lv_aload_n hx hb dL_law_1092 rfl (lv_at hl 1 rfl) ?_
  refine lv_aload_n hx hb dL_law_1093 rfl (lv_at hl 0 rfl) ?_
  refine lv_iload hx hb dL_law_1094 (lv_at hl 4 rfl) ?_
  refine lv_iconst (v := 1) hx hb dL_law_1096 (by decide) ?_
  refine lv_iadd hx hb dL_law_1097 ?_
  refine lw_ld C0 hw hj (k := 1) (by decide) rfl dL_law_1098 ?_
  refine lv_aload_n hx hb dL_law_1099 rfl (lv_at hl 0 rfl) ?_
  refine lv_iload hx hb dL_law_1100 (lv_at hl 4 rfl) ?_
  refine lv_iconst (v := 2) hx hb dL_law_1102 (by decide) ?_
  refine lv_iadd hx hb dL_law_1103 ?_
  refine lw_ld C0 hw hj (k := 2) (by decide) rfl dL_law_1104 ?_
  refine lv_aload_n hx hb dL_law_1105 rfl (lv_at hl 0 rfl) ?_
  refine lv_iload hx hb dL_law_1106 (lv_at hl 4 rfl) ?_
  refine lv_iconst (v := 3) hx hb dL_law_1108 (by decide) ?_
  refine lv_iadd hx hb dL_law_1109 ?_
  refine lw_ld C0 hw hj (k := 3) (by decide) rfl dL_law_1110 ?_
  refine lv_aload_n hx hb dL_law_1111 rfl (lv_at hl 0 rfl) ?_
  refine lv_iload hx hb dL_law_1112 (lv_at hl 4 rfl) ?_
  refine lv_iconst (v := 4) hx hb dL_law_1114 (by decide) ?_
  refine lv_iadd hx hb dL_law_1115 ?_
  refine lw_ld C0 hw hj (k := 4) (by decide) rfl dL_law_1116 ?_
  refine xcVI (As := [.int (xs (j + 1)), .int (xs (j + 2)), .int (xs (j + 3)), .int (xs (j + 4))]) (rest := []) E hw hA (c_X11_steering l D ad cs sk z (xs (j + 1)) (xs (j + 2)) (xs (j + 3)) (xs (j + 4)) _ (SK z (xs (j + 1)) (xs (j + 2)) (xs (j + 3)) (xs (j + 4)) hz)) lk_11_steering lo_11_steering ⟨Nat.le_of_ble_eq_true rfl, Nat.le_of_ble_eq_true rfl⟩ (xrc E hw ky_0_100 rfl) rfl hl.1 rfl (Nat.le_of_ble_eq_true rfl) dL_law_1117 ⟨by simp only [rmq, room_1]; omega, by simp only [rmq, room_1]; omega⟩ (fun r1 z1 H locs hp hw => ?_)
  refine lv_aload_n hx hb dL_law_1120 rfl (lv_at hl 2 rfl) ?_
  refine lv_aload_n hx hb dL_law_1121 rfl (lv_at hl 0 rfl) ?_
  refine lv_iload hx hb dL_law_1122 (lv_at hl 4 rfl) ?_
  refine lv_iconst (v := 1) hx hb dL_law_1124 (by decide) ?_
  refine lv_iadd hx hb dL_law_1125 ?_
  refine lw_ld C0 hw hj (k := 1) (by decide) rfl dL_law_1126 ?_
  refine lv_aload_n hx hb dL_law_1127 rfl (lv_at hl 0 rfl) ?_
  refine lv_iload hx hb dL_law_1128 (lv_at hl 4 rfl) ?_
  refine lv_iconst (v := 2) hx hb dL_law_1130 (by decide) ?_
  refine lv_iadd hx hb dL_law_1131 ?_
  refine lw_ld C0 hw hj (k := 2) (by decide) rfl dL_law_1132 ?_
  refine lv_aload_n hx hb dL_law_1133 rfl (lv_at hl 0 rfl) ?_
  refine lv_iload hx hb dL_law_1134 (lv_at hl 4 rfl) ?_
  refine lv_iconst (v := 3) hx hb dL_law_1136 (by decide) ?_
  refine lv_iadd hx hb dL_law_1137 ?_
  refine lw_ld C0 hw hj (k := 3) (by decide) rfl dL_law_1138 ?_
  refine lv_aload_n hx hb dL_law_1139 rfl (lv_at hl 0 rfl) ?_
  refine lv_iload hx hb dL_law_1140 (lv_at hl 4 rfl) ?_
  refine lv_iconst (v := 4) hx hb dL_law_1142 (by decide) ?_
  refine lv_iadd hx hb dL_law_1143 ?_
  refine lw_ld C0 hw hj (k := 4) (by decide) rfl dL_law_1144 ?_
  refine xcVI (As := [.int (xs (j + 1)), .int (xs (j + 2)), .int (xs (j + 3)), .int (xs (j + 4))]) (rest := [.int r1]) E hw hA (c_X12_steering l D ad cs sk z1 (xs (j + 1)) (xs (j + 2)) (xs (j + 3)) (xs (j + 4)) _ hp) lk_12_steering lo_12_steering ⟨Nat.le_of_ble_eq_true rfl, Nat.le_of_ble_eq_true rfl⟩ (xrc E hw ky_14_100 rfl) rfl hl.1 rfl (Nat.le_of_ble_eq_true rfl) dL_law_1145 ⟨by simp only [rmq, room_1]; omega, by simp only [rmq, room_1]; omega⟩ (fun r2 z2 H locs hp hw => ?_)
  refine lv_icmp_eq (tgt := 2120) hx hb dL_law_1148 (by decide) (fun _ => ?_) (fun c9 => absurd hp.1.symm c9)
  exact W.widen (k := cells + 300) (n := slots + 3000) (by simp only [rmq]; omega) (by simp only [rmq]; omega) (kk z2 H locs hp.2 hw)
def SK_17 (Rel : ZS → Prop) : Prop := ∀ (z : ZS) (p1 : Int32), Rel z → V_X11_last z p1 (fun r z1 => V_X12_last z1 p1 (fun r2 z2 => r2 = r ∧ Rel z2))
set_option maxHeartbeats 4000000 in
theorem L_17 {p : Program} {l : Launch} {e : Env} {s : State} {m : MethodId} {below : List Frame} {meth : Method} {c : Code} {D : va_G} {ad : Nat → Nat → Nat} {cs : Nat → ClassId} {sk : (Nat → Nat) × (Nat → Nat)} {b Ln : Nat} {xs : Nat → Int32} {Q : State → Prop} {z : ZS} {H : Heap} {locs : List Loc} {ls : Array Slot} {cells slots j : Nat} (hst : l.stackTraces = false) (C0 : LX p m c s b Ln xs D cs sk) (Rel : ZS → Prop) (SK : SK_17 Rel) (hz : Rel z) (hj : j + 7 ≤ Ln) (hw : OW D ad cs (fun q : Nat => s.heap.size ≤ q) s.heap z H locs) (hl : lv_has ls 8 [(0, .ref b), (1, .ref (ad 0 100)), (2, .ref (ad 14 100)), (3, .ref (ad 15 0)), (4, .int (nI j))]) (hce : cells + 300 ≤ 600128) (hsl : slots + 3000 ≤ 7301098) (kk : ∀ (z1 : ZS) (H1 : Heap) (locs1 : List Loc), Rel z1 → OW D ad cs (fun q : Nat => s.heap.size ≤ q) s.heap z1 H1 locs1 → W p l e room_1 s m #[Value.ref b] below meth c H1 locs1 (cells + 300) (slots + 3000) Q (F0 m 2120 ls [])) : W p l e room_1 s m #[Value.ref b] below meth c H locs cells slots Q (F0 m 1153 ls []) := by
  have E := C0.1
  have hx := E.1.1
  have hb := E.1.2.1
  have hA : ∀ q, s.heap.size ≤ q → (fun q : Nat => s.heap.size ≤ q) q := fun _ h => h
  refine lv_aload_n hx hb dL_law_1153 rfl (lv_at hl 1 rfl) ?_
  refine lv_aload_n hx hb dL_law_1154 rfl (lv_at hl 0 rfl) ?_
  refine lv_iload hx hb dL_law_1155 (lv_at hl 4 rfl) ?_
  refine lv_iconst (v := 1) hx hb dL_law_1157 (by decide) ?_
  refine lv_iadd hx hb dL_law_1158 ?_
  refine lw_ld C0 hw hj (k := 1) (by decide) rfl dL_law_1159 ?_
  refine xcVI (As := [.int (xs (j + 1))]) (rest := []) E hw hA (c_X11_last l D ad cs sk z (xs (j + 1)) _ (SK z (xs (j + 1)) hz)) lk_11_last lo_11_last ⟨Nat.le_of_ble_eq_true rfl, Nat.le_of_ble_eq_true rfl⟩ (xrc E hw ky_0_100 rfl) rfl hl.1 rfl (Nat.le_of_ble_eq_true rfl) dL_law_1160 ⟨by simp only [rmq, room_1]; omega, by simp only [rmq, room_1]; omega⟩ (fun r1 z1 H locs hp hw => ?_)
  refine lv_aload_n hx hb dL_law_1163 rfl (lv_at hl 2 rfl) ?_
  refine lv_aload_n hx hb dL_law_1164 rfl (lv_at hl 0 rfl) ?_
  refine lv_iload hx hb dL_law_1165 (lv_at hl 4 rfl) ?_
  refine lv_iconst (v := 1) hx hb dL_law_1167 (by decide) ?_
  refine lv_iadd hx hb dL_law_1168 ?_
  refine lw_ld C0 hw hj (k := 1) (by decide) rfl dL_law_1169 ?_
  refine xcVI (As := [.int (xs (j + 1))]) (rest := [.int r1]) E hw hA (c_X12_last l D ad cs sk z1 (xs (j + 1)) _ hp) lk_12_last lo_12_last ⟨Nat.le_of_ble_eq_true rfl, Nat.le_of_ble_eq_true rfl⟩ (xrc E hw ky_14_100 rfl) rfl hl.1 rfl (Nat.le_of_ble_eq_true rfl) dL_law_1170 ⟨by simp only [rmq, room_1]; omega, by simp only [rmq, room_1]; omega⟩ (fun r2 z2 H locs hp hw => ?_)
  refine lv_icmp_eq (tgt := 2120) hx hb dL_law_1173 (by decide) (fun _ => ?_) (fun c9 => absurd hp.1.symm c9)
  exact W.widen (k := cells + 300) (n := slots + 3000) (by simp only [rmq]; omega) (by simp only [rmq]; omega) (kk z2 H locs hp.2 hw)
def SK_18 (Rel : ZS → Prop) : Prop := ∀ (z : ZS) (p1 p2 p3 : Int32), Rel z → V_X11_safe z p1 p2 p3 (fun r z1 => V_X12_safe z1 p1 p2 p3 (fun r2 z2 => r2 = r ∧ Rel z2))
set_option maxHeartbeats 4000000 in
theorem L_18 {p : Program} {l : Launch} {e : Env} {s : State} {m : MethodId} {below : List Frame} {meth : Method} {c : Code} {D : va_G} {ad : Nat → Nat → Nat} {cs : Nat → ClassId} {sk : (Nat → Nat) × (Nat → Nat)} {b Ln : Nat} {xs : Nat → Int32} {Q : State → Prop} {z : ZS} {H : Heap} {locs : List Loc} {ls : Array Slot} {cells slots j : Nat} (hst : l.stackTraces = false) (C0 : LX p m c s b Ln xs D cs sk) (Rel : ZS → Prop) (SK : SK_18 Rel) (hz : Rel z) (hj : j + 7 ≤ Ln) (hw : OW D ad cs (fun q : Nat => s.heap.size ≤ q) s.heap z H locs) (hl : lv_has ls 8 [(0, .ref b), (1, .ref (ad 0 100)), (2, .ref (ad 14 100)), (3, .ref (ad 15 0)), (4, .int (nI j))]) (hce : cells + 300 ≤ 600128) (hsl : slots + 3000 ≤ 7301098) (kk : ∀ (z1 : ZS) (H1 : Heap) (locs1 : List Loc), Rel z1 → OW D ad cs (fun q : Nat => s.heap.size ≤ q) s.heap z1 H1 locs1 → W p l e room_1 s m #[Value.ref b] below meth c H1 locs1 (cells + 300) (slots + 3000) Q (F0 m 2120 ls [])) : W p l e room_1 s m #[Value.ref b] below meth c H locs cells slots Q (F0 m 1178 ls []) := by
  have E := C0.1
  have hx := E.1.1
  have hb := E.1.2.1
  have hA : ∀ q, s.heap.size ≤ q → (fun q : Nat => s.heap.size ≤ q) q := fun _ h => h
  refine lv_aload_n hx hb dL_law_1178 rfl (lv_at hl 1 rfl) ?_
  refine lv_aload_n hx hb dL_law_1179 rfl (lv_at hl 0 rfl) ?_
  refine lv_iload hx hb dL_law_1180 (lv_at hl 4 rfl) ?_
  refine lv_iconst (v := 1) hx hb dL_law_1182 (by decide) ?_
  refine lv_iadd hx hb dL_law_1183 ?_
  refine lw_ld C0 hw hj (k := 1) (by decide) rfl dL_law_1184 ?_
  refine lv_aload_n hx hb dL_law_1185 rfl (lv_at hl 0 rfl) ?_
  refine lv_iload hx hb dL_law_1186 (lv_at hl 4 rfl) ?_
  refine lv_iconst (v := 2) hx hb dL_law_1188 (by decide) ?_
  refine lv_iadd hx hb dL_law_1189 ?_
  refine lw_ld C0 hw hj (k := 2) (by decide) rfl dL_law_1190 ?_
  refine lv_aload_n hx hb dL_law_1191 rfl (lv_at hl 0 rfl) ?_
  refine lv_iload hx hb dL_law_1192 (lv_at hl 4 rfl) ?_
  refine lv_iconst (v := 3) hx hb dL_law_1194 (by decide) ?_
  refine lv_iadd hx hb dL_law_1195 ?_
  refine lw_ld C0 hw hj (k := 3) (by decide) rfl dL_law_1196 ?_
  refine xcVI (As := [.int (xs (j + 1)), .int (xs (j + 2)), .int (xs (j + 3))]) (rest := []) E hw hA (c_X11_safe l D ad cs sk z (xs (j + 1)) (xs (j + 2)) (xs (j + 3)) _ (SK z (xs (j + 1)) (xs (j + 2)) (xs (j + 3)) hz)) lk_11_safe lo_11_safe ⟨Nat.le_of_ble_eq_true rfl, Nat.le_of_ble_eq_true rfl⟩ (xrc E hw ky_0_100 rfl) rfl hl.1 rfl (Nat.le_of_ble_eq_true rfl) dL_law_1197 ⟨by simp only [rmq, room_1]; omega, by simp only [rmq, room_1]; omega⟩ (fun r1 z1 H locs hp hw => ?_)
  refine lv_aload_n hx hb dL_law_1200 rfl (lv_at hl 2 rfl) ?_
  refine lv_aload_n hx hb dL_law_1201 rfl (lv_at hl 0 rfl) ?_
  refine lv_iload hx hb dL_law_1202 (lv_at hl 4 rfl) ?_
  refine lv_iconst (v := 1) hx hb dL_law_1204 (by decide) ?_
  refine lv_iadd hx hb dL_law_1205 ?_
  refine lw_ld C0 hw hj (k := 1) (by decide) rfl dL_law_1206 ?_
  refine lv_aload_n hx hb dL_law_1207 rfl (lv_at hl 0 rfl) ?_
  refine lv_iload hx hb dL_law_1208 (lv_at hl 4 rfl) ?_
  refine lv_iconst (v := 2) hx hb dL_law_1210 (by decide) ?_
  refine lv_iadd hx hb dL_law_1211 ?_
  refine lw_ld C0 hw hj (k := 2) (by decide) rfl dL_law_1212 ?_
  refine lv_aload_n hx hb dL_law_1213 rfl (lv_at hl 0 rfl) ?_
  refine lv_iload hx hb dL_law_1214 (lv_at hl 4 rfl) ?_
  refine lv_iconst (v := 3) hx hb dL_law_1216 (by decide) ?_
  refine lv_iadd hx hb dL_law_1217 ?_
  refine lw_ld C0 hw hj (k := 3) (by decide) rfl dL_law_1218 ?_
  refine xcVI (As := [.int (xs (j + 1)), .int (xs (j + 2)), .int (xs (j + 3))]) (rest := [.int r1]) E hw hA (c_X12_safe l D ad cs sk z1 (xs (j + 1)) (xs (j + 2)) (xs (j + 3)) _ hp) lk_12_safe lo_12_safe ⟨Nat.le_of_ble_eq_true rfl, Nat.le_of_ble_eq_true rfl⟩ (xrc E hw ky_14_100 rfl) rfl hl.1 rfl (Nat.le_of_ble_eq_true rfl) dL_law_1219 ⟨by simp only [rmq, room_1]; omega, by simp only [rmq, room_1]; omega⟩ (fun r2 z2 H locs hp hw => ?_)
  refine lv_icmp_eq (tgt := 2120) hx hb dL_law_1222 (by decide) (fun _ => ?_) (fun c9 => absurd hp.1.symm c9)
  exact W.widen (k := cells + 300) (n := slots + 3000) (by simp only [rmq]; omega) (by simp only [rmq]; omega) (kk z2 H locs hp.2 hw)
def SK_19 (Rel : ZS → Prop) : Prop := ∀ (z : ZS) (p1 p2 p3 p4 p5 p6 : Int32), Rel z → V_X11_within z p1 p2 p3 p4 p5 p6 (fun r z1 => V_X12_within z1 p1 p2 p3 p4 p5 p6 (fun r2 z2 => r2 = r ∧ Rel z2))
set_option maxHeartbeats 4000000 in
theorem L_19 {p : Program} {l : Launch} {e : Env} {s : State} {m : MethodId} {below : List Frame} {meth : Method} {c : Code} {D : va_G} {ad : Nat → Nat → Nat} {cs : Nat → ClassId} {sk : (Nat → Nat) × (Nat → Nat)} {b Ln : Nat} {xs : Nat → Int32} {Q : State → Prop} {z : ZS} {H : Heap} {locs : List Loc} {ls : Array Slot} {cells slots j : Nat} (hst : l.stackTraces = false) (C0 : LX p m c s b Ln xs D cs sk) (Rel : ZS → Prop) (SK : SK_19 Rel) (hz : Rel z) (hj : j + 7 ≤ Ln) (hw : OW D ad cs (fun q : Nat => s.heap.size ≤ q) s.heap z H locs) (hl : lv_has ls 8 [(0, .ref b), (1, .ref (ad 0 100)), (2, .ref (ad 14 100)), (3, .ref (ad 15 0)), (4, .int (nI j))]) (hce : cells + 300 ≤ 600128) (hsl : slots + 3000 ≤ 7301098) (kk : ∀ (z1 : ZS) (H1 : Heap) (locs1 : List Loc), Rel z1 → OW D ad cs (fun q : Nat => s.heap.size ≤ q) s.heap z1 H1 locs1 → W p l e room_1 s m #[Value.ref b] below meth c H1 locs1 (cells + 300) (slots + 3000) Q (F0 m 2120 ls [])) : W p l e room_1 s m #[Value.ref b] below meth c H locs cells slots Q (F0 m 1227 ls []) := by
  have E := C0.1
  have hx := E.1.1
  have hb := E.1.2.1
  have hA : ∀ q, s.heap.size ≤ q → (fun q : Nat => s.heap.size ≤ q) q := fun _ h => h
  refine lv_aload_n hx hb dL_law_1227 rfl (lv_at hl 1 rfl) ?_
  refine lv_aload_n hx hb dL_law_1228 rfl (lv_at hl 0 rfl) ?_
  refine lv_iload hx hb dL_law_1229 (lv_at hl 4 rfl) ?_
  refine lv_iconst (v := 1) hx hb dL_law_1231 (by decide) ?_
  refine lv_iadd hx hb dL_law_1232 ?_
  refine lw_ld C0 hw hj (k := 1) (by decide) rfl dL_law_1233 ?_
  refine lv_aload_n hx hb dL_law_1234 rfl (lv_at hl 0 rfl) ?_
  refine lv_iload hx hb dL_law_1235 (lv_at hl 4 rfl) ?_
  refine lv_iconst (v := 2) hx hb dL_law_1237 (by decide) ?_
  refine lv_iadd hx hb dL_law_1238 ?_
  refine lw_ld C0 hw hj (k := 2) (by decide) rfl dL_law_1239 ?_
  refine lv_aload_n hx hb dL_law_1240 rfl (lv_at hl 0 rfl) ?_
  refine lv_iload hx hb dL_law_1241 (lv_at hl 4 rfl) ?_
  refine lv_iconst (v := 3) hx hb dL_law_1243 (by decide) ?_
  refine lv_iadd hx hb dL_law_1244 ?_
  refine lw_ld C0 hw hj (k := 3) (by decide) rfl dL_law_1245 ?_
  refine lv_aload_n hx hb dL_law_1246 rfl (lv_at hl 0 rfl) ?_
  refine lv_iload hx hb dL_law_1247 (lv_at hl 4 rfl) ?_
  refine lv_iconst (v := 4) hx hb dL_law_1249 (by decide) ?_
  refine lv_iadd hx hb dL_law_1250 ?_
  refine lw_ld C0 hw hj (k := 4) (by decide) rfl dL_law_1251 ?_
  refine lv_aload_n hx hb dL_law_1252 rfl (lv_at hl 0 rfl) ?_
  refine lv_iload hx hb dL_law_1253 (lv_at hl 4 rfl) ?_
  refine lv_iconst (v := 5) hx hb dL_law_1255 (by decide) ?_
  refine lv_iadd hx hb dL_law_1256 ?_
  refine lw_ld C0 hw hj (k := 5) (by decide) rfl dL_law_1257 ?_
  refine lv_aload_n hx hb dL_law_1258 rfl (lv_at hl 0 rfl) ?_
  refine lv_iload hx hb dL_law_1259 (lv_at hl 4 rfl) ?_
  refine lv_bipush (v := 6) hx hb dL_law_1261 (by decide) ?_
  refine lv_iadd hx hb dL_law_1263 ?_
  refine lw_ld C0 hw hj (k := 6) (by decide) rfl dL_law_1264 ?_
  refine xcVI (As := [.int (xs (j + 1)), .int (xs (j + 2)), .int (xs (j + 3)), .int (xs (j + 4)), .int (xs (j + 5)), .int (xs (j + 6))]) (rest := []) E hw hA (c_X11_within l D ad cs sk z (xs (j + 1)) (xs (j + 2)) (xs (j + 3)) (xs (j + 4)) (xs (j + 5)) (xs (j + 6)) _ (SK z (xs (j + 1)) (xs (j + 2)) (xs (j + 3)) (xs (j + 4)) (xs (j + 5)) (xs (j + 6)) hz)) lk_11_within lo_11_within ⟨Nat.le_of_ble_eq_true rfl, Nat.le_of_ble_eq_true rfl⟩ (xrc E hw ky_0_100 rfl) rfl hl.1 rfl (Nat.le_of_ble_eq_true rfl) dL_law_1265 ⟨by simp only [rmq, room_1]; omega, by simp only [rmq, room_1]; omega⟩ (fun r1 z1 H locs hp hw => ?_)
  refine lv_aload_n hx hb dL_law_1268 rfl (lv_at hl 2 rfl) ?_
  refine lv_aload_n hx hb dL_law_1269 rfl (lv_at hl 0 rfl) ?_
  refine lv_iload hx hb dL_law_1270 (lv_at hl 4 rfl) ?_
  refine lv_iconst (v := 1) hx hb dL_law_1272 (by decide) ?_
  refine lv_iadd hx hb dL_law_1273 ?_
  refine lw_ld C0 hw hj (k := 1) (by decide) rfl dL_law_1274 ?_
  refine lv_aload_n hx hb dL_law_1275 rfl (lv_at hl 0 rfl) ?_
  refine lv_iload hx hb dL_law_1276 (lv_at hl 4 rfl) ?_
  refine lv_iconst (v := 2) hx hb dL_law_1278 (by decide) ?_
  refine lv_iadd hx hb dL_law_1279 ?_
  refine lw_ld C0 hw hj (k := 2) (by decide) rfl dL_law_1280 ?_
  refine lv_aload_n hx hb dL_law_1281 rfl (lv_at hl 0 rfl) ?_
  refine lv_iload hx hb dL_law_1282 (lv_at hl 4 rfl) ?_
  refine lv_iconst (v := 3) hx hb dL_law_1284 (by decide) ?_
  refine lv_iadd hx hb dL_law_1285 ?_
  refine lw_ld C0 hw hj (k := 3) (by decide) rfl dL_law_1286 ?_
  refine lv_aload_n hx hb dL_law_1287 rfl (lv_at hl 0 rfl) ?_
  refine lv_iload hx hb dL_law_1288 (lv_at hl 4 rfl) ?_
  refine lv_iconst (v := 4) hx hb dL_law_1290 (by decide) ?_
  refine lv_iadd hx hb dL_law_1291 ?_
  refine lw_ld C0 hw hj (k := 4) (by decide) rfl dL_law_1292 ?_
  refine lv_aload_n hx hb dL_law_1293 rfl (lv_at hl 0 rfl) ?_
  refine lv_iload hx hb dL_law_1294 (lv_at hl 4 rfl) ?_
  refine lv_iconst (v := 5) hx hb dL_law_1296 (by decide) ?_
  refine lv_iadd hx hb dL_law_1297 ?_
  refine lw_ld C0 hw hj (k := 5) (by decide) rfl dL_law_1298 ?_
  refine lv_aload_n hx hb dL_law_1299 rfl (lv_at hl 0 rfl) ?_
  refine lv_iload hx hb dL_law_1300 (lv_at hl 4 rfl) ?_
  refine lv_bipush (v := 6) hx hb dL_law_1302 (by decide) ?_
  refine lv_iadd hx hb dL_law_1304 ?_
  refine lw_ld C0 hw hj (k := 6) (by decide) rfl dL_law_1305 ?_
  refine xcVI (As := [.int (xs (j + 1)), .int (xs (j + 2)), .int (xs (j + 3)), .int (xs (j + 4)), .int (xs (j + 5)), .int (xs (j + 6))]) (rest := [.int r1]) E hw hA (c_X12_within l D ad cs sk z1 (xs (j + 1)) (xs (j + 2)) (xs (j + 3)) (xs (j + 4)) (xs (j + 5)) (xs (j + 6)) _ hp) lk_12_within lo_12_within ⟨Nat.le_of_ble_eq_true rfl, Nat.le_of_ble_eq_true rfl⟩ (xrc E hw ky_14_100 rfl) rfl hl.1 rfl (Nat.le_of_ble_eq_true rfl) dL_law_1306 ⟨by simp only [rmq, room_1]; omega, by simp only [rmq, room_1]; omega⟩ (fun r2 z2 H locs hp hw => ?_)
  refine lv_icmp_eq (tgt := 2120) hx hb dL_law_1309 (by decide) (fun _ => ?_) (fun c9 => absurd hp.1.symm c9)
  exact W.widen (k := cells + 300) (n := slots + 3000) (by simp only [rmq]; omega) (by simp only [rmq]; omega) (kk z2 H locs hp.2 hw)
def SK_20 (Rel : ZS → Prop) : Prop := ∀ (z : ZS) (p1 p2 p3 p4 p5 p6 : Int32), Rel z → V_X11_stop z p1 p2 p3 p4 p5 p6 (fun r z1 => V_X12_stop z1 p1 p2 p3 p4 p5 p6 (fun r2 z2 => r2 = r ∧ Rel z2))
set_option maxHeartbeats 4000000 in
theorem L_20 {p : Program} {l : Launch} {e : Env} {s : State} {m : MethodId} {below : List Frame} {meth : Method} {c : Code} {D : va_G} {ad : Nat → Nat → Nat} {cs : Nat → ClassId} {sk : (Nat → Nat) × (Nat → Nat)} {b Ln : Nat} {xs : Nat → Int32} {Q : State → Prop} {z : ZS} {H : Heap} {locs : List Loc} {ls : Array Slot} {cells slots j : Nat} (hst : l.stackTraces = false) (C0 : LX p m c s b Ln xs D cs sk) (Rel : ZS → Prop) (SK : SK_20 Rel) (hz : Rel z) (hj : j + 7 ≤ Ln) (hw : OW D ad cs (fun q : Nat => s.heap.size ≤ q) s.heap z H locs) (hl : lv_has ls 8 [(0, .ref b), (1, .ref (ad 0 100)), (2, .ref (ad 14 100)), (3, .ref (ad 15 0)), (4, .int (nI j))]) (hce : cells + 300 ≤ 600128) (hsl : slots + 3000 ≤ 7301098) (kk : ∀ (z1 : ZS) (H1 : Heap) (locs1 : List Loc), Rel z1 → OW D ad cs (fun q : Nat => s.heap.size ≤ q) s.heap z1 H1 locs1 → W p l e room_1 s m #[Value.ref b] below meth c H1 locs1 (cells + 300) (slots + 3000) Q (F0 m 2120 ls [])) : W p l e room_1 s m #[Value.ref b] below meth c H locs cells slots Q (F0 m 1314 ls []) := by
  have E := C0.1
  have hx := E.1.1
  have hb := E.1.2.1
  have hA : ∀ q, s.heap.size ≤ q → (fun q : Nat => s.heap.size ≤ q) q := fun _ h => h
  refine lv_aload_n hx hb dL_law_1314 rfl (lv_at hl 1 rfl) ?_
  refine lv_aload_n hx hb dL_law_1315 rfl (lv_at hl 0 rfl) ?_
  refine lv_iload hx hb dL_law_1316 (lv_at hl 4 rfl) ?_
  refine lv_iconst (v := 1) hx hb dL_law_1318 (by decide) ?_
  refine lv_iadd hx hb dL_law_1319 ?_
  refine lw_ld C0 hw hj (k := 1) (by decide) rfl dL_law_1320 ?_
  refine lv_aload_n hx hb dL_law_1321 rfl (lv_at hl 0 rfl) ?_
  refine lv_iload hx hb dL_law_1322 (lv_at hl 4 rfl) ?_
  refine lv_iconst (v := 2) hx hb dL_law_1324 (by decide) ?_
  refine lv_iadd hx hb dL_law_1325 ?_
  refine lw_ld C0 hw hj (k := 2) (by decide) rfl dL_law_1326 ?_
  refine lv_aload_n hx hb dL_law_1327 rfl (lv_at hl 0 rfl) ?_
  refine lv_iload hx hb dL_law_1328 (lv_at hl 4 rfl) ?_
  refine lv_iconst (v := 3) hx hb dL_law_1330 (by decide) ?_
  refine lv_iadd hx hb dL_law_1331 ?_
  refine lw_ld C0 hw hj (k := 3) (by decide) rfl dL_law_1332 ?_
  refine lv_aload_n hx hb dL_law_1333 rfl (lv_at hl 0 rfl) ?_
  refine lv_iload hx hb dL_law_1334 (lv_at hl 4 rfl) ?_
  refine lv_iconst (v := 4) hx hb dL_law_1336 (by decide) ?_
  refine lv_iadd hx hb dL_law_1337 ?_
  refine lw_ld C0 hw hj (k := 4) (by decide) rfl dL_law_1338 ?_
  refine lv_aload_n hx hb dL_law_1339 rfl (lv_at hl 0 rfl) ?_
  refine lv_iload hx hb dL_law_1340 (lv_at hl 4 rfl) ?_
  refine lv_iconst (v := 5) hx hb dL_law_1342 (by decide) ?_
  refine lv_iadd hx hb dL_law_1343 ?_
  refine lw_ld C0 hw hj (k := 5) (by decide) rfl dL_law_1344 ?_
  refine lv_aload_n hx hb dL_law_1345 rfl (lv_at hl 0 rfl) ?_
  refine lv_iload hx hb dL_law_1346 (lv_at hl 4 rfl) ?_
  refine lv_bipush (v := 6) hx hb dL_law_1348 (by decide) ?_
  refine lv_iadd hx hb dL_law_1350 ?_
  refine lw_ld C0 hw hj (k := 6) (by decide) rfl dL_law_1351 ?_
  refine xcVI (As := [.int (xs (j + 1)), .int (xs (j + 2)), .int (xs (j + 3)), .int (xs (j + 4)), .int (xs (j + 5)), .int (xs (j + 6))]) (rest := []) E hw hA (c_X11_stop l D ad cs sk z (xs (j + 1)) (xs (j + 2)) (xs (j + 3)) (xs (j + 4)) (xs (j + 5)) (xs (j + 6)) _ (SK z (xs (j + 1)) (xs (j + 2)) (xs (j + 3)) (xs (j + 4)) (xs (j + 5)) (xs (j + 6)) hz)) lk_11_stop lo_11_stop ⟨Nat.le_of_ble_eq_true rfl, Nat.le_of_ble_eq_true rfl⟩ (xrc E hw ky_0_100 rfl) rfl hl.1 rfl (Nat.le_of_ble_eq_true rfl) dL_law_1352 ⟨by simp only [rmq, room_1]; omega, by simp only [rmq, room_1]; omega⟩ (fun r1 z1 H locs hp hw => ?_)
  refine lv_aload_n hx hb dL_law_1355 rfl (lv_at hl 2 rfl) ?_
  refine lv_aload_n hx hb dL_law_1356 rfl (lv_at hl 0 rfl) ?_
  refine lv_iload hx hb dL_law_1357 (lv_at hl 4 rfl) ?_
  refine lv_iconst (v := 1) hx hb dL_law_1359 (by decide) ?_
  refine lv_iadd hx hb dL_law_1360 ?_
  refine lw_ld C0 hw hj (k := 1) (by decide) rfl dL_law_1361 ?_
  refine lv_aload_n hx hb dL_law_1362 rfl (lv_at hl 0 rfl) ?_
  refine lv_iload hx hb dL_law_1363 (lv_at hl 4 rfl) ?_
  refine lv_iconst (v := 2) hx hb dL_law_1365 (by decide) ?_
  refine lv_iadd hx hb dL_law_1366 ?_
  refine lw_ld C0 hw hj (k := 2) (by decide) rfl dL_law_1367 ?_
  refine lv_aload_n hx hb dL_law_1368 rfl (lv_at hl 0 rfl) ?_
  refine lv_iload hx hb dL_law_1369 (lv_at hl 4 rfl) ?_
  refine lv_iconst (v := 3) hx hb dL_law_1371 (by decide) ?_
  refine lv_iadd hx hb dL_law_1372 ?_
  refine lw_ld C0 hw hj (k := 3) (by decide) rfl dL_law_1373 ?_
  refine lv_aload_n hx hb dL_law_1374 rfl (lv_at hl 0 rfl) ?_
  refine lv_iload hx hb dL_law_1375 (lv_at hl 4 rfl) ?_
  refine lv_iconst (v := 4) hx hb dL_law_1377 (by decide) ?_
  refine lv_iadd hx hb dL_law_1378 ?_
  refine lw_ld C0 hw hj (k := 4) (by decide) rfl dL_law_1379 ?_
  refine lv_aload_n hx hb dL_law_1380 rfl (lv_at hl 0 rfl) ?_
  refine lv_iload hx hb dL_law_1381 (lv_at hl 4 rfl) ?_
  refine lv_iconst (v := 5) hx hb dL_law_1383 (by decide) ?_
  refine lv_iadd hx hb dL_law_1384 ?_
  refine lw_ld C0 hw hj (k := 5) (by decide) rfl dL_law_1385 ?_
  refine lv_aload_n hx hb dL_law_1386 rfl (lv_at hl 0 rfl) ?_
  refine lv_iload hx hb dL_law_1387 (lv_at hl 4 rfl) ?_
  refine lv_bipush (v := 6) hx hb dL_law_1389 (by decide) ?_
  refine lv_iadd hx hb dL_law_1391 ?_
  refine lw_ld C0 hw hj (k := 6) (by decide) rfl dL_law_1392 ?_
  refine xcVI (As := [.int (xs (j + 1)), .int (xs (j + 2)), .int (xs (j + 3)), .int (xs (j + 4)), .int (xs (j + 5)), .int (xs (j + 6))]) (rest := [.int r1]) E hw hA (c_X12_stop l D ad cs sk z1 (xs (j + 1)) (xs (j + 2)) (xs (j + 3)) (xs (j + 4)) (xs (j + 5)) (xs (j + 6)) _ hp) lk_12_stop lo_12_stop ⟨Nat.le_of_ble_eq_true rfl, Nat.le_of_ble_eq_true rfl⟩ (xrc E hw ky_14_100 rfl) rfl hl.1 rfl (Nat.le_of_ble_eq_true rfl) dL_law_1393 ⟨by simp only [rmq, room_1]; omega, by simp only [rmq, room_1]; omega⟩ (fun r2 z2 H locs hp hw => ?_)
  refine lv_icmp_eq (tgt := 2120) hx hb dL_law_1396 (by decide) (fun _ => ?_) (fun c9 => absurd hp.1.symm c9)
  exact W.widen (k := cells + 300) (n := slots + 3000) (by simp only [rmq]; omega) (by simp only [rmq]; omega) (kk z2 H locs hp.2 hw)
def SK_21 (Rel : ZS → Prop) : Prop := ∀ (z : ZS) (p1 p2 p3 p4 : Int32), Rel z → V_X11_knew z p1 p2 p3 p4 (fun r z1 => V_X12_knew z1 p1 p2 p3 p4 (fun r2 z2 => r2 = r ∧ Rel z2))
set_option maxHeartbeats 4000000 in
theorem L_21 {p : Program} {l : Launch} {e : Env} {s : State} {m : MethodId} {below : List Frame} {meth : Method} {c : Code} {D : va_G} {ad : Nat → Nat → Nat} {cs : Nat → ClassId} {sk : (Nat → Nat) × (Nat → Nat)} {b Ln : Nat} {xs : Nat → Int32} {Q : State → Prop} {z : ZS} {H : Heap} {locs : List Loc} {ls : Array Slot} {cells slots j : Nat} (hst : l.stackTraces = false) (C0 : LX p m c s b Ln xs D cs sk) (Rel : ZS → Prop) (SK : SK_21 Rel) (hz : Rel z) (hj : j + 7 ≤ Ln) (hw : OW D ad cs (fun q : Nat => s.heap.size ≤ q) s.heap z H locs) (hl : lv_has ls 8 [(0, .ref b), (1, .ref (ad 0 100)), (2, .ref (ad 14 100)), (3, .ref (ad 15 0)), (4, .int (nI j))]) (hce : cells + 300 ≤ 600128) (hsl : slots + 3000 ≤ 7301098) (kk : ∀ (z1 : ZS) (H1 : Heap) (locs1 : List Loc), Rel z1 → OW D ad cs (fun q : Nat => s.heap.size ≤ q) s.heap z1 H1 locs1 → W p l e room_1 s m #[Value.ref b] below meth c H1 locs1 (cells + 300) (slots + 3000) Q (F0 m 2120 ls [])) : W p l e room_1 s m #[Value.ref b] below meth c H locs cells slots Q (F0 m 1401 ls []) := by
  have E := C0.1
  have hx := E.1.1
  have hb := E.1.2.1
  have hA : ∀ q, s.heap.size ≤ q → (fun q : Nat => s.heap.size ≤ q) q := fun _ h => h
  refine lv_aload_n hx hb dL_law_1401 rfl (lv_at hl 1 rfl) ?_
  refine lv_aload_n hx hb dL_law_1402 rfl (lv_at hl 0 rfl) ?_
  refine lv_iload hx hb dL_law_1403 (lv_at hl 4 rfl) ?_
  refine lv_iconst (v := 1) hx hb dL_law_1405 (by decide) ?_
  refine lv_iadd hx hb dL_law_1406 ?_
  refine lw_ld C0 hw hj (k := 1) (by decide) rfl dL_law_1407 ?_
  refine lv_aload_n hx hb dL_law_1408 rfl (lv_at hl 0 rfl) ?_
  refine lv_iload hx hb dL_law_1409 (lv_at hl 4 rfl) ?_
  refine lv_iconst (v := 2) hx hb dL_law_1411 (by decide) ?_
  refine lv_iadd hx hb dL_law_1412 ?_
  refine lw_ld C0 hw hj (k := 2) (by decide) rfl dL_law_1413 ?_
  refine lv_aload_n hx hb dL_law_1414 rfl (lv_at hl 0 rfl) ?_
  refine lv_iload hx hb dL_law_1415 (lv_at hl 4 rfl) ?_
  refine lv_iconst (v := 3) hx hb dL_law_1417 (by decide) ?_
  refine lv_iadd hx hb dL_law_1418 ?_
  refine lw_ld C0 hw hj (k := 3) (by decide) rfl dL_law_1419 ?_
  refine lv_aload_n hx hb dL_law_1420 rfl (lv_at hl 0 rfl) ?_
  refine lv_iload hx hb dL_law_1421 (lv_at hl 4 rfl) ?_
  refine lv_iconst (v := 4) hx hb dL_law_1423 (by decide) ?_
  refine lv_iadd hx hb dL_law_1424 ?_
  refine lw_ld C0 hw hj (k := 4) (by decide) rfl dL_law_1425 ?_
  refine xcVI (As := [.int (xs (j + 1)), .int (xs (j + 2)), .int (xs (j + 3)), .int (xs (j + 4))]) (rest := []) E hw hA (c_X11_knew l D ad cs sk z (xs (j + 1)) (xs (j + 2)) (xs (j + 3)) (xs (j + 4)) _ (SK z (xs (j + 1)) (xs (j + 2)) (xs (j + 3)) (xs (j + 4)) hz)) lk_11_knew lo_11_knew ⟨Nat.le_of_ble_eq_true rfl, Nat.le_of_ble_eq_true rfl⟩ (xrc E hw ky_0_100 rfl) rfl hl.1 rfl (Nat.le_of_ble_eq_true rfl) dL_law_1426 ⟨by simp only [rmq, room_1]; omega, by simp only [rmq, room_1]; omega⟩ (fun r1 z1 H locs hp hw => ?_)
  refine lv_aload_n hx hb dL_law_1429 rfl (lv_at hl 2 rfl) ?_
  refine lv_aload_n hx hb dL_law_1430 rfl (lv_at hl 0 rfl) ?_
  refine lv_iload hx hb dL_law_1431 (lv_at hl 4 rfl) ?_
  refine lv_iconst (v := 1) hx hb dL_law_1433 (by decide) ?_
  refine lv_iadd hx hb dL_law_1434 ?_
  refine lw_ld C0 hw hj (k := 1) (by decide) rfl dL_law_1435 ?_
  refine lv_aload_n hx hb dL_law_1436 rfl (lv_at hl 0 rfl) ?_
  refine lv_iload hx hb dL_law_1437 (lv_at hl 4 rfl) ?_
  refine lv_iconst (v := 2) hx hb dL_law_1439 (by decide) ?_
  refine lv_iadd hx hb dL_law_1440 ?_
  refine lw_ld C0 hw hj (k := 2) (by decide) rfl dL_law_1441 ?_
  refine lv_aload_n hx hb dL_law_1442 rfl (lv_at hl 0 rfl) ?_
  refine lv_iload hx hb dL_law_1443 (lv_at hl 4 rfl) ?_
  refine lv_iconst (v := 3) hx hb dL_law_1445 (by decide) ?_
  refine lv_iadd hx hb dL_law_1446 ?_
  refine lw_ld C0 hw hj (k := 3) (by decide) rfl dL_law_1447 ?_
  refine lv_aload_n hx hb dL_law_1448 rfl (lv_at hl 0 rfl) ?_
  refine lv_iload hx hb dL_law_1449 (lv_at hl 4 rfl) ?_
  refine lv_iconst (v := 4) hx hb dL_law_1451 (by decide) ?_
  refine lv_iadd hx hb dL_law_1452 ?_
  refine lw_ld C0 hw hj (k := 4) (by decide) rfl dL_law_1453 ?_
  refine xcVI (As := [.int (xs (j + 1)), .int (xs (j + 2)), .int (xs (j + 3)), .int (xs (j + 4))]) (rest := [.int r1]) E hw hA (c_X12_knew l D ad cs sk z1 (xs (j + 1)) (xs (j + 2)) (xs (j + 3)) (xs (j + 4)) _ hp) lk_12_knew lo_12_knew ⟨Nat.le_of_ble_eq_true rfl, Nat.le_of_ble_eq_true rfl⟩ (xrc E hw ky_14_100 rfl) rfl hl.1 rfl (Nat.le_of_ble_eq_true rfl) dL_law_1454 ⟨by simp only [rmq, room_1]; omega, by simp only [rmq, room_1]; omega⟩ (fun r2 z2 H locs hp hw => ?_)
  refine lv_icmp_eq (tgt := 2120) hx hb dL_law_1457 (by decide) (fun _ => ?_) (fun c9 => absurd hp.1.symm c9)
  exact W.widen (k := cells + 300) (n := slots + 3000) (by simp only [rmq]; omega) (by simp only [rmq]; omega) (kk z2 H locs hp.2 hw)
def SK_22 (Rel : ZS → Prop) : Prop := ∀ (z : ZS) (p1 p2 p3 p4 p5 : Int32), Rel z → V_X11_two z p1 p2 p3 p4 p5 (fun r z1 => V_X12_two z1 p1 p2 p3 p4 p5 (fun r2 z2 => r2 = r ∧ Rel z2))
set_option maxHeartbeats 4000000 in
theorem L_22 {p : Program} {l : Launch} {e : Env} {s : State} {m : MethodId} {below : List Frame} {meth : Method} {c : Code} {D : va_G} {ad : Nat → Nat → Nat} {cs : Nat → ClassId} {sk : (Nat → Nat) × (Nat → Nat)} {b Ln : Nat} {xs : Nat → Int32} {Q : State → Prop} {z : ZS} {H : Heap} {locs : List Loc} {ls : Array Slot} {cells slots j : Nat} (hst : l.stackTraces = false) (C0 : LX p m c s b Ln xs D cs sk) (Rel : ZS → Prop) (SK : SK_22 Rel) (hz : Rel z) (hj : j + 7 ≤ Ln) (hw : OW D ad cs (fun q : Nat => s.heap.size ≤ q) s.heap z H locs) (hl : lv_has ls 8 [(0, .ref b), (1, .ref (ad 0 100)), (2, .ref (ad 14 100)), (3, .ref (ad 15 0)), (4, .int (nI j))]) (hce : cells + 300 ≤ 600128) (hsl : slots + 3000 ≤ 7301098) (kk : ∀ (z1 : ZS) (H1 : Heap) (locs1 : List Loc), Rel z1 → OW D ad cs (fun q : Nat => s.heap.size ≤ q) s.heap z1 H1 locs1 → W p l e room_1 s m #[Value.ref b] below meth c H1 locs1 (cells + 300) (slots + 3000) Q (F0 m 2120 ls [])) : W p l e room_1 s m #[Value.ref b] below meth c H locs cells slots Q (F0 m 1462 ls []) := by
  have E := C0.1
  have hx := E.1.1
  have hb := E.1.2.1
  have hA : ∀ q, s.heap.size ≤ q → (fun q : Nat => s.heap.size ≤ q) q := fun _ h => h
  refine lv_aload_n hx hb dL_law_1462 rfl (lv_at hl 1 rfl) ?_
  refine lv_aload_n hx hb dL_law_1463 rfl (lv_at hl 0 rfl) ?_
  refine lv_iload hx hb dL_law_1464 (lv_at hl 4 rfl) ?_
  refine lv_iconst (v := 1) hx hb dL_law_1466 (by decide) ?_
  refine lv_iadd hx hb dL_law_1467 ?_
  refine lw_ld C0 hw hj (k := 1) (by decide) rfl dL_law_1468 ?_
  refine lv_aload_n hx hb dL_law_1469 rfl (lv_at hl 0 rfl) ?_
  refine lv_iload hx hb dL_law_1470 (lv_at hl 4 rfl) ?_
  refine lv_iconst (v := 2) hx hb dL_law_1472 (by decide) ?_
  refine lv_iadd hx hb dL_law_1473 ?_
  refine lw_ld C0 hw hj (k := 2) (by decide) rfl dL_law_1474 ?_
  refine lv_aload_n hx hb dL_law_1475 rfl (lv_at hl 0 rfl) ?_
  refine lv_iload hx hb dL_law_1476 (lv_at hl 4 rfl) ?_
  refine lv_iconst (v := 3) hx hb dL_law_1478 (by decide) ?_
  refine lv_iadd hx hb dL_law_1479 ?_
  refine lw_ld C0 hw hj (k := 3) (by decide) rfl dL_law_1480 ?_
  refine lv_aload_n hx hb dL_law_1481 rfl (lv_at hl 0 rfl) ?_
  refine lv_iload hx hb dL_law_1482 (lv_at hl 4 rfl) ?_
  refine lv_iconst (v := 4) hx hb dL_law_1484 (by decide) ?_
  refine lv_iadd hx hb dL_law_1485 ?_
  refine lw_ld C0 hw hj (k := 4) (by decide) rfl dL_law_1486 ?_
  refine lv_aload_n hx hb dL_law_1487 rfl (lv_at hl 0 rfl) ?_
  refine lv_iload hx hb dL_law_1488 (lv_at hl 4 rfl) ?_
  refine lv_iconst (v := 5) hx hb dL_law_1490 (by decide) ?_
  refine lv_iadd hx hb dL_law_1491 ?_
  refine lw_ld C0 hw hj (k := 5) (by decide) rfl dL_law_1492 ?_
  refine xcVI (As := [.int (xs (j + 1)), .int (xs (j + 2)), .int (xs (j + 3)), .int (xs (j + 4)), .int (xs (j + 5))]) (rest := []) E hw hA (c_X11_two l D ad cs sk z (xs (j + 1)) (xs (j + 2)) (xs (j + 3)) (xs (j + 4)) (xs (j + 5)) _ (SK z (xs (j + 1)) (xs (j + 2)) (xs (j + 3)) (xs (j + 4)) (xs (j + 5)) hz)) lk_11_two lo_11_two ⟨Nat.le_of_ble_eq_true rfl, Nat.le_of_ble_eq_true rfl⟩ (xrc E hw ky_0_100 rfl) rfl hl.1 rfl (Nat.le_of_ble_eq_true rfl) dL_law_1493 ⟨by simp only [rmq, room_1]; omega, by simp only [rmq, room_1]; omega⟩ (fun r1 z1 H locs hp hw => ?_)
  refine lv_aload_n hx hb dL_law_1496 rfl (lv_at hl 2 rfl) ?_
  refine lv_aload_n hx hb dL_law_1497 rfl (lv_at hl 0 rfl) ?_
  refine lv_iload hx hb dL_law_1498 (lv_at hl 4 rfl) ?_
  refine lv_iconst (v := 1) hx hb dL_law_1500 (by decide) ?_
  refine lv_iadd hx hb dL_law_1501 ?_
  refine lw_ld C0 hw hj (k := 1) (by decide) rfl dL_law_1502 ?_
  refine lv_aload_n hx hb dL_law_1503 rfl (lv_at hl 0 rfl) ?_
  refine lv_iload hx hb dL_law_1504 (lv_at hl 4 rfl) ?_
  refine lv_iconst (v := 2) hx hb dL_law_1506 (by decide) ?_
  refine lv_iadd hx hb dL_law_1507 ?_
  refine lw_ld C0 hw hj (k := 2) (by decide) rfl dL_law_1508 ?_
  refine lv_aload_n hx hb dL_law_1509 rfl (lv_at hl 0 rfl) ?_
  refine lv_iload hx hb dL_law_1510 (lv_at hl 4 rfl) ?_
  refine lv_iconst (v := 3) hx hb dL_law_1512 (by decide) ?_
  refine lv_iadd hx hb dL_law_1513 ?_
  refine lw_ld C0 hw hj (k := 3) (by decide) rfl dL_law_1514 ?_
  refine lv_aload_n hx hb dL_law_1515 rfl (lv_at hl 0 rfl) ?_
  refine lv_iload hx hb dL_law_1516 (lv_at hl 4 rfl) ?_
  refine lv_iconst (v := 4) hx hb dL_law_1518 (by decide) ?_
  refine lv_iadd hx hb dL_law_1519 ?_
  refine lw_ld C0 hw hj (k := 4) (by decide) rfl dL_law_1520 ?_
  refine lv_aload_n hx hb dL_law_1521 rfl (lv_at hl 0 rfl) ?_
  refine lv_iload hx hb dL_law_1522 (lv_at hl 4 rfl) ?_
  refine lv_iconst (v := 5) hx hb dL_law_1524 (by decide) ?_
  refine lv_iadd hx hb dL_law_1525 ?_
  refine lw_ld C0 hw hj (k := 5) (by decide) rfl dL_law_1526 ?_
  refine xcVI (As := [.int (xs (j + 1)), .int (xs (j + 2)), .int (xs (j + 3)), .int (xs (j + 4)), .int (xs (j + 5))]) (rest := [.int r1]) E hw hA (c_X12_two l D ad cs sk z1 (xs (j + 1)) (xs (j + 2)) (xs (j + 3)) (xs (j + 4)) (xs (j + 5)) _ hp) lk_12_two lo_12_two ⟨Nat.le_of_ble_eq_true rfl, Nat.le_of_ble_eq_true rfl⟩ (xrc E hw ky_14_100 rfl) rfl hl.1 rfl (Nat.le_of_ble_eq_true rfl) dL_law_1527 ⟨by simp only [rmq, room_1]; omega, by simp only [rmq, room_1]; omega⟩ (fun r2 z2 H locs hp hw => ?_)
  refine lv_icmp_eq (tgt := 2120) hx hb dL_law_1530 (by decide) (fun _ => ?_) (fun c9 => absurd hp.1.symm c9)
  exact W.widen (k := cells + 300) (n := slots + 3000) (by simp only [rmq]; omega) (by simp only [rmq]; omega) (kk z2 H locs hp.2 hw)
def SK_23 (Rel : ZS → Prop) : Prop := ∀ (z : ZS) (p1 p2 p3 p4 p5 p6 : Int32), Rel z → V_X11_habits z p1 p2 p3 p4 p5 p6 (fun r z1 => V_X12_habits z1 p1 p2 p3 p4 p5 p6 (fun r2 z2 => r2 = r ∧ Rel z2))
set_option maxHeartbeats 4000000 in
theorem L_23 {p : Program} {l : Launch} {e : Env} {s : State} {m : MethodId} {below : List Frame} {meth : Method} {c : Code} {D : va_G} {ad : Nat → Nat → Nat} {cs : Nat → ClassId} {sk : (Nat → Nat) × (Nat → Nat)} {b Ln : Nat} {xs : Nat → Int32} {Q : State → Prop} {z : ZS} {H : Heap} {locs : List Loc} {ls : Array Slot} {cells slots j : Nat} (hst : l.stackTraces = false) (C0 : LX p m c s b Ln xs D cs sk) (Rel : ZS → Prop) (SK : SK_23 Rel) (hz : Rel z) (hj : j + 7 ≤ Ln) (hw : OW D ad cs (fun q : Nat => s.heap.size ≤ q) s.heap z H locs) (hl : lv_has ls 8 [(0, .ref b), (1, .ref (ad 0 100)), (2, .ref (ad 14 100)), (3, .ref (ad 15 0)), (4, .int (nI j))]) (hce : cells + 300 ≤ 600128) (hsl : slots + 3000 ≤ 7301098) (kk : ∀ (z1 : ZS) (H1 : Heap) (locs1 : List Loc), Rel z1 → OW D ad cs (fun q : Nat => s.heap.size ≤ q) s.heap z1 H1 locs1 → W p l e room_1 s m #[Value.ref b] below meth c H1 locs1 (cells + 300) (slots + 3000) Q (F0 m 2120 ls [])) : W p l e room_1 s m #[Value.ref b] below meth c H locs cells slots Q (F0 m 1535 ls []) := by
  have E := C0.1
  have hx := E.1.1
  have hb := E.1.2.1
  have hA : ∀ q, s.heap.size ≤ q → (fun q : Nat => s.heap.size ≤ q) q := fun _ h => h
  refine lv_aload_n hx hb dL_law_1535 rfl (lv_at hl 1 rfl) ?_
  refine lv_aload_n hx hb dL_law_1536 rfl (lv_at hl 0 rfl) ?_
  refine lv_iload hx hb dL_law_1537 (lv_at hl 4 rfl) ?_
  refine lv_iconst (v := 1) hx hb dL_law_1539 (by decide) ?_
  refine lv_iadd hx hb dL_law_1540 ?_
  refine lw_ld C0 hw hj (k := 1) (by decide) rfl dL_law_1541 ?_
  refine lv_aload_n hx hb dL_law_1542 rfl (lv_at hl 0 rfl) ?_
  refine lv_iload hx hb dL_law_1543 (lv_at hl 4 rfl) ?_
  refine lv_iconst (v := 2) hx hb dL_law_1545 (by decide) ?_
  refine lv_iadd hx hb dL_law_1546 ?_
  refine lw_ld C0 hw hj (k := 2) (by decide) rfl dL_law_1547 ?_
  refine lv_aload_n hx hb dL_law_1548 rfl (lv_at hl 0 rfl) ?_
  refine lv_iload hx hb dL_law_1549 (lv_at hl 4 rfl) ?_
  refine lv_iconst (v := 3) hx hb dL_law_1551 (by decide) ?_
  refine lv_iadd hx hb dL_law_1552 ?_
  refine lw_ld C0 hw hj (k := 3) (by decide) rfl dL_law_1553 ?_
  refine lv_aload_n hx hb dL_law_1554 rfl (lv_at hl 0 rfl) ?_
  refine lv_iload hx hb dL_law_1555 (lv_at hl 4 rfl) ?_
  refine lv_iconst (v := 4) hx hb dL_law_1557 (by decide) ?_
  refine lv_iadd hx hb dL_law_1558 ?_
  refine lw_ld C0 hw hj (k := 4) (by decide) rfl dL_law_1559 ?_
  refine lv_aload_n hx hb dL_law_1560 rfl (lv_at hl 0 rfl) ?_
  refine lv_iload hx hb dL_law_1561 (lv_at hl 4 rfl) ?_
  refine lv_iconst (v := 5) hx hb dL_law_1563 (by decide) ?_
  refine lv_iadd hx hb dL_law_1564 ?_
  refine lw_ld C0 hw hj (k := 5) (by decide) rfl dL_law_1565 ?_
  refine lv_aload_n hx hb dL_law_1566 rfl (lv_at hl 0 rfl) ?_
  refine lv_iload hx hb dL_law_1567 (lv_at hl 4 rfl) ?_
  refine lv_bipush (v := 6) hx hb dL_law_1569 (by decide) ?_
  refine lv_iadd hx hb dL_law_1571 ?_
  refine lw_ld C0 hw hj (k := 6) (by decide) rfl dL_law_1572 ?_
  refine xcVI (As := [.int (xs (j + 1)), .int (xs (j + 2)), .int (xs (j + 3)), .int (xs (j + 4)), .int (xs (j + 5)), .int (xs (j + 6))]) (rest := []) E hw hA (c_X11_habits l D ad cs sk z (xs (j + 1)) (xs (j + 2)) (xs (j + 3)) (xs (j + 4)) (xs (j + 5)) (xs (j + 6)) _ (SK z (xs (j + 1)) (xs (j + 2)) (xs (j + 3)) (xs (j + 4)) (xs (j + 5)) (xs (j + 6)) hz)) lk_11_habits lo_11_habits ⟨Nat.le_of_ble_eq_true rfl, Nat.le_of_ble_eq_true rfl⟩ (xrc E hw ky_0_100 rfl) rfl hl.1 rfl (Nat.le_of_ble_eq_true rfl) dL_law_1573 ⟨by simp only [rmq, room_1]; omega, by simp only [rmq, room_1]; omega⟩ (fun r1 z1 H locs hp hw => ?_)
  refine lv_aload_n hx hb dL_law_1576 rfl (lv_at hl 2 rfl) ?_
  refine lv_aload_n hx hb dL_law_1577 rfl (lv_at hl 0 rfl) ?_
  refine lv_iload hx hb dL_law_1578 (lv_at hl 4 rfl) ?_
  refine lv_iconst (v := 1) hx hb dL_law_1580 (by decide) ?_
  refine lv_iadd hx hb dL_law_1581 ?_
  refine lw_ld C0 hw hj (k := 1) (by decide) rfl dL_law_1582 ?_
  refine lv_aload_n hx hb dL_law_1583 rfl (lv_at hl 0 rfl) ?_
  refine lv_iload hx hb dL_law_1584 (lv_at hl 4 rfl) ?_
  refine lv_iconst (v := 2) hx hb dL_law_1586 (by decide) ?_
  refine lv_iadd hx hb dL_law_1587 ?_
  refine lw_ld C0 hw hj (k := 2) (by decide) rfl dL_law_1588 ?_
  refine lv_aload_n hx hb dL_law_1589 rfl (lv_at hl 0 rfl) ?_
  refine lv_iload hx hb dL_law_1590 (lv_at hl 4 rfl) ?_
  refine lv_iconst (v := 3) hx hb dL_law_1592 (by decide) ?_
  refine lv_iadd hx hb dL_law_1593 ?_
  refine lw_ld C0 hw hj (k := 3) (by decide) rfl dL_law_1594 ?_
  refine lv_aload_n hx hb dL_law_1595 rfl (lv_at hl 0 rfl) ?_
  refine lv_iload hx hb dL_law_1596 (lv_at hl 4 rfl) ?_
  refine lv_iconst (v := 4) hx hb dL_law_1598 (by decide) ?_
  refine lv_iadd hx hb dL_law_1599 ?_
  refine lw_ld C0 hw hj (k := 4) (by decide) rfl dL_law_1600 ?_
  refine lv_aload_n hx hb dL_law_1601 rfl (lv_at hl 0 rfl) ?_
  refine lv_iload hx hb dL_law_1602 (lv_at hl 4 rfl) ?_
  refine lv_iconst (v := 5) hx hb dL_law_1604 (by decide) ?_
  refine lv_iadd hx hb dL_law_1605 ?_
  refine lw_ld C0 hw hj (k := 5) (by decide) rfl dL_law_1606 ?_
  refine lv_aload_n hx hb dL_law_1607 rfl (lv_at hl 0 rfl) ?_
  refine lv_iload hx hb dL_law_1608 (lv_at hl 4 rfl) ?_
  refine lv_bipush (v := 6) hx hb dL_law_1610 (by decide) ?_
  refine lv_iadd hx hb dL_law_1612 ?_
  refine lw_ld C0 hw hj (k := 6) (by decide) rfl dL_law_1613 ?_
  refine xcVI (As := [.int (xs (j + 1)), .int (xs (j + 2)), .int (xs (j + 3)), .int (xs (j + 4)), .int (xs (j + 5)), .int (xs (j + 6))]) (rest := [.int r1]) E hw hA (c_X12_habits l D ad cs sk z1 (xs (j + 1)) (xs (j + 2)) (xs (j + 3)) (xs (j + 4)) (xs (j + 5)) (xs (j + 6)) _ hp) lk_12_habits lo_12_habits ⟨Nat.le_of_ble_eq_true rfl, Nat.le_of_ble_eq_true rfl⟩ (xrc E hw ky_14_100 rfl) rfl hl.1 rfl (Nat.le_of_ble_eq_true rfl) dL_law_1614 ⟨by simp only [rmq, room_1]; omega, by simp only [rmq, room_1]; omega⟩ (fun r2 z2 H locs hp hw => ?_)
  refine lv_icmp_eq (tgt := 2120) hx hb dL_law_1617 (by decide) (fun _ => ?_) (fun c9 => absurd hp.1.symm c9)
  exact W.widen (k := cells + 300) (n := slots + 3000) (by simp only [rmq]; omega) (by simp only [rmq]; omega) (kk z2 H locs hp.2 hw)
def SK_24 (Rel : ZS → Prop) : Prop := ∀ (z : ZS) (p1 p2 p3 p4 : Int32), Rel z → V_X11_crates z p1 p2 p3 p4 (fun r z1 => V_X12_crates z1 p1 p2 p3 p4 (fun r2 z2 => r2 = r ∧ Rel z2))
set_option maxHeartbeats 4000000 in
theorem L_24 {p : Program} {l : Launch} {e : Env} {s : State} {m : MethodId} {below : List Frame} {meth : Method} {c : Code} {D : va_G} {ad : Nat → Nat → Nat} {cs : Nat → ClassId} {sk : (Nat → Nat) × (Nat → Nat)} {b Ln : Nat} {xs : Nat → Int32} {Q : State → Prop} {z : ZS} {H : Heap} {locs : List Loc} {ls : Array Slot} {cells slots j : Nat} (hst : l.stackTraces = false) (C0 : LX p m c s b Ln xs D cs sk) (Rel : ZS → Prop) (SK : SK_24 Rel) (hz : Rel z) (hj : j + 7 ≤ Ln) (hw : OW D ad cs (fun q : Nat => s.heap.size ≤ q) s.heap z H locs) (hl : lv_has ls 8 [(0, .ref b), (1, .ref (ad 0 100)), (2, .ref (ad 14 100)), (3, .ref (ad 15 0)), (4, .int (nI j))]) (hce : cells + 300 ≤ 600128) (hsl : slots + 3000 ≤ 7301098) (kk : ∀ (z1 : ZS) (H1 : Heap) (locs1 : List Loc), Rel z1 → OW D ad cs (fun q : Nat => s.heap.size ≤ q) s.heap z1 H1 locs1 → W p l e room_1 s m #[Value.ref b] below meth c H1 locs1 (cells + 300) (slots + 3000) Q (F0 m 2120 ls [])) : W p l e room_1 s m #[Value.ref b] below meth c H locs cells slots Q (F0 m 1622 ls []) := by
  have E := C0.1
  have hx := E.1.1
  have hb := E.1.2.1
  have hA : ∀ q, s.heap.size ≤ q → (fun q : Nat => s.heap.size ≤ q) q := fun _ h => h
  refine lv_aload_n hx hb dL_law_1622 rfl (lv_at hl 1 rfl) ?_
  refine lv_aload_n hx hb dL_law_1623 rfl (lv_at hl 0 rfl) ?_
  refine lv_iload hx hb dL_law_1624 (lv_at hl 4 rfl) ?_
  refine lv_iconst (v := 1) hx hb dL_law_1626 (by decide) ?_
  refine lv_iadd hx hb dL_law_1627 ?_
  refine lw_ld C0 hw hj (k := 1) (by decide) rfl dL_law_1628 ?_
  refine lv_aload_n hx hb dL_law_1629 rfl (lv_at hl 0 rfl) ?_
  refine lv_iload hx hb dL_law_1630 (lv_at hl 4 rfl) ?_
  refine lv_iconst (v := 2) hx hb dL_law_1632 (by decide) ?_
  refine lv_iadd hx hb dL_law_1633 ?_
  refine lw_ld C0 hw hj (k := 2) (by decide) rfl dL_law_1634 ?_
  refine lv_aload_n hx hb dL_law_1635 rfl (lv_at hl 0 rfl) ?_
  refine lv_iload hx hb dL_law_1636 (lv_at hl 4 rfl) ?_
  refine lv_iconst (v := 3) hx hb dL_law_1638 (by decide) ?_
  refine lv_iadd hx hb dL_law_1639 ?_
  refine lw_ld C0 hw hj (k := 3) (by decide) rfl dL_law_1640 ?_
  refine lv_aload_n hx hb dL_law_1641 rfl (lv_at hl 0 rfl) ?_
  refine lv_iload hx hb dL_law_1642 (lv_at hl 4 rfl) ?_
  refine lv_iconst (v := 4) hx hb dL_law_1644 (by decide) ?_
  refine lv_iadd hx hb dL_law_1645 ?_
  refine lw_ld C0 hw hj (k := 4) (by decide) rfl dL_law_1646 ?_
  refine xcVI (As := [.int (xs (j + 1)), .int (xs (j + 2)), .int (xs (j + 3)), .int (xs (j + 4))]) (rest := []) E hw hA (c_X11_crates l D ad cs sk z (xs (j + 1)) (xs (j + 2)) (xs (j + 3)) (xs (j + 4)) _ (SK z (xs (j + 1)) (xs (j + 2)) (xs (j + 3)) (xs (j + 4)) hz)) lk_11_crates lo_11_crates ⟨Nat.le_of_ble_eq_true rfl, Nat.le_of_ble_eq_true rfl⟩ (xrc E hw ky_0_100 rfl) rfl hl.1 rfl (Nat.le_of_ble_eq_true rfl) dL_law_1647 ⟨by simp only [rmq, room_1]; omega, by simp only [rmq, room_1]; omega⟩ (fun r1 z1 H locs hp hw => ?_)
  refine lv_aload_n hx hb dL_law_1650 rfl (lv_at hl 2 rfl) ?_
  refine lv_aload_n hx hb dL_law_1651 rfl (lv_at hl 0 rfl) ?_
  refine lv_iload hx hb dL_law_1652 (lv_at hl 4 rfl) ?_
  refine lv_iconst (v := 1) hx hb dL_law_1654 (by decide) ?_
  refine lv_iadd hx hb dL_law_1655 ?_
  refine lw_ld C0 hw hj (k := 1) (by decide) rfl dL_law_1656 ?_
  refine lv_aload_n hx hb dL_law_1657 rfl (lv_at hl 0 rfl) ?_
  refine lv_iload hx hb dL_law_1658 (lv_at hl 4 rfl) ?_
  refine lv_iconst (v := 2) hx hb dL_law_1660 (by decide) ?_
  refine lv_iadd hx hb dL_law_1661 ?_
  refine lw_ld C0 hw hj (k := 2) (by decide) rfl dL_law_1662 ?_
  refine lv_aload_n hx hb dL_law_1663 rfl (lv_at hl 0 rfl) ?_
  refine lv_iload hx hb dL_law_1664 (lv_at hl 4 rfl) ?_
  refine lv_iconst (v := 3) hx hb dL_law_1666 (by decide) ?_
  refine lv_iadd hx hb dL_law_1667 ?_
  refine lw_ld C0 hw hj (k := 3) (by decide) rfl dL_law_1668 ?_
  refine lv_aload_n hx hb dL_law_1669 rfl (lv_at hl 0 rfl) ?_
  refine lv_iload hx hb dL_law_1670 (lv_at hl 4 rfl) ?_
  refine lv_iconst (v := 4) hx hb dL_law_1672 (by decide) ?_
  refine lv_iadd hx hb dL_law_1673 ?_
  refine lw_ld C0 hw hj (k := 4) (by decide) rfl dL_law_1674 ?_
  refine xcVI (As := [.int (xs (j + 1)), .int (xs (j + 2)), .int (xs (j + 3)), .int (xs (j + 4))]) (rest := [.int r1]) E hw hA (c_X12_crates l D ad cs sk z1 (xs (j + 1)) (xs (j + 2)) (xs (j + 3)) (xs (j + 4)) _ hp) lk_12_crates lo_12_crates ⟨Nat.le_of_ble_eq_true rfl, Nat.le_of_ble_eq_true rfl⟩ (xrc E hw ky_14_100 rfl) rfl hl.1 rfl (Nat.le_of_ble_eq_true rfl) dL_law_1675 ⟨by simp only [rmq, room_1]; omega, by simp only [rmq, room_1]; omega⟩ (fun r2 z2 H locs hp hw => ?_)
  refine lv_icmp_eq (tgt := 2120) hx hb dL_law_1678 (by decide) (fun _ => ?_) (fun c9 => absurd hp.1.symm c9)
  exact W.widen (k := cells + 300) (n := slots + 3000) (by simp only [rmq]; omega) (by simp only [rmq]; omega) (kk z2 H locs hp.2 hw)
def SK_25 (Rel : ZS → Prop) : Prop := ∀ (z : ZS) (p1 p2 p3 : Int32), Rel z → V_X11_judge z p1 p2 p3 (fun r z1 => V_X12_judge z1 p1 p2 p3 (fun r2 z2 => r2 = r ∧ Rel z2))
set_option maxHeartbeats 4000000 in
theorem L_25 {p : Program} {l : Launch} {e : Env} {s : State} {m : MethodId} {below : List Frame} {meth : Method} {c : Code} {D : va_G} {ad : Nat → Nat → Nat} {cs : Nat → ClassId} {sk : (Nat → Nat) × (Nat → Nat)} {b Ln : Nat} {xs : Nat → Int32} {Q : State → Prop} {z : ZS} {H : Heap} {locs : List Loc} {ls : Array Slot} {cells slots j : Nat} (hst : l.stackTraces = false) (C0 : LX p m c s b Ln xs D cs sk) (Rel : ZS → Prop) (SK : SK_25 Rel) (hz : Rel z) (hj : j + 7 ≤ Ln) (hw : OW D ad cs (fun q : Nat => s.heap.size ≤ q) s.heap z H locs) (hl : lv_has ls 8 [(0, .ref b), (1, .ref (ad 0 100)), (2, .ref (ad 14 100)), (3, .ref (ad 15 0)), (4, .int (nI j))]) (hce : cells + 300 ≤ 600128) (hsl : slots + 3000 ≤ 7301098) (kk : ∀ (z1 : ZS) (H1 : Heap) (locs1 : List Loc), Rel z1 → OW D ad cs (fun q : Nat => s.heap.size ≤ q) s.heap z1 H1 locs1 → W p l e room_1 s m #[Value.ref b] below meth c H1 locs1 (cells + 300) (slots + 3000) Q (F0 m 2120 ls [])) : W p l e room_1 s m #[Value.ref b] below meth c H locs cells slots Q (F0 m 1683 ls []) := by
  have E := C0.1
  have hx := E.1.1
  have hb := E.1.2.1
  have hA : ∀ q, s.heap.size ≤ q → (fun q : Nat => s.heap.size ≤ q) q := fun _ h => h
  refine lv_aload_n hx hb dL_law_1683 rfl (lv_at hl 1 rfl) ?_
  refine lv_aload_n hx hb dL_law_1684 rfl (lv_at hl 0 rfl) ?_
  refine lv_iload hx hb dL_law_1685 (lv_at hl 4 rfl) ?_
  refine lv_iconst (v := 1) hx hb dL_law_1687 (by decide) ?_
  refine lv_iadd hx hb dL_law_1688 ?_
  refine lw_ld C0 hw hj (k := 1) (by decide) rfl dL_law_1689 ?_
  refine lv_aload_n hx hb dL_law_1690 rfl (lv_at hl 0 rfl) ?_
  refine lv_iload hx hb dL_law_1691 (lv_at hl 4 rfl) ?_
  refine lv_iconst (v := 2) hx hb dL_law_1693 (by decide) ?_
  refine lv_iadd hx hb dL_law_1694 ?_
  refine lw_ld C0 hw hj (k := 2) (by decide) rfl dL_law_1695 ?_
  refine lv_aload_n hx hb dL_law_1696 rfl (lv_at hl 0 rfl) ?_
  refine lv_iload hx hb dL_law_1697 (lv_at hl 4 rfl) ?_
  refine lv_iconst (v := 3) hx hb dL_law_1699 (by decide) ?_
  refine lv_iadd hx hb dL_law_1700 ?_
  refine lw_ld C0 hw hj (k := 3) (by decide) rfl dL_law_1701 ?_
  refine xcVI (As := [.int (xs (j + 1)), .int (xs (j + 2)), .int (xs (j + 3))]) (rest := []) E hw hA (c_X11_judge l D ad cs sk z (xs (j + 1)) (xs (j + 2)) (xs (j + 3)) _ (SK z (xs (j + 1)) (xs (j + 2)) (xs (j + 3)) hz)) lk_11_judge lo_11_judge ⟨Nat.le_of_ble_eq_true rfl, Nat.le_of_ble_eq_true rfl⟩ (xrc E hw ky_0_100 rfl) rfl hl.1 rfl (Nat.le_of_ble_eq_true rfl) dL_law_1702 ⟨by simp only [rmq, room_1]; omega, by simp only [rmq, room_1]; omega⟩ (fun r1 z1 H locs hp hw => ?_)
  refine lv_aload_n hx hb dL_law_1705 rfl (lv_at hl 2 rfl) ?_
  refine lv_aload_n hx hb dL_law_1706 rfl (lv_at hl 0 rfl) ?_
  refine lv_iload hx hb dL_law_1707 (lv_at hl 4 rfl) ?_
  refine lv_iconst (v := 1) hx hb dL_law_1709 (by decide) ?_
  refine lv_iadd hx hb dL_law_1710 ?_
  refine lw_ld C0 hw hj (k := 1) (by decide) rfl dL_law_1711 ?_
  refine lv_aload_n hx hb dL_law_1712 rfl (lv_at hl 0 rfl) ?_
  refine lv_iload hx hb dL_law_1713 (lv_at hl 4 rfl) ?_
  refine lv_iconst (v := 2) hx hb dL_law_1715 (by decide) ?_
  refine lv_iadd hx hb dL_law_1716 ?_
  refine lw_ld C0 hw hj (k := 2) (by decide) rfl dL_law_1717 ?_
  refine lv_aload_n hx hb dL_law_1718 rfl (lv_at hl 0 rfl) ?_
  refine lv_iload hx hb dL_law_1719 (lv_at hl 4 rfl) ?_
  refine lv_iconst (v := 3) hx hb dL_law_1721 (by decide) ?_
  refine lv_iadd hx hb dL_law_1722 ?_
  refine lw_ld C0 hw hj (k := 3) (by decide) rfl dL_law_1723 ?_
  refine xcVI (As := [.int (xs (j + 1)), .int (xs (j + 2)), .int (xs (j + 3))]) (rest := [.int r1]) E hw hA (c_X12_judge l D ad cs sk z1 (xs (j + 1)) (xs (j + 2)) (xs (j + 3)) _ hp) lk_12_judge lo_12_judge ⟨Nat.le_of_ble_eq_true rfl, Nat.le_of_ble_eq_true rfl⟩ (xrc E hw ky_14_100 rfl) rfl hl.1 rfl (Nat.le_of_ble_eq_true rfl) dL_law_1724 ⟨by simp only [rmq, room_1]; omega, by simp only [rmq, room_1]; omega⟩ (fun r2 z2 H locs hp hw => ?_)
  refine lv_icmp_eq (tgt := 2120) hx hb dL_law_1727 (by decide) (fun _ => ?_) (fun c9 => absurd hp.1.symm c9)
  exact W.widen (k := cells + 300) (n := slots + 3000) (by simp only [rmq]; omega) (by simp only [rmq]; omega) (kk z2 H locs hp.2 hw)
def SK_26 (Rel : ZS → Prop) : Prop := ∀ (z : ZS), Rel z → V_X11_image z (fun r z1 => V_X12_image z1 (fun r2 z2 => r2 = r ∧ Rel z2))
set_option maxHeartbeats 4000000 in
theorem L_26 {p : Program} {l : Launch} {e : Env} {s : State} {m : MethodId} {below : List Frame} {meth : Method} {c : Code} {D : va_G} {ad : Nat → Nat → Nat} {cs : Nat → ClassId} {sk : (Nat → Nat) × (Nat → Nat)} {b Ln : Nat} {xs : Nat → Int32} {Q : State → Prop} {z : ZS} {H : Heap} {locs : List Loc} {ls : Array Slot} {cells slots j : Nat} (hst : l.stackTraces = false) (C0 : LX p m c s b Ln xs D cs sk) (Rel : ZS → Prop) (SK : SK_26 Rel) (hz : Rel z) (hj : j + 7 ≤ Ln) (hw : OW D ad cs (fun q : Nat => s.heap.size ≤ q) s.heap z H locs) (hl : lv_has ls 8 [(0, .ref b), (1, .ref (ad 0 100)), (2, .ref (ad 14 100)), (3, .ref (ad 15 0)), (4, .int (nI j))]) (hce : cells + 300 ≤ 600128) (hsl : slots + 3000 ≤ 7301098) (kk : ∀ (z1 : ZS) (H1 : Heap) (locs1 : List Loc), Rel z1 → OW D ad cs (fun q : Nat => s.heap.size ≤ q) s.heap z1 H1 locs1 → W p l e room_1 s m #[Value.ref b] below meth c H1 locs1 (cells + 300) (slots + 3000) Q (F0 m 2120 ls [])) : W p l e room_1 s m #[Value.ref b] below meth c H locs cells slots Q (F0 m 1732 ls []) := by
  have E := C0.1
  have hx := E.1.1
  have hb := E.1.2.1
  have hA : ∀ q, s.heap.size ≤ q → (fun q : Nat => s.heap.size ≤ q) q := fun _ h => h
  refine lv_aload_n hx hb dL_law_1732 rfl (lv_at hl 1 rfl) ?_
  refine xcVI (As := []) (rest := []) E hw hA (c_X11_image l D ad cs sk z _ (SK z hz)) lk_11_image lo_11_image ⟨Nat.le_of_ble_eq_true rfl, Nat.le_of_ble_eq_true rfl⟩ (xrc E hw ky_0_100 rfl) rfl hl.1 rfl (Nat.le_of_ble_eq_true rfl) dL_law_1733 ⟨by simp only [rmq, room_1]; omega, by simp only [rmq, room_1]; omega⟩ (fun r1 z1 H locs hp hw => ?_)
  refine lv_aload_n hx hb dL_law_1736 rfl (lv_at hl 2 rfl) ?_
  refine xcVI (As := []) (rest := [.int r1]) E hw hA (c_X12_image l D ad cs sk z1 _ hp) lk_12_image lo_12_image ⟨Nat.le_of_ble_eq_true rfl, Nat.le_of_ble_eq_true rfl⟩ (xrc E hw ky_14_100 rfl) rfl hl.1 rfl (Nat.le_of_ble_eq_true rfl) dL_law_1737 ⟨by simp only [rmq, room_1]; omega, by simp only [rmq, room_1]; omega⟩ (fun r2 z2 H locs hp hw => ?_)
  refine lv_icmp_eq (tgt := 2120) hx hb dL_law_1740 (by decide) (fun _ => ?_) (fun c9 => absurd hp.1.symm c9)
  exact W.widen (k := cells + 300) (n := slots + 3000) (by simp only [rmq]; omega) (by simp only [rmq]; omega) (kk z2 H locs hp.2 hw)
def SK_27 (Rel : ZS → Prop) : Prop := ∀ (z : ZS), Rel z → V_X11_restore z (fun r z1 => V_X12_restore z1 (fun r2 z2 => r2 = r ∧ Rel z2))
set_option maxHeartbeats 4000000 in
theorem L_27 {p : Program} {l : Launch} {e : Env} {s : State} {m : MethodId} {below : List Frame} {meth : Method} {c : Code} {D : va_G} {ad : Nat → Nat → Nat} {cs : Nat → ClassId} {sk : (Nat → Nat) × (Nat → Nat)} {b Ln : Nat} {xs : Nat → Int32} {Q : State → Prop} {z : ZS} {H : Heap} {locs : List Loc} {ls : Array Slot} {cells slots j : Nat} (hst : l.stackTraces = false) (C0 : LX p m c s b Ln xs D cs sk) (Rel : ZS → Prop) (SK : SK_27 Rel) (hz : Rel z) (hj : j + 7 ≤ Ln) (hw : OW D ad cs (fun q : Nat => s.heap.size ≤ q) s.heap z H locs) (hl : lv_has ls 8 [(0, .ref b), (1, .ref (ad 0 100)), (2, .ref (ad 14 100)), (3, .ref (ad 15 0)), (4, .int (nI j))]) (hce : cells + 300 ≤ 600128) (hsl : slots + 3000 ≤ 7301098) (kk : ∀ (z1 : ZS) (H1 : Heap) (locs1 : List Loc), Rel z1 → OW D ad cs (fun q : Nat => s.heap.size ≤ q) s.heap z1 H1 locs1 → W p l e room_1 s m #[Value.ref b] below meth c H1 locs1 (cells + 300) (slots + 3000) Q (F0 m 2120 ls [])) : W p l e room_1 s m #[Value.ref b] below meth c H locs cells slots Q (F0 m 1745 ls []) := by
  have E := C0.1
  have hx := E.1.1
  have hb := E.1.2.1
  have hA : ∀ q, s.heap.size ≤ q → (fun q : Nat => s.heap.size ≤ q) q := fun _ h => h
  refine lv_aload_n hx hb dL_law_1745 rfl (lv_at hl 1 rfl) ?_
  refine xcVI (As := []) (rest := []) E hw hA (c_X11_restore l D ad cs sk z _ (SK z hz)) lk_11_restore lo_11_restore ⟨Nat.le_of_ble_eq_true rfl, Nat.le_of_ble_eq_true rfl⟩ (xrc E hw ky_0_100 rfl) rfl hl.1 rfl (Nat.le_of_ble_eq_true rfl) dL_law_1746 ⟨by simp only [rmq, room_1]; omega, by simp only [rmq, room_1]; omega⟩ (fun r1 z1 H locs hp hw => ?_)
  refine lv_aload_n hx hb dL_law_1749 rfl (lv_at hl 2 rfl) ?_
  refine xcVI (As := []) (rest := [.int r1]) E hw hA (c_X12_restore l D ad cs sk z1 _ hp) lk_12_restore lo_12_restore ⟨Nat.le_of_ble_eq_true rfl, Nat.le_of_ble_eq_true rfl⟩ (xrc E hw ky_14_100 rfl) rfl hl.1 rfl (Nat.le_of_ble_eq_true rfl) dL_law_1750 ⟨by simp only [rmq, room_1]; omega, by simp only [rmq, room_1]; omega⟩ (fun r2 z2 H locs hp hw => ?_)
  refine lv_icmp_eq (tgt := 2120) hx hb dL_law_1753 (by decide) (fun _ => ?_) (fun c9 => absurd hp.1.symm c9)
  exact W.widen (k := cells + 300) (n := slots + 3000) (by simp only [rmq]; omega) (by simp only [rmq]; omega) (kk z2 H locs hp.2 hw)
def SK_28 (Rel : ZS → Prop) : Prop := ∀ (z : ZS) (p1 : Int32), Rel z → V_X11_count z p1 (fun r z1 => V_X12_count z1 p1 (fun r2 z2 => r2 = r ∧ Rel z2))
set_option maxHeartbeats 4000000 in
theorem L_28 {p : Program} {l : Launch} {e : Env} {s : State} {m : MethodId} {below : List Frame} {meth : Method} {c : Code} {D : va_G} {ad : Nat → Nat → Nat} {cs : Nat → ClassId} {sk : (Nat → Nat) × (Nat → Nat)} {b Ln : Nat} {xs : Nat → Int32} {Q : State → Prop} {z : ZS} {H : Heap} {locs : List Loc} {ls : Array Slot} {cells slots j : Nat} (hst : l.stackTraces = false) (C0 : LX p m c s b Ln xs D cs sk) (Rel : ZS → Prop) (SK : SK_28 Rel) (hz : Rel z) (hj : j + 7 ≤ Ln) (hw : OW D ad cs (fun q : Nat => s.heap.size ≤ q) s.heap z H locs) (hl : lv_has ls 8 [(0, .ref b), (1, .ref (ad 0 100)), (2, .ref (ad 14 100)), (3, .ref (ad 15 0)), (4, .int (nI j))]) (hce : cells + 300 ≤ 600128) (hsl : slots + 3000 ≤ 7301098) (kk : ∀ (z1 : ZS) (H1 : Heap) (locs1 : List Loc), Rel z1 → OW D ad cs (fun q : Nat => s.heap.size ≤ q) s.heap z1 H1 locs1 → W p l e room_1 s m #[Value.ref b] below meth c H1 locs1 (cells + 300) (slots + 3000) Q (F0 m 2120 ls [])) : W p l e room_1 s m #[Value.ref b] below meth c H locs cells slots Q (F0 m 1758 ls []) := by
  have E := C0.1
  have hx := E.1.1
  have hb := E.1.2.1
  have hA : ∀ q, s.heap.size ≤ q → (fun q : Nat => s.heap.size ≤ q) q := fun _ h => h
  refine lv_aload_n hx hb dL_law_1758 rfl (lv_at hl 1 rfl) ?_
  refine lv_aload_n hx hb dL_law_1759 rfl (lv_at hl 0 rfl) ?_
  refine lv_iload hx hb dL_law_1760 (lv_at hl 4 rfl) ?_
  refine lv_iconst (v := 1) hx hb dL_law_1762 (by decide) ?_
  refine lv_iadd hx hb dL_law_1763 ?_
  refine lw_ld C0 hw hj (k := 1) (by decide) rfl dL_law_1764 ?_
  refine xcVI (As := [.int (xs (j + 1))]) (rest := []) E hw hA (c_X11_count l D ad cs sk z (xs (j + 1)) _ (SK z (xs (j + 1)) hz)) lk_11_count lo_11_count ⟨Nat.le_of_ble_eq_true rfl, Nat.le_of_ble_eq_true rfl⟩ (xrc E hw ky_0_100 rfl) rfl hl.1 rfl (Nat.le_of_ble_eq_true rfl) dL_law_1765 ⟨by simp only [rmq, room_1]; omega, by simp only [rmq, room_1]; omega⟩ (fun r1 z1 H locs hp hw => ?_)
  refine lv_aload_n hx hb dL_law_1768 rfl (lv_at hl 2 rfl) ?_
  refine lv_aload_n hx hb dL_law_1769 rfl (lv_at hl 0 rfl) ?_
  refine lv_iload hx hb dL_law_1770 (lv_at hl 4 rfl) ?_
  refine lv_iconst (v := 1) hx hb dL_law_1772 (by decide) ?_
  refine lv_iadd hx hb dL_law_1773 ?_
  refine lw_ld C0 hw hj (k := 1) (by decide) rfl dL_law_1774 ?_
  refine xcVI (As := [.int (xs (j + 1))]) (rest := [.int r1]) E hw hA (c_X12_count l D ad cs sk z1 (xs (j + 1)) _ hp) lk_12_count lo_12_count ⟨Nat.le_of_ble_eq_true rfl, Nat.le_of_ble_eq_true rfl⟩ (xrc E hw ky_14_100 rfl) rfl hl.1 rfl (Nat.le_of_ble_eq_true rfl) dL_law_1775 ⟨by simp only [rmq, room_1]; omega, by simp only [rmq, room_1]; omega⟩ (fun r2 z2 H locs hp hw => ?_)
  refine lv_icmp_eq (tgt := 2120) hx hb dL_law_1778 (by decide) (fun _ => ?_) (fun c9 => absurd hp.1.symm c9)
  exact W.widen (k := cells + 300) (n := slots + 3000) (by simp only [rmq]; omega) (by simp only [rmq]; omega) (kk z2 H locs hp.2 hw)
def SK_29 (Rel : ZS → Prop) : Prop := ∀ (z : ZS) (p1 p2 p3 : Int32), Rel z → V_X11_keep z p1 p2 p3 (fun r z1 => V_X12_keep z1 p1 p2 p3 (fun r2 z2 => r2 = r ∧ Rel z2))
set_option maxHeartbeats 4000000 in
theorem L_29 {p : Program} {l : Launch} {e : Env} {s : State} {m : MethodId} {below : List Frame} {meth : Method} {c : Code} {D : va_G} {ad : Nat → Nat → Nat} {cs : Nat → ClassId} {sk : (Nat → Nat) × (Nat → Nat)} {b Ln : Nat} {xs : Nat → Int32} {Q : State → Prop} {z : ZS} {H : Heap} {locs : List Loc} {ls : Array Slot} {cells slots j : Nat} (hst : l.stackTraces = false) (C0 : LX p m c s b Ln xs D cs sk) (Rel : ZS → Prop) (SK : SK_29 Rel) (hz : Rel z) (hj : j + 7 ≤ Ln) (hw : OW D ad cs (fun q : Nat => s.heap.size ≤ q) s.heap z H locs) (hl : lv_has ls 8 [(0, .ref b), (1, .ref (ad 0 100)), (2, .ref (ad 14 100)), (3, .ref (ad 15 0)), (4, .int (nI j))]) (hce : cells + 300 ≤ 600128) (hsl : slots + 3000 ≤ 7301098) (kk : ∀ (z1 : ZS) (H1 : Heap) (locs1 : List Loc), Rel z1 → OW D ad cs (fun q : Nat => s.heap.size ≤ q) s.heap z1 H1 locs1 → W p l e room_1 s m #[Value.ref b] below meth c H1 locs1 (cells + 300) (slots + 3000) Q (F0 m 2120 ls [])) : W p l e room_1 s m #[Value.ref b] below meth c H locs cells slots Q (F0 m 1783 ls []) := by
  have E := C0.1
  have hx := E.1.1
  have hb := E.1.2.1
  have hA : ∀ q, s.heap.size ≤ q → (fun q : Nat => s.heap.size ≤ q) q := fun _ h => h
  refine lv_aload_n hx hb dL_law_1783 rfl (lv_at hl 1 rfl) ?_
  refine lv_aload_n hx hb dL_law_1784 rfl (lv_at hl 0 rfl) ?_
  refine lv_iload hx hb dL_law_1785 (lv_at hl 4 rfl) ?_
  refine lv_iconst (v := 1) hx hb dL_law_1787 (by decide) ?_
  refine lv_iadd hx hb dL_law_1788 ?_
  refine lw_ld C0 hw hj (k := 1) (by decide) rfl dL_law_1789 ?_
  refine lv_aload_n hx hb dL_law_1790 rfl (lv_at hl 0 rfl) ?_
  refine lv_iload hx hb dL_law_1791 (lv_at hl 4 rfl) ?_
  refine lv_iconst (v := 2) hx hb dL_law_1793 (by decide) ?_
  refine lv_iadd hx hb dL_law_1794 ?_
  refine lw_ld C0 hw hj (k := 2) (by decide) rfl dL_law_1795 ?_
  refine lv_aload_n hx hb dL_law_1796 rfl (lv_at hl 0 rfl) ?_
  refine lv_iload hx hb dL_law_1797 (lv_at hl 4 rfl) ?_
  refine lv_iconst (v := 3) hx hb dL_law_1799 (by decide) ?_
  refine lv_iadd hx hb dL_law_1800 ?_
  refine lw_ld C0 hw hj (k := 3) (by decide) rfl dL_law_1801 ?_
  refine xcVI (As := [.int (xs (j + 1)), .int (xs (j + 2)), .int (xs (j + 3))]) (rest := []) E hw hA (c_X11_keep l D ad cs sk z (xs (j + 1)) (xs (j + 2)) (xs (j + 3)) _ (SK z (xs (j + 1)) (xs (j + 2)) (xs (j + 3)) hz)) lk_11_keep lo_11_keep ⟨Nat.le_of_ble_eq_true rfl, Nat.le_of_ble_eq_true rfl⟩ (xrc E hw ky_0_100 rfl) rfl hl.1 rfl (Nat.le_of_ble_eq_true rfl) dL_law_1802 ⟨by simp only [rmq, room_1]; omega, by simp only [rmq, room_1]; omega⟩ (fun r1 z1 H locs hp hw => ?_)
  refine lv_aload_n hx hb dL_law_1805 rfl (lv_at hl 2 rfl) ?_
  refine lv_aload_n hx hb dL_law_1806 rfl (lv_at hl 0 rfl) ?_
  refine lv_iload hx hb dL_law_1807 (lv_at hl 4 rfl) ?_
  refine lv_iconst (v := 1) hx hb dL_law_1809 (by decide) ?_
  refine lv_iadd hx hb dL_law_1810 ?_
  refine lw_ld C0 hw hj (k := 1) (by decide) rfl dL_law_1811 ?_
  refine lv_aload_n hx hb dL_law_1812 rfl (lv_at hl 0 rfl) ?_
  refine lv_iload hx hb dL_law_1813 (lv_at hl 4 rfl) ?_
  refine lv_iconst (v := 2) hx hb dL_law_1815 (by decide) ?_
  refine lv_iadd hx hb dL_law_1816 ?_
  refine lw_ld C0 hw hj (k := 2) (by decide) rfl dL_law_1817 ?_
  refine lv_aload_n hx hb dL_law_1818 rfl (lv_at hl 0 rfl) ?_
  refine lv_iload hx hb dL_law_1819 (lv_at hl 4 rfl) ?_
  refine lv_iconst (v := 3) hx hb dL_law_1821 (by decide) ?_
  refine lv_iadd hx hb dL_law_1822 ?_
  refine lw_ld C0 hw hj (k := 3) (by decide) rfl dL_law_1823 ?_
  refine xcVI (As := [.int (xs (j + 1)), .int (xs (j + 2)), .int (xs (j + 3))]) (rest := [.int r1]) E hw hA (c_X12_keep l D ad cs sk z1 (xs (j + 1)) (xs (j + 2)) (xs (j + 3)) _ hp) lk_12_keep lo_12_keep ⟨Nat.le_of_ble_eq_true rfl, Nat.le_of_ble_eq_true rfl⟩ (xrc E hw ky_14_100 rfl) rfl hl.1 rfl (Nat.le_of_ble_eq_true rfl) dL_law_1824 ⟨by simp only [rmq, room_1]; omega, by simp only [rmq, room_1]; omega⟩ (fun r2 z2 H locs hp hw => ?_)
  refine lv_icmp_eq (tgt := 2120) hx hb dL_law_1827 (by decide) (fun _ => ?_) (fun c9 => absurd hp.1.symm c9)
  exact W.widen (k := cells + 300) (n := slots + 3000) (by simp only [rmq]; omega) (by simp only [rmq]; omega) (kk z2 H locs hp.2 hw)
def SK_30 (Rel : ZS → Prop) : Prop := ∀ (z : ZS) (p1 p2 p3 : Int32), Rel z → V_X11_row z p1 p2 p3 (fun r z1 => V_X12_row z1 p1 p2 p3 (fun r2 z2 => r2 = r ∧ Rel z2))
set_option maxHeartbeats 4000000 in
theorem L_30 {p : Program} {l : Launch} {e : Env} {s : State} {m : MethodId} {below : List Frame} {meth : Method} {c : Code} {D : va_G} {ad : Nat → Nat → Nat} {cs : Nat → ClassId} {sk : (Nat → Nat) × (Nat → Nat)} {b Ln : Nat} {xs : Nat → Int32} {Q : State → Prop} {z : ZS} {H : Heap} {locs : List Loc} {ls : Array Slot} {cells slots j : Nat} (hst : l.stackTraces = false) (C0 : LX p m c s b Ln xs D cs sk) (Rel : ZS → Prop) (SK : SK_30 Rel) (hz : Rel z) (hj : j + 7 ≤ Ln) (hw : OW D ad cs (fun q : Nat => s.heap.size ≤ q) s.heap z H locs) (hl : lv_has ls 8 [(0, .ref b), (1, .ref (ad 0 100)), (2, .ref (ad 14 100)), (3, .ref (ad 15 0)), (4, .int (nI j))]) (hce : cells + 300 ≤ 600128) (hsl : slots + 3000 ≤ 7301098) (kk : ∀ (z1 : ZS) (H1 : Heap) (locs1 : List Loc), Rel z1 → OW D ad cs (fun q : Nat => s.heap.size ≤ q) s.heap z1 H1 locs1 → W p l e room_1 s m #[Value.ref b] below meth c H1 locs1 (cells + 300) (slots + 3000) Q (F0 m 2120 ls [])) : W p l e room_1 s m #[Value.ref b] below meth c H locs cells slots Q (F0 m 1832 ls []) := by
  have E := C0.1
  have hx := E.1.1
  have hb := E.1.2.1
  have hA : ∀ q, s.heap.size ≤ q → (fun q : Nat => s.heap.size ≤ q) q := fun _ h => h
  refine lv_aload_n hx hb dL_law_1832 rfl (lv_at hl 1 rfl) ?_
  refine lv_aload_n hx hb dL_law_1833 rfl (lv_at hl 0 rfl) ?_
  refine lv_iload hx hb dL_law_1834 (lv_at hl 4 rfl) ?_
  refine lv_iconst (v := 1) hx hb dL_law_1836 (by decide) ?_
  refine lv_iadd hx hb dL_law_1837 ?_
  refine lw_ld C0 hw hj (k := 1) (by decide) rfl dL_law_1838 ?_
  refine lv_aload_n hx hb dL_law_1839 rfl (lv_at hl 0 rfl) ?_
  refine lv_iload hx hb dL_law_1840 (lv_at hl 4 rfl) ?_
  refine lv_iconst (v := 2) hx hb dL_law_1842 (by decide) ?_
  refine lv_iadd hx hb dL_law_1843 ?_
  refine lw_ld C0 hw hj (k := 2) (by decide) rfl dL_law_1844 ?_
  refine lv_aload_n hx hb dL_law_1845 rfl (lv_at hl 0 rfl) ?_
  refine lv_iload hx hb dL_law_1846 (lv_at hl 4 rfl) ?_
  refine lv_iconst (v := 3) hx hb dL_law_1848 (by decide) ?_
  refine lv_iadd hx hb dL_law_1849 ?_
  refine lw_ld C0 hw hj (k := 3) (by decide) rfl dL_law_1850 ?_
  refine xcVI (As := [.int (xs (j + 1)), .int (xs (j + 2)), .int (xs (j + 3))]) (rest := []) E hw hA (c_X11_row l D ad cs sk z (xs (j + 1)) (xs (j + 2)) (xs (j + 3)) _ (SK z (xs (j + 1)) (xs (j + 2)) (xs (j + 3)) hz)) lk_11_row lo_11_row ⟨Nat.le_of_ble_eq_true rfl, Nat.le_of_ble_eq_true rfl⟩ (xrc E hw ky_0_100 rfl) rfl hl.1 rfl (Nat.le_of_ble_eq_true rfl) dL_law_1851 ⟨by simp only [rmq, room_1]; omega, by simp only [rmq, room_1]; omega⟩ (fun r1 z1 H locs hp hw => ?_)
  refine lv_aload_n hx hb dL_law_1854 rfl (lv_at hl 2 rfl) ?_
  refine lv_aload_n hx hb dL_law_1855 rfl (lv_at hl 0 rfl) ?_
  refine lv_iload hx hb dL_law_1856 (lv_at hl 4 rfl) ?_
  refine lv_iconst (v := 1) hx hb dL_law_1858 (by decide) ?_
  refine lv_iadd hx hb dL_law_1859 ?_
  refine lw_ld C0 hw hj (k := 1) (by decide) rfl dL_law_1860 ?_
  refine lv_aload_n hx hb dL_law_1861 rfl (lv_at hl 0 rfl) ?_
  refine lv_iload hx hb dL_law_1862 (lv_at hl 4 rfl) ?_
  refine lv_iconst (v := 2) hx hb dL_law_1864 (by decide) ?_
  refine lv_iadd hx hb dL_law_1865 ?_
  refine lw_ld C0 hw hj (k := 2) (by decide) rfl dL_law_1866 ?_
  refine lv_aload_n hx hb dL_law_1867 rfl (lv_at hl 0 rfl) ?_
  refine lv_iload hx hb dL_law_1868 (lv_at hl 4 rfl) ?_
  refine lv_iconst (v := 3) hx hb dL_law_1870 (by decide) ?_
  refine lv_iadd hx hb dL_law_1871 ?_
  refine lw_ld C0 hw hj (k := 3) (by decide) rfl dL_law_1872 ?_
  refine xcVI (As := [.int (xs (j + 1)), .int (xs (j + 2)), .int (xs (j + 3))]) (rest := [.int r1]) E hw hA (c_X12_row l D ad cs sk z1 (xs (j + 1)) (xs (j + 2)) (xs (j + 3)) _ hp) lk_12_row lo_12_row ⟨Nat.le_of_ble_eq_true rfl, Nat.le_of_ble_eq_true rfl⟩ (xrc E hw ky_14_100 rfl) rfl hl.1 rfl (Nat.le_of_ble_eq_true rfl) dL_law_1873 ⟨by simp only [rmq, room_1]; omega, by simp only [rmq, room_1]; omega⟩ (fun r2 z2 H locs hp hw => ?_)
  refine lv_icmp_eq (tgt := 2120) hx hb dL_law_1876 (by decide) (fun _ => ?_) (fun c9 => absurd hp.1.symm c9)
  exact W.widen (k := cells + 300) (n := slots + 3000) (by simp only [rmq]; omega) (by simp only [rmq]; omega) (kk z2 H locs hp.2 hw)
def SK_31 (Rel : ZS → Prop) : Prop := ∀ (z : ZS) (p1 p2 p3 : Int32), Rel z → V_X11_put z p1 p2 p3 (fun r z1 => V_X12_put z1 p1 p2 p3 (fun r2 z2 => r2 = r ∧ Rel z2))
set_option maxHeartbeats 4000000 in
theorem L_31 {p : Program} {l : Launch} {e : Env} {s : State} {m : MethodId} {below : List Frame} {meth : Method} {c : Code} {D : va_G} {ad : Nat → Nat → Nat} {cs : Nat → ClassId} {sk : (Nat → Nat) × (Nat → Nat)} {b Ln : Nat} {xs : Nat → Int32} {Q : State → Prop} {z : ZS} {H : Heap} {locs : List Loc} {ls : Array Slot} {cells slots j : Nat} (hst : l.stackTraces = false) (C0 : LX p m c s b Ln xs D cs sk) (Rel : ZS → Prop) (SK : SK_31 Rel) (hz : Rel z) (hj : j + 7 ≤ Ln) (hw : OW D ad cs (fun q : Nat => s.heap.size ≤ q) s.heap z H locs) (hl : lv_has ls 8 [(0, .ref b), (1, .ref (ad 0 100)), (2, .ref (ad 14 100)), (3, .ref (ad 15 0)), (4, .int (nI j))]) (hce : cells + 300 ≤ 600128) (hsl : slots + 3000 ≤ 7301098) (kk : ∀ (z1 : ZS) (H1 : Heap) (locs1 : List Loc), Rel z1 → OW D ad cs (fun q : Nat => s.heap.size ≤ q) s.heap z1 H1 locs1 → W p l e room_1 s m #[Value.ref b] below meth c H1 locs1 (cells + 300) (slots + 3000) Q (F0 m 2120 ls [])) : W p l e room_1 s m #[Value.ref b] below meth c H locs cells slots Q (F0 m 1881 ls []) := by
  have E := C0.1
  have hx := E.1.1
  have hb := E.1.2.1
  have hA : ∀ q, s.heap.size ≤ q → (fun q : Nat => s.heap.size ≤ q) q := fun _ h => h
  refine lv_aload_n hx hb dL_law_1881 rfl (lv_at hl 1 rfl) ?_
  refine lv_aload_n hx hb dL_law_1882 rfl (lv_at hl 0 rfl) ?_
  refine lv_iload hx hb dL_law_1883 (lv_at hl 4 rfl) ?_
  refine lv_iconst (v := 1) hx hb dL_law_1885 (by decide) ?_
  refine lv_iadd hx hb dL_law_1886 ?_
  refine lw_ld C0 hw hj (k := 1) (by decide) rfl dL_law_1887 ?_
  refine lv_aload_n hx hb dL_law_1888 rfl (lv_at hl 0 rfl) ?_
  refine lv_iload hx hb dL_law_1889 (lv_at hl 4 rfl) ?_
  refine lv_iconst (v := 2) hx hb dL_law_1891 (by decide) ?_
  refine lv_iadd hx hb dL_law_1892 ?_
  refine lw_ld C0 hw hj (k := 2) (by decide) rfl dL_law_1893 ?_
  refine lv_aload_n hx hb dL_law_1894 rfl (lv_at hl 0 rfl) ?_
  refine lv_iload hx hb dL_law_1895 (lv_at hl 4 rfl) ?_
  refine lv_iconst (v := 3) hx hb dL_law_1897 (by decide) ?_
  refine lv_iadd hx hb dL_law_1898 ?_
  refine lw_ld C0 hw hj (k := 3) (by decide) rfl dL_law_1899 ?_
  refine xcVI (As := [.int (xs (j + 1)), .int (xs (j + 2)), .int (xs (j + 3))]) (rest := []) E hw hA (c_X11_put l D ad cs sk z (xs (j + 1)) (xs (j + 2)) (xs (j + 3)) _ (SK z (xs (j + 1)) (xs (j + 2)) (xs (j + 3)) hz)) lk_11_put lo_11_put ⟨Nat.le_of_ble_eq_true rfl, Nat.le_of_ble_eq_true rfl⟩ (xrc E hw ky_0_100 rfl) rfl hl.1 rfl (Nat.le_of_ble_eq_true rfl) dL_law_1900 ⟨by simp only [rmq, room_1]; omega, by simp only [rmq, room_1]; omega⟩ (fun r1 z1 H locs hp hw => ?_)
  refine lv_aload_n hx hb dL_law_1903 rfl (lv_at hl 2 rfl) ?_
  refine lv_aload_n hx hb dL_law_1904 rfl (lv_at hl 0 rfl) ?_
  refine lv_iload hx hb dL_law_1905 (lv_at hl 4 rfl) ?_
  refine lv_iconst (v := 1) hx hb dL_law_1907 (by decide) ?_
  refine lv_iadd hx hb dL_law_1908 ?_
  refine lw_ld C0 hw hj (k := 1) (by decide) rfl dL_law_1909 ?_
  refine lv_aload_n hx hb dL_law_1910 rfl (lv_at hl 0 rfl) ?_
  refine lv_iload hx hb dL_law_1911 (lv_at hl 4 rfl) ?_
  refine lv_iconst (v := 2) hx hb dL_law_1913 (by decide) ?_
  refine lv_iadd hx hb dL_law_1914 ?_
  refine lw_ld C0 hw hj (k := 2) (by decide) rfl dL_law_1915 ?_
  refine lv_aload_n hx hb dL_law_1916 rfl (lv_at hl 0 rfl) ?_
  refine lv_iload hx hb dL_law_1917 (lv_at hl 4 rfl) ?_
  refine lv_iconst (v := 3) hx hb dL_law_1919 (by decide) ?_
  refine lv_iadd hx hb dL_law_1920 ?_
  refine lw_ld C0 hw hj (k := 3) (by decide) rfl dL_law_1921 ?_
  refine xcVI (As := [.int (xs (j + 1)), .int (xs (j + 2)), .int (xs (j + 3))]) (rest := [.int r1]) E hw hA (c_X12_put l D ad cs sk z1 (xs (j + 1)) (xs (j + 2)) (xs (j + 3)) _ hp) lk_12_put lo_12_put ⟨Nat.le_of_ble_eq_true rfl, Nat.le_of_ble_eq_true rfl⟩ (xrc E hw ky_14_100 rfl) rfl hl.1 rfl (Nat.le_of_ble_eq_true rfl) dL_law_1922 ⟨by simp only [rmq, room_1]; omega, by simp only [rmq, room_1]; omega⟩ (fun r2 z2 H locs hp hw => ?_)
  refine lv_icmp_eq (tgt := 2120) hx hb dL_law_1925 (by decide) (fun _ => ?_) (fun c9 => absurd hp.1.symm c9)
  exact W.widen (k := cells + 300) (n := slots + 3000) (by simp only [rmq]; omega) (by simp only [rmq]; omega) (kk z2 H locs hp.2 hw)
def SK_33 (Rel : ZS → Prop) : Prop := ∀ (z : ZS) (p1 p2 p3 p4 p5 : Int32), Rel z → V_X11_copy z p1 p2 p3 p4 p5 (fun r z1 => V_X12_copy z1 p1 p2 p3 p4 p5 (fun r2 z2 => r2 = r ∧ Rel z2))
set_option maxHeartbeats 4000000 in
theorem L_33 {p : Program} {l : Launch} {e : Env} {s : State} {m : MethodId} {below : List Frame} {meth : Method} {c : Code} {D : va_G} {ad : Nat → Nat → Nat} {cs : Nat → ClassId} {sk : (Nat → Nat) × (Nat → Nat)} {b Ln : Nat} {xs : Nat → Int32} {Q : State → Prop} {z : ZS} {H : Heap} {locs : List Loc} {ls : Array Slot} {cells slots j : Nat} (hst : l.stackTraces = false) (C0 : LX p m c s b Ln xs D cs sk) (Rel : ZS → Prop) (SK : SK_33 Rel) (hz : Rel z) (hj : j + 7 ≤ Ln) (hw : OW D ad cs (fun q : Nat => s.heap.size ≤ q) s.heap z H locs) (hl : lv_has ls 8 [(0, .ref b), (1, .ref (ad 0 100)), (2, .ref (ad 14 100)), (3, .ref (ad 15 0)), (4, .int (nI j))]) (hce : cells + 300 ≤ 600128) (hsl : slots + 3000 ≤ 7301098) (kk : ∀ (z1 : ZS) (H1 : Heap) (locs1 : List Loc), Rel z1 → OW D ad cs (fun q : Nat => s.heap.size ≤ q) s.heap z1 H1 locs1 → W p l e room_1 s m #[Value.ref b] below meth c H1 locs1 (cells + 300) (slots + 3000) Q (F0 m 2120 ls [])) : W p l e room_1 s m #[Value.ref b] below meth c H locs cells slots Q (F0 m 1997 ls []) := by
  have E := C0.1
  have hx := E.1.1
  have hb := E.1.2.1
  have hA : ∀ q, s.heap.size ≤ q → (fun q : Nat => s.heap.size ≤ q) q := fun _ h => h
  refine lv_aload_n hx hb dL_law_1997 rfl (lv_at hl 1 rfl) ?_
  refine lv_aload_n hx hb dL_law_1998 rfl (lv_at hl 0 rfl) ?_
  refine lv_iload hx hb dL_law_1999 (lv_at hl 4 rfl) ?_
  refine lv_iconst (v := 1) hx hb dL_law_2001 (by decide) ?_
  refine lv_iadd hx hb dL_law_2002 ?_
  refine lw_ld C0 hw hj (k := 1) (by decide) rfl dL_law_2003 ?_
  refine lv_aload_n hx hb dL_law_2004 rfl (lv_at hl 0 rfl) ?_
  refine lv_iload hx hb dL_law_2005 (lv_at hl 4 rfl) ?_
  refine lv_iconst (v := 2) hx hb dL_law_2007 (by decide) ?_
  refine lv_iadd hx hb dL_law_2008 ?_
  refine lw_ld C0 hw hj (k := 2) (by decide) rfl dL_law_2009 ?_
  refine lv_aload_n hx hb dL_law_2010 rfl (lv_at hl 0 rfl) ?_
  refine lv_iload hx hb dL_law_2011 (lv_at hl 4 rfl) ?_
  refine lv_iconst (v := 3) hx hb dL_law_2013 (by decide) ?_
  refine lv_iadd hx hb dL_law_2014 ?_
  refine lw_ld C0 hw hj (k := 3) (by decide) rfl dL_law_2015 ?_
  refine lv_aload_n hx hb dL_law_2016 rfl (lv_at hl 0 rfl) ?_
  refine lv_iload hx hb dL_law_2017 (lv_at hl 4 rfl) ?_
  refine lv_iconst (v := 4) hx hb dL_law_2019 (by decide) ?_
  refine lv_iadd hx hb dL_law_2020 ?_
  refine lw_ld C0 hw hj (k := 4) (by decide) rfl dL_law_2021 ?_
  refine lv_aload_n hx hb dL_law_2022 rfl (lv_at hl 0 rfl) ?_
  refine lv_iload hx hb dL_law_2023 (lv_at hl 4 rfl) ?_
  refine lv_iconst (v := 5) hx hb dL_law_2025 (by decide) ?_
  refine lv_iadd hx hb dL_law_2026 ?_
  refine lw_ld C0 hw hj (k := 5) (by decide) rfl dL_law_2027 ?_
  refine xcVI (As := [.int (xs (j + 1)), .int (xs (j + 2)), .int (xs (j + 3)), .int (xs (j + 4)), .int (xs (j + 5))]) (rest := []) E hw hA (c_X11_copy l D ad cs sk z (xs (j + 1)) (xs (j + 2)) (xs (j + 3)) (xs (j + 4)) (xs (j + 5)) _ (SK z (xs (j + 1)) (xs (j + 2)) (xs (j + 3)) (xs (j + 4)) (xs (j + 5)) hz)) lk_11_copy lo_11_copy ⟨Nat.le_of_ble_eq_true rfl, Nat.le_of_ble_eq_true rfl⟩ (xrc E hw ky_0_100 rfl) rfl hl.1 rfl (Nat.le_of_ble_eq_true rfl) dL_law_2028 ⟨by simp only [rmq, room_1]; omega, by simp only [rmq, room_1]; omega⟩ (fun r1 z1 H locs hp hw => ?_)
  refine lv_aload_n hx hb dL_law_2031 rfl (lv_at hl 2 rfl) ?_
  refine lv_aload_n hx hb dL_law_2032 rfl (lv_at hl 0 rfl) ?_
  refine lv_iload hx hb dL_law_2033 (lv_at hl 4 rfl) ?_
  refine lv_iconst (v := 1) hx hb dL_law_2035 (by decide) ?_
  refine lv_iadd hx hb dL_law_2036 ?_
  refine lw_ld C0 hw hj (k := 1) (by decide) rfl dL_law_2037 ?_
  refine lv_aload_n hx hb dL_law_2038 rfl (lv_at hl 0 rfl) ?_
  refine lv_iload hx hb dL_law_2039 (lv_at hl 4 rfl) ?_
  refine lv_iconst (v := 2) hx hb dL_law_2041 (by decide) ?_
  refine lv_iadd hx hb dL_law_2042 ?_
  refine lw_ld C0 hw hj (k := 2) (by decide) rfl dL_law_2043 ?_
  refine lv_aload_n hx hb dL_law_2044 rfl (lv_at hl 0 rfl) ?_
  refine lv_iload hx hb dL_law_2045 (lv_at hl 4 rfl) ?_
  refine lv_iconst (v := 3) hx hb dL_law_2047 (by decide) ?_
  refine lv_iadd hx hb dL_law_2048 ?_
  refine lw_ld C0 hw hj (k := 3) (by decide) rfl dL_law_2049 ?_
  refine lv_aload_n hx hb dL_law_2050 rfl (lv_at hl 0 rfl) ?_
  refine lv_iload hx hb dL_law_2051 (lv_at hl 4 rfl) ?_
  refine lv_iconst (v := 4) hx hb dL_law_2053 (by decide) ?_
  refine lv_iadd hx hb dL_law_2054 ?_
  refine lw_ld C0 hw hj (k := 4) (by decide) rfl dL_law_2055 ?_
  refine lv_aload_n hx hb dL_law_2056 rfl (lv_at hl 0 rfl) ?_
  refine lv_iload hx hb dL_law_2057 (lv_at hl 4 rfl) ?_
  refine lv_iconst (v := 5) hx hb dL_law_2059 (by decide) ?_
  refine lv_iadd hx hb dL_law_2060 ?_
  refine lw_ld C0 hw hj (k := 5) (by decide) rfl dL_law_2061 ?_
  refine xcVI (As := [.int (xs (j + 1)), .int (xs (j + 2)), .int (xs (j + 3)), .int (xs (j + 4)), .int (xs (j + 5))]) (rest := [.int r1]) E hw hA (c_X12_copy l D ad cs sk z1 (xs (j + 1)) (xs (j + 2)) (xs (j + 3)) (xs (j + 4)) (xs (j + 5)) _ hp) lk_12_copy lo_12_copy ⟨Nat.le_of_ble_eq_true rfl, Nat.le_of_ble_eq_true rfl⟩ (xrc E hw ky_14_100 rfl) rfl hl.1 rfl (Nat.le_of_ble_eq_true rfl) dL_law_2062 ⟨by simp only [rmq, room_1]; omega, by simp only [rmq, room_1]; omega⟩ (fun r2 z2 H locs hp hw => ?_)
  refine lv_icmp_eq (tgt := 2120) hx hb dL_law_2065 (by decide) (fun _ => ?_) (fun c9 => absurd hp.1.symm c9)
  exact W.widen (k := cells + 300) (n := slots + 3000) (by simp only [rmq]; omega) (by simp only [rmq]; omega) (kk z2 H locs hp.2 hw)
def SK_34 (Rel : ZS → Prop) : Prop := ∀ (z : ZS) (p1 : Int32), Rel z → V_X11_care z p1 (fun r z1 => V_X12_care z1 p1 (fun r2 z2 => r2 = r ∧ Rel z2))
set_option maxHeartbeats 4000000 in
theorem L_34 {p : Program} {l : Launch} {e : Env} {s : State} {m : MethodId} {below : List Frame} {meth : Method} {c : Code} {D : va_G} {ad : Nat → Nat → Nat} {cs : Nat → ClassId} {sk : (Nat → Nat) × (Nat → Nat)} {b Ln : Nat} {xs : Nat → Int32} {Q : State → Prop} {z : ZS} {H : Heap} {locs : List Loc} {ls : Array Slot} {cells slots j : Nat} (hst : l.stackTraces = false) (C0 : LX p m c s b Ln xs D cs sk) (Rel : ZS → Prop) (SK : SK_34 Rel) (hz : Rel z) (hj : j + 7 ≤ Ln) (hw : OW D ad cs (fun q : Nat => s.heap.size ≤ q) s.heap z H locs) (hl : lv_has ls 8 [(0, .ref b), (1, .ref (ad 0 100)), (2, .ref (ad 14 100)), (3, .ref (ad 15 0)), (4, .int (nI j))]) (hce : cells + 300 ≤ 600128) (hsl : slots + 3000 ≤ 7301098) (kk : ∀ (z1 : ZS) (H1 : Heap) (locs1 : List Loc), Rel z1 → OW D ad cs (fun q : Nat => s.heap.size ≤ q) s.heap z1 H1 locs1 → W p l e room_1 s m #[Value.ref b] below meth c H1 locs1 (cells + 300) (slots + 3000) Q (F0 m 2120 ls [])) : W p l e room_1 s m #[Value.ref b] below meth c H locs cells slots Q (F0 m 2070 ls []) := by
  have E := C0.1
  have hx := E.1.1
  have hb := E.1.2.1
  have hA : ∀ q, s.heap.size ≤ q → (fun q : Nat => s.heap.size ≤ q) q := fun _ h => h
  refine lv_aload_n hx hb dL_law_2070 rfl (lv_at hl 1 rfl) ?_
  refine lv_aload_n hx hb dL_law_2071 rfl (lv_at hl 0 rfl) ?_
  refine lv_iload hx hb dL_law_2072 (lv_at hl 4 rfl) ?_
  refine lv_iconst (v := 1) hx hb dL_law_2074 (by decide) ?_
  refine lv_iadd hx hb dL_law_2075 ?_
  refine lw_ld C0 hw hj (k := 1) (by decide) rfl dL_law_2076 ?_
  refine xcVI (As := [.int (xs (j + 1))]) (rest := []) E hw hA (c_X11_care l D ad cs sk z (xs (j + 1)) _ (SK z (xs (j + 1)) hz)) lk_11_care lo_11_care ⟨Nat.le_of_ble_eq_true rfl, Nat.le_of_ble_eq_true rfl⟩ (xrc E hw ky_0_100 rfl) rfl hl.1 rfl (Nat.le_of_ble_eq_true rfl) dL_law_2077 ⟨by simp only [rmq, room_1]; omega, by simp only [rmq, room_1]; omega⟩ (fun r1 z1 H locs hp hw => ?_)
  refine lv_aload_n hx hb dL_law_2080 rfl (lv_at hl 2 rfl) ?_
  refine lv_aload_n hx hb dL_law_2081 rfl (lv_at hl 0 rfl) ?_
  refine lv_iload hx hb dL_law_2082 (lv_at hl 4 rfl) ?_
  refine lv_iconst (v := 1) hx hb dL_law_2084 (by decide) ?_
  refine lv_iadd hx hb dL_law_2085 ?_
  refine lw_ld C0 hw hj (k := 1) (by decide) rfl dL_law_2086 ?_
  refine xcVI (As := [.int (xs (j + 1))]) (rest := [.int r1]) E hw hA (c_X12_care l D ad cs sk z1 (xs (j + 1)) _ hp) lk_12_care lo_12_care ⟨Nat.le_of_ble_eq_true rfl, Nat.le_of_ble_eq_true rfl⟩ (xrc E hw ky_14_100 rfl) rfl hl.1 rfl (Nat.le_of_ble_eq_true rfl) dL_law_2087 ⟨by simp only [rmq, room_1]; omega, by simp only [rmq, room_1]; omega⟩ (fun r2 z2 H locs hp hw => ?_)
  refine lv_icmp_eq (tgt := 2120) hx hb dL_law_2090 (by decide) (fun _ => ?_) (fun c9 => absurd hp.1.symm c9)
  exact W.widen (k := cells + 300) (n := slots + 3000) (by simp only [rmq]; omega) (by simp only [rmq]; omega) (kk z2 H locs hp.2 hw)
def SK_35 (Rel : ZS → Prop) : Prop := ∀ (z : ZS) (p1 : Int32), Rel z → V_X11_toss z p1 (fun r z1 => V_X12_toss z1 p1 (fun r2 z2 => r2 = r ∧ Rel z2))
set_option maxHeartbeats 4000000 in
theorem L_35 {p : Program} {l : Launch} {e : Env} {s : State} {m : MethodId} {below : List Frame} {meth : Method} {c : Code} {D : va_G} {ad : Nat → Nat → Nat} {cs : Nat → ClassId} {sk : (Nat → Nat) × (Nat → Nat)} {b Ln : Nat} {xs : Nat → Int32} {Q : State → Prop} {z : ZS} {H : Heap} {locs : List Loc} {ls : Array Slot} {cells slots j : Nat} (hst : l.stackTraces = false) (C0 : LX p m c s b Ln xs D cs sk) (Rel : ZS → Prop) (SK : SK_35 Rel) (hz : Rel z) (hj : j + 7 ≤ Ln) (hw : OW D ad cs (fun q : Nat => s.heap.size ≤ q) s.heap z H locs) (hl : lv_has ls 8 [(0, .ref b), (1, .ref (ad 0 100)), (2, .ref (ad 14 100)), (3, .ref (ad 15 0)), (4, .int (nI j))]) (hce : cells + 300 ≤ 600128) (hsl : slots + 3000 ≤ 7301098) (kk : ∀ (z1 : ZS) (H1 : Heap) (locs1 : List Loc), Rel z1 → OW D ad cs (fun q : Nat => s.heap.size ≤ q) s.heap z1 H1 locs1 → W p l e room_1 s m #[Value.ref b] below meth c H1 locs1 (cells + 300) (slots + 3000) Q (F0 m 2120 ls [])) : W p l e room_1 s m #[Value.ref b] below meth c H locs cells slots Q (F0 m 2095 ls []) := by
  have E := C0.1
  have hx := E.1.1
  have hb := E.1.2.1
  have hA : ∀ q, s.heap.size ≤ q → (fun q : Nat => s.heap.size ≤ q) q := fun _ h => h
  refine lv_aload_n hx hb dL_law_2095 rfl (lv_at hl 1 rfl) ?_
  refine lv_aload_n hx hb dL_law_2096 rfl (lv_at hl 0 rfl) ?_
  refine lv_iload hx hb dL_law_2097 (lv_at hl 4 rfl) ?_
  refine lv_iconst (v := 1) hx hb dL_law_2099 (by decide) ?_
  refine lv_iadd hx hb dL_law_2100 ?_
  refine lw_ld C0 hw hj (k := 1) (by decide) rfl dL_law_2101 ?_
  refine xcTW (As := [.int (xs (j + 1))]) (rest := []) E hw hA (c_X11_toss l hst D ad cs sk z (xs (j + 1)) _ (SK z (xs (j + 1)) hz)) ⟨lm_11_toss, li_11_toss, ls_11_toss, ln_11_toss, lc_toss⟩ lo_11_toss ⟨Nat.le_of_ble_eq_true rfl, Nat.le_of_ble_eq_true rfl⟩ (xrc E hw ky_0_100 rfl) rfl hl.1 rfl (Nat.le_of_ble_eq_true rfl) dL_law_2102 ⟨by simp only [rmq, room_1]; omega, by simp only [rmq, room_1]; omega⟩ (fun r1 z1 H locs hp hw => ?_)
  refine lv_aload_n hx hb dL_law_2105 rfl (lv_at hl 2 rfl) ?_
  refine lv_aload_n hx hb dL_law_2106 rfl (lv_at hl 0 rfl) ?_
  refine lv_iload hx hb dL_law_2107 (lv_at hl 4 rfl) ?_
  refine lv_iconst (v := 1) hx hb dL_law_2109 (by decide) ?_
  refine lv_iadd hx hb dL_law_2110 ?_
  refine lw_ld C0 hw hj (k := 1) (by decide) rfl dL_law_2111 ?_
  refine xcVI (As := [.int (xs (j + 1))]) (rest := [.int r1]) E hw hA (c_X12_toss l D ad cs sk z1 (xs (j + 1)) _ hp) lk_12_toss lo_12_toss ⟨Nat.le_of_ble_eq_true rfl, Nat.le_of_ble_eq_true rfl⟩ (xrc E hw ky_14_100 rfl) rfl hl.1 rfl (Nat.le_of_ble_eq_true rfl) dL_law_2112 ⟨by simp only [rmq, room_1]; omega, by simp only [rmq, room_1]; omega⟩ (fun r2 z2 H locs hp hw => ?_)
  refine lv_icmp_eq (tgt := 2120) hx hb dL_law_2115 (by decide) (fun _ => ?_) (fun c9 => absurd hp.1.symm c9)
  exact W.widen (k := cells + 300) (n := slots + 3000) (by simp only [rmq]; omega) (by simp only [rmq]; omega) (kk z2 H locs hp.2 hw)
