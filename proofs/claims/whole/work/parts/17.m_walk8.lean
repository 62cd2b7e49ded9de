def V_X12_two_249 (post : Int32 → ZS → Prop) (rr74 : ZS → Int32 → Int32 → Int32 → Int32 → Int32 → Int32 → Int32 → Int32 → Prop) (z : ZS) (v1 : Int32) (v2 : Int32) (v3 : Int32) (v4 : Int32) (v5 : Int32) (v6 : Int32) (v8 : Int32) (s0 : Int32) : Prop := (∀ t43 : Int32, t43 = v8 + (1 : Int32) → rr74 z v1 v2 v3 v4 v5 v6 s0 t43)
def V_X12_two_242 (post : Int32 → ZS → Prop) (rr74 : ZS → Int32 → Int32 → Int32 → Int32 → Int32 → Int32 → Int32 → Int32 → Prop) (z : ZS) (v1 : Int32) (v2 : Int32) (v3 : Int32) (v4 : Int32) (v5 : Int32) (v6 : Int32) (v8 : Int32) (v12 : Int32) : Prop := V_X12_two_249 post rr74 z v1 v2 v3 v4 v5 v6 v8 v12
def V_X12_two_186 (post : Int32 → ZS → Prop) (rr74 : ZS → Int32 → Int32 → Int32 → Int32 → Int32 → Int32 → Int32 → Int32 → Prop) (z : ZS) (v1 : Int32) (v2 : Int32) (v3 : Int32) (v4 : Int32) (v5 : Int32) (v6 : Int32) (v7 : Int32) (v8 : Int32) (v9 : Int32) (v10 : Int32) (v11 : Int32) : Prop := V_X12_hasLanded z (fun r33 z32 => ((r33 = 0 → V_X12_amount z32 (v9 - (zI z32 14 22)) (fun r36 z35 => V_X12_amount z35 (v10 - (zI z35 14 23)) (fun r38 z37 => V_X12_amount z37 (v11 - (zI z37 14 24)) (fun r40 z39 => (∀ t41 : Int32, t41 = ((r36 + r38) + r40) → ((v7 < 0 → V_X12_two_242 post rr74 z39 v1 v2 v3 v4 v5 v6 v8 t41) ∧ (¬ v7 < 0 → ((v7 ≤ t41 → V_X12_two_249 post rr74 z39 v1 v2 v3 v4 v5 v6 v8 v7) ∧ (¬ v7 ≤ t41 → V_X12_two_242 post rr74 z39 v1 v2 v3 v4 v5 v6 v8 t41))))))))) ∧ (¬ r33 = 0 → post v7 z32)))
def V_X12_two_162 (post : Int32 → ZS → Prop) (rr74 : ZS → Int32 → Int32 → Int32 → Int32 → Int32 → Int32 → Int32 → Int32 → Prop) : Nat → ZS → Int32 → Int32 → Int32 → Int32 → Int32 → Int32 → Int32 → Int32 → Int32 → Int32 → Int32 → Int32 → Prop
  | 0, _, _, _, _, _, _, _, _, _, _, _, _, _ => False
  | (n + 1), z, v1, v2, v3, v4, v5, v6, v7, v8, v9, v10, v11, v12 => ((v8 ≤ v12 → V_X12_two_186 post rr74 z v1 v2 v3 v4 v5 v6 v7 v8 v9 v10 v11) ∧ (¬ v8 ≤ v12 → V_X12_hasLanded z (fun r46 z45 => ((¬ r46 = 0 → V_X12_two_186 post rr74 z45 v1 v2 v3 v4 v5 v6 v7 v8 v9 v10 v11) ∧ (r46 = 0 → V_X12_goesSecond z45 (fun z48 => (∀ t50 : Int32, t50 = v12 + (1 : Int32) → (V_X12_two_162 post rr74 n) z48 v1 v2 v3 v4 v5 v6 v7 v8 v9 v10 v11 t50)))))))
def V_X12_two_121 (post : Int32 → ZS → Prop) (rr74 : ZS → Int32 → Int32 → Int32 → Int32 → Int32 → Int32 → Int32 → Int32 → Prop) (z : ZS) (v1 : Int32) (v2 : Int32) (v3 : Int32) (v4 : Int32) (v5 : Int32) (v6 : Int32) (v7 : Int32) (v8 : Int32) : Prop := V_X12_hasLanded z (fun r24 z23 => ((r24 = 0 → (∀ t26 : Int32, t26 = (zI z23 14 22) → (∀ t27 : Int32, t27 = (zI z23 14 23) → (∀ t28 : Int32, t28 = (zI z23 14 24) → V_X12_leavesOne z23 v2 v6 v5 (1 : Int32) (fun z29 => (∃ n51 : Nat, V_X12_two_162 post rr74 n51 z29 v1 v2 v3 v4 v5 v6 v7 v8 t26 t27 t28 (0 : Int32))))))) ∧ (¬ r24 = 0 → post v7 z23)))
def V_X12_two_95 (post : Int32 → ZS → Prop) (rr74 : ZS → Int32 → Int32 → Int32 → Int32 → Int32 → Int32 → Int32 → Int32 → Prop) : Nat → ZS → Int32 → Int32 → Int32 → Int32 → Int32 → Int32 → Int32 → Int32 → Int32 → Prop
  | 0, _, _, _, _, _, _, _, _, _, _ => False
  | (n + 1), z, v1, v2, v3, v4, v5, v6, v7, v8, v9 => (((v3 + v8) ≤ v9 → V_X12_two_121 post rr74 z v1 v2 v3 v4 v5 v6 v7 v8) ∧ (¬ (v3 + v8) ≤ v9 → V_X12_hasLanded z (fun r53 z52 => ((¬ r53 = 0 → V_X12_two_121 post rr74 z52 v1 v2 v3 v4 v5 v6 v7 v8) ∧ (r53 = 0 → V_X12_goesSecond z52 (fun z55 => (∀ t57 : Int32, t57 = v9 + (1 : Int32) → (V_X12_two_95 post rr74 n) z55 v1 v2 v3 v4 v5 v6 v7 v8 t57)))))))
def V_X12_two_74 (post : Int32 → ZS → Prop) : Nat → ZS → Int32 → Int32 → Int32 → Int32 → Int32 → Int32 → Int32 → Int32 → Prop
  | 0, _, _, _, _, _, _, _, _, _ => False
  | (n + 1), z, v1, v2, v3, v4, v5, v6, v7, v8 => (((400 : Int32) < v8 → post v7 z) ∧ (¬ (400 : Int32) < v8 → V_X12_leavesOne z v1 v4 v5 (1 : Int32) (fun z20 => (∃ n58 : Nat, V_X12_two_95 post (V_X12_two_74 post n) n58 z20 v1 v2 v3 v4 v5 v6 v7 v8 (0 : Int32)))))
def V_X12_two (z : ZS) (p1 : Int32) (p2 : Int32) (p3 : Int32) (p4 : Int32) (p5 : Int32) (post : Int32 → ZS → Prop) : Prop := V_X12_isFaller z p1 (fun r2 z1 => ((r2 = 0 → post (-1 : Int32) z1) ∧ (¬ r2 = 0 → V_X12_isFaller z1 p2 (fun r5 z4 => ((r5 = 0 → post (-1 : Int32) z4) ∧ (¬ r5 = 0 → ((p1 = p2 → post (-1 : Int32) z4) ∧ (¬ p1 = p2 → V_X12_isIn z4 (Int32.toInt64 p3) (1 : Int64) (20 : Int64) (fun r9 z8 => ((r9 = 0 → post (-1 : Int32) z8) ∧ (¬ r9 = 0 → V_X12_isEdge z8 p4 (fun r12 z11 => ((r12 = 0 → post (-1 : Int32) z11) ∧ (¬ r12 = 0 → V_X12_isEdge z11 p5 (fun r15 z14 => ((¬ r15 = 0 → V_X12_held z14 (p4 + ((zR z14 14 0 1) * p3)) (fun r18 z17 => (∃ n59 : Nat, V_X12_two_74 post n59 z17 p1 p2 p3 p4 p5 r18 (-4 : Int32) (0 : Int32)))) ∧ (r15 = 0 → post (-1 : Int32) z14)))))))))))))))))
set_option maxHeartbeats 4000000 in
set_option maxRecDepth 100000 in
theorem c_X12_two (l : Launch) (D : va_G) (ad : Nat → Nat → Nat) (cs : Nat → ClassId) (sk : (Nat → Nat) × (Nat → Nat)) (z : ZS) (p1 : Int32) (p2 : Int32) (p3 : Int32) (p4 : Int32) (p5 : Int32) (post : Int32 → ZS → Prop) (h : V_X12_two z p1 p2 p3 p4 p5 post) : MI l D ad cs sk yX12_two cX12_two 13 .int (rmq 4 0 0) [.ref (ad 14 100), .int p1, .int p2, .int p3, .int p4, .int p5] z post := by
  refine MI.of RX12 rfl (by decide) (Nat.le_of_ble_eq_true rfl) ?_
  intro p e s m args below meth c A Q E hw hA hret ls hl
  have hx := E.1.1
  have hb := E.1.2.1
  have hml := E.1.2.2.1
  have hown := E.1.2.2.2.1
  have h0 := E.1.2.2.2.2
  have hl : lv_has ls 13 [(0, .ref (ad 14 100)), (1, .int p1), (2, .int p2), (3, .int p3), (4, .int p4), (5, .int p5)] := hl
  unfold V_X12_two at h
  have b74 : ∀ (n : Nat) (z : ZS) (v1 : Int32) (v2 : Int32) (v3 : Int32) (v4 : Int32) (v5 : Int32) (v6 : Int32) (v7 : Int32) (v8 : Int32), ∀ (H : Heap) (locs : List Loc), OW D ad cs A s.heap z H locs → ∀ ls : Array Slot, lv_has ls 13 [(0, .ref (ad 14 100)), (1, .int v1), (2, .int v2), (3, .int v3), (4, .int v4), (5, .int v5), (6, .int v6), (7, .int v7), (8, .int v8)] → V_X12_two_74 post n z v1 v2 v3 v4 v5 v6 v7 v8 → W p l e (rmq 4 0 0) s m args below meth c H locs 0 0 Q (F0 m 74 ls []) := by
    intro n
    induction n with
    | zero =>
      intro z v1 v2 v3 v4 v5 v6 v7 v8 H locs hw ls hl h
      exact h.elim
    | succ n74x ih74 =>
      have b249 : ∀ (z : ZS) (v1 : Int32) (v2 : Int32) (v3 : Int32) (v4 : Int32) (v5 : Int32) (v6 : Int32) (v8 : Int32) (s0 : Int32), ∀ (H : Heap) (locs : List Loc), OW D ad cs A s.heap z H locs → ∀ ls : Array Slot, lv_has ls 13 [(0, .ref (ad 14 100)), (1, .int v1), (2, .int v2), (3, .int v3), (4, .int v4), (5, .int v5), (6, .int v6), (8, .int v8)] → V_X12_two_249 post (V_X12_two_74 post n74x) z v1 v2 v3 v4 v5 v6 v8 s0 → W p l e (rmq 4 0 0) s m args below meth c H locs 0 0 Q (F0 m 249 ls [.int s0]) := by
        intro z v1 v2 v3 v4 v5 v6 v8 s0 H locs hw ls hl h
        unfold V_X12_two_249 at h
        refine lv_istore (lv' := [(7, .int s0), (0, .ref (ad 14 100)), (1, .int v1), (2, .int v2), (3, .int v3), (4, .int v4), (5, .int v5), (6, .int v6), (8, .int v8)]) hx hb dX12_two_249 hl (by decide) rfl (fun ls hl => ?_)
        obtain ⟨t43, et43⟩ : ∃ y : Int32, y = v8 + (1 : Int32) := ⟨_, rfl⟩
        replace h := h t43 et43
        refine lv_iinc (v := t43) (lv' := [(8, .int t43), (7, .int s0), (0, .ref (ad 14 100)), (1, .int v1), (2, .int v2), (3, .int v3), (4, .int v4), (5, .int v5), (6, .int v6)]) hx hb dX12_two_251 hl (k := 8) rfl (by rw [et43]; rfl) (by decide) rfl (fun ls hl => ?_)
        refine lv_goto (tgt := 74) hx hb dX12_two_254 (by decide) ?_
        exact ih74 z v1 v2 v3 v4 v5 v6 s0 t43 H locs hw ls (lv_sub hl [2, 3, 4, 5, 6, 7, 8, 1, 0] rfl) h
      have b242 : ∀ (z : ZS) (v1 : Int32) (v2 : Int32) (v3 : Int32) (v4 : Int32) (v5 : Int32) (v6 : Int32) (v8 : Int32) (v12 : Int32), ∀ (H : Heap) (locs : List Loc), OW D ad cs A s.heap z H locs → ∀ ls : Array Slot, lv_has ls 13 [(0, .ref (ad 14 100)), (1, .int v1), (2, .int v2), (3, .int v3), (4, .int v4), (5, .int v5), (6, .int v6), (8, .int v8), (12, .int v12)] → V_X12_two_242 post (V_X12_two_74 post n74x) z v1 v2 v3 v4 v5 v6 v8 v12 → W p l e (rmq 4 0 0) s m args below meth c H locs 0 0 Q (F0 m 242 ls []) := by
        intro z v1 v2 v3 v4 v5 v6 v8 v12 H locs hw ls hl h
        unfold V_X12_two_242 at h
        refine lv_iload hx hb dX12_two_242 (lv_at hl 8 rfl) ?_
        refine lv_goto (tgt := 249) hx hb dX12_two_244 (by decide) ?_
        exact b249 z v1 v2 v3 v4 v5 v6 v8 v12 H locs hw ls (lv_sub hl [0, 1, 2, 3, 4, 5, 6, 7] rfl) h
      have b186 : ∀ (z : ZS) (v1 : Int32) (v2 : Int32) (v3 : Int32) (v4 : Int32) (v5 : Int32) (v6 : Int32) (v7 : Int32) (v8 : Int32) (v9 : Int32) (v10 : Int32) (v11 : Int32), ∀ (H : Heap) (locs : List Loc), OW D ad cs A s.heap z H locs → ∀ ls : Array Slot, lv_has ls 13 [(0, .ref (ad 14 100)), (1, .int v1), (2, .int v2), (3, .int v3), (4, .int v4), (5, .int v5), (6, .int v6), (7, .int v7), (8, .int v8), (9, .int v9), (10, .int v10), (11, .int v11)] → V_X12_two_186 post (V_X12_two_74 post n74x) z v1 v2 v3 v4 v5 v6 v7 v8 v9 v10 v11 → W p l e (rmq 4 0 0) s m args below meth c H locs 0 0 Q (F0 m 186 ls []) := by
        intro z v1 v2 v3 v4 v5 v6 v7 v8 v9 v10 v11 H locs hw ls hl h
        unfold V_X12_two_186 at h
        refine lv_aload_n hx hb dX12_two_186 rfl (lv_at hl 0 rfl) ?_
        have hq := h
        clear h
        refine xcVI (As := []) (rest := []) E hw hA (c_X12_hasLanded l D ad cs sk z _ hq) kc_12_249 yo_X12_hasLanded ⟨Nat.le_of_ble_eq_true rfl, Nat.le_of_ble_eq_true rfl⟩ (xrc E hw ky_14_100 rfl) rfl hl.1 rfl (Nat.le_of_ble_eq_true rfl) dX12_two_187 ⟨Nat.le_of_ble_eq_true rfl, Nat.le_of_ble_eq_true rfl⟩ (fun r33 z32 H locs h hw => ?_)
        refine lv_if_eq (tgt := 196) hx hb dX12_two_190 (by decide) (fun c34 => ?_) (fun c34 => ?_)
        · replace h := h.1 c34
          refine lv_iload hx hb dX12_two_196 (lv_at hl 9 rfl) ?_
          refine lv_aload_n hx hb dX12_two_198 rfl (lv_at hl 0 rfl) ?_
          refine xgI E hw (c1 := 12) rfl ky_14_100 fo_12_22 qf_12_206 dX12_two_199 ?_
          refine lv_isub hx hb dX12_two_202 ?_
          have hq := h
          clear h
          refine xcSI (As := [.int (v9 - (zI z32 14 22))]) (rest := []) E hw hA (c_X12_amount l D ad cs sk z32 (v9 - (zI z32 14 22)) _ hq) kc_12_171 yo_X12_amount ⟨Nat.le_of_ble_eq_true rfl, Nat.le_of_ble_eq_true rfl⟩ rfl hl.1 rfl (Nat.le_of_ble_eq_true rfl) dX12_two_203 ⟨Nat.le_of_ble_eq_true rfl, Nat.le_of_ble_eq_true rfl⟩ (fun r36 z35 H locs h hw => ?_)
          refine lv_iload hx hb dX12_two_206 (lv_at hl 10 rfl) ?_
          refine lv_aload_n hx hb dX12_two_208 rfl (lv_at hl 0 rfl) ?_
          refine xgI E hw (c1 := 12) rfl ky_14_100 fo_12_23 qf_12_209 dX12_two_209 ?_
          refine lv_isub hx hb dX12_two_212 ?_
          have hq := h
          clear h
          refine xcSI (As := [.int (v10 - (zI z35 14 23))]) (rest := [.int r36]) E hw hA (c_X12_amount l D ad cs sk z35 (v10 - (zI z35 14 23)) _ hq) kc_12_171 yo_X12_amount ⟨Nat.le_of_ble_eq_true rfl, Nat.le_of_ble_eq_true rfl⟩ rfl hl.1 rfl (Nat.le_of_ble_eq_true rfl) dX12_two_213 ⟨Nat.le_of_ble_eq_true rfl, Nat.le_of_ble_eq_true rfl⟩ (fun r38 z37 H locs h hw => ?_)
          refine lv_iadd hx hb dX12_two_216 ?_
          refine lv_iload hx hb dX12_two_217 (lv_at hl 11 rfl) ?_
          refine lv_aload_n hx hb dX12_two_219 rfl (lv_at hl 0 rfl) ?_
          refine xgI E hw (c1 := 12) rfl ky_14_100 fo_12_24 qf_12_212 dX12_two_220 ?_
          refine lv_isub hx hb dX12_two_223 ?_
          have hq := h
          clear h
          refine xcSI (As := [.int (v11 - (zI z37 14 24))]) (rest := [.int (r36 + r38)]) E hw hA (c_X12_amount l D ad cs sk z37 (v11 - (zI z37 14 24)) _ hq) kc_12_171 yo_X12_amount ⟨Nat.le_of_ble_eq_true rfl, Nat.le_of_ble_eq_true rfl⟩ rfl hl.1 rfl (Nat.le_of_ble_eq_true rfl) dX12_two_224 ⟨Nat.le_of_ble_eq_true rfl, Nat.le_of_ble_eq_true rfl⟩ (fun r40 z39 H locs h hw => ?_)
          refine lv_iadd hx hb dX12_two_227 ?_
          refine lv_topi (fun t41 et41 => ?_)
          replace h := h t41 et41
          refine lv_istore (lv' := [(12, .int t41), (0, .ref (ad 14 100)), (1, .int v1), (2, .int v2), (3, .int v3), (4, .int v4), (5, .int v5), (6, .int v6), (7, .int v7), (8, .int v8), (9, .int v9), (10, .int v10), (11, .int v11)]) hx hb dX12_two_228 hl (by decide) rfl (fun ls hl => ?_)
          refine lv_iload hx hb dX12_two_230 (lv_at hl 8 rfl) ?_
          refine lv_if_lt (tgt := 242) hx hb dX12_two_232 (by decide) (fun c42 => ?_) (fun c42 => ?_)
          · replace h := h.1 c42
            exact b242 z39 v1 v2 v3 v4 v5 v6 v8 t41 H locs hw ls (lv_sub hl [1, 2, 3, 4, 5, 6, 7, 9, 0] rfl) h
          · replace h := h.2 c42
            refine lv_iload hx hb dX12_two_235 (lv_at hl 0 rfl) ?_
            refine lv_iload hx hb dX12_two_237 (lv_at hl 8 rfl) ?_
            refine lv_icmp_ge (tgt := 247) hx hb dX12_two_239 (by decide) (fun c44 => ?_) (fun c44 => ?_)
            · replace h := h.1 c44
              refine lv_iload hx hb dX12_two_247 (lv_at hl 8 rfl) ?_
              exact b249 z39 v1 v2 v3 v4 v5 v6 v8 v7 H locs hw ls (lv_sub hl [1, 2, 3, 4, 5, 6, 7, 9] rfl) h
            · replace h := h.2 c44
              exact b242 z39 v1 v2 v3 v4 v5 v6 v8 t41 H locs hw ls (lv_sub hl [1, 2, 3, 4, 5, 6, 7, 9, 0] rfl) h
        · replace h := h.2 c34
          refine lv_iload hx hb dX12_two_193 (lv_at hl 7 rfl) ?_
          exact hret v7 z32 H locs 195 ls hw rfl h dX12_two_195
      have b162 : ∀ (n : Nat) (z : ZS) (v1 : Int32) (v2 : Int32) (v3 : Int32) (v4 : Int32) (v5 : Int32) (v6 : Int32) (v7 : Int32) (v8 : Int32) (v9 : Int32) (v10 : Int32) (v11 : Int32) (v12 : Int32), ∀ (H : Heap) (locs : List Loc), OW D ad cs A s.heap z H locs → ∀ ls : Array Slot, lv_has ls 13 [(0, .ref (ad 14 100)), (1, .int v1), (2, .int v2), (3, .int v3), (4, .int v4), (5, .int v5), (6, .int v6), (7, .int v7), (8, .int v8), (9, .int v9), (10, .int v10), (11, .int v11), (12, .int v12)] → V_X12_two_162 post (V_X12_two_74 post n74x) n z v1 v2 v3 v4 v5 v6 v7 v8 v9 v10 v11 v12 → W p l e (rmq 4 0 0) s m args below meth c H locs 0 0 Q (F0 m 162 ls []) := by
        intro n
        induction n with
        | zero =>
          intro z v1 v2 v3 v4 v5 v6 v7 v8 v9 v10 v11 v12 H locs hw ls hl h
          exact h.elim
        | succ n162x ih162 =>
          intro z v1 v2 v3 v4 v5 v6 v7 v8 v9 v10 v11 v12 H locs hw ls hl h
          unfold V_X12_two_162 at h
          refine lv_iload hx hb dX12_two_162 (lv_at hl 12 rfl) ?_
          refine lv_iload hx hb dX12_two_164 (lv_at hl 8 rfl) ?_
          refine lv_icmp_ge (tgt := 186) hx hb dX12_two_166 (by decide) (fun c31 => ?_) (fun c31 => ?_)
          · replace h := h.1 c31
            exact b186 z v1 v2 v3 v4 v5 v6 v7 v8 v9 v10 v11 H locs hw ls (lv_sub hl [0, 1, 2, 3, 4, 5, 6, 7, 8, 9, 10, 11] rfl) h
          · replace h := h.2 c31
            refine lv_aload_n hx hb dX12_two_169 rfl (lv_at hl 0 rfl) ?_
            have hq := h
            clear h
            refine xcVI (As := []) (rest := []) E hw hA (c_X12_hasLanded l D ad cs sk z _ hq) kc_12_249 yo_X12_hasLanded ⟨Nat.le_of_ble_eq_true rfl, Nat.le_of_ble_eq_true rfl⟩ (xrc E hw ky_14_100 rfl) rfl hl.1 rfl (Nat.le_of_ble_eq_true rfl) dX12_two_170 ⟨Nat.le_of_ble_eq_true rfl, Nat.le_of_ble_eq_true rfl⟩ (fun r46 z45 H locs h hw => ?_)
            refine lv_if_ne (tgt := 186) hx hb dX12_two_173 (by decide) (fun c47 => ?_) (fun c47 => ?_)
            · replace h := h.1 c47
              exact b186 z45 v1 v2 v3 v4 v5 v6 v7 v8 v9 v10 v11 H locs hw ls (lv_sub hl [0, 1, 2, 3, 4, 5, 6, 7, 8, 9, 10, 11] rfl) h
            · replace h := h.2 c47
              refine lv_aload_n hx hb dX12_two_176 rfl (lv_at hl 0 rfl) ?_
              have hq := h
              clear h
              refine xcVV (As := []) (rest := []) E hw hA (c_X12_goesSecond l D ad cs sk z45 _ hq) kc_12_252 yo_X12_goesSecond ⟨Nat.le_of_ble_eq_true rfl, Nat.le_of_ble_eq_true rfl⟩ (xrc E hw ky_14_100 rfl) rfl hl.1 rfl (Nat.le_of_ble_eq_true rfl) dX12_two_177 ⟨Nat.le_of_ble_eq_true rfl, Nat.le_of_ble_eq_true rfl⟩ (fun z48 H locs h hw => ?_)
              obtain ⟨t50, et50⟩ : ∃ y : Int32, y = v12 + (1 : Int32) := ⟨_, rfl⟩
              replace h := h t50 et50
              refine lv_iinc (v := t50) (lv' := [(12, .int t50), (0, .ref (ad 14 100)), (1, .int v1), (2, .int v2), (3, .int v3), (4, .int v4), (5, .int v5), (6, .int v6), (7, .int v7), (8, .int v8), (9, .int v9), (10, .int v10), (11, .int v11)]) hx hb dX12_two_180 hl (k := 12) rfl (by rw [et50]; rfl) (by decide) rfl (fun ls hl => ?_)
              refine lv_goto (tgt := 162) hx hb dX12_two_183 (by decide) ?_
              exact ih162 z48 v1 v2 v3 v4 v5 v6 v7 v8 v9 v10 v11 t50 H locs hw ls (lv_sub hl [1, 2, 3, 4, 5, 6, 7, 8, 9, 10, 11, 12, 0] rfl) h
      have b121 : ∀ (z : ZS) (v1 : Int32) (v2 : Int32) (v3 : Int32) (v4 : Int32) (v5 : Int32) (v6 : Int32) (v7 : Int32) (v8 : Int32), ∀ (H : Heap) (locs : List Loc), OW D ad cs A s.heap z H locs → ∀ ls : Array Slot, lv_has ls 13 [(0, .ref (ad 14 100)), (1, .int v1), (2, .int v2), (3, .int v3), (4, .int v4), (5, .int v5), (6, .int v6), (7, .int v7), (8, .int v8)] → V_X12_two_121 post (V_X12_two_74 post n74x) z v1 v2 v3 v4 v5 v6 v7 v8 → W p l e (rmq 4 0 0) s m args below meth c H locs 0 0 Q (F0 m 121 ls []) := by
        intro z v1 v2 v3 v4 v5 v6 v7 v8 H locs hw ls hl h
        unfold V_X12_two_121 at h
        refine lv_aload_n hx hb dX12_two_121 rfl (lv_at hl 0 rfl) ?_
        have hq := h
        clear h
        refine xcVI (As := []) (rest := []) E hw hA (c_X12_hasLanded l D ad cs sk z _ hq) kc_12_249 yo_X12_hasLanded ⟨Nat.le_of_ble_eq_true rfl, Nat.le_of_ble_eq_true rfl⟩ (xrc E hw ky_14_100 rfl) rfl hl.1 rfl (Nat.le_of_ble_eq_true rfl) dX12_two_122 ⟨Nat.le_of_ble_eq_true rfl, Nat.le_of_ble_eq_true rfl⟩ (fun r24 z23 H locs h hw => ?_)
        refine lv_if_eq (tgt := 131) hx hb dX12_two_125 (by decide) (fun c25 => ?_) (fun c25 => ?_)
        · replace h := h.1 c25
          refine lv_aload_n hx hb dX12_two_131 rfl (lv_at hl 0 rfl) ?_
          refine xgI E hw (c1 := 12) rfl ky_14_100 fo_12_22 qf_12_206 dX12_two_132 ?_
          refine lv_topi (fun t26 et26 => ?_)
          replace h := h t26 et26
          refine lv_istore (lv' := [(9, .int t26), (0, .ref (ad 14 100)), (1, .int v1), (2, .int v2), (3, .int v3), (4, .int v4), (5, .int v5), (6, .int v6), (7, .int v7), (8, .int v8)]) hx hb dX12_two_135 hl (by decide) rfl (fun ls hl => ?_)
          refine lv_aload_n hx hb dX12_two_137 rfl (lv_at hl 1 rfl) ?_
          refine xgI E hw (c1 := 12) rfl ky_14_100 fo_12_23 qf_12_209 dX12_two_138 ?_
          refine lv_topi (fun t27 et27 => ?_)
          replace h := h t27 et27
          refine lv_istore (lv' := [(10, .int t27), (9, .int t26), (0, .ref (ad 14 100)), (1, .int v1), (2, .int v2), (3, .int v3), (4, .int v4), (5, .int v5), (6, .int v6), (7, .int v7), (8, .int v8)]) hx hb dX12_two_141 hl (by decide) rfl (fun ls hl => ?_)
          refine lv_aload_n hx hb dX12_two_143 rfl (lv_at hl 2 rfl) ?_
          refine xgI E hw (c1 := 12) rfl ky_14_100 fo_12_24 qf_12_212 dX12_two_144 ?_
          refine lv_topi (fun t28 et28 => ?_)
          replace h := h t28 et28
          refine lv_istore (lv' := [(11, .int t28), (10, .int t27), (9, .int t26), (0, .ref (ad 14 100)), (1, .int v1), (2, .int v2), (3, .int v3), (4, .int v4), (5, .int v5), (6, .int v6), (7, .int v7), (8, .int v8)]) hx hb dX12_two_147 hl (by decide) rfl (fun ls hl => ?_)
          refine lv_aload_n hx hb dX12_two_149 rfl (lv_at hl 3 rfl) ?_
          refine lv_iload_n hx hb dX12_two_150 rfl (lv_at hl 5 rfl) ?_
          refine lv_iload hx hb dX12_two_151 (lv_at hl 9 rfl) ?_
          refine lv_iload hx hb dX12_two_153 (lv_at hl 8 rfl) ?_
          refine lv_iconst (v := 1) hx hb dX12_two_155 (by decide) ?_
          have hq := h
          clear h
          refine xcVV (As := [.int v2, .int v6, .int v5, .int (1 : Int32)]) (rest := []) E hw hA (c_X12_leavesOne l D ad cs sk z23 v2 v6 v5 (1 : Int32) _ hq) kc_12_255 yo_X12_leavesOne ⟨Nat.le_of_ble_eq_true rfl, Nat.le_of_ble_eq_true rfl⟩ (xrc E hw ky_14_100 rfl) rfl hl.1 rfl (Nat.le_of_ble_eq_true rfl) dX12_two_156 ⟨Nat.le_of_ble_eq_true rfl, Nat.le_of_ble_eq_true rfl⟩ (fun z29 H locs h hw => ?_)
          refine lv_iconst (v := 0) hx hb dX12_two_159 (by decide) ?_
          refine lv_istore (lv' := [(12, .int (0 : Int32)), (11, .int t28), (10, .int t27), (9, .int t26), (0, .ref (ad 14 100)), (1, .int v1), (2, .int v2), (3, .int v3), (4, .int v4), (5, .int v5), (6, .int v6), (7, .int v7), (8, .int v8)]) hx hb dX12_two_160 hl (by decide) rfl (fun ls hl => ?_)
          obtain ⟨n51, h⟩ := h
          exact b162 n51 z29 v1 v2 v3 v4 v5 v6 v7 v8 t26 t27 t28 (0 : Int32) H locs hw ls (lv_sub hl [4, 5, 6, 7, 8, 9, 10, 11, 12, 3, 2, 1, 0] rfl) h
        · replace h := h.2 c25
          refine lv_iload hx hb dX12_two_128 (lv_at hl 7 rfl) ?_
          exact hret v7 z23 H locs 130 ls hw rfl h dX12_two_130
      have b95 : ∀ (n : Nat) (z : ZS) (v1 : Int32) (v2 : Int32) (v3 : Int32) (v4 : Int32) (v5 : Int32) (v6 : Int32) (v7 : Int32) (v8 : Int32) (v9 : Int32), ∀ (H : Heap) (locs : List Loc), OW D ad cs A s.heap z H locs → ∀ ls : Array Slot, lv_has ls 13 [(0, .ref (ad 14 100)), (1, .int v1), (2, .int v2), (3, .int v3), (4, .int v4), (5, .int v5), (6, .int v6), (7, .int v7), (8, .int v8), (9, .int v9)] → V_X12_two_95 post (V_X12_two_74 post n74x) n z v1 v2 v3 v4 v5 v6 v7 v8 v9 → W p l e (rmq 4 0 0) s m args below meth c H locs 0 0 Q (F0 m 95 ls []) := by
        intro n
        induction n with
        | zero =>
          intro z v1 v2 v3 v4 v5 v6 v7 v8 v9 H locs hw ls hl h
          exact h.elim
        | succ n95x ih95 =>
          intro z v1 v2 v3 v4 v5 v6 v7 v8 v9 H locs hw ls hl h
          unfold V_X12_two_95 at h
          refine lv_iload hx hb dX12_two_95 (lv_at hl 9 rfl) ?_
          refine lv_iload_n hx hb dX12_two_97 rfl (lv_at hl 3 rfl) ?_
          refine lv_iload hx hb dX12_two_98 (lv_at hl 8 rfl) ?_
          refine lv_iadd hx hb dX12_two_100 ?_
          refine lv_icmp_ge (tgt := 121) hx hb dX12_two_101 (by decide) (fun c22 => ?_) (fun c22 => ?_)
          · replace h := h.1 c22
            exact b121 z v1 v2 v3 v4 v5 v6 v7 v8 H locs hw ls (lv_sub hl [0, 1, 2, 3, 4, 5, 6, 7, 8] rfl) h
          · replace h := h.2 c22
            refine lv_aload_n hx hb dX12_two_104 rfl (lv_at hl 0 rfl) ?_
            have hq := h
            clear h
            refine xcVI (As := []) (rest := []) E hw hA (c_X12_hasLanded l D ad cs sk z _ hq) kc_12_249 yo_X12_hasLanded ⟨Nat.le_of_ble_eq_true rfl, Nat.le_of_ble_eq_true rfl⟩ (xrc E hw ky_14_100 rfl) rfl hl.1 rfl (Nat.le_of_ble_eq_true rfl) dX12_two_105 ⟨Nat.le_of_ble_eq_true rfl, Nat.le_of_ble_eq_true rfl⟩ (fun r53 z52 H locs h hw => ?_)
            refine lv_if_ne (tgt := 121) hx hb dX12_two_108 (by decide) (fun c54 => ?_) (fun c54 => ?_)
            · replace h := h.1 c54
              exact b121 z52 v1 v2 v3 v4 v5 v6 v7 v8 H locs hw ls (lv_sub hl [0, 1, 2, 3, 4, 5, 6, 7, 8] rfl) h
            · replace h := h.2 c54
              refine lv_aload_n hx hb dX12_two_111 rfl (lv_at hl 0 rfl) ?_
              have hq := h
              clear h
              refine xcVV (As := []) (rest := []) E hw hA (c_X12_goesSecond l D ad cs sk z52 _ hq) kc_12_252 yo_X12_goesSecond ⟨Nat.le_of_ble_eq_true rfl, Nat.le_of_ble_eq_true rfl⟩ (xrc E hw ky_14_100 rfl) rfl hl.1 rfl (Nat.le_of_ble_eq_true rfl) dX12_two_112 ⟨Nat.le_of_ble_eq_true rfl, Nat.le_of_ble_eq_true rfl⟩ (fun z55 H locs h hw => ?_)
              obtain ⟨t57, et57⟩ : ∃ y : Int32, y = v9 + (1 : Int32) := ⟨_, rfl⟩
              replace h := h t57 et57
              refine lv_iinc (v := t57) (lv' := [(9, .int t57), (0, .ref (ad 14 100)), (1, .int v1), (2, .int v2), (3, .int v3), (4, .int v4), (5, .int v5), (6, .int v6), (7, .int v7), (8, .int v8)]) hx hb dX12_two_115 hl (k := 9) rfl (by rw [et57]; rfl) (by decide) rfl (fun ls hl => ?_)
              refine lv_goto (tgt := 95) hx hb dX12_two_118 (by decide) ?_
              exact ih95 z55 v1 v2 v3 v4 v5 v6 v7 v8 t57 H locs hw ls (lv_sub hl [1, 2, 3, 4, 5, 6, 7, 8, 9, 0] rfl) h
      intro z v1 v2 v3 v4 v5 v6 v7 v8 H locs hw ls hl h
      unfold V_X12_two_74 at h
      refine lv_iload hx hb dX12_two_74 (lv_at hl 8 rfl) ?_
      refine lv_sipush (v := 400) hx hb dX12_two_76 (by decide) ?_
      refine lv_icmp_gt (tgt := 257) hx hb dX12_two_79 (by decide) (fun c19 => ?_) (fun c19 => ?_)
      · replace h := h.1 c19
        refine lv_iload hx hb dX12_two_257 (lv_at hl 7 rfl) ?_
        exact hret v7 z H locs 259 ls hw rfl h dX12_two_259
      · replace h := h.2 c19
        refine lv_aload_n hx hb dX12_two_82 rfl (lv_at hl 0 rfl) ?_
        refine lv_iload_n hx hb dX12_two_83 rfl (lv_at hl 1 rfl) ?_
        refine lv_iload hx hb dX12_two_84 (lv_at hl 4 rfl) ?_
        refine lv_iload hx hb dX12_two_86 (lv_at hl 5 rfl) ?_
        refine lv_iconst (v := 1) hx hb dX12_two_88 (by decide) ?_
        have hq := h
        clear h
        refine xcVV (As := [.int v1, .int v4, .int v5, .int (1 : Int32)]) (rest := []) E hw hA (c_X12_leavesOne l D ad cs sk z v1 v4 v5 (1 : Int32) _ hq) kc_12_255 yo_X12_leavesOne ⟨Nat.le_of_ble_eq_true rfl, Nat.le_of_ble_eq_true rfl⟩ (xrc E hw ky_14_100 rfl) rfl hl.1 rfl (Nat.le_of_ble_eq_true rfl) dX12_two_89 ⟨Nat.le_of_ble_eq_true rfl, Nat.le_of_ble_eq_true rfl⟩ (fun z20 H locs h hw => ?_)
        refine lv_iconst (v := 0) hx hb dX12_two_92 (by decide) ?_
        refine lv_istore (lv' := [(9, .int (0 : Int32)), (0, .ref (ad 14 100)), (1, .int v1), (2, .int v2), (3, .int v3), (4, .int v4), (5, .int v5), (6, .int v6), (7, .int v7), (8, .int v8)]) hx hb dX12_two_93 hl (by decide) rfl (fun ls hl => ?_)
        obtain ⟨n58, h⟩ := h
        exact b95 n58 z20 v1 v2 v3 v4 v5 v6 v7 v8 (0 : Int32) H locs hw ls (lv_sub hl [1, 2, 3, 4, 5, 6, 7, 8, 9, 0] rfl) h
  have b00 : ∀ (H : Heap) (locs : List Loc), OW D ad cs A s.heap z H locs → W p l e (rmq 4 0 0) s m args below meth c H locs 0 0 Q (F0 m 0 ls []) := by
    intro H locs hw
    refine lv_aload_n hx hb dX12_two_0 rfl (lv_at hl 0 rfl) ?_
    refine lv_iload_n hx hb dX12_two_1 rfl (lv_at hl 1 rfl) ?_
    have hq := h
    clear h
    refine xcVI (As := [.int p1]) (rest := []) E hw hA (c_X12_isFaller l D ad cs sk z p1 _ hq) kc_12_149 yo_X12_isFaller ⟨Nat.le_of_ble_eq_true rfl, Nat.le_of_ble_eq_true rfl⟩ (xrc E hw ky_14_100 rfl) rfl hl.1 rfl (Nat.le_of_ble_eq_true rfl) dX12_two_2 ⟨Nat.le_of_ble_eq_true rfl, Nat.le_of_ble_eq_true rfl⟩ (fun r2 z1 H locs h hw => ?_)
    refine lv_if_eq (tgt := 49) hx hb dX12_two_5 (by decide) (fun c3 => ?_) (fun c3 => ?_)
    · replace h := h.1 c3
      refine lv_iconst (v := -1) hx hb dX12_two_49 (by decide) ?_
      exact hret (-1 : Int32) z1 H locs 50 ls hw rfl h dX12_two_50
    · replace h := h.2 c3
      refine lv_aload_n hx hb dX12_two_8 rfl (lv_at hl 0 rfl) ?_
      refine lv_iload_n hx hb dX12_two_9 rfl (lv_at hl 2 rfl) ?_
      have hq := h
      clear h
      refine xcVI (As := [.int p2]) (rest := []) E hw hA (c_X12_isFaller l D ad cs sk z1 p2 _ hq) kc_12_149 yo_X12_isFaller ⟨Nat.le_of_ble_eq_true rfl, Nat.le_of_ble_eq_true rfl⟩ (xrc E hw ky_14_100 rfl) rfl hl.1 rfl (Nat.le_of_ble_eq_true rfl) dX12_two_10 ⟨Nat.le_of_ble_eq_true rfl, Nat.le_of_ble_eq_true rfl⟩ (fun r5 z4 H locs h hw => ?_)
      refine lv_if_eq (tgt := 49) hx hb dX12_two_13 (by decide) (fun c6 => ?_) (fun c6 => ?_)
      · replace h := h.1 c6
        refine lv_iconst (v := -1) hx hb dX12_two_49 (by decide) ?_
        exact hret (-1 : Int32) z4 H locs 50 ls hw rfl h dX12_two_50
      · replace h := h.2 c6
        refine lv_iload_n hx hb dX12_two_16 rfl (lv_at hl 1 rfl) ?_
        refine lv_iload_n hx hb dX12_two_17 rfl (lv_at hl 2 rfl) ?_
        refine lv_icmp_eq (tgt := 49) hx hb dX12_two_18 (by decide) (fun c7 => ?_) (fun c7 => ?_)
        · replace h := h.1 c7
          refine lv_iconst (v := -1) hx hb dX12_two_49 (by decide) ?_
          exact hret (-1 : Int32) z4 H locs 50 ls hw rfl h dX12_two_50
        · replace h := h.2 c7
          refine lv_iload_n hx hb dX12_two_21 rfl (lv_at hl 3 rfl) ?_
          refine lv_i2l hx hb dX12_two_22 rfl ?_
          refine lv_lconst (v := 1) hx hb dX12_two_23 (by decide) ?_
          refine lv_ldc2 (v := 20) hx hb hown (h0 _ ql_12_281) dX12_two_24 ?_
          have hq := h
          clear h
          refine xcSI (As := [.long (Int32.toInt64 p3), .long (1 : Int64), .long (20 : Int64)]) (rest := []) E hw hA (c_X12_isIn l D ad cs sk z4 (Int32.toInt64 p3) (1 : Int64) (20 : Int64) _ hq) kc_12_56 yo_X12_isIn ⟨Nat.le_of_ble_eq_true rfl, Nat.le_of_ble_eq_true rfl⟩ rfl hl.1 rfl (Nat.le_of_ble_eq_true rfl) dX12_two_27 ⟨Nat.le_of_ble_eq_true rfl, Nat.le_of_ble_eq_true rfl⟩ (fun r9 z8 H locs h hw => ?_)
          refine lv_if_eq (tgt := 49) hx hb dX12_two_30 (by decide) (fun c10 => ?_) (fun c10 => ?_)
          · replace h := h.1 c10
            refine lv_iconst (v := -1) hx hb dX12_two_49 (by decide) ?_
            exact hret (-1 : Int32) z8 H locs 50 ls hw rfl h dX12_two_50
          · replace h := h.2 c10
            refine lv_iload hx hb dX12_two_33 (lv_at hl 4 rfl) ?_
            have hq := h
            clear h
            refine xcSI (As := [.int p4]) (rest := []) E hw hA (c_X12_isEdge l D ad cs sk z8 p4 _ hq) kc_12_184 yo_X12_isEdge ⟨Nat.le_of_ble_eq_true rfl, Nat.le_of_ble_eq_true rfl⟩ rfl hl.1 rfl (Nat.le_of_ble_eq_true rfl) dX12_two_35 ⟨Nat.le_of_ble_eq_true rfl, Nat.le_of_ble_eq_true rfl⟩ (fun r12 z11 H locs h hw => ?_)
            refine lv_if_eq (tgt := 49) hx hb dX12_two_38 (by decide) (fun c13 => ?_) (fun c13 => ?_)
            · replace h := h.1 c13
              refine lv_iconst (v := -1) hx hb dX12_two_49 (by decide) ?_
              exact hret (-1 : Int32) z11 H locs 50 ls hw rfl h dX12_two_50
            · replace h := h.2 c13
              refine lv_iload hx hb dX12_two_41 (lv_at hl 5 rfl) ?_
              have hq := h
              clear h
              refine xcSI (As := [.int p5]) (rest := []) E hw hA (c_X12_isEdge l D ad cs sk z11 p5 _ hq) kc_12_184 yo_X12_isEdge ⟨Nat.le_of_ble_eq_true rfl, Nat.le_of_ble_eq_true rfl⟩ rfl hl.1 rfl (Nat.le_of_ble_eq_true rfl) dX12_two_43 ⟨Nat.le_of_ble_eq_true rfl, Nat.le_of_ble_eq_true rfl⟩ (fun r15 z14 H locs h hw => ?_)
              refine lv_if_ne (tgt := 51) hx hb dX12_two_46 (by decide) (fun c16 => ?_) (fun c16 => ?_)
              · replace h := h.1 c16
                refine lv_iload hx hb dX12_two_51 (lv_at hl 4 rfl) ?_
                refine lv_aload_n hx hb dX12_two_53 rfl (lv_at hl 0 rfl) ?_
                refine xgC E hw (c1 := 12) (t := (14, 0)) rfl ky_14_100 fo_12_0 rfl qf_12_9 dX12_two_54 ?_
                refine lv_iconst (v := 1) hx hb dX12_two_57 (by decide) ?_
                refine xalL (j := 1) E hw ky_14_0 ka_14_0 (by decide) (by decide) dX12_two_58 ?_
                refine lv_iload_n hx hb dX12_two_59 rfl (lv_at hl 3 rfl) ?_
                refine lv_imul hx hb dX12_two_60 ?_
                refine lv_iadd hx hb dX12_two_61 ?_
                have hq := h
                clear h
                refine xcSI (As := [.int (p4 + ((zR z14 14 0 1) * p3))]) (rest := []) E hw hA (c_X12_held l D ad cs sk z14 (p4 + ((zR z14 14 0 1) * p3)) _ hq) kc_12_230 yo_X12_held ⟨Nat.le_of_ble_eq_true rfl, Nat.le_of_ble_eq_true rfl⟩ rfl hl.1 rfl (Nat.le_of_ble_eq_true rfl) dX12_two_62 ⟨Nat.le_of_ble_eq_true rfl, Nat.le_of_ble_eq_true rfl⟩ (fun r18 z17 H locs h hw => ?_)
                refine lv_istore (lv' := [(6, .int r18), (0, .ref (ad 14 100)), (1, .int p1), (2, .int p2), (3, .int p3), (4, .int p4), (5, .int p5)]) hx hb dX12_two_65 hl (by decide) rfl (fun ls hl => ?_)
                refine lv_bipush (v := -4) hx hb dX12_two_67 (by decide) ?_
                refine lv_istore (lv' := [(7, .int (-4 : Int32)), (6, .int r18), (0, .ref (ad 14 100)), (1, .int p1), (2, .int p2), (3, .int p3), (4, .int p4), (5, .int p5)]) hx hb dX12_two_69 hl (by decide) rfl (fun ls hl => ?_)
                refine lv_iconst (v := 0) hx hb dX12_two_71 (by decide) ?_
                refine lv_istore (lv' := [(8, .int (0 : Int32)), (7, .int (-4 : Int32)), (6, .int r18), (0, .ref (ad 14 100)), (1, .int p1), (2, .int p2), (3, .int p3), (4, .int p4), (5, .int p5)]) hx hb dX12_two_72 hl (by decide) rfl (fun ls hl => ?_)
                obtain ⟨n59, h⟩ := h
                exact b74 n59 z17 p1 p2 p3 p4 p5 r18 (-4 : Int32) (0 : Int32) H locs hw ls (lv_sub hl [3, 4, 5, 6, 7, 8, 2, 1, 0] rfl) h
              · replace h := h.2 c16
                refine lv_iconst (v := -1) hx hb dX12_two_49 (by decide) ?_
                exact hret (-1 : Int32) z14 H locs 50 ls hw rfl h dX12_two_50
  exact b00 s.heap [] hw
def V_X12_habits_152 (post : Int32 → ZS → Prop) (rr84 : ZS → Int32 → Int32 → Int32 → Int32 → Int32 → Int32 → Int32 → Int32 → Prop) (z : ZS) (v1 : Int32) (v2 : Int32) (v3 : Int32) (v4 : Int32) (v5 : Int32) (v6 : Int32) (v9 : Int32) (s0 : Int32) (s1 : Int32) : Prop := (∀ t13 : Int32, t13 = (s0 ||| s1) → (∀ t14 : Int32, t14 = v9 + (1 : Int32) → rr84 z v1 v2 v3 v4 v5 v6 t13 t14))
def V_X12_habits_151 (post : Int32 → ZS → Prop) (rr84 : ZS → Int32 → Int32 → Int32 → Int32 → Int32 → Int32 → Int32 → Int32 → Prop) (z : ZS) (v1 : Int32) (v2 : Int32) (v3 : Int32) (v4 : Int32) (v5 : Int32) (v6 : Int32) (v9 : Int32) (s0 : Int32) : Prop := V_X12_habits_152 post rr84 z v1 v2 v3 v4 v5 v6 v9 s0 (0 : Int32)
def V_X12_habits_84 (post : Int32 → ZS → Prop) : Nat → ZS → Int32 → Int32 → Int32 → Int32 → Int32 → Int32 → Int32 → Int32 → Prop
  | 0, _, _, _, _, _, _, _, _, _ => False
  | (n + 1), z, v1, v2, v3, v4, v5, v6, v8, v9 => (((8 : Int32) ≤ v9 → post v8 z) ∧ (¬ (8 : Int32) ≤ v9 → V_X12_leaves z v9 (v1 / (100 : Int32)) (v1 - v1 / (100 : Int32) * (100 : Int32)) v2 v3 (1 : Int32) (fun z6 => V_X12_lands z6 (fun z8 => V_X12_amount z8 ((zI z8 14 22) - v4) (fun r11 z10 => ((v6 < r11 → V_X12_habits_151 post (V_X12_habits_84 post n) z10 v1 v2 v3 v4 v5 v6 v9 v8) ∧ (¬ v6 < r11 → V_X12_amount z10 ((zI z10 14 23) - v5) (fun r16 z15 => ((v6 < r16 → V_X12_habits_151 post (V_X12_habits_84 post n) z15 v1 v2 v3 v4 v5 v6 v9 v8) ∧ (¬ v6 < r16 → V_X12_habits_152 post (V_X12_habits_84 post n) z15 v1 v2 v3 v4 v5 v6 v9 v8 ((1 : Int32) <<< (v9 &&& 31))))))))))))
def V_X12_habits_69 (post : Int32 → ZS → Prop) (z : ZS) (v1 : Int32) (v2 : Int32) (v3 : Int32) (v4 : Int32) (v5 : Int32) (v6 : Int32) (s0 : Int32) : Prop := ((¬ s0 = 0 → (∃ n18 : Nat, V_X12_habits_84 post n18 z v1 v2 v3 v4 v5 v6 (0 : Int32) (0 : Int32))) ∧ (s0 = 0 → post (-1 : Int32) z))
def V_X12_habits_68 (post : Int32 → ZS → Prop) (z : ZS) (v1 : Int32) (v2 : Int32) (v3 : Int32) (v4 : Int32) (v5 : Int32) (v6 : Int32) : Prop := V_X12_habits_69 post z v1 v2 v3 v4 v5 v6 (0 : Int32)
def V_X12_habits (z : ZS) (p1 : Int32) (p2 : Int32) (p3 : Int32) (p4 : Int32) (p5 : Int32) (p6 : Int32) (post : Int32 → ZS → Prop) : Prop := V_X12_isIn z (Int32.toInt64 p1) (0 : Int64) (999 : Int64) (fun r2 z1 => ((r2 = 0 → V_X12_habits_68 post z1 p1 p2 p3 p4 p5 p6) ∧ (¬ r2 = 0 → (((20 : Int32) < (p1 - p1 / (100 : Int32) * (100 : Int32)) → V_X12_habits_68 post z1 p1 p2 p3 p4 p5 p6) ∧ (¬ (20 : Int32) < (p1 - p1 / (100 : Int32) * (100 : Int32)) → V_X12_isEdge z1 p2 (fun r21 z20 => ((r21 = 0 → V_X12_habits_68 post z20 p1 p2 p3 p4 p5 p6) ∧ (¬ r21 = 0 → V_X12_isEdge z20 p3 (fun r24 z23 => ((r24 = 0 → V_X12_habits_68 post z23 p1 p2 p3 p4 p5 p6) ∧ (¬ r24 = 0 → V_X12_isEdge z23 p4 (fun r27 z26 => ((r27 = 0 → V_X12_habits_68 post z26 p1 p2 p3 p4 p5 p6) ∧ (¬ r27 = 0 → V_X12_isEdge z26 p5 (fun r30 z29 => ((r30 = 0 → V_X12_habits_68 post z29 p1 p2 p3 p4 p5 p6) ∧ (¬ r30 = 0 → V_X12_isIn z29 (Int32.toInt64 p6) (0 : Int64) (9999 : Int64) (fun r33 z32 => ((r33 = 0 → V_X12_habits_68 post z32 p1 p2 p3 p4 p5 p6) ∧ (¬ r33 = 0 → V_X12_habits_69 post z32 p1 p2 p3 p4 p5 p6 (1 : Int32)))))))))))))))))))))
set_option maxHeartbeats 4000000 in
set_option maxRecDepth 100000 in
theorem c_X12_habits (l : Launch) (D : va_G) (ad : Nat → Nat → Nat) (cs : Nat → ClassId) (sk : (Nat → Nat) × (Nat → Nat)) (z : ZS) (p1 : Int32) (p2 : Int32) (p3 : Int32) (p4 : Int32) (p5 : Int32) (p6 : Int32) (post : Int32 → ZS → Prop) (h : V_X12_habits z p1 p2 p3 p4 p5 p6 post) : MI l D ad cs sk yX12_habits cX12_habits 10 .int (rmq 5 0 0) [.ref (ad 14 100), .int p1, .int p2, .int p3, .int p4, .int p5, .int p6] z post := by
  refine MI.of RX12 rfl (by decide) (Nat.le_of_ble_eq_true rfl) ?_
  intro p e s m args below meth c A Q E hw hA hret ls hl
  have hx := E.1.1
  have hb := E.1.2.1
  have hml := E.1.2.2.1
  have hown := E.1.2.2.2.1
  have h0 := E.1.2.2.2.2
  have hl : lv_has ls 10 [(0, .ref (ad 14 100)), (1, .int p1), (2, .int p2), (3, .int p3), (4, .int p4), (5, .int p5), (6, .int p6)] := hl
  unfold V_X12_habits at h
  have b84 : ∀ (n : Nat) (z : ZS) (v1 : Int32) (v2 : Int32) (v3 : Int32) (v4 : Int32) (v5 : Int32) (v6 : Int32) (v8 : Int32) (v9 : Int32), ∀ (H : Heap) (locs : List Loc), OW D ad cs A s.heap z H locs → ∀ ls : Array Slot, lv_has ls 10 [(0, .ref (ad 14 100)), (1, .int v1), (2, .int v2), (3, .int v3), (4, .int v4), (5, .int v5), (6, .int v6), (8, .int v8), (9, .int v9)] → V_X12_habits_84 post n z v1 v2 v3 v4 v5 v6 v8 v9 → W p l e (rmq 5 0 0) s m args below meth c H locs 0 0 Q (F0 m 84 ls []) := by
    intro n
    induction n with
    | zero =>
      intro z v1 v2 v3 v4 v5 v6 v8 v9 H locs hw ls hl h
      exact h.elim
    | succ n84x ih84 =>
      have b152 : ∀ (z : ZS) (v1 : Int32) (v2 : Int32) (v3 : Int32) (v4 : Int32) (v5 : Int32) (v6 : Int32) (v9 : Int32) (s0 : Int32) (s1 : Int32), ∀ (H : Heap) (locs : List Loc), OW D ad cs A s.heap z H locs → ∀ ls : Array Slot, lv_has ls 10 [(0, .ref (ad 14 100)), (1, .int v1), (2, .int v2), (3, .int v3), (4, .int v4), (5, .int v5), (6, .int v6), (9, .int v9)] → V_X12_habits_152 post (V_X12_habits_84 post n84x) z v1 v2 v3 v4 v5 v6 v9 s0 s1 → W p l e (rmq 5 0 0) s m args below meth c H locs 0 0 Q (F0 m 152 ls [.int s1, .int s0]) := by
        intro z v1 v2 v3 v4 v5 v6 v9 s0 s1 H locs hw ls hl h
        unfold V_X12_habits_152 at h
        refine lv_ior hx hb dX12_habits_152 ?_
        refine lv_topi (fun t13 et13 => ?_)
        replace h := h t13 et13
        refine lv_istore (lv' := [(8, .int t13), (0, .ref (ad 14 100)), (1, .int v1), (2, .int v2), (3, .int v3), (4, .int v4), (5, .int v5), (6, .int v6), (9, .int v9)]) hx hb dX12_habits_153 hl (by decide) rfl (fun ls hl => ?_)
        obtain ⟨t14, et14⟩ : ∃ y : Int32, y = v9 + (1 : Int32) := ⟨_, rfl⟩
        replace h := h t14 et14
        refine lv_iinc (v := t14) (lv' := [(9, .int t14), (8, .int t13), (0, .ref (ad 14 100)), (1, .int v1), (2, .int v2), (3, .int v3), (4, .int v4), (5, .int v5), (6, .int v6)]) hx hb dX12_habits_155 hl (k := 8) rfl (by rw [et14]; rfl) (by decide) rfl (fun ls hl => ?_)
        refine lv_goto (tgt := 84) hx hb dX12_habits_158 (by decide) ?_
        exact ih84 z v1 v2 v3 v4 v5 v6 t13 t14 H locs hw ls (lv_sub hl [2, 3, 4, 5, 6, 7, 8, 1, 0] rfl) h
      have b151 : ∀ (z : ZS) (v1 : Int32) (v2 : Int32) (v3 : Int32) (v4 : Int32) (v5 : Int32) (v6 : Int32) (v9 : Int32) (s0 : Int32), ∀ (H : Heap) (locs : List Loc), OW D ad cs A s.heap z H locs → ∀ ls : Array Slot, lv_has ls 10 [(0, .ref (ad 14 100)), (1, .int v1), (2, .int v2), (3, .int v3), (4, .int v4), (5, .int v5), (6, .int v6), (9, .int v9)] → V_X12_habits_151 post (V_X12_habits_84 post n84x) z v1 v2 v3 v4 v5 v6 v9 s0 → W p l e (rmq 5 0 0) s m args below meth c H locs 0 0 Q (F0 m 151 ls [.int s0]) := by
        intro z v1 v2 v3 v4 v5 v6 v9 s0 H locs hw ls hl h
        unfold V_X12_habits_151 at h
        refine lv_iconst (v := 0) hx hb dX12_habits_151 (by decide) ?_
        exact b152 z v1 v2 v3 v4 v5 v6 v9 s0 (0 : Int32) H locs hw ls (lv_sub hl [0, 1, 2, 3, 4, 5, 6, 7] rfl) h
      intro z v1 v2 v3 v4 v5 v6 v8 v9 H locs hw ls hl h
      unfold V_X12_habits_84 at h
      refine lv_iload hx hb dX12_habits_84 (lv_at hl 8 rfl) ?_
      refine lv_bipush (v := 8) hx hb dX12_habits_86 (by decide) ?_
      refine lv_icmp_ge (tgt := 161) hx hb dX12_habits_88 (by decide) (fun c5 => ?_) (fun c5 => ?_)
      · replace h := h.1 c5
        refine lv_iload hx hb dX12_habits_161 (lv_at hl 7 rfl) ?_
        exact hret v8 z H locs 163 ls hw rfl h dX12_habits_163
      · replace h := h.2 c5
        refine lv_aload_n hx hb dX12_habits_91 rfl (lv_at hl 0 rfl) ?_
        refine lv_iload hx hb dX12_habits_92 (lv_at hl 8 rfl) ?_
        refine lv_iload_n hx hb dX12_habits_94 rfl (lv_at hl 1 rfl) ?_
        refine lv_bipush (v := 100) hx hb dX12_habits_95 (by decide) ?_
        refine lv_idiv hx hb dX12_habits_97 (by decide) ?_
        refine lv_iload_n hx hb dX12_habits_98 rfl (lv_at hl 1 rfl) ?_
        refine lv_bipush (v := 100) hx hb dX12_habits_99 (by decide) ?_
        refine lv_irem hx hb dX12_habits_101 (by decide) ?_
        refine lv_iload_n hx hb dX12_habits_102 rfl (lv_at hl 2 rfl) ?_
        refine lv_iload_n hx hb dX12_habits_103 rfl (lv_at hl 3 rfl) ?_
        refine lv_iconst (v := 1) hx hb dX12_habits_104 (by decide) ?_
        have hq := h
        clear h
        refine xcVV (As := [.int v9, .int (v1 / (100 : Int32)), .int (v1 - v1 / (100 : Int32) * (100 : Int32)), .int v2, .int v3, .int (1 : Int32)]) (rest := []) E hw hA (c_X12_leaves l D ad cs sk z v9 (v1 / (100 : Int32)) (v1 - v1 / (100 : Int32) * (100 : Int32)) v2 v3 (1 : Int32) _ hq) kc_12_224 yo_X12_leaves ⟨Nat.le_of_ble_eq_true rfl, Nat.le_of_ble_eq_true rfl⟩ (xrc E hw ky_14_100 rfl) rfl hl.1 rfl (Nat.le_of_ble_eq_true rfl) dX12_habits_105 ⟨Nat.le_of_ble_eq_true rfl, Nat.le_of_ble_eq_true rfl⟩ (fun z6 H locs h hw => ?_)
        refine lv_aload_n hx hb dX12_habits_108 rfl (lv_at hl 0 rfl) ?_
        have hq := h
        clear h
        refine xcVV (As := []) (rest := []) E hw hA (c_X12_lands l D ad cs sk z6 _ hq) kc_12_259 yo_X12_lands ⟨Nat.le_of_ble_eq_true rfl, Nat.le_of_ble_eq_true rfl⟩ (xrc E hw ky_14_100 rfl) rfl hl.1 rfl (Nat.le_of_ble_eq_true rfl) dX12_habits_109 ⟨Nat.le_of_ble_eq_true rfl, Nat.le_of_ble_eq_true rfl⟩ (fun z8 H locs h hw => ?_)
        refine lv_iload hx hb dX12_habits_112 (lv_at hl 7 rfl) ?_
        refine lv_aload_n hx hb dX12_habits_114 rfl (lv_at hl 0 rfl) ?_
        refine xgI E hw (c1 := 12) rfl ky_14_100 fo_12_22 qf_12_206 dX12_habits_115 ?_
        refine lv_iload hx hb dX12_habits_118 (lv_at hl 4 rfl) ?_
        refine lv_isub hx hb dX12_habits_120 ?_
        have hq := h
        clear h
        refine xcSI (As := [.int ((zI z8 14 22) - v4)]) (rest := [.int v8]) E hw hA (c_X12_amount l D ad cs sk z8 ((zI z8 14 22) - v4) _ hq) kc_12_171 yo_X12_amount ⟨Nat.le_of_ble_eq_true rfl, Nat.le_of_ble_eq_true rfl⟩ rfl hl.1 rfl (Nat.le_of_ble_eq_true rfl) dX12_habits_121 ⟨Nat.le_of_ble_eq_true rfl, Nat.le_of_ble_eq_true rfl⟩ (fun r11 z10 H locs h hw => ?_)
        refine lv_iload hx hb dX12_habits_124 (lv_at hl 6 rfl) ?_
        refine lv_icmp_gt (tgt := 151) hx hb dX12_habits_126 (by decide) (fun c12 => ?_) (fun c12 => ?_)
        · replace h := h.1 c12
          exact b151 z10 v1 v2 v3 v4 v5 v6 v9 v8 H locs hw ls (lv_sub hl [0, 1, 2, 3, 4, 5, 6, 8] rfl) h
        · replace h := h.2 c12
          refine lv_aload_n hx hb dX12_habits_129 rfl (lv_at hl 0 rfl) ?_
          refine xgI E hw (c1 := 12) rfl ky_14_100 fo_12_23 qf_12_209 dX12_habits_130 ?_
          refine lv_iload hx hb dX12_habits_133 (lv_at hl 5 rfl) ?_
          refine lv_isub hx hb dX12_habits_135 ?_
          have hq := h
          clear h
          refine xcSI (As := [.int ((zI z10 14 23) - v5)]) (rest := [.int v8]) E hw hA (c_X12_amount l D ad cs sk z10 ((zI z10 14 23) - v5) _ hq) kc_12_171 yo_X12_amount ⟨Nat.le_of_ble_eq_true rfl, Nat.le_of_ble_eq_true rfl⟩ rfl hl.1 rfl (Nat.le_of_ble_eq_true rfl) dX12_habits_136 ⟨Nat.le_of_ble_eq_true rfl, Nat.le_of_ble_eq_true rfl⟩ (fun r16 z15 H locs h hw => ?_)
          refine lv_iload hx hb dX12_habits_139 (lv_at hl 6 rfl) ?_
          refine lv_icmp_gt (tgt := 151) hx hb dX12_habits_141 (by decide) (fun c17 => ?_) (fun c17 => ?_)
          · replace h := h.1 c17
            exact b151 z15 v1 v2 v3 v4 v5 v6 v9 v8 H locs hw ls (lv_sub hl [0, 1, 2, 3, 4, 5, 6, 8] rfl) h
          · replace h := h.2 c17
            refine lv_iconst (v := 1) hx hb dX12_habits_144 (by decide) ?_
            refine lv_iload hx hb dX12_habits_145 (lv_at hl 8 rfl) ?_
            refine lv_ishl hx hb dX12_habits_147 ?_
            refine lv_goto (tgt := 152) hx hb dX12_habits_148 (by decide) ?_
            exact b152 z15 v1 v2 v3 v4 v5 v6 v9 v8 ((1 : Int32) <<< (v9 &&& 31)) H locs hw ls (lv_sub hl [0, 1, 2, 3, 4, 5, 6, 8] rfl) h
  have b69 : ∀ (z : ZS) (v1 : Int32) (v2 : Int32) (v3 : Int32) (v4 : Int32) (v5 : Int32) (v6 : Int32) (s0 : Int32), ∀ (H : Heap) (locs : List Loc), OW D ad cs A s.heap z H locs → ∀ ls : Array Slot, lv_has ls 10 [(0, .ref (ad 14 100)), (1, .int v1), (2, .int v2), (3, .int v3), (4, .int v4), (5, .int v5), (6, .int v6)] → V_X12_habits_69 post z v1 v2 v3 v4 v5 v6 s0 → W p l e (rmq 5 0 0) s m args below meth c H locs 0 0 Q (F0 m 69 ls [.int s0]) := by
    intro z v1 v2 v3 v4 v5 v6 s0 H locs hw ls hl h
    unfold V_X12_habits_69 at h
    refine lv_istore (lv' := [(7, .int s0), (0, .ref (ad 14 100)), (1, .int v1), (2, .int v2), (3, .int v3), (4, .int v4), (5, .int v5), (6, .int v6)]) hx hb dX12_habits_69 hl (by decide) rfl (fun ls hl => ?_)
    refine lv_iload hx hb dX12_habits_71 (lv_at hl 0 rfl) ?_
    refine lv_if_ne (tgt := 78) hx hb dX12_habits_73 (by decide) (fun c4 => ?_) (fun c4 => ?_)
    · replace h := h.1 c4
      refine lv_iconst (v := 0) hx hb dX12_habits_78 (by decide) ?_
      refine lv_istore (lv' := [(8, .int (0 : Int32)), (7, .int s0), (0, .ref (ad 14 100)), (1, .int v1), (2, .int v2), (3, .int v3), (4, .int v4), (5, .int v5), (6, .int v6)]) hx hb dX12_habits_79 hl (by decide) rfl (fun ls hl => ?_)
      refine lv_iconst (v := 0) hx hb dX12_habits_81 (by decide) ?_
      refine lv_istore (lv' := [(9, .int (0 : Int32)), (8, .int (0 : Int32)), (7, .int s0), (0, .ref (ad 14 100)), (1, .int v1), (2, .int v2), (3, .int v3), (4, .int v4), (5, .int v5), (6, .int v6)]) hx hb dX12_habits_82 hl (by decide) rfl (fun ls hl => ?_)
      obtain ⟨n18, h⟩ := h
      exact b84 n18 z v1 v2 v3 v4 v5 v6 (0 : Int32) (0 : Int32) H locs hw ls (lv_sub hl [3, 4, 5, 6, 7, 8, 9, 1, 0] rfl) h
    · replace h := h.2 c4
      refine lv_iconst (v := -1) hx hb dX12_habits_76 (by decide) ?_
      exact hret (-1 : Int32) z H locs 77 ls hw rfl h dX12_habits_77
  have b68 : ∀ (z : ZS) (v1 : Int32) (v2 : Int32) (v3 : Int32) (v4 : Int32) (v5 : Int32) (v6 : Int32), ∀ (H : Heap) (locs : List Loc), OW D ad cs A s.heap z H locs → ∀ ls : Array Slot, lv_has ls 10 [(0, .ref (ad 14 100)), (1, .int v1), (2, .int v2), (3, .int v3), (4, .int v4), (5, .int v5), (6, .int v6)] → V_X12_habits_68 post z v1 v2 v3 v4 v5 v6 → W p l e (rmq 5 0 0) s m args below meth c H locs 0 0 Q (F0 m 68 ls []) := by
    intro z v1 v2 v3 v4 v5 v6 H locs hw ls hl h
    unfold V_X12_habits_68 at h
    refine lv_iconst (v := 0) hx hb dX12_habits_68 (by decide) ?_
    exact b69 z v1 v2 v3 v4 v5 v6 (0 : Int32) H locs hw ls (lv_sub hl [0, 1, 2, 3, 4, 5, 6] rfl) h
  have b00 : ∀ (H : Heap) (locs : List Loc), OW D ad cs A s.heap z H locs → W p l e (rmq 5 0 0) s m args below meth c H locs 0 0 Q (F0 m 0 ls []) := by
    intro H locs hw
    refine lv_iload_n hx hb dX12_habits_0 rfl (lv_at hl 1 rfl) ?_
    refine lv_i2l hx hb dX12_habits_1 rfl ?_
    refine lv_lconst (v := 0) hx hb dX12_habits_2 (by decide) ?_
    refine lv_ldc2 (v := 999) hx hb hown (h0 _ ql_12_310) dX12_habits_3 ?_
    have hq := h
    clear h
    refine xcSI (As := [.long (Int32.toInt64 p1), .long (0 : Int64), .long (999 : Int64)]) (rest := []) E hw hA (c_X12_isIn l D ad cs sk z (Int32.toInt64 p1) (0 : Int64) (999 : Int64) _ hq) kc_12_56 yo_X12_isIn ⟨Nat.le_of_ble_eq_true rfl, Nat.le_of_ble_eq_true rfl⟩ rfl hl.1 rfl (Nat.le_of_ble_eq_true rfl) dX12_habits_6 ⟨Nat.le_of_ble_eq_true rfl, Nat.le_of_ble_eq_true rfl⟩ (fun r2 z1 H locs h hw => ?_)
    refine lv_if_eq (tgt := 68) hx hb dX12_habits_9 (by decide) (fun c3 => ?_) (fun c3 => ?_)
    · replace h := h.1 c3
      exact b68 z1 p1 p2 p3 p4 p5 p6 H locs hw ls (lv_sub hl [0, 1, 2, 3, 4, 5, 6] rfl) h
    · replace h := h.2 c3
      refine lv_iload_n hx hb dX12_habits_12 rfl (lv_at hl 1 rfl) ?_
      refine lv_bipush (v := 100) hx hb dX12_habits_13 (by decide) ?_
      refine lv_irem hx hb dX12_habits_15 (by decide) ?_
      refine lv_bipush (v := 20) hx hb dX12_habits_16 (by decide) ?_
      refine lv_icmp_gt (tgt := 68) hx hb dX12_habits_18 (by decide) (fun c19 => ?_) (fun c19 => ?_)
      · replace h := h.1 c19
        exact b68 z1 p1 p2 p3 p4 p5 p6 H locs hw ls (lv_sub hl [0, 1, 2, 3, 4, 5, 6] rfl) h
      · replace h := h.2 c19
        refine lv_iload_n hx hb dX12_habits_21 rfl (lv_at hl 2 rfl) ?_
        have hq := h
        clear h
        refine xcSI (As := [.int p2]) (rest := []) E hw hA (c_X12_isEdge l D ad cs sk z1 p2 _ hq) kc_12_184 yo_X12_isEdge ⟨Nat.le_of_ble_eq_true rfl, Nat.le_of_ble_eq_true rfl⟩ rfl hl.1 rfl (Nat.le_of_ble_eq_true rfl) dX12_habits_22 ⟨Nat.le_of_ble_eq_true rfl, Nat.le_of_ble_eq_true rfl⟩ (fun r21 z20 H locs h hw => ?_)
        refine lv_if_eq (tgt := 68) hx hb dX12_habits_25 (by decide) (fun c22 => ?_) (fun c22 => ?_)
        · replace h := h.1 c22
          exact b68 z20 p1 p2 p3 p4 p5 p6 H locs hw ls (lv_sub hl [0, 1, 2, 3, 4, 5, 6] rfl) h
        · replace h := h.2 c22
          refine lv_iload_n hx hb dX12_habits_28 rfl (lv_at hl 3 rfl) ?_
          have hq := h
          clear h
          refine xcSI (As := [.int p3]) (rest := []) E hw hA (c_X12_isEdge l D ad cs sk z20 p3 _ hq) kc_12_184 yo_X12_isEdge ⟨Nat.le_of_ble_eq_true rfl, Nat.le_of_ble_eq_true rfl⟩ rfl hl.1 rfl (Nat.le_of_ble_eq_true rfl) dX12_habits_29 ⟨Nat.le_of_ble_eq_true rfl, Nat.le_of_ble_eq_true rfl⟩ (fun r24 z23 H locs h hw => ?_)
          refine lv_if_eq (tgt := 68) hx hb dX12_habits_32 (by decide) (fun c25 => ?_) (fun c25 => ?_)
          · replace h := h.1 c25
            exact b68 z23 p1 p2 p3 p4 p5 p6 H locs hw ls (lv_sub hl [0, 1, 2, 3, 4, 5, 6] rfl) h
          · replace h := h.2 c25
            refine lv_iload hx hb dX12_habits_35 (lv_at hl 4 rfl) ?_
            have hq := h
            clear h
            refine xcSI (As := [.int p4]) (rest := []) E hw hA (c_X12_isEdge l D ad cs sk z23 p4 _ hq) kc_12_184 yo_X12_isEdge ⟨Nat.le_of_ble_eq_true rfl, Nat.le_of_ble_eq_true rfl⟩ rfl hl.1 rfl (Nat.le_of_ble_eq_true rfl) dX12_habits_37 ⟨Nat.le_of_ble_eq_true rfl, Nat.le_of_ble_eq_true rfl⟩ (fun r27 z26 H locs h hw => ?_)
            refine lv_if_eq (tgt := 68) hx hb dX12_habits_40 (by decide) (fun c28 => ?_) (fun c28 => ?_)
            · replace h := h.1 c28
              exact b68 z26 p1 p2 p3 p4 p5 p6 H locs hw ls (lv_sub hl [0, 1, 2, 3, 4, 5, 6] rfl) h
            · replace h := h.2 c28
              refine lv_iload hx hb dX12_habits_43 (lv_at hl 5 rfl) ?_
              have hq := h
              clear h
              refine xcSI (As := [.int p5]) (rest := []) E hw hA (c_X12_isEdge l D ad cs sk z26 p5 _ hq) kc_12_184 yo_X12_isEdge ⟨Nat.le_of_ble_eq_true rfl, Nat.le_of_ble_eq_true rfl⟩ rfl hl.1 rfl (Nat.le_of_ble_eq_true rfl) dX12_habits_45 ⟨Nat.le_of_ble_eq_true rfl, Nat.le_of_ble_eq_true rfl⟩ (fun r30 z29 H locs h hw => ?_)
              refine lv_if_eq (tgt := 68) hx hb dX12_habits_48 (by decide) (fun c31 => ?_) (fun c31 => ?_)
              · replace h := h.1 c31
                exact b68 z29 p1 p2 p3 p4 p5 p6 H locs hw ls (lv_sub hl [0, 1, 2, 3, 4, 5, 6] rfl) h
              · replace h := h.2 c31
                refine lv_iload hx hb dX12_habits_51 (lv_at hl 6 rfl) ?_
                refine lv_i2l hx hb dX12_habits_53 rfl ?_
                refine lv_lconst (v := 0) hx hb dX12_habits_54 (by decide) ?_
                refine lv_ldc2 (v := 9999) hx hb hown (h0 _ ql_12_312) dX12_habits_55 ?_
                have hq := h
                clear h
                refine xcSI (As := [.long (Int32.toInt64 p6), .long (0 : Int64), .long (9999 : Int64)]) (rest := []) E hw hA (c_X12_isIn l D ad cs sk z29 (Int32.toInt64 p6) (0 : Int64) (9999 : Int64) _ hq) kc_12_56 yo_X12_isIn ⟨Nat.le_of_ble_eq_true rfl, Nat.le_of_ble_eq_true rfl⟩ rfl hl.1 rfl (Nat.le_of_ble_eq_true rfl) dX12_habits_58 ⟨Nat.le_of_ble_eq_true rfl, Nat.le_of_ble_eq_true rfl⟩ (fun r33 z32 H locs h hw => ?_)
                refine lv_if_eq (tgt := 68) hx hb dX12_habits_61 (by decide) (fun c34 => ?_) (fun c34 => ?_)
                · replace h := h.1 c34
                  exact b68 z32 p1 p2 p3 p4 p5 p6 H locs hw ls (lv_sub hl [0, 1, 2, 3, 4, 5, 6] rfl) h
                · replace h := h.2 c34
                  refine lv_iconst (v := 1) hx hb dX12_habits_64 (by decide) ?_
                  refine lv_goto (tgt := 69) hx hb dX12_habits_65 (by decide) ?_
                  exact b69 z32 p1 p2 p3 p4 p5 p6 (1 : Int32) H locs hw ls (lv_sub hl [0, 1, 2, 3, 4, 5, 6] rfl) h
  exact b00 s.heap [] hw
def V_X12_crates_137 (post : Int32 → ZS → Prop) (rr34 : ZS → Int32 → Int32 → Int32 → Int32 → Int32 → Int32 → Prop) (rr83 : ZS → Int32 → Int32 → Int32 → Int32 → Int32 → Int32 → Int32 → Prop) (z : ZS) (v1 : Int32) (v2 : Int32) (v3 : Int32) (v4 : Int32) (v6 : Int32) (v7 : Int32) (s0 : Int32) : Prop := (∀ t25 : Int32, t25 = v7 + (1 : Int32) → rr83 z v1 v2 v3 v4 s0 v6 t25)
def V_X12_crates_83 (post : Int32 → ZS → Prop) (rr34 : ZS → Int32 → Int32 → Int32 → Int32 → Int32 → Int32 → Prop) : Nat → ZS → Int32 → Int32 → Int32 → Int32 → Int32 → Int32 → Int32 → Prop
  | 0, _, _, _, _, _, _, _, _ => False
  | (n + 1), z, v1, v2, v3, v4, v5, v6, v7 => ((v6 ≤ v7 → (∀ t18 : Int32, t18 = v6 + (1 : Int32) → rr34 z v1 v2 v3 v4 v5 t18)) ∧ (¬ v6 ≤ v7 → (vp_in v7 5 ∧ V_X12_amount z ((zR z 14 34 (Int32.toNatClampNeg v7)) - (zI z 14 22)) (fun r20 z19 => (vp_in v7 5 ∧ V_X12_amount z19 ((zR z19 14 35 (Int32.toNatClampNeg v7)) - (zI z19 14 23)) (fun r22 z21 => (∀ t23 : Int32, t23 = (r20 + r22) → ((t23 ≤ v5 → V_X12_crates_137 post rr34 (V_X12_crates_83 post rr34 n) z21 v1 v2 v3 v4 v6 v7 v5) ∧ (¬ t23 ≤ v5 → V_X12_crates_137 post rr34 (V_X12_crates_83 post rr34 n) z21 v1 v2 v3 v4 v6 v7 t23)))))))))
def V_X12_crates_34 (post : Int32 → ZS → Prop) : Nat → ZS → Int32 → Int32 → Int32 → Int32 → Int32 → Int32 → Prop
  | 0, _, _, _, _, _, _, _ => False
  | (n + 1), z, v1, v2, v3, v4, v5, v6 => ((v1 ≤ v6 → post v5 z) ∧ (¬ v1 ≤ v6 → V_X12_leaves z (1 : Int32) (0 : Int32) (0 : Int32) v2 v3 (v4 + v6) (fun z11 => V_X12_lands z11 (fun z13 => (vp_in v6 5 ∧ ∀ z15 : ZS, z15 = wR z13 14 34 (Int32.toNatClampNeg v6) (zI z13 14 22) → (vp_in v6 5 ∧ ∀ z16 : ZS, z16 = wR z15 14 35 (Int32.toNatClampNeg v6) (zI z15 14 23) → (∃ n26 : Nat, V_X12_crates_83 post (V_X12_crates_34 post n) n26 z16 v1 v2 v3 v4 v5 v6 (0 : Int32))))))))
def V_X12_crates (z : ZS) (p1 : Int32) (p2 : Int32) (p3 : Int32) (p4 : Int32) (post : Int32 → ZS → Prop) : Prop := V_X12_isIn z (Int32.toInt64 p1) (1 : Int64) (5 : Int64) (fun r2 z1 => ((r2 = 0 → post (-1 : Int32) z1) ∧ (¬ r2 = 0 → V_X12_isEdge z1 p2 (fun r5 z4 => ((r5 = 0 → post (-1 : Int32) z4) ∧ (¬ r5 = 0 → V_X12_isEdge z4 p3 (fun r8 z7 => ((¬ r8 = 0 → (∃ n27 : Nat, V_X12_crates_34 post n27 z7 p1 p2 p3 p4 (0 : Int32) (0 : Int32))) ∧ (r8 = 0 → post (-1 : Int32) z7)))))))))
set_option maxHeartbeats 4000000 in
set_option maxRecDepth 100000 in
theorem c_X12_crates (l : Launch) (D : va_G) (ad : Nat → Nat → Nat) (cs : Nat → ClassId) (sk : (Nat → Nat) × (Nat → Nat)) (z : ZS) (p1 : Int32) (p2 : Int32) (p3 : Int32) (p4 : Int32) (post : Int32 → ZS → Prop) (h : V_X12_crates z p1 p2 p3 p4 post) : MI l D ad cs sk yX12_crates cX12_crates 9 .int (rmq 5 0 0) [.ref (ad 14 100), .int p1, .int p2, .int p3, .int p4] z post := by
  refine MI.of RX12 rfl (by decide) (Nat.le_of_ble_eq_true rfl) ?_
  intro p e s m args below meth c A Q E hw hA hret ls hl
  have hx := E.1.1
  have hb := E.1.2.1
  have hml := E.1.2.2.1
  have hown := E.1.2.2.2.1
  have h0 := E.1.2.2.2.2
  have hl : lv_has ls 9 [(0, .ref (ad 14 100)), (1, .int p1), (2, .int p2), (3, .int p3), (4, .int p4)] := hl
  unfold V_X12_crates at h
  have b34 : ∀ (n : Nat) (z : ZS) (v1 : Int32) (v2 : Int32) (v3 : Int32) (v4 : Int32) (v5 : Int32) (v6 : Int32), ∀ (H : Heap) (locs : List Loc), OW D ad cs A s.heap z H locs → ∀ ls : Array Slot, lv_has ls 9 [(0, .ref (ad 14 100)), (1, .int v1), (2, .int v2), (3, .int v3), (4, .int v4), (5, .int v5), (6, .int v6)] → V_X12_crates_34 post n z v1 v2 v3 v4 v5 v6 → W p l e (rmq 5 0 0) s m args below meth c H locs 0 0 Q (F0 m 34 ls []) := by
    intro n
    induction n with
    | zero =>
      intro z v1 v2 v3 v4 v5 v6 H locs hw ls hl h
      exact h.elim
    | succ n34x ih34 =>
      have b83 : ∀ (n : Nat) (z : ZS) (v1 : Int32) (v2 : Int32) (v3 : Int32) (v4 : Int32) (v5 : Int32) (v6 : Int32) (v7 : Int32), ∀ (H : Heap) (locs : List Loc), OW D ad cs A s.heap z H locs → ∀ ls : Array Slot, lv_has ls 9 [(0, .ref (ad 14 100)), (1, .int v1), (2, .int v2), (3, .int v3), (4, .int v4), (5, .int v5), (6, .int v6), (7, .int v7)] → V_X12_crates_83 post (V_X12_crates_34 post n34x) n z v1 v2 v3 v4 v5 v6 v7 → W p l e (rmq 5 0 0) s m args below meth c H locs 0 0 Q (F0 m 83 ls []) := by
        intro n
        induction n with
        | zero =>
          intro z v1 v2 v3 v4 v5 v6 v7 H locs hw ls hl h
          exact h.elim
        | succ n83x ih83 =>
          have b137 : ∀ (z : ZS) (v1 : Int32) (v2 : Int32) (v3 : Int32) (v4 : Int32) (v6 : Int32) (v7 : Int32) (s0 : Int32), ∀ (H : Heap) (locs : List Loc), OW D ad cs A s.heap z H locs → ∀ ls : Array Slot, lv_has ls 9 [(0, .ref (ad 14 100)), (1, .int v1), (2, .int v2), (3, .int v3), (4, .int v4), (6, .int v6), (7, .int v7)] → V_X12_crates_137 post (V_X12_crates_34 post n34x) (V_X12_crates_83 post (V_X12_crates_34 post n34x) n83x) z v1 v2 v3 v4 v6 v7 s0 → W p l e (rmq 5 0 0) s m args below meth c H locs 0 0 Q (F0 m 137 ls [.int s0]) := by
            intro z v1 v2 v3 v4 v6 v7 s0 H locs hw ls hl h
            unfold V_X12_crates_137 at h
            refine lv_istore (lv' := [(5, .int s0), (0, .ref (ad 14 100)), (1, .int v1), (2, .int v2), (3, .int v3), (4, .int v4), (6, .int v6), (7, .int v7)]) hx hb dX12_crates_137 hl (by decide) rfl (fun ls hl => ?_)
            obtain ⟨t25, et25⟩ : ∃ y : Int32, y = v7 + (1 : Int32) := ⟨_, rfl⟩
            replace h := h t25 et25
            refine lv_iinc (v := t25) (lv' := [(7, .int t25), (5, .int s0), (0, .ref (ad 14 100)), (1, .int v1), (2, .int v2), (3, .int v3), (4, .int v4), (6, .int v6)]) hx hb dX12_crates_139 hl (k := 7) rfl (by rw [et25]; rfl) (by decide) rfl (fun ls hl => ?_)
            refine lv_goto (tgt := 83) hx hb dX12_crates_142 (by decide) ?_
            exact ih83 z v1 v2 v3 v4 s0 v6 t25 H locs hw ls (lv_sub hl [2, 3, 4, 5, 6, 1, 7, 0] rfl) h
          intro z v1 v2 v3 v4 v5 v6 v7 H locs hw ls hl h
          unfold V_X12_crates_83 at h
          refine lv_iload hx hb dX12_crates_83 (lv_at hl 7 rfl) ?_
          refine lv_iload hx hb dX12_crates_85 (lv_at hl 6 rfl) ?_
          refine lv_icmp_ge (tgt := 145) hx hb dX12_crates_87 (by decide) (fun c17 => ?_) (fun c17 => ?_)
          · replace h := h.1 c17
            obtain ⟨t18, et18⟩ : ∃ y : Int32, y = v6 + (1 : Int32) := ⟨_, rfl⟩
            replace h := h t18 et18
            refine lv_iinc (v := t18) (lv' := [(6, .int t18), (0, .ref (ad 14 100)), (1, .int v1), (2, .int v2), (3, .int v3), (4, .int v4), (5, .int v5), (7, .int v7)]) hx hb dX12_crates_145 hl (k := 6) rfl (by rw [et18]; rfl) (by decide) rfl (fun ls hl => ?_)
            refine lv_goto (tgt := 34) hx hb dX12_crates_148 (by decide) ?_
            exact ih34 z v1 v2 v3 v4 v5 t18 H locs hw ls (lv_sub hl [1, 2, 3, 4, 5, 6, 0] rfl) h
          · replace h := h.2 c17
            refine lv_aload_n hx hb dX12_crates_90 rfl (lv_at hl 0 rfl) ?_
            refine xgC E hw (c1 := 12) (t := (14, 34)) rfl ky_14_100 fo_12_34 rfl qf_12_46 dX12_crates_91 ?_
            refine lv_iload hx hb dX12_crates_94 (lv_at hl 7 rfl) ?_
            obtain ⟨hi, h⟩ := h
            refine xal E hw ky_14_34 ka_14_34 hi dX12_crates_96 ?_
            refine lv_aload_n hx hb dX12_crates_97 rfl (lv_at hl 0 rfl) ?_
            refine xgI E hw (c1 := 12) rfl ky_14_100 fo_12_22 qf_12_206 dX12_crates_98 ?_
            refine lv_isub hx hb dX12_crates_101 ?_
            have hq := h
            clear h
            refine xcSI (As := [.int ((zR z 14 34 (Int32.toNatClampNeg v7)) - (zI z 14 22))]) (rest := []) E hw hA (c_X12_amount l D ad cs sk z ((zR z 14 34 (Int32.toNatClampNeg v7)) - (zI z 14 22)) _ hq) kc_12_171 yo_X12_amount ⟨Nat.le_of_ble_eq_true rfl, Nat.le_of_ble_eq_true rfl⟩ rfl hl.1 rfl (Nat.le_of_ble_eq_true rfl) dX12_crates_102 ⟨Nat.le_of_ble_eq_true rfl, Nat.le_of_ble_eq_true rfl⟩ (fun r20 z19 H locs h hw => ?_)
            refine lv_aload_n hx hb dX12_crates_105 rfl (lv_at hl 0 rfl) ?_
            refine xgC E hw (c1 := 12) (t := (14, 35)) rfl ky_14_100 fo_12_35 rfl qf_12_49 dX12_crates_106 ?_
            refine lv_iload hx hb dX12_crates_109 (lv_at hl 7 rfl) ?_
            obtain ⟨hi, h⟩ := h
            refine xal E hw ky_14_35 ka_14_35 hi dX12_crates_111 ?_
            refine lv_aload_n hx hb dX12_crates_112 rfl (lv_at hl 0 rfl) ?_
            refine xgI E hw (c1 := 12) rfl ky_14_100 fo_12_23 qf_12_209 dX12_crates_113 ?_
            refine lv_isub hx hb dX12_crates_116 ?_
            have hq := h
            clear h
            refine xcSI (As := [.int ((zR z19 14 35 (Int32.toNatClampNeg v7)) - (zI z19 14 23))]) (rest := [.int r20]) E hw hA (c_X12_amount l D ad cs sk z19 ((zR z19 14 35 (Int32.toNatClampNeg v7)) - (zI z19 14 23)) _ hq) kc_12_171 yo_X12_amount ⟨Nat.le_of_ble_eq_true rfl, Nat.le_of_ble_eq_true rfl⟩ rfl hl.1 rfl (Nat.le_of_ble_eq_true rfl) dX12_crates_117 ⟨Nat.le_of_ble_eq_true rfl, Nat.le_of_ble_eq_true rfl⟩ (fun r22 z21 H locs h hw => ?_)
            refine lv_iadd hx hb dX12_crates_120 ?_
            refine lv_topi (fun t23 et23 => ?_)
            replace h := h t23 et23
            refine lv_istore (lv' := [(8, .int t23), (0, .ref (ad 14 100)), (1, .int v1), (2, .int v2), (3, .int v3), (4, .int v4), (5, .int v5), (6, .int v6), (7, .int v7)]) hx hb dX12_crates_121 hl (by decide) rfl (fun ls hl => ?_)
            refine lv_iload hx hb dX12_crates_123 (lv_at hl 0 rfl) ?_
            refine lv_iload hx hb dX12_crates_125 (lv_at hl 6 rfl) ?_
            refine lv_icmp_le (tgt := 135) hx hb dX12_crates_127 (by decide) (fun c24 => ?_) (fun c24 => ?_)
            · replace h := h.1 c24
              refine lv_iload hx hb dX12_crates_135 (lv_at hl 6 rfl) ?_
              exact b137 z21 v1 v2 v3 v4 v6 v7 v5 H locs hw ls (lv_sub hl [1, 2, 3, 4, 5, 7, 8] rfl) h
            · replace h := h.2 c24
              refine lv_iload hx hb dX12_crates_130 (lv_at hl 0 rfl) ?_
              refine lv_goto (tgt := 137) hx hb dX12_crates_132 (by decide) ?_
              exact b137 z21 v1 v2 v3 v4 v6 v7 t23 H locs hw ls (lv_sub hl [1, 2, 3, 4, 5, 7, 8] rfl) h
      intro z v1 v2 v3 v4 v5 v6 H locs hw ls hl h
      unfold V_X12_crates_34 at h
      refine lv_iload hx hb dX12_crates_34 (lv_at hl 6 rfl) ?_
      refine lv_iload_n hx hb dX12_crates_36 rfl (lv_at hl 1 rfl) ?_
      refine lv_icmp_ge (tgt := 151) hx hb dX12_crates_37 (by decide) (fun c10 => ?_) (fun c10 => ?_)
      · replace h := h.1 c10
        refine lv_iload hx hb dX12_crates_151 (lv_at hl 5 rfl) ?_
        exact hret v5 z H locs 153 ls hw rfl h dX12_crates_153
      · replace h := h.2 c10
        refine lv_aload_n hx hb dX12_crates_40 rfl (lv_at hl 0 rfl) ?_
        refine lv_iconst (v := 1) hx hb dX12_crates_41 (by decide) ?_
        refine lv_iconst (v := 0) hx hb dX12_crates_42 (by decide) ?_
        refine lv_iconst (v := 0) hx hb dX12_crates_43 (by decide) ?_
        refine lv_iload_n hx hb dX12_crates_44 rfl (lv_at hl 2 rfl) ?_
        refine lv_iload_n hx hb dX12_crates_45 rfl (lv_at hl 3 rfl) ?_
        refine lv_iload hx hb dX12_crates_46 (lv_at hl 4 rfl) ?_
        refine lv_iload hx hb dX12_crates_48 (lv_at hl 6 rfl) ?_
        refine lv_iadd hx hb dX12_crates_50 ?_
        have hq := h
        clear h
        refine xcVV (As := [.int (1 : Int32), .int (0 : Int32), .int (0 : Int32), .int v2, .int v3, .int (v4 + v6)]) (rest := []) E hw hA (c_X12_leaves l D ad cs sk z (1 : Int32) (0 : Int32) (0 : Int32) v2 v3 (v4 + v6) _ hq) kc_12_224 yo_X12_leaves ⟨Nat.le_of_ble_eq_true rfl, Nat.le_of_ble_eq_true rfl⟩ (xrc E hw ky_14_100 rfl) rfl hl.1 rfl (Nat.le_of_ble_eq_true rfl) dX12_crates_51 ⟨Nat.le_of_ble_eq_true rfl, Nat.le_of_ble_eq_true rfl⟩ (fun z11 H locs h hw => ?_)
        refine lv_aload_n hx hb dX12_crates_54 rfl (lv_at hl 0 rfl) ?_
        have hq := h
        clear h
        refine xcVV (As := []) (rest := []) E hw hA (c_X12_lands l D ad cs sk z11 _ hq) kc_12_259 yo_X12_lands ⟨Nat.le_of_ble_eq_true rfl, Nat.le_of_ble_eq_true rfl⟩ (xrc E hw ky_14_100 rfl) rfl hl.1 rfl (Nat.le_of_ble_eq_true rfl) dX12_crates_55 ⟨Nat.le_of_ble_eq_true rfl, Nat.le_of_ble_eq_true rfl⟩ (fun z13 H locs h hw => ?_)
        refine lv_aload_n hx hb dX12_crates_58 rfl (lv_at hl 0 rfl) ?_
        refine xgC E hw (c1 := 12) (t := (14, 34)) rfl ky_14_100 fo_12_34 rfl qf_12_46 dX12_crates_59 ?_
        refine lv_iload hx hb dX12_crates_62 (lv_at hl 6 rfl) ?_
        refine lv_aload_n hx hb dX12_crates_64 rfl (lv_at hl 0 rfl) ?_
        refine xgI E hw (c1 := 12) rfl ky_14_100 fo_12_22 qf_12_206 dX12_crates_65 ?_
        obtain ⟨hi, h⟩ := h
        refine xas E hw ky_14_34 ka_14_34 hi dX12_crates_68 (fun z15 ez15 H locs hw => ?_)
        replace h := h z15 ez15
        refine lv_aload_n hx hb dX12_crates_69 rfl (lv_at hl 0 rfl) ?_
        refine xgC E hw (c1 := 12) (t := (14, 35)) rfl ky_14_100 fo_12_35 rfl qf_12_49 dX12_crates_70 ?_
        refine lv_iload hx hb dX12_crates_73 (lv_at hl 6 rfl) ?_
        refine lv_aload_n hx hb dX12_crates_75 rfl (lv_at hl 0 rfl) ?_
        refine xgI E hw (c1 := 12) rfl ky_14_100 fo_12_23 qf_12_209 dX12_crates_76 ?_
        obtain ⟨hi, h⟩ := h
        refine xas E hw ky_14_35 ka_14_35 hi dX12_crates_79 (fun z16 ez16 H locs hw => ?_)
        replace h := h z16 ez16
        refine lv_iconst (v := 0) hx hb dX12_crates_80 (by decide) ?_
        refine lv_istore (lv' := [(7, .int (0 : Int32)), (0, .ref (ad 14 100)), (1, .int v1), (2, .int v2), (3, .int v3), (4, .int v4), (5, .int v5), (6, .int v6)]) hx hb dX12_crates_81 hl (by decide) rfl (fun ls hl => ?_)
        obtain ⟨n26, h⟩ := h
        exact b83 n26 z16 v1 v2 v3 v4 v5 v6 (0 : Int32) H locs hw ls (lv_sub hl [1, 2, 3, 4, 5, 6, 7, 0] rfl) h
  have b00 : ∀ (H : Heap) (locs : List Loc), OW D ad cs A s.heap z H locs → W p l e (rmq 5 0 0) s m args below meth c H locs 0 0 Q (F0 m 0 ls []) := by
    intro H locs hw
    refine lv_iload_n hx hb dX12_crates_0 rfl (lv_at hl 1 rfl) ?_
    refine lv_i2l hx hb dX12_crates_1 rfl ?_
    refine lv_lconst (v := 1) hx hb dX12_crates_2 (by decide) ?_
    refine lv_ldc2 (v := 5) hx hb hown (h0 _ ql_12_279) dX12_crates_3 ?_
    have hq := h
    clear h
    refine xcSI (As := [.long (Int32.toInt64 p1), .long (1 : Int64), .long (5 : Int64)]) (rest := []) E hw hA (c_X12_isIn l D ad cs sk z (Int32.toInt64 p1) (1 : Int64) (5 : Int64) _ hq) kc_12_56 yo_X12_isIn ⟨Nat.le_of_ble_eq_true rfl, Nat.le_of_ble_eq_true rfl⟩ rfl hl.1 rfl (Nat.le_of_ble_eq_true rfl) dX12_crates_6 ⟨Nat.le_of_ble_eq_true rfl, Nat.le_of_ble_eq_true rfl⟩ (fun r2 z1 H locs h hw => ?_)
    refine lv_if_eq (tgt := 26) hx hb dX12_crates_9 (by decide) (fun c3 => ?_) (fun c3 => ?_)
    · replace h := h.1 c3
      refine lv_iconst (v := -1) hx hb dX12_crates_26 (by decide) ?_
      exact hret (-1 : Int32) z1 H locs 27 ls hw rfl h dX12_crates_27
    · replace h := h.2 c3
      refine lv_iload_n hx hb dX12_crates_12 rfl (lv_at hl 2 rfl) ?_
      have hq := h
      clear h
      refine xcSI (As := [.int p2]) (rest := []) E hw hA (c_X12_isEdge l D ad cs sk z1 p2 _ hq) kc_12_184 yo_X12_isEdge ⟨Nat.le_of_ble_eq_true rfl, Nat.le_of_ble_eq_true rfl⟩ rfl hl.1 rfl (Nat.le_of_ble_eq_true rfl) dX12_crates_13 ⟨Nat.le_of_ble_eq_true rfl, Nat.le_of_ble_eq_true rfl⟩ (fun r5 z4 H locs h hw => ?_)
      refine lv_if_eq (tgt := 26) hx hb dX12_crates_16 (by decide) (fun c6 => ?_) (fun c6 => ?_)
      · replace h := h.1 c6
        refine lv_iconst (v := -1) hx hb dX12_crates_26 (by decide) ?_
        exact hret (-1 : Int32) z4 H locs 27 ls hw rfl h dX12_crates_27
      · replace h := h.2 c6
        refine lv_iload_n hx hb dX12_crates_19 rfl (lv_at hl 3 rfl) ?_
        have hq := h
        clear h
        refine xcSI (As := [.int p3]) (rest := []) E hw hA (c_X12_isEdge l D ad cs sk z4 p3 _ hq) kc_12_184 yo_X12_isEdge ⟨Nat.le_of_ble_eq_true rfl, Nat.le_of_ble_eq_true rfl⟩ rfl hl.1 rfl (Nat.le_of_ble_eq_true rfl) dX12_crates_20 ⟨Nat.le_of_ble_eq_true rfl, Nat.le_of_ble_eq_true rfl⟩ (fun r8 z7 H locs h hw => ?_)
        refine lv_if_ne (tgt := 28) hx hb dX12_crates_23 (by decide) (fun c9 => ?_) (fun c9 => ?_)
        · replace h := h.1 c9
          refine lv_iconst (v := 0) hx hb dX12_crates_28 (by decide) ?_
          refine lv_istore (lv' := [(5, .int (0 : Int32)), (0, .ref (ad 14 100)), (1, .int p1), (2, .int p2), (3, .int p3), (4, .int p4)]) hx hb dX12_crates_29 hl (by decide) rfl (fun ls hl => ?_)
          refine lv_iconst (v := 0) hx hb dX12_crates_31 (by decide) ?_
          refine lv_istore (lv' := [(6, .int (0 : Int32)), (5, .int (0 : Int32)), (0, .ref (ad 14 100)), (1, .int p1), (2, .int p2), (3, .int p3), (4, .int p4)]) hx hb dX12_crates_32 hl (by decide) rfl (fun ls hl => ?_)
          obtain ⟨n27, h⟩ := h
          exact b34 n27 z7 p1 p2 p3 p4 (0 : Int32) (0 : Int32) H locs hw ls (lv_sub hl [2, 3, 4, 5, 6, 1, 0] rfl) h
        · replace h := h.2 c9
          refine lv_iconst (v := -1) hx hb dX12_crates_26 (by decide) ?_
          exact hret (-1 : Int32) z7 H locs 27 ls hw rfl h dX12_crates_27
  exact b00 s.heap [] hw
