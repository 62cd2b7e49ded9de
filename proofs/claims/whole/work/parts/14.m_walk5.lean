def V_X12_lands_0 (post : ZS → Prop) : Nat → ZS → Prop
  | 0, _ => False
  | (n + 1), z => V_X12_hasLanded z (fun r2 z1 => ((¬ r2 = 0 → post z1) ∧ (r2 = 0 → V_X12_goesSecond z1 (fun z4 => (V_X12_lands_0 post n) z4))))
def V_X12_lands (z : ZS) (post : ZS → Prop) : Prop := (∃ n6 : Nat, V_X12_lands_0 post n6 z)
set_option maxHeartbeats 4000000 in
set_option maxRecDepth 100000 in
theorem c_X12_lands (l : Launch) (D : va_G) (ad : Nat → Nat → Nat) (cs : Nat → ClassId) (sk : (Nat → Nat) × (Nat → Nat)) (z : ZS) (post : ZS → Prop) (h : V_X12_lands z post) : MV l D ad cs sk yX12_lands cX12_lands 1 (rmq 4 0 0) [.ref (ad 14 100)] z post := by
  refine MV.of RX12 rfl (by decide) (Nat.le_of_ble_eq_true rfl) ?_
  intro p e s m args below meth c A Q E hw hA hret ls hl
  have hx := E.1.1
  have hb := E.1.2.1
  have hml := E.1.2.2.1
  have hown := E.1.2.2.2.1
  have h0 := E.1.2.2.2.2
  have hl : lv_has ls 1 [(0, .ref (ad 14 100))] := hl
  unfold V_X12_lands at h
  have b0 : ∀ (n : Nat) (z : ZS), ∀ (H : Heap) (locs : List Loc), OW D ad cs A s.heap z H locs → ∀ ls : Array Slot, lv_has ls 1 [(0, .ref (ad 14 100))] → V_X12_lands_0 post n z → W p l e (rmq 4 0 0) s m args below meth c H locs 0 0 Q (F0 m 0 ls []) := by
    intro n
    induction n with
    | zero =>
      intro z H locs hw ls hl h
      exact h.elim
    | succ n0x ih0 =>
      intro z H locs hw ls hl h
      unfold V_X12_lands_0 at h
      refine lv_aload_n hx hb dX12_lands_0 rfl (lv_at hl 0 rfl) ?_
      have hq := h
      clear h
      refine xcVI (As := []) (rest := []) E hw hA (c_X12_hasLanded l D ad cs sk z _ hq) kc_12_249 yo_X12_hasLanded ⟨Nat.le_of_ble_eq_true rfl, Nat.le_of_ble_eq_true rfl⟩ (xrc E hw ky_14_100 rfl) rfl hl.1 rfl (Nat.le_of_ble_eq_true rfl) dX12_lands_1 ⟨Nat.le_of_ble_eq_true rfl, Nat.le_of_ble_eq_true rfl⟩ (fun r2 z1 H locs h hw => ?_)
      refine lv_if_ne (tgt := 14) hx hb dX12_lands_4 (by decide) (fun c3 => ?_) (fun c3 => ?_)
      · replace h := h.1 c3
        exact hret z1 H locs 14 ls hw h dX12_lands_14
      · replace h := h.2 c3
        refine lv_aload_n hx hb dX12_lands_7 rfl (lv_at hl 0 rfl) ?_
        have hq := h
        clear h
        refine xcVV (As := []) (rest := []) E hw hA (c_X12_goesSecond l D ad cs sk z1 _ hq) kc_12_252 yo_X12_goesSecond ⟨Nat.le_of_ble_eq_true rfl, Nat.le_of_ble_eq_true rfl⟩ (xrc E hw ky_14_100 rfl) rfl hl.1 rfl (Nat.le_of_ble_eq_true rfl) dX12_lands_8 ⟨Nat.le_of_ble_eq_true rfl, Nat.le_of_ble_eq_true rfl⟩ (fun z4 H locs h hw => ?_)
        refine lv_goto (tgt := 0) hx hb dX12_lands_11 (by decide) ?_
        exact ih0 z4 H locs hw ls (lv_sub hl [0] rfl) h
  have b00 : ∀ (H : Heap) (locs : List Loc), OW D ad cs A s.heap z H locs → W p l e (rmq 4 0 0) s m args below meth c H locs 0 0 Q (F0 m 0 ls []) := by
    intro H locs hw
    obtain ⟨n6, h⟩ := h
    exact b0 n6 z H locs hw ls (lv_sub hl [0] rfl) h
  exact b00 s.heap [] hw
def V_X12_off (z : ZS) (post : Int32 → ZS → Prop) : Prop := V_X12_amount z (zI z 14 22) (fun r2 z1 => V_X12_amount z1 (zI z1 14 23) (fun r4 z3 => post (r2 + r4) z3))
set_option maxHeartbeats 4000000 in
set_option maxRecDepth 100000 in
theorem c_X12_off (l : Launch) (D : va_G) (ad : Nat → Nat → Nat) (cs : Nat → ClassId) (sk : (Nat → Nat) × (Nat → Nat)) (z : ZS) (post : Int32 → ZS → Prop) (h : V_X12_off z post) : MI l D ad cs sk yX12_off cX12_off 1 .int (rmq 1 0 0) [.ref (ad 14 100)] z post := by
  refine MI.of RX12 rfl (by decide) (Nat.le_of_ble_eq_true rfl) ?_
  intro p e s m args below meth c A Q E hw hA hret ls hl
  have hx := E.1.1
  have hb := E.1.2.1
  have hml := E.1.2.2.1
  have hown := E.1.2.2.2.1
  have h0 := E.1.2.2.2.2
  have hl : lv_has ls 1 [(0, .ref (ad 14 100))] := hl
  unfold V_X12_off at h
  have b00 : ∀ (H : Heap) (locs : List Loc), OW D ad cs A s.heap z H locs → W p l e (rmq 1 0 0) s m args below meth c H locs 0 0 Q (F0 m 0 ls []) := by
    intro H locs hw
    refine lv_aload_n hx hb dX12_off_0 rfl (lv_at hl 0 rfl) ?_
    refine xgI E hw (c1 := 12) rfl ky_14_100 fo_12_22 qf_12_206 dX12_off_1 ?_
    have hq := h
    clear h
    refine xcSI (As := [.int (zI z 14 22)]) (rest := []) E hw hA (c_X12_amount l D ad cs sk z (zI z 14 22) _ hq) kc_12_171 yo_X12_amount ⟨Nat.le_of_ble_eq_true rfl, Nat.le_of_ble_eq_true rfl⟩ rfl hl.1 rfl (Nat.le_of_ble_eq_true rfl) dX12_off_4 ⟨Nat.le_of_ble_eq_true rfl, Nat.le_of_ble_eq_true rfl⟩ (fun r2 z1 H locs h hw => ?_)
    refine lv_aload_n hx hb dX12_off_7 rfl (lv_at hl 0 rfl) ?_
    refine xgI E hw (c1 := 12) rfl ky_14_100 fo_12_23 qf_12_209 dX12_off_8 ?_
    have hq := h
    clear h
    refine xcSI (As := [.int (zI z1 14 23)]) (rest := [.int r2]) E hw hA (c_X12_amount l D ad cs sk z1 (zI z1 14 23) _ hq) kc_12_171 yo_X12_amount ⟨Nat.le_of_ble_eq_true rfl, Nat.le_of_ble_eq_true rfl⟩ rfl hl.1 rfl (Nat.le_of_ble_eq_true rfl) dX12_off_11 ⟨Nat.le_of_ble_eq_true rfl, Nat.le_of_ble_eq_true rfl⟩ (fun r4 z3 H locs h hw => ?_)
    refine lv_iadd hx hb dX12_off_14 ?_
    exact hret (r2 + r4) z3 H locs 15 ls hw rfl h dX12_off_15
  exact b00 s.heap [] hw
def V_X12_falls (z : ZS) (p1 : Int32) (p2 : Int32) (p3 : Int32) (p4 : Int32) (post : ZS → Prop) : Prop := V_X12_leavesOne z p1 p2 p3 p4 (fun z1 => V_X12_lands z1 (fun z3 => post z3))
set_option maxHeartbeats 4000000 in
set_option maxRecDepth 100000 in
theorem c_X12_falls (l : Launch) (D : va_G) (ad : Nat → Nat → Nat) (cs : Nat → ClassId) (sk : (Nat → Nat) × (Nat → Nat)) (z : ZS) (p1 : Int32) (p2 : Int32) (p3 : Int32) (p4 : Int32) (post : ZS → Prop) (h : V_X12_falls z p1 p2 p3 p4 post) : MV l D ad cs sk yX12_falls cX12_falls 5 (rmq 5 0 0) [.ref (ad 14 100), .int p1, .int p2, .int p3, .int p4] z post := by
  refine MV.of RX12 rfl (by decide) (Nat.le_of_ble_eq_true rfl) ?_
  intro p e s m args below meth c A Q E hw hA hret ls hl
  have hx := E.1.1
  have hb := E.1.2.1
  have hml := E.1.2.2.1
  have hown := E.1.2.2.2.1
  have h0 := E.1.2.2.2.2
  have hl : lv_has ls 5 [(0, .ref (ad 14 100)), (1, .int p1), (2, .int p2), (3, .int p3), (4, .int p4)] := hl
  unfold V_X12_falls at h
  have b00 : ∀ (H : Heap) (locs : List Loc), OW D ad cs A s.heap z H locs → W p l e (rmq 5 0 0) s m args below meth c H locs 0 0 Q (F0 m 0 ls []) := by
    intro H locs hw
    refine lv_aload_n hx hb dX12_falls_0 rfl (lv_at hl 0 rfl) ?_
    refine lv_iload_n hx hb dX12_falls_1 rfl (lv_at hl 1 rfl) ?_
    refine lv_iload_n hx hb dX12_falls_2 rfl (lv_at hl 2 rfl) ?_
    refine lv_iload_n hx hb dX12_falls_3 rfl (lv_at hl 3 rfl) ?_
    refine lv_iload hx hb dX12_falls_4 (lv_at hl 4 rfl) ?_
    have hq := h
    clear h
    refine xcVV (As := [.int p1, .int p2, .int p3, .int p4]) (rest := []) E hw hA (c_X12_leavesOne l D ad cs sk z p1 p2 p3 p4 _ hq) kc_12_255 yo_X12_leavesOne ⟨Nat.le_of_ble_eq_true rfl, Nat.le_of_ble_eq_true rfl⟩ (xrc E hw ky_14_100 rfl) rfl hl.1 rfl (Nat.le_of_ble_eq_true rfl) dX12_falls_6 ⟨Nat.le_of_ble_eq_true rfl, Nat.le_of_ble_eq_true rfl⟩ (fun z1 H locs h hw => ?_)
    refine lv_aload_n hx hb dX12_falls_9 rfl (lv_at hl 0 rfl) ?_
    have hq := h
    clear h
    refine xcVV (As := []) (rest := []) E hw hA (c_X12_lands l D ad cs sk z1 _ hq) kc_12_259 yo_X12_lands ⟨Nat.le_of_ble_eq_true rfl, Nat.le_of_ble_eq_true rfl⟩ (xrc E hw ky_14_100 rfl) rfl hl.1 rfl (Nat.le_of_ble_eq_true rfl) dX12_falls_10 ⟨Nat.le_of_ble_eq_true rfl, Nat.le_of_ble_eq_true rfl⟩ (fun z3 H locs h hw => ?_)
    exact hret z3 H locs 13 ls hw h dX12_falls_13
  exact b00 s.heap [] hw
def V_X12_toldOf (z : ZS) (p1 : Int32) (post : Int32 → ZS → Prop) : Prop := ((¬ p1 = 0 → ((¬ p1 = (1 : Int32) → ((¬ p1 = (2 : Int32) → ((¬ p1 = (3 : Int32) → V_X12_isBarred z (zI z 14 22) (zI z 14 23) (fun r6 z5 => ((r6 = 0 → post (0 : Int32) z5) ∧ (¬ r6 = 0 → post (1 : Int32) z5)))) ∧ (p1 = (3 : Int32) → V_X12_off z (fun r9 z8 => post r9 z8)))) ∧ (p1 = (2 : Int32) → post (zI z 14 25) z))) ∧ (p1 = (1 : Int32) → post (zI z 14 23) z))) ∧ (p1 = 0 → post (zI z 14 22) z))
set_option maxHeartbeats 4000000 in
set_option maxRecDepth 100000 in
theorem c_X12_toldOf (l : Launch) (D : va_G) (ad : Nat → Nat → Nat) (cs : Nat → ClassId) (sk : (Nat → Nat) × (Nat → Nat)) (z : ZS) (p1 : Int32) (post : Int32 → ZS → Prop) (h : V_X12_toldOf z p1 post) : MI l D ad cs sk yX12_toldOf cX12_toldOf 2 .int (rmq 2 0 0) [.ref (ad 14 100), .int p1] z post := by
  refine MI.of RX12 rfl (by decide) (Nat.le_of_ble_eq_true rfl) ?_
  intro p e s m args below meth c A Q E hw hA hret ls hl
  have hx := E.1.1
  have hb := E.1.2.1
  have hml := E.1.2.2.1
  have hown := E.1.2.2.2.1
  have h0 := E.1.2.2.2.2
  have hl : lv_has ls 2 [(0, .ref (ad 14 100)), (1, .int p1)] := hl
  unfold V_X12_toldOf at h
  have b00 : ∀ (H : Heap) (locs : List Loc), OW D ad cs A s.heap z H locs → W p l e (rmq 2 0 0) s m args below meth c H locs 0 0 Q (F0 m 0 ls []) := by
    intro H locs hw
    refine lv_iload_n hx hb dX12_toldOf_0 rfl (lv_at hl 1 rfl) ?_
    refine lv_if_ne (tgt := 11) hx hb dX12_toldOf_1 (by decide) (fun c1 => ?_) (fun c1 => ?_)
    · replace h := h.1 c1
      refine lv_iload_n hx hb dX12_toldOf_11 rfl (lv_at hl 1 rfl) ?_
      refine lv_iconst (v := 1) hx hb dX12_toldOf_12 (by decide) ?_
      refine lv_icmp_ne (tgt := 23) hx hb dX12_toldOf_13 (by decide) (fun c2 => ?_) (fun c2 => ?_)
      · replace h := h.1 c2
        refine lv_iload_n hx hb dX12_toldOf_23 rfl (lv_at hl 1 rfl) ?_
        refine lv_iconst (v := 2) hx hb dX12_toldOf_24 (by decide) ?_
        refine lv_icmp_ne (tgt := 35) hx hb dX12_toldOf_25 (by decide) (fun c3 => ?_) (fun c3 => ?_)
        · replace h := h.1 c3
          refine lv_iload_n hx hb dX12_toldOf_35 rfl (lv_at hl 1 rfl) ?_
          refine lv_iconst (v := 3) hx hb dX12_toldOf_36 (by decide) ?_
          refine lv_icmp_ne (tgt := 47) hx hb dX12_toldOf_37 (by decide) (fun c4 => ?_) (fun c4 => ?_)
          · replace h := h.1 c4
            refine lv_aload_n hx hb dX12_toldOf_47 rfl (lv_at hl 0 rfl) ?_
            refine lv_aload_n hx hb dX12_toldOf_48 rfl (lv_at hl 0 rfl) ?_
            refine xgI E hw (c1 := 12) rfl ky_14_100 fo_12_22 qf_12_206 dX12_toldOf_49 ?_
            refine lv_aload_n hx hb dX12_toldOf_52 rfl (lv_at hl 0 rfl) ?_
            refine xgI E hw (c1 := 12) rfl ky_14_100 fo_12_23 qf_12_209 dX12_toldOf_53 ?_
            have hq := h
            clear h
            refine xcVI (As := [.int (zI z 14 22), .int (zI z 14 23)]) (rest := []) E hw hA (c_X12_isBarred l D ad cs sk z (zI z 14 22) (zI z 14 23) _ hq) kc_12_191 yo_X12_isBarred ⟨Nat.le_of_ble_eq_true rfl, Nat.le_of_ble_eq_true rfl⟩ (xrc E hw ky_14_100 rfl) rfl hl.1 rfl (Nat.le_of_ble_eq_true rfl) dX12_toldOf_56 ⟨Nat.le_of_ble_eq_true rfl, Nat.le_of_ble_eq_true rfl⟩ (fun r6 z5 H locs h hw => ?_)
            refine lv_if_eq (tgt := 66) hx hb dX12_toldOf_59 (by decide) (fun c7 => ?_) (fun c7 => ?_)
            · replace h := h.1 c7
              refine lv_iconst (v := 0) hx hb dX12_toldOf_66 (by decide) ?_
              exact hret (0 : Int32) z5 H locs 67 ls hw rfl h dX12_toldOf_67
            · replace h := h.2 c7
              refine lv_iconst (v := 1) hx hb dX12_toldOf_62 (by decide) ?_
              refine lv_goto (tgt := 67) hx hb dX12_toldOf_63 (by decide) ?_
              exact hret (1 : Int32) z5 H locs 67 ls hw rfl h dX12_toldOf_67
          · replace h := h.2 c4
            refine lv_aload_n hx hb dX12_toldOf_40 rfl (lv_at hl 0 rfl) ?_
            have hq := h
            clear h
            refine xcVI (As := []) (rest := []) E hw hA (c_X12_off l D ad cs sk z _ hq) kc_12_262 yo_X12_off ⟨Nat.le_of_ble_eq_true rfl, Nat.le_of_ble_eq_true rfl⟩ (xrc E hw ky_14_100 rfl) rfl hl.1 rfl (Nat.le_of_ble_eq_true rfl) dX12_toldOf_41 ⟨Nat.le_of_ble_eq_true rfl, Nat.le_of_ble_eq_true rfl⟩ (fun r9 z8 H locs h hw => ?_)
            refine lv_goto (tgt := 67) hx hb dX12_toldOf_44 (by decide) ?_
            exact hret r9 z8 H locs 67 ls hw rfl h dX12_toldOf_67
        · replace h := h.2 c3
          refine lv_aload_n hx hb dX12_toldOf_28 rfl (lv_at hl 0 rfl) ?_
          refine xgI E hw (c1 := 12) rfl ky_14_100 fo_12_25 qf_12_215 dX12_toldOf_29 ?_
          refine lv_goto (tgt := 67) hx hb dX12_toldOf_32 (by decide) ?_
          exact hret (zI z 14 25) z H locs 67 ls hw rfl h dX12_toldOf_67
      · replace h := h.2 c2
        refine lv_aload_n hx hb dX12_toldOf_16 rfl (lv_at hl 0 rfl) ?_
        refine xgI E hw (c1 := 12) rfl ky_14_100 fo_12_23 qf_12_209 dX12_toldOf_17 ?_
        refine lv_goto (tgt := 67) hx hb dX12_toldOf_20 (by decide) ?_
        exact hret (zI z 14 23) z H locs 67 ls hw rfl h dX12_toldOf_67
    · replace h := h.2 c1
      refine lv_aload_n hx hb dX12_toldOf_4 rfl (lv_at hl 0 rfl) ?_
      refine xgI E hw (c1 := 12) rfl ky_14_100 fo_12_22 qf_12_206 dX12_toldOf_5 ?_
      refine lv_goto (tgt := 67) hx hb dX12_toldOf_8 (by decide) ?_
      exact hret (zI z 14 22) z H locs 67 ls hw rfl h dX12_toldOf_67
  exact b00 s.heap [] hw
def V_X12_fallBy (z : ZS) (p1 : Int32) (p2 : Int32) (p3 : Int32) (p4 : Int32) (p5 : Int32) (post : Int32 → ZS → Prop) : Prop := V_X12_isFaller z p1 (fun r2 z1 => ((r2 = 0 → post (-1000000001 : Int32) z1) ∧ (¬ r2 = 0 → V_X12_isEdge z1 p2 (fun r5 z4 => ((r5 = 0 → post (-1000000001 : Int32) z4) ∧ (¬ r5 = 0 → V_X12_isEdge z4 p3 (fun r8 z7 => ((r8 = 0 → post (-1000000001 : Int32) z7) ∧ (¬ r8 = 0 → V_X12_isIn z7 (Int32.toInt64 p5) (0 : Int64) (4 : Int64) (fun r11 z10 => ((¬ r11 = 0 → V_X12_falls z10 p1 p2 p3 p4 (fun z13 => V_X12_toldOf z13 p5 (fun r16 z15 => post r16 z15))) ∧ (r11 = 0 → post (-1000000001 : Int32) z10))))))))))))
set_option maxHeartbeats 4000000 in
set_option maxRecDepth 100000 in
theorem c_X12_fallBy (l : Launch) (D : va_G) (ad : Nat → Nat → Nat) (cs : Nat → ClassId) (sk : (Nat → Nat) × (Nat → Nat)) (z : ZS) (p1 : Int32) (p2 : Int32) (p3 : Int32) (p4 : Int32) (p5 : Int32) (post : Int32 → ZS → Prop) (h : V_X12_fallBy z p1 p2 p3 p4 p5 post) : MI l D ad cs sk yX12_fallBy cX12_fallBy 6 .int (rmq 6 0 0) [.ref (ad 14 100), .int p1, .int p2, .int p3, .int p4, .int p5] z post := by
  refine MI.of RX12 rfl (by decide) (Nat.le_of_ble_eq_true rfl) ?_
  intro p e s m args below meth c A Q E hw hA hret ls hl
  have hx := E.1.1
  have hb := E.1.2.1
  have hml := E.1.2.2.1
  have hown := E.1.2.2.2.1
  have h0 := E.1.2.2.2.2
  have hl : lv_has ls 6 [(0, .ref (ad 14 100)), (1, .int p1), (2, .int p2), (3, .int p3), (4, .int p4), (5, .int p5)] := hl
  unfold V_X12_fallBy at h
  have b00 : ∀ (H : Heap) (locs : List Loc), OW D ad cs A s.heap z H locs → W p l e (rmq 6 0 0) s m args below meth c H locs 0 0 Q (F0 m 0 ls []) := by
    intro H locs hw
    refine lv_aload_n hx hb dX12_fallBy_0 rfl (lv_at hl 0 rfl) ?_
    refine lv_iload_n hx hb dX12_fallBy_1 rfl (lv_at hl 1 rfl) ?_
    have hq := h
    clear h
    refine xcVI (As := [.int p1]) (rest := []) E hw hA (c_X12_isFaller l D ad cs sk z p1 _ hq) kc_12_149 yo_X12_isFaller ⟨Nat.le_of_ble_eq_true rfl, Nat.le_of_ble_eq_true rfl⟩ (xrc E hw ky_14_100 rfl) rfl hl.1 rfl (Nat.le_of_ble_eq_true rfl) dX12_fallBy_2 ⟨Nat.le_of_ble_eq_true rfl, Nat.le_of_ble_eq_true rfl⟩ (fun r2 z1 H locs h hw => ?_)
    refine lv_if_eq (tgt := 35) hx hb dX12_fallBy_5 (by decide) (fun c3 => ?_) (fun c3 => ?_)
    · replace h := h.1 c3
      refine lv_ldc (v := -1000000001) hx hb hown (h0 _ qk_12_139) dX12_fallBy_35 ?_
      exact hret (-1000000001 : Int32) z1 H locs 37 ls hw rfl h dX12_fallBy_37
    · replace h := h.2 c3
      refine lv_iload_n hx hb dX12_fallBy_8 rfl (lv_at hl 2 rfl) ?_
      have hq := h
      clear h
      refine xcSI (As := [.int p2]) (rest := []) E hw hA (c_X12_isEdge l D ad cs sk z1 p2 _ hq) kc_12_184 yo_X12_isEdge ⟨Nat.le_of_ble_eq_true rfl, Nat.le_of_ble_eq_true rfl⟩ rfl hl.1 rfl (Nat.le_of_ble_eq_true rfl) dX12_fallBy_9 ⟨Nat.le_of_ble_eq_true rfl, Nat.le_of_ble_eq_true rfl⟩ (fun r5 z4 H locs h hw => ?_)
      refine lv_if_eq (tgt := 35) hx hb dX12_fallBy_12 (by decide) (fun c6 => ?_) (fun c6 => ?_)
      · replace h := h.1 c6
        refine lv_ldc (v := -1000000001) hx hb hown (h0 _ qk_12_139) dX12_fallBy_35 ?_
        exact hret (-1000000001 : Int32) z4 H locs 37 ls hw rfl h dX12_fallBy_37
      · replace h := h.2 c6
        refine lv_iload_n hx hb dX12_fallBy_15 rfl (lv_at hl 3 rfl) ?_
        have hq := h
        clear h
        refine xcSI (As := [.int p3]) (rest := []) E hw hA (c_X12_isEdge l D ad cs sk z4 p3 _ hq) kc_12_184 yo_X12_isEdge ⟨Nat.le_of_ble_eq_true rfl, Nat.le_of_ble_eq_true rfl⟩ rfl hl.1 rfl (Nat.le_of_ble_eq_true rfl) dX12_fallBy_16 ⟨Nat.le_of_ble_eq_true rfl, Nat.le_of_ble_eq_true rfl⟩ (fun r8 z7 H locs h hw => ?_)
        refine lv_if_eq (tgt := 35) hx hb dX12_fallBy_19 (by decide) (fun c9 => ?_) (fun c9 => ?_)
        · replace h := h.1 c9
          refine lv_ldc (v := -1000000001) hx hb hown (h0 _ qk_12_139) dX12_fallBy_35 ?_
          exact hret (-1000000001 : Int32) z7 H locs 37 ls hw rfl h dX12_fallBy_37
        · replace h := h.2 c9
          refine lv_iload hx hb dX12_fallBy_22 (lv_at hl 5 rfl) ?_
          refine lv_i2l hx hb dX12_fallBy_24 rfl ?_
          refine lv_lconst (v := 0) hx hb dX12_fallBy_25 (by decide) ?_
          refine lv_ldc2 (v := 4) hx hb hown (h0 _ ql_12_265) dX12_fallBy_26 ?_
          have hq := h
          clear h
          refine xcSI (As := [.long (Int32.toInt64 p5), .long (0 : Int64), .long (4 : Int64)]) (rest := []) E hw hA (c_X12_isIn l D ad cs sk z7 (Int32.toInt64 p5) (0 : Int64) (4 : Int64) _ hq) kc_12_56 yo_X12_isIn ⟨Nat.le_of_ble_eq_true rfl, Nat.le_of_ble_eq_true rfl⟩ rfl hl.1 rfl (Nat.le_of_ble_eq_true rfl) dX12_fallBy_29 ⟨Nat.le_of_ble_eq_true rfl, Nat.le_of_ble_eq_true rfl⟩ (fun r11 z10 H locs h hw => ?_)
          refine lv_if_ne (tgt := 38) hx hb dX12_fallBy_32 (by decide) (fun c12 => ?_) (fun c12 => ?_)
          · replace h := h.1 c12
            refine lv_aload_n hx hb dX12_fallBy_38 rfl (lv_at hl 0 rfl) ?_
            refine lv_iload_n hx hb dX12_fallBy_39 rfl (lv_at hl 1 rfl) ?_
            refine lv_iload_n hx hb dX12_fallBy_40 rfl (lv_at hl 2 rfl) ?_
            refine lv_iload_n hx hb dX12_fallBy_41 rfl (lv_at hl 3 rfl) ?_
            refine lv_iload hx hb dX12_fallBy_42 (lv_at hl 4 rfl) ?_
            have hq := h
            clear h
            refine xcVV (As := [.int p1, .int p2, .int p3, .int p4]) (rest := []) E hw hA (c_X12_falls l D ad cs sk z10 p1 p2 p3 p4 _ hq) kc_12_267 yo_X12_falls ⟨Nat.le_of_ble_eq_true rfl, Nat.le_of_ble_eq_true rfl⟩ (xrc E hw ky_14_100 rfl) rfl hl.1 rfl (Nat.le_of_ble_eq_true rfl) dX12_fallBy_44 ⟨Nat.le_of_ble_eq_true rfl, Nat.le_of_ble_eq_true rfl⟩ (fun z13 H locs h hw => ?_)
            refine lv_aload_n hx hb dX12_fallBy_47 rfl (lv_at hl 0 rfl) ?_
            refine lv_iload hx hb dX12_fallBy_48 (lv_at hl 5 rfl) ?_
            have hq := h
            clear h
            refine xcVI (As := [.int p5]) (rest := []) E hw hA (c_X12_toldOf l D ad cs sk z13 p5 _ hq) kc_12_270 yo_X12_toldOf ⟨Nat.le_of_ble_eq_true rfl, Nat.le_of_ble_eq_true rfl⟩ (xrc E hw ky_14_100 rfl) rfl hl.1 rfl (Nat.le_of_ble_eq_true rfl) dX12_fallBy_50 ⟨Nat.le_of_ble_eq_true rfl, Nat.le_of_ble_eq_true rfl⟩ (fun r16 z15 H locs h hw => ?_)
            exact hret r16 z15 H locs 53 ls hw rfl h dX12_fallBy_53
          · replace h := h.2 c12
            refine lv_ldc (v := -1000000001) hx hb hown (h0 _ qk_12_139) dX12_fallBy_35 ?_
            exact hret (-1000000001 : Int32) z10 H locs 37 ls hw rfl h dX12_fallBy_37
  exact b00 s.heap [] hw
def V_X12_fall (z : ZS) (p1 : Int32) (p2 : Int32) (p3 : Int32) (p4 : Int32) (post : Int32 → ZS → Prop) : Prop := V_X12_fallBy z p1 p2 p3 (1 : Int32) p4 (fun r2 z1 => post r2 z1)
set_option maxHeartbeats 4000000 in
set_option maxRecDepth 100000 in
theorem c_X12_fall (l : Launch) (D : va_G) (ad : Nat → Nat → Nat) (cs : Nat → ClassId) (sk : (Nat → Nat) × (Nat → Nat)) (z : ZS) (p1 : Int32) (p2 : Int32) (p3 : Int32) (p4 : Int32) (post : Int32 → ZS → Prop) (h : V_X12_fall z p1 p2 p3 p4 post) : MI l D ad cs sk yX12_fall cX12_fall 5 .int (rmq 7 0 0) [.ref (ad 14 100), .int p1, .int p2, .int p3, .int p4] z post := by
  refine MI.of RX12 rfl (by decide) (Nat.le_of_ble_eq_true rfl) ?_
  intro p e s m args below meth c A Q E hw hA hret ls hl
  have hx := E.1.1
  have hb := E.1.2.1
  have hml := E.1.2.2.1
  have hown := E.1.2.2.2.1
  have h0 := E.1.2.2.2.2
  have hl : lv_has ls 5 [(0, .ref (ad 14 100)), (1, .int p1), (2, .int p2), (3, .int p3), (4, .int p4)] := hl
  unfold V_X12_fall at h
  have b00 : ∀ (H : Heap) (locs : List Loc), OW D ad cs A s.heap z H locs → W p l e (rmq 7 0 0) s m args below meth c H locs 0 0 Q (F0 m 0 ls []) := by
    intro H locs hw
    refine lv_aload_n hx hb dX12_fall_0 rfl (lv_at hl 0 rfl) ?_
    refine lv_iload_n hx hb dX12_fall_1 rfl (lv_at hl 1 rfl) ?_
    refine lv_iload_n hx hb dX12_fall_2 rfl (lv_at hl 2 rfl) ?_
    refine lv_iload_n hx hb dX12_fall_3 rfl (lv_at hl 3 rfl) ?_
    refine lv_iconst (v := 1) hx hb dX12_fall_4 (by decide) ?_
    refine lv_iload hx hb dX12_fall_5 (lv_at hl 4 rfl) ?_
    have hq := h
    clear h
    refine xcVI (As := [.int p1, .int p2, .int p3, .int (1 : Int32), .int p4]) (rest := []) E hw hA (c_X12_fallBy l D ad cs sk z p1 p2 p3 (1 : Int32) p4 _ hq) kc_12_273 yo_X12_fallBy ⟨Nat.le_of_ble_eq_true rfl, Nat.le_of_ble_eq_true rfl⟩ (xrc E hw ky_14_100 rfl) rfl hl.1 rfl (Nat.le_of_ble_eq_true rfl) dX12_fall_7 ⟨Nat.le_of_ble_eq_true rfl, Nat.le_of_ble_eq_true rfl⟩ (fun r2 z1 H locs h hw => ?_)
    exact hret r2 z1 H locs 10 ls hw rfl h dX12_fall_10
  exact b00 s.heap [] hw
def V_X12_at_86 (post : Int32 → ZS → Prop) (z : ZS) (v5 : Int32) : Prop := ((¬ v5 = 0 → ((¬ v5 = (1 : Int32) → post (zI z 14 24) z) ∧ (v5 = (1 : Int32) → post (zI z 14 23) z))) ∧ (v5 = 0 → post (zI z 14 22) z))
def V_X12_at_62 (post : Int32 → ZS → Prop) : Nat → ZS → Int32 → Int32 → Int32 → Prop
  | 0, _, _, _, _ => False
  | (n + 1), z, v4, v5, v6 => ((v4 ≤ v6 → V_X12_at_86 post z v5) ∧ (¬ v4 ≤ v6 → V_X12_hasLanded z (fun r22 z21 => ((¬ r22 = 0 → V_X12_at_86 post z21 v5) ∧ (r22 = 0 → V_X12_goesSecond z21 (fun z24 => (∀ t26 : Int32, t26 = v6 + (1 : Int32) → (V_X12_at_62 post n) z24 v4 v5 t26)))))))
def V_X12_at (z : ZS) (p1 : Int32) (p2 : Int32) (p3 : Int32) (p4 : Int32) (p5 : Int32) (post : Int32 → ZS → Prop) : Prop := V_X12_isFaller z p1 (fun r2 z1 => ((r2 = 0 → post (-1000000001 : Int32) z1) ∧ (¬ r2 = 0 → V_X12_isEdge z1 p2 (fun r5 z4 => ((r5 = 0 → post (-1000000001 : Int32) z4) ∧ (¬ r5 = 0 → V_X12_isEdge z4 p3 (fun r8 z7 => ((r8 = 0 → post (-1000000001 : Int32) z7) ∧ (¬ r8 = 0 → V_X12_isIn z7 (Int32.toInt64 p4) (0 : Int64) (400 : Int64) (fun r11 z10 => ((r11 = 0 → post (-1000000001 : Int32) z10) ∧ (¬ r11 = 0 → V_X12_isIn z10 (Int32.toInt64 p5) (0 : Int64) (2 : Int64) (fun r14 z13 => ((¬ r14 = 0 → V_X12_leavesOne z13 p1 p2 p3 (1 : Int32) (fun z16 => (∃ n27 : Nat, V_X12_at_62 post n27 z16 p4 p5 (0 : Int32)))) ∧ (r14 = 0 → post (-1000000001 : Int32) z13)))))))))))))))
set_option maxHeartbeats 4000000 in
set_option maxRecDepth 100000 in
theorem c_X12_at (l : Launch) (D : va_G) (ad : Nat → Nat → Nat) (cs : Nat → ClassId) (sk : (Nat → Nat) × (Nat → Nat)) (z : ZS) (p1 : Int32) (p2 : Int32) (p3 : Int32) (p4 : Int32) (p5 : Int32) (post : Int32 → ZS → Prop) (h : V_X12_at z p1 p2 p3 p4 p5 post) : MI l D ad cs sk yX12_at cX12_at 7 .int (rmq 4 0 0) [.ref (ad 14 100), .int p1, .int p2, .int p3, .int p4, .int p5] z post := by
  refine MI.of RX12 rfl (by decide) (Nat.le_of_ble_eq_true rfl) ?_
  intro p e s m args below meth c A Q E hw hA hret ls hl
  have hx := E.1.1
  have hb := E.1.2.1
  have hml := E.1.2.2.1
  have hown := E.1.2.2.2.1
  have h0 := E.1.2.2.2.2
  have hl : lv_has ls 7 [(0, .ref (ad 14 100)), (1, .int p1), (2, .int p2), (3, .int p3), (4, .int p4), (5, .int p5)] := hl
  unfold V_X12_at at h
  have b86 : ∀ (z : ZS) (v5 : Int32), ∀ (H : Heap) (locs : List Loc), OW D ad cs A s.heap z H locs → ∀ ls : Array Slot, lv_has ls 7 [(0, .ref (ad 14 100)), (5, .int v5)] → V_X12_at_86 post z v5 → W p l e (rmq 4 0 0) s m args below meth c H locs 0 0 Q (F0 m 86 ls []) := by
    intro z v5 H locs hw ls hl h
    unfold V_X12_at_86 at h
    refine lv_iload hx hb dX12_at_86 (lv_at hl 1 rfl) ?_
    refine lv_if_ne (tgt := 98) hx hb dX12_at_88 (by decide) (fun c19 => ?_) (fun c19 => ?_)
    · replace h := h.1 c19
      refine lv_iload hx hb dX12_at_98 (lv_at hl 1 rfl) ?_
      refine lv_iconst (v := 1) hx hb dX12_at_100 (by decide) ?_
      refine lv_icmp_ne (tgt := 111) hx hb dX12_at_101 (by decide) (fun c20 => ?_) (fun c20 => ?_)
      · replace h := h.1 c20
        refine lv_aload_n hx hb dX12_at_111 rfl (lv_at hl 0 rfl) ?_
        refine xgI E hw (c1 := 12) rfl ky_14_100 fo_12_24 qf_12_212 dX12_at_112 ?_
        exact hret (zI z 14 24) z H locs 115 ls hw rfl h dX12_at_115
      · replace h := h.2 c20
        refine lv_aload_n hx hb dX12_at_104 rfl (lv_at hl 0 rfl) ?_
        refine xgI E hw (c1 := 12) rfl ky_14_100 fo_12_23 qf_12_209 dX12_at_105 ?_
        refine lv_goto (tgt := 115) hx hb dX12_at_108 (by decide) ?_
        exact hret (zI z 14 23) z H locs 115 ls hw rfl h dX12_at_115
    · replace h := h.2 c19
      refine lv_aload_n hx hb dX12_at_91 rfl (lv_at hl 0 rfl) ?_
      refine xgI E hw (c1 := 12) rfl ky_14_100 fo_12_22 qf_12_206 dX12_at_92 ?_
      refine lv_goto (tgt := 115) hx hb dX12_at_95 (by decide) ?_
      exact hret (zI z 14 22) z H locs 115 ls hw rfl h dX12_at_115
  have b62 : ∀ (n : Nat) (z : ZS) (v4 : Int32) (v5 : Int32) (v6 : Int32), ∀ (H : Heap) (locs : List Loc), OW D ad cs A s.heap z H locs → ∀ ls : Array Slot, lv_has ls 7 [(0, .ref (ad 14 100)), (4, .int v4), (5, .int v5), (6, .int v6)] → V_X12_at_62 post n z v4 v5 v6 → W p l e (rmq 4 0 0) s m args below meth c H locs 0 0 Q (F0 m 62 ls []) := by
    intro n
    induction n with
    | zero =>
      intro z v4 v5 v6 H locs hw ls hl h
      exact h.elim
    | succ n62x ih62 =>
      intro z v4 v5 v6 H locs hw ls hl h
      unfold V_X12_at_62 at h
      refine lv_iload hx hb dX12_at_62 (lv_at hl 3 rfl) ?_
      refine lv_iload hx hb dX12_at_64 (lv_at hl 1 rfl) ?_
      refine lv_icmp_ge (tgt := 86) hx hb dX12_at_66 (by decide) (fun c18 => ?_) (fun c18 => ?_)
      · replace h := h.1 c18
        exact b86 z v5 H locs hw ls (lv_sub hl [0, 2] rfl) h
      · replace h := h.2 c18
        refine lv_aload_n hx hb dX12_at_69 rfl (lv_at hl 0 rfl) ?_
        have hq := h
        clear h
        refine xcVI (As := []) (rest := []) E hw hA (c_X12_hasLanded l D ad cs sk z _ hq) kc_12_249 yo_X12_hasLanded ⟨Nat.le_of_ble_eq_true rfl, Nat.le_of_ble_eq_true rfl⟩ (xrc E hw ky_14_100 rfl) rfl hl.1 rfl (Nat.le_of_ble_eq_true rfl) dX12_at_70 ⟨Nat.le_of_ble_eq_true rfl, Nat.le_of_ble_eq_true rfl⟩ (fun r22 z21 H locs h hw => ?_)
        refine lv_if_ne (tgt := 86) hx hb dX12_at_73 (by decide) (fun c23 => ?_) (fun c23 => ?_)
        · replace h := h.1 c23
          exact b86 z21 v5 H locs hw ls (lv_sub hl [0, 2] rfl) h
        · replace h := h.2 c23
          refine lv_aload_n hx hb dX12_at_76 rfl (lv_at hl 0 rfl) ?_
          have hq := h
          clear h
          refine xcVV (As := []) (rest := []) E hw hA (c_X12_goesSecond l D ad cs sk z21 _ hq) kc_12_252 yo_X12_goesSecond ⟨Nat.le_of_ble_eq_true rfl, Nat.le_of_ble_eq_true rfl⟩ (xrc E hw ky_14_100 rfl) rfl hl.1 rfl (Nat.le_of_ble_eq_true rfl) dX12_at_77 ⟨Nat.le_of_ble_eq_true rfl, Nat.le_of_ble_eq_true rfl⟩ (fun z24 H locs h hw => ?_)
          obtain ⟨t26, et26⟩ : ∃ y : Int32, y = v6 + (1 : Int32) := ⟨_, rfl⟩
          replace h := h t26 et26
          refine lv_iinc (v := t26) (lv' := [(6, .int t26), (0, .ref (ad 14 100)), (4, .int v4), (5, .int v5)]) hx hb dX12_at_80 hl (k := 3) rfl (by rw [et26]; rfl) (by decide) rfl (fun ls hl => ?_)
          refine lv_goto (tgt := 62) hx hb dX12_at_83 (by decide) ?_
          exact ih62 z24 v4 v5 t26 H locs hw ls (lv_sub hl [1, 2, 3, 0] rfl) h
  have b00 : ∀ (H : Heap) (locs : List Loc), OW D ad cs A s.heap z H locs → W p l e (rmq 4 0 0) s m args below meth c H locs 0 0 Q (F0 m 0 ls []) := by
    intro H locs hw
    refine lv_aload_n hx hb dX12_at_0 rfl (lv_at hl 0 rfl) ?_
    refine lv_iload_n hx hb dX12_at_1 rfl (lv_at hl 1 rfl) ?_
    have hq := h
    clear h
    refine xcVI (As := [.int p1]) (rest := []) E hw hA (c_X12_isFaller l D ad cs sk z p1 _ hq) kc_12_149 yo_X12_isFaller ⟨Nat.le_of_ble_eq_true rfl, Nat.le_of_ble_eq_true rfl⟩ (xrc E hw ky_14_100 rfl) rfl hl.1 rfl (Nat.le_of_ble_eq_true rfl) dX12_at_2 ⟨Nat.le_of_ble_eq_true rfl, Nat.le_of_ble_eq_true rfl⟩ (fun r2 z1 H locs h hw => ?_)
    refine lv_if_eq (tgt := 48) hx hb dX12_at_5 (by decide) (fun c3 => ?_) (fun c3 => ?_)
    · replace h := h.1 c3
      refine lv_ldc (v := -1000000001) hx hb hown (h0 _ qk_12_139) dX12_at_48 ?_
      exact hret (-1000000001 : Int32) z1 H locs 50 ls hw rfl h dX12_at_50
    · replace h := h.2 c3
      refine lv_iload_n hx hb dX12_at_8 rfl (lv_at hl 2 rfl) ?_
      have hq := h
      clear h
      refine xcSI (As := [.int p2]) (rest := []) E hw hA (c_X12_isEdge l D ad cs sk z1 p2 _ hq) kc_12_184 yo_X12_isEdge ⟨Nat.le_of_ble_eq_true rfl, Nat.le_of_ble_eq_true rfl⟩ rfl hl.1 rfl (Nat.le_of_ble_eq_true rfl) dX12_at_9 ⟨Nat.le_of_ble_eq_true rfl, Nat.le_of_ble_eq_true rfl⟩ (fun r5 z4 H locs h hw => ?_)
      refine lv_if_eq (tgt := 48) hx hb dX12_at_12 (by decide) (fun c6 => ?_) (fun c6 => ?_)
      · replace h := h.1 c6
        refine lv_ldc (v := -1000000001) hx hb hown (h0 _ qk_12_139) dX12_at_48 ?_
        exact hret (-1000000001 : Int32) z4 H locs 50 ls hw rfl h dX12_at_50
      · replace h := h.2 c6
        refine lv_iload_n hx hb dX12_at_15 rfl (lv_at hl 3 rfl) ?_
        have hq := h
        clear h
        refine xcSI (As := [.int p3]) (rest := []) E hw hA (c_X12_isEdge l D ad cs sk z4 p3 _ hq) kc_12_184 yo_X12_isEdge ⟨Nat.le_of_ble_eq_true rfl, Nat.le_of_ble_eq_true rfl⟩ rfl hl.1 rfl (Nat.le_of_ble_eq_true rfl) dX12_at_16 ⟨Nat.le_of_ble_eq_true rfl, Nat.le_of_ble_eq_true rfl⟩ (fun r8 z7 H locs h hw => ?_)
        refine lv_if_eq (tgt := 48) hx hb dX12_at_19 (by decide) (fun c9 => ?_) (fun c9 => ?_)
        · replace h := h.1 c9
          refine lv_ldc (v := -1000000001) hx hb hown (h0 _ qk_12_139) dX12_at_48 ?_
          exact hret (-1000000001 : Int32) z7 H locs 50 ls hw rfl h dX12_at_50
        · replace h := h.2 c9
          refine lv_iload hx hb dX12_at_22 (lv_at hl 4 rfl) ?_
          refine lv_i2l hx hb dX12_at_24 rfl ?_
          refine lv_lconst (v := 0) hx hb dX12_at_25 (by decide) ?_
          refine lv_ldc2 (v := 400) hx hb hown (h0 _ ql_12_277) dX12_at_26 ?_
          have hq := h
          clear h
          refine xcSI (As := [.long (Int32.toInt64 p4), .long (0 : Int64), .long (400 : Int64)]) (rest := []) E hw hA (c_X12_isIn l D ad cs sk z7 (Int32.toInt64 p4) (0 : Int64) (400 : Int64) _ hq) kc_12_56 yo_X12_isIn ⟨Nat.le_of_ble_eq_true rfl, Nat.le_of_ble_eq_true rfl⟩ rfl hl.1 rfl (Nat.le_of_ble_eq_true rfl) dX12_at_29 ⟨Nat.le_of_ble_eq_true rfl, Nat.le_of_ble_eq_true rfl⟩ (fun r11 z10 H locs h hw => ?_)
          refine lv_if_eq (tgt := 48) hx hb dX12_at_32 (by decide) (fun c12 => ?_) (fun c12 => ?_)
          · replace h := h.1 c12
            refine lv_ldc (v := -1000000001) hx hb hown (h0 _ qk_12_139) dX12_at_48 ?_
            exact hret (-1000000001 : Int32) z10 H locs 50 ls hw rfl h dX12_at_50
          · replace h := h.2 c12
            refine lv_iload hx hb dX12_at_35 (lv_at hl 5 rfl) ?_
            refine lv_i2l hx hb dX12_at_37 rfl ?_
            refine lv_lconst (v := 0) hx hb dX12_at_38 (by decide) ?_
            refine lv_ldc2 (v := 2) hx hb hown (h0 _ ql_12_147) dX12_at_39 ?_
            have hq := h
            clear h
            refine xcSI (As := [.long (Int32.toInt64 p5), .long (0 : Int64), .long (2 : Int64)]) (rest := []) E hw hA (c_X12_isIn l D ad cs sk z10 (Int32.toInt64 p5) (0 : Int64) (2 : Int64) _ hq) kc_12_56 yo_X12_isIn ⟨Nat.le_of_ble_eq_true rfl, Nat.le_of_ble_eq_true rfl⟩ rfl hl.1 rfl (Nat.le_of_ble_eq_true rfl) dX12_at_42 ⟨Nat.le_of_ble_eq_true rfl, Nat.le_of_ble_eq_true rfl⟩ (fun r14 z13 H locs h hw => ?_)
            refine lv_if_ne (tgt := 51) hx hb dX12_at_45 (by decide) (fun c15 => ?_) (fun c15 => ?_)
            · replace h := h.1 c15
              refine lv_aload_n hx hb dX12_at_51 rfl (lv_at hl 0 rfl) ?_
              refine lv_iload_n hx hb dX12_at_52 rfl (lv_at hl 1 rfl) ?_
              refine lv_iload_n hx hb dX12_at_53 rfl (lv_at hl 2 rfl) ?_
              refine lv_iload_n hx hb dX12_at_54 rfl (lv_at hl 3 rfl) ?_
              refine lv_iconst (v := 1) hx hb dX12_at_55 (by decide) ?_
              have hq := h
              clear h
              refine xcVV (As := [.int p1, .int p2, .int p3, .int (1 : Int32)]) (rest := []) E hw hA (c_X12_leavesOne l D ad cs sk z13 p1 p2 p3 (1 : Int32) _ hq) kc_12_255 yo_X12_leavesOne ⟨Nat.le_of_ble_eq_true rfl, Nat.le_of_ble_eq_true rfl⟩ (xrc E hw ky_14_100 rfl) rfl hl.1 rfl (Nat.le_of_ble_eq_true rfl) dX12_at_56 ⟨Nat.le_of_ble_eq_true rfl, Nat.le_of_ble_eq_true rfl⟩ (fun z16 H locs h hw => ?_)
              refine lv_iconst (v := 0) hx hb dX12_at_59 (by decide) ?_
              refine lv_istore (lv' := [(6, .int (0 : Int32)), (0, .ref (ad 14 100)), (1, .int p1), (2, .int p2), (3, .int p3), (4, .int p4), (5, .int p5)]) hx hb dX12_at_60 hl (by decide) rfl (fun ls hl => ?_)
              obtain ⟨n27, h⟩ := h
              exact b62 n27 z16 p4 p5 (0 : Int32) H locs hw ls (lv_sub hl [1, 5, 6, 0] rfl) h
            · replace h := h.2 c15
              refine lv_ldc (v := -1000000001) hx hb hown (h0 _ qk_12_139) dX12_at_48 ?_
              exact hret (-1000000001 : Int32) z13 H locs 50 ls hw rfl h dX12_at_50
  exact b00 s.heap [] hw
def V_X12_mean (z : ZS) (p1 : Int32) (p2 : Int32) (p3 : Int32) (p4 : Int32) (post : Int32 → ZS → Prop) : Prop := V_X12_isFaller z p1 (fun r2 z1 => ((r2 = 0 → post (-1000000001 : Int32) z1) ∧ (¬ r2 = 0 → V_X12_isEdge z1 p2 (fun r5 z4 => ((r5 = 0 → post (-1000000001 : Int32) z4) ∧ (¬ r5 = 0 → V_X12_isEdge z4 p3 (fun r8 z7 => ((¬ r8 = 0 → V_X12_leavesOne z7 p1 p2 p3 (1 : Int32) (fun z10 => (∀ z12 : ZS, z12 = wI z10 14 21 (0 : Int32) → V_X12_lands z12 (fun z13 => ((0 ≤ (zI z13 14 29) → (∀ t16 : Int32, t16 = ((zI z13 14 25) - (zI z13 14 29)) → ((p4 = 0 → (¬ t16 = 0 ∧ post (((zI z13 14 22) - (zI z13 14 27)) / t16) z13)) ∧ (¬ p4 = 0 → (¬ t16 = 0 ∧ post (((zI z13 14 23) - (zI z13 14 28)) / t16) z13))))) ∧ (¬ 0 ≤ (zI z13 14 29) → post (0 : Int32) z13)))))) ∧ (r8 = 0 → post (-1000000001 : Int32) z7)))))))))
set_option maxHeartbeats 4000000 in
set_option maxRecDepth 100000 in
theorem c_X12_mean (l : Launch) (D : va_G) (ad : Nat → Nat → Nat) (cs : Nat → ClassId) (sk : (Nat → Nat) × (Nat → Nat)) (z : ZS) (p1 : Int32) (p2 : Int32) (p3 : Int32) (p4 : Int32) (post : Int32 → ZS → Prop) (h : V_X12_mean z p1 p2 p3 p4 post) : MI l D ad cs sk yX12_mean cX12_mean 6 .int (rmq 5 0 0) [.ref (ad 14 100), .int p1, .int p2, .int p3, .int p4] z post := by
  refine MI.of RX12 rfl (by decide) (Nat.le_of_ble_eq_true rfl) ?_
  intro p e s m args below meth c A Q E hw hA hret ls hl
  have hx := E.1.1
  have hb := E.1.2.1
  have hml := E.1.2.2.1
  have hown := E.1.2.2.2.1
  have h0 := E.1.2.2.2.2
  have hl : lv_has ls 6 [(0, .ref (ad 14 100)), (1, .int p1), (2, .int p2), (3, .int p3), (4, .int p4)] := hl
  unfold V_X12_mean at h
  have b00 : ∀ (H : Heap) (locs : List Loc), OW D ad cs A s.heap z H locs → W p l e (rmq 5 0 0) s m args below meth c H locs 0 0 Q (F0 m 0 ls []) := by
    intro H locs hw
    refine lv_aload_n hx hb dX12_mean_0 rfl (lv_at hl 0 rfl) ?_
    refine lv_iload_n hx hb dX12_mean_1 rfl (lv_at hl 1 rfl) ?_
    have hq := h
    clear h
    refine xcVI (As := [.int p1]) (rest := []) E hw hA (c_X12_isFaller l D ad cs sk z p1 _ hq) kc_12_149 yo_X12_isFaller ⟨Nat.le_of_ble_eq_true rfl, Nat.le_of_ble_eq_true rfl⟩ (xrc E hw ky_14_100 rfl) rfl hl.1 rfl (Nat.le_of_ble_eq_true rfl) dX12_mean_2 ⟨Nat.le_of_ble_eq_true rfl, Nat.le_of_ble_eq_true rfl⟩ (fun r2 z1 H locs h hw => ?_)
    refine lv_if_eq (tgt := 22) hx hb dX12_mean_5 (by decide) (fun c3 => ?_) (fun c3 => ?_)
    · replace h := h.1 c3
      refine lv_ldc (v := -1000000001) hx hb hown (h0 _ qk_12_139) dX12_mean_22 ?_
      exact hret (-1000000001 : Int32) z1 H locs 24 ls hw rfl h dX12_mean_24
    · replace h := h.2 c3
      refine lv_iload_n hx hb dX12_mean_8 rfl (lv_at hl 2 rfl) ?_
      have hq := h
      clear h
      refine xcSI (As := [.int p2]) (rest := []) E hw hA (c_X12_isEdge l D ad cs sk z1 p2 _ hq) kc_12_184 yo_X12_isEdge ⟨Nat.le_of_ble_eq_true rfl, Nat.le_of_ble_eq_true rfl⟩ rfl hl.1 rfl (Nat.le_of_ble_eq_true rfl) dX12_mean_9 ⟨Nat.le_of_ble_eq_true rfl, Nat.le_of_ble_eq_true rfl⟩ (fun r5 z4 H locs h hw => ?_)
      refine lv_if_eq (tgt := 22) hx hb dX12_mean_12 (by decide) (fun c6 => ?_) (fun c6 => ?_)
      · replace h := h.1 c6
        refine lv_ldc (v := -1000000001) hx hb hown (h0 _ qk_12_139) dX12_mean_22 ?_
        exact hret (-1000000001 : Int32) z4 H locs 24 ls hw rfl h dX12_mean_24
      · replace h := h.2 c6
        refine lv_iload_n hx hb dX12_mean_15 rfl (lv_at hl 3 rfl) ?_
        have hq := h
        clear h
        refine xcSI (As := [.int p3]) (rest := []) E hw hA (c_X12_isEdge l D ad cs sk z4 p3 _ hq) kc_12_184 yo_X12_isEdge ⟨Nat.le_of_ble_eq_true rfl, Nat.le_of_ble_eq_true rfl⟩ rfl hl.1 rfl (Nat.le_of_ble_eq_true rfl) dX12_mean_16 ⟨Nat.le_of_ble_eq_true rfl, Nat.le_of_ble_eq_true rfl⟩ (fun r8 z7 H locs h hw => ?_)
        refine lv_if_ne (tgt := 25) hx hb dX12_mean_19 (by decide) (fun c9 => ?_) (fun c9 => ?_)
        · replace h := h.1 c9
          refine lv_aload_n hx hb dX12_mean_25 rfl (lv_at hl 0 rfl) ?_
          refine lv_iload_n hx hb dX12_mean_26 rfl (lv_at hl 1 rfl) ?_
          refine lv_iload_n hx hb dX12_mean_27 rfl (lv_at hl 2 rfl) ?_
          refine lv_iload_n hx hb dX12_mean_28 rfl (lv_at hl 3 rfl) ?_
          refine lv_iconst (v := 1) hx hb dX12_mean_29 (by decide) ?_
          have hq := h
          clear h
          refine xcVV (As := [.int p1, .int p2, .int p3, .int (1 : Int32)]) (rest := []) E hw hA (c_X12_leavesOne l D ad cs sk z7 p1 p2 p3 (1 : Int32) _ hq) kc_12_255 yo_X12_leavesOne ⟨Nat.le_of_ble_eq_true rfl, Nat.le_of_ble_eq_true rfl⟩ (xrc E hw ky_14_100 rfl) rfl hl.1 rfl (Nat.le_of_ble_eq_true rfl) dX12_mean_30 ⟨Nat.le_of_ble_eq_true rfl, Nat.le_of_ble_eq_true rfl⟩ (fun z10 H locs h hw => ?_)
          refine lv_aload_n hx hb dX12_mean_33 rfl (lv_at hl 0 rfl) ?_
          refine lv_iconst (v := 0) hx hb dX12_mean_34 (by decide) ?_
          refine xpI E hw (c1 := 12) rfl ky_14_100 fp_12_21 rfl rfl qf_12_203 dX12_mean_35 (fun z12 ez12 H locs hw => ?_)
          replace h := h z12 ez12
          refine lv_aload_n hx hb dX12_mean_38 rfl (lv_at hl 0 rfl) ?_
          have hq := h
          clear h
          refine xcVV (As := []) (rest := []) E hw hA (c_X12_lands l D ad cs sk z12 _ hq) kc_12_259 yo_X12_lands ⟨Nat.le_of_ble_eq_true rfl, Nat.le_of_ble_eq_true rfl⟩ (xrc E hw ky_14_100 rfl) rfl hl.1 rfl (Nat.le_of_ble_eq_true rfl) dX12_mean_39 ⟨Nat.le_of_ble_eq_true rfl, Nat.le_of_ble_eq_true rfl⟩ (fun z13 H locs h hw => ?_)
          refine lv_aload_n hx hb dX12_mean_42 rfl (lv_at hl 0 rfl) ?_
          refine xgI E hw (c1 := 12) rfl ky_14_100 fo_12_29 qf_12_221 dX12_mean_43 ?_
          refine lv_if_ge (tgt := 51) hx hb dX12_mean_46 (by decide) (fun c15 => ?_) (fun c15 => ?_)
          · replace h := h.1 c15
            refine lv_aload_n hx hb dX12_mean_51 rfl (lv_at hl 0 rfl) ?_
            refine xgI E hw (c1 := 12) rfl ky_14_100 fo_12_25 qf_12_215 dX12_mean_52 ?_
            refine lv_aload_n hx hb dX12_mean_55 rfl (lv_at hl 0 rfl) ?_
            refine xgI E hw (c1 := 12) rfl ky_14_100 fo_12_29 qf_12_221 dX12_mean_56 ?_
            refine lv_isub hx hb dX12_mean_59 ?_
            refine lv_topi (fun t16 et16 => ?_)
            replace h := h t16 et16
            refine lv_istore (lv' := [(5, .int t16), (0, .ref (ad 14 100)), (1, .int p1), (2, .int p2), (3, .int p3), (4, .int p4)]) hx hb dX12_mean_60 hl (by decide) rfl (fun ls hl => ?_)
            refine lv_iload hx hb dX12_mean_62 (lv_at hl 5 rfl) ?_
            refine lv_if_eq (tgt := 82) hx hb dX12_mean_64 (by decide) (fun c17 => ?_) (fun c17 => ?_)
            · replace h := h.1 c17
              refine lv_aload_n hx hb dX12_mean_82 rfl (lv_at hl 1 rfl) ?_
              refine xgI E hw (c1 := 12) rfl ky_14_100 fo_12_22 qf_12_206 dX12_mean_83 ?_
              refine lv_aload_n hx hb dX12_mean_86 rfl (lv_at hl 1 rfl) ?_
              refine xgI E hw (c1 := 12) rfl ky_14_100 fo_12_27 qf_12_237 dX12_mean_87 ?_
              refine lv_isub hx hb dX12_mean_90 ?_
              refine lv_iload hx hb dX12_mean_91 (lv_at hl 0 rfl) ?_
              obtain ⟨hd, h⟩ := h
              refine lv_idiv hx hb dX12_mean_93 hd ?_
              exact hret (((zI z13 14 22) - (zI z13 14 27)) / t16) z13 H locs 94 ls hw rfl h dX12_mean_94
            · replace h := h.2 c17
              refine lv_aload_n hx hb dX12_mean_67 rfl (lv_at hl 1 rfl) ?_
              refine xgI E hw (c1 := 12) rfl ky_14_100 fo_12_23 qf_12_209 dX12_mean_68 ?_
              refine lv_aload_n hx hb dX12_mean_71 rfl (lv_at hl 1 rfl) ?_
              refine xgI E hw (c1 := 12) rfl ky_14_100 fo_12_28 qf_12_240 dX12_mean_72 ?_
              refine lv_isub hx hb dX12_mean_75 ?_
              refine lv_iload hx hb dX12_mean_76 (lv_at hl 0 rfl) ?_
              obtain ⟨hd, h⟩ := h
              refine lv_idiv hx hb dX12_mean_78 hd ?_
              refine lv_goto (tgt := 94) hx hb dX12_mean_79 (by decide) ?_
              exact hret (((zI z13 14 23) - (zI z13 14 28)) / t16) z13 H locs 94 ls hw rfl h dX12_mean_94
          · replace h := h.2 c15
            refine lv_iconst (v := 0) hx hb dX12_mean_49 (by decide) ?_
            exact hret (0 : Int32) z13 H locs 50 ls hw rfl h dX12_mean_50
        · replace h := h.2 c9
          refine lv_ldc (v := -1000000001) hx hb hown (h0 _ qk_12_139) dX12_mean_22 ?_
          exact hret (-1000000001 : Int32) z7 H locs 24 ls hw rfl h dX12_mean_24
  exact b00 s.heap [] hw
def V_X12_exit_98 (post : Int32 → ZS → Prop) (rr37 : ZS → Int32 → Int32 → Int32 → Int32 → Int32 → Int32 → Prop) (rr50 : ZS → Int32 → Int32 → Int32 → Int32 → Int32 → Int32 → Int32 → Prop) (z : ZS) (v1 : Int32) (v2 : Int32) (v3 : Int32) (v4 : Int32) (v5 : Int32) (v6 : Int32) (v7 : Int32) : Prop := (∀ t17 : Int32, t17 = v7 + (1000 : Int32) → rr50 z v1 v2 v3 v4 v5 v6 t17)
def V_X12_exit_85 (post : Int32 → ZS → Prop) (rr37 : ZS → Int32 → Int32 → Int32 → Int32 → Int32 → Int32 → Prop) (rr50 : ZS → Int32 → Int32 → Int32 → Int32 → Int32 → Int32 → Int32 → Prop) (z : ZS) (v1 : Int32) (v2 : Int32) (v6 : Int32) (v7 : Int32) : Prop := V_X12_off z (fun r16 z15 => V_X12_exit_98 post rr37 rr50 z15 v1 v2 v6 v7 r16 v6 v7)
def V_X12_exit_50 (post : Int32 → ZS → Prop) (rr37 : ZS → Int32 → Int32 → Int32 → Int32 → Int32 → Int32 → Prop) : Nat → ZS → Int32 → Int32 → Int32 → Int32 → Int32 → Int32 → Int32 → Prop
  | 0, _, _, _, _, _, _, _, _ => False
  | (n + 1), z, v1, v2, v3, v4, v5, v6, v7 => (((10000 : Int32) < v7 → (∀ t11 : Int32, t11 = v6 + (1000 : Int32) → rr37 z v1 v2 v3 v4 v5 t11)) ∧ (¬ (10000 : Int32) < v7 → V_X12_falls z v1 v6 v7 (1 : Int32) (fun z12 => ((v5 < 0 → V_X12_exit_85 post rr37 (V_X12_exit_50 post rr37 n) z12 v1 v2 v6 v7) ∧ (¬ v5 < 0 → V_X12_off z12 (fun r19 z18 => ((r19 < v5 → V_X12_exit_85 post rr37 (V_X12_exit_50 post rr37 n) z18 v1 v2 v6 v7) ∧ (¬ r19 < v5 → V_X12_exit_98 post rr37 (V_X12_exit_50 post rr37 n) z18 v1 v2 v3 v4 v5 v6 v7))))))))
def V_X12_exit_37 (post : Int32 → ZS → Prop) : Nat → ZS → Int32 → Int32 → Int32 → Int32 → Int32 → Int32 → Prop
  | 0, _, _, _, _, _, _, _ => False
  | (n + 1), z, v1, v2, v3, v4, v5, v6 => (((10000 : Int32) < v6 → ((¬ v2 = 0 → ((¬ v2 = (1 : Int32) → post v5 z) ∧ (v2 = (1 : Int32) → post v4 z))) ∧ (v2 = 0 → post v3 z))) ∧ (¬ (10000 : Int32) < v6 → (∃ n21 : Nat, V_X12_exit_50 post (V_X12_exit_37 post n) n21 z v1 v2 v3 v4 v5 v6 (-10000 : Int32))))
def V_X12_exit (z : ZS) (p1 : Int32) (p2 : Int32) (post : Int32 → ZS → Prop) : Prop := V_X12_isFaller z p1 (fun r2 z1 => ((r2 = 0 → post (-1000000001 : Int32) z1) ∧ (¬ r2 = 0 → V_X12_isIn z1 (Int32.toInt64 p2) (0 : Int64) (2 : Int64) (fun r5 z4 => ((¬ r5 = 0 → (∃ n22 : Nat, V_X12_exit_37 post n22 z4 p1 p2 (0 : Int32) (0 : Int32) (-4 : Int32) (-10000 : Int32))) ∧ (r5 = 0 → post (-1000000001 : Int32) z4))))))
set_option maxHeartbeats 4000000 in
set_option maxRecDepth 100000 in
theorem c_X12_exit (l : Launch) (D : va_G) (ad : Nat → Nat → Nat) (cs : Nat → ClassId) (sk : (Nat → Nat) × (Nat → Nat)) (z : ZS) (p1 : Int32) (p2 : Int32) (post : Int32 → ZS → Prop) (h : V_X12_exit z p1 p2 post) : MI l D ad cs sk yX12_exit cX12_exit 8 .int (rmq 6 0 0) [.ref (ad 14 100), .int p1, .int p2] z post := by
  refine MI.of RX12 rfl (by decide) (Nat.le_of_ble_eq_true rfl) ?_
  intro p e s m args below meth c A Q E hw hA hret ls hl
  have hx := E.1.1
  have hb := E.1.2.1
  have hml := E.1.2.2.1
  have hown := E.1.2.2.2.1
  have h0 := E.1.2.2.2.2
  have hl : lv_has ls 8 [(0, .ref (ad 14 100)), (1, .int p1), (2, .int p2)] := hl
  unfold V_X12_exit at h
  have b37 : ∀ (n : Nat) (z : ZS) (v1 : Int32) (v2 : Int32) (v3 : Int32) (v4 : Int32) (v5 : Int32) (v6 : Int32), ∀ (H : Heap) (locs : List Loc), OW D ad cs A s.heap z H locs → ∀ ls : Array Slot, lv_has ls 8 [(0, .ref (ad 14 100)), (1, .int v1), (2, .int v2), (3, .int v3), (4, .int v4), (5, .int v5), (6, .int v6)] → V_X12_exit_37 post n z v1 v2 v3 v4 v5 v6 → W p l e (rmq 6 0 0) s m args below meth c H locs 0 0 Q (F0 m 37 ls []) := by
    intro n
    induction n with
    | zero =>
      intro z v1 v2 v3 v4 v5 v6 H locs hw ls hl h
      exact h.elim
    | succ n37x ih37 =>
      have b50 : ∀ (n : Nat) (z : ZS) (v1 : Int32) (v2 : Int32) (v3 : Int32) (v4 : Int32) (v5 : Int32) (v6 : Int32) (v7 : Int32), ∀ (H : Heap) (locs : List Loc), OW D ad cs A s.heap z H locs → ∀ ls : Array Slot, lv_has ls 8 [(0, .ref (ad 14 100)), (1, .int v1), (2, .int v2), (3, .int v3), (4, .int v4), (5, .int v5), (6, .int v6), (7, .int v7)] → V_X12_exit_50 post (V_X12_exit_37 post n37x) n z v1 v2 v3 v4 v5 v6 v7 → W p l e (rmq 6 0 0) s m args below meth c H locs 0 0 Q (F0 m 50 ls []) := by
        intro n
        induction n with
        | zero =>
          intro z v1 v2 v3 v4 v5 v6 v7 H locs hw ls hl h
          exact h.elim
        | succ n50x ih50 =>
          have b98 : ∀ (z : ZS) (v1 : Int32) (v2 : Int32) (v3 : Int32) (v4 : Int32) (v5 : Int32) (v6 : Int32) (v7 : Int32), ∀ (H : Heap) (locs : List Loc), OW D ad cs A s.heap z H locs → ∀ ls : Array Slot, lv_has ls 8 [(0, .ref (ad 14 100)), (1, .int v1), (2, .int v2), (3, .int v3), (4, .int v4), (5, .int v5), (6, .int v6), (7, .int v7)] → V_X12_exit_98 post (V_X12_exit_37 post n37x) (V_X12_exit_50 post (V_X12_exit_37 post n37x) n50x) z v1 v2 v3 v4 v5 v6 v7 → W p l e (rmq 6 0 0) s m args below meth c H locs 0 0 Q (F0 m 98 ls []) := by
            intro z v1 v2 v3 v4 v5 v6 v7 H locs hw ls hl h
            unfold V_X12_exit_98 at h
            obtain ⟨t17, et17⟩ : ∃ y : Int32, y = v7 + (1000 : Int32) := ⟨_, rfl⟩
            replace h := h t17 et17
            refine lv_iincW (v := t17) (lv' := [(7, .int t17), (0, .ref (ad 14 100)), (1, .int v1), (2, .int v2), (3, .int v3), (4, .int v4), (5, .int v5), (6, .int v6)]) hx hb dX12_exit_98 hl (k := 7) rfl (by rw [et17]; rfl) (by decide) rfl (fun ls hl => ?_)
            refine lv_goto (tgt := 50) hx hb dX12_exit_104 (by decide) ?_
            exact ih50 z v1 v2 v3 v4 v5 v6 t17 H locs hw ls (lv_sub hl [1, 2, 3, 4, 5, 6, 7, 0] rfl) h
          have b85 : ∀ (z : ZS) (v1 : Int32) (v2 : Int32) (v6 : Int32) (v7 : Int32), ∀ (H : Heap) (locs : List Loc), OW D ad cs A s.heap z H locs → ∀ ls : Array Slot, lv_has ls 8 [(0, .ref (ad 14 100)), (1, .int v1), (2, .int v2), (6, .int v6), (7, .int v7)] → V_X12_exit_85 post (V_X12_exit_37 post n37x) (V_X12_exit_50 post (V_X12_exit_37 post n37x) n50x) z v1 v2 v6 v7 → W p l e (rmq 6 0 0) s m args below meth c H locs 0 0 Q (F0 m 85 ls []) := by
            intro z v1 v2 v6 v7 H locs hw ls hl h
            unfold V_X12_exit_85 at h
            refine lv_iload hx hb dX12_exit_85 (lv_at hl 3 rfl) ?_
            refine lv_istore_n (lv' := [(3, .int v6), (0, .ref (ad 14 100)), (1, .int v1), (2, .int v2), (6, .int v6), (7, .int v7)]) hx hb dX12_exit_87 rfl hl (by decide) rfl (fun ls hl => ?_)
            refine lv_iload hx hb dX12_exit_88 (lv_at hl 5 rfl) ?_
            refine lv_istore (lv' := [(4, .int v7), (3, .int v6), (0, .ref (ad 14 100)), (1, .int v1), (2, .int v2), (6, .int v6), (7, .int v7)]) hx hb dX12_exit_90 hl (by decide) rfl (fun ls hl => ?_)
            refine lv_aload_n hx hb dX12_exit_92 rfl (lv_at hl 2 rfl) ?_
            have hq := h
            clear h
            refine xcVI (As := []) (rest := []) E hw hA (c_X12_off l D ad cs sk z _ hq) kc_12_262 yo_X12_off ⟨Nat.le_of_ble_eq_true rfl, Nat.le_of_ble_eq_true rfl⟩ (xrc E hw ky_14_100 rfl) rfl hl.1 rfl (Nat.le_of_ble_eq_true rfl) dX12_exit_93 ⟨Nat.le_of_ble_eq_true rfl, Nat.le_of_ble_eq_true rfl⟩ (fun r16 z15 H locs h hw => ?_)
            refine lv_istore (lv' := [(5, .int r16), (4, .int v7), (3, .int v6), (0, .ref (ad 14 100)), (1, .int v1), (2, .int v2), (6, .int v6), (7, .int v7)]) hx hb dX12_exit_96 hl (by decide) rfl (fun ls hl => ?_)
            exact b98 z15 v1 v2 v6 v7 r16 v6 v7 H locs hw ls (lv_sub hl [3, 4, 5, 2, 1, 0, 6, 7] rfl) h
          intro z v1 v2 v3 v4 v5 v6 v7 H locs hw ls hl h
          unfold V_X12_exit_50 at h
          refine lv_iload hx hb dX12_exit_50 (lv_at hl 7 rfl) ?_
          refine lv_sipush (v := 10000) hx hb dX12_exit_52 (by decide) ?_
          refine lv_icmp_gt (tgt := 107) hx hb dX12_exit_55 (by decide) (fun c10 => ?_) (fun c10 => ?_)
          · replace h := h.1 c10
            obtain ⟨t11, et11⟩ : ∃ y : Int32, y = v6 + (1000 : Int32) := ⟨_, rfl⟩
            replace h := h t11 et11
            refine lv_iincW (v := t11) (lv' := [(6, .int t11), (0, .ref (ad 14 100)), (1, .int v1), (2, .int v2), (3, .int v3), (4, .int v4), (5, .int v5), (7, .int v7)]) hx hb dX12_exit_107 hl (k := 6) rfl (by rw [et11]; rfl) (by decide) rfl (fun ls hl => ?_)
            refine lv_goto (tgt := 37) hx hb dX12_exit_113 (by decide) ?_
            exact ih37 z v1 v2 v3 v4 v5 t11 H locs hw ls (lv_sub hl [1, 2, 3, 4, 5, 6, 0] rfl) h
          · replace h := h.2 c10
            refine lv_aload_n hx hb dX12_exit_58 rfl (lv_at hl 0 rfl) ?_
            refine lv_iload_n hx hb dX12_exit_59 rfl (lv_at hl 1 rfl) ?_
            refine lv_iload hx hb dX12_exit_60 (lv_at hl 6 rfl) ?_
            refine lv_iload hx hb dX12_exit_62 (lv_at hl 7 rfl) ?_
            refine lv_iconst (v := 1) hx hb dX12_exit_64 (by decide) ?_
            have hq := h
            clear h
            refine xcVV (As := [.int v1, .int v6, .int v7, .int (1 : Int32)]) (rest := []) E hw hA (c_X12_falls l D ad cs sk z v1 v6 v7 (1 : Int32) _ hq) kc_12_267 yo_X12_falls ⟨Nat.le_of_ble_eq_true rfl, Nat.le_of_ble_eq_true rfl⟩ (xrc E hw ky_14_100 rfl) rfl hl.1 rfl (Nat.le_of_ble_eq_true rfl) dX12_exit_65 ⟨Nat.le_of_ble_eq_true rfl, Nat.le_of_ble_eq_true rfl⟩ (fun z12 H locs h hw => ?_)
            refine lv_iload hx hb dX12_exit_68 (lv_at hl 5 rfl) ?_
            refine lv_if_lt (tgt := 85) hx hb dX12_exit_70 (by decide) (fun c14 => ?_) (fun c14 => ?_)
            · replace h := h.1 c14
              exact b85 z12 v1 v2 v6 v7 H locs hw ls (lv_sub hl [0, 1, 2, 6, 7] rfl) h
            · replace h := h.2 c14
              refine lv_aload_n hx hb dX12_exit_73 rfl (lv_at hl 0 rfl) ?_
              have hq := h
              clear h
              refine xcVI (As := []) (rest := []) E hw hA (c_X12_off l D ad cs sk z12 _ hq) kc_12_262 yo_X12_off ⟨Nat.le_of_ble_eq_true rfl, Nat.le_of_ble_eq_true rfl⟩ (xrc E hw ky_14_100 rfl) rfl hl.1 rfl (Nat.le_of_ble_eq_true rfl) dX12_exit_74 ⟨Nat.le_of_ble_eq_true rfl, Nat.le_of_ble_eq_true rfl⟩ (fun r19 z18 H locs h hw => ?_)
              refine lv_iload hx hb dX12_exit_77 (lv_at hl 5 rfl) ?_
              refine lv_icmp_lt (tgt := 85) hx hb dX12_exit_79 (by decide) (fun c20 => ?_) (fun c20 => ?_)
              · replace h := h.1 c20
                exact b85 z18 v1 v2 v6 v7 H locs hw ls (lv_sub hl [0, 1, 2, 6, 7] rfl) h
              · replace h := h.2 c20
                refine lv_goto (tgt := 98) hx hb dX12_exit_82 (by decide) ?_
                exact b98 z18 v1 v2 v3 v4 v5 v6 v7 H locs hw ls (lv_sub hl [0, 1, 2, 3, 4, 5, 6, 7] rfl) h
      intro z v1 v2 v3 v4 v5 v6 H locs hw ls hl h
      unfold V_X12_exit_37 at h
      refine lv_iload hx hb dX12_exit_37 (lv_at hl 6 rfl) ?_
      refine lv_sipush (v := 10000) hx hb dX12_exit_39 (by decide) ?_
      refine lv_icmp_gt (tgt := 116) hx hb dX12_exit_42 (by decide) (fun c7 => ?_) (fun c7 => ?_)
      · replace h := h.1 c7
        refine lv_iload_n hx hb dX12_exit_116 rfl (lv_at hl 2 rfl) ?_
        refine lv_if_ne (tgt := 124) hx hb dX12_exit_117 (by decide) (fun c8 => ?_) (fun c8 => ?_)
        · replace h := h.1 c8
          refine lv_iload_n hx hb dX12_exit_124 rfl (lv_at hl 2 rfl) ?_
          refine lv_iconst (v := 1) hx hb dX12_exit_125 (by decide) ?_
          refine lv_icmp_ne (tgt := 134) hx hb dX12_exit_126 (by decide) (fun c9 => ?_) (fun c9 => ?_)
          · replace h := h.1 c9
            refine lv_iload hx hb dX12_exit_134 (lv_at hl 5 rfl) ?_
            exact hret v5 z H locs 136 ls hw rfl h dX12_exit_136
          · replace h := h.2 c9
            refine lv_iload hx hb dX12_exit_129 (lv_at hl 4 rfl) ?_
            refine lv_goto (tgt := 136) hx hb dX12_exit_131 (by decide) ?_
            exact hret v4 z H locs 136 ls hw rfl h dX12_exit_136
        · replace h := h.2 c8
          refine lv_iload_n hx hb dX12_exit_120 rfl (lv_at hl 3 rfl) ?_
          refine lv_goto (tgt := 136) hx hb dX12_exit_121 (by decide) ?_
          exact hret v3 z H locs 136 ls hw rfl h dX12_exit_136
      · replace h := h.2 c7
        refine lv_sipush (v := -10000) hx hb dX12_exit_45 (by decide) ?_
        refine lv_istore (lv' := [(7, .int (-10000 : Int32)), (0, .ref (ad 14 100)), (1, .int v1), (2, .int v2), (3, .int v3), (4, .int v4), (5, .int v5), (6, .int v6)]) hx hb dX12_exit_48 hl (by decide) rfl (fun ls hl => ?_)
        obtain ⟨n21, h⟩ := h
        exact b50 n21 z v1 v2 v3 v4 v5 v6 (-10000 : Int32) H locs hw ls (lv_sub hl [1, 2, 3, 4, 5, 6, 7, 0] rfl) h
  have b00 : ∀ (H : Heap) (locs : List Loc), OW D ad cs A s.heap z H locs → W p l e (rmq 6 0 0) s m args below meth c H locs 0 0 Q (F0 m 0 ls []) := by
    intro H locs hw
    refine lv_aload_n hx hb dX12_exit_0 rfl (lv_at hl 0 rfl) ?_
    refine lv_iload_n hx hb dX12_exit_1 rfl (lv_at hl 1 rfl) ?_
    have hq := h
    clear h
    refine xcVI (As := [.int p1]) (rest := []) E hw hA (c_X12_isFaller l D ad cs sk z p1 _ hq) kc_12_149 yo_X12_isFaller ⟨Nat.le_of_ble_eq_true rfl, Nat.le_of_ble_eq_true rfl⟩ (xrc E hw ky_14_100 rfl) rfl hl.1 rfl (Nat.le_of_ble_eq_true rfl) dX12_exit_2 ⟨Nat.le_of_ble_eq_true rfl, Nat.le_of_ble_eq_true rfl⟩ (fun r2 z1 H locs h hw => ?_)
    refine lv_if_eq (tgt := 20) hx hb dX12_exit_5 (by decide) (fun c3 => ?_) (fun c3 => ?_)
    · replace h := h.1 c3
      refine lv_ldc (v := -1000000001) hx hb hown (h0 _ qk_12_139) dX12_exit_20 ?_
      exact hret (-1000000001 : Int32) z1 H locs 22 ls hw rfl h dX12_exit_22
    · replace h := h.2 c3
      refine lv_iload_n hx hb dX12_exit_8 rfl (lv_at hl 2 rfl) ?_
      refine lv_i2l hx hb dX12_exit_9 rfl ?_
      refine lv_lconst (v := 0) hx hb dX12_exit_10 (by decide) ?_
      refine lv_ldc2 (v := 2) hx hb hown (h0 _ ql_12_147) dX12_exit_11 ?_
      have hq := h
      clear h
      refine xcSI (As := [.long (Int32.toInt64 p2), .long (0 : Int64), .long (2 : Int64)]) (rest := []) E hw hA (c_X12_isIn l D ad cs sk z1 (Int32.toInt64 p2) (0 : Int64) (2 : Int64) _ hq) kc_12_56 yo_X12_isIn ⟨Nat.le_of_ble_eq_true rfl, Nat.le_of_ble_eq_true rfl⟩ rfl hl.1 rfl (Nat.le_of_ble_eq_true rfl) dX12_exit_14 ⟨Nat.le_of_ble_eq_true rfl, Nat.le_of_ble_eq_true rfl⟩ (fun r5 z4 H locs h hw => ?_)
      refine lv_if_ne (tgt := 23) hx hb dX12_exit_17 (by decide) (fun c6 => ?_) (fun c6 => ?_)
      · replace h := h.1 c6
        refine lv_iconst (v := 0) hx hb dX12_exit_23 (by decide) ?_
        refine lv_istore_n (lv' := [(3, .int (0 : Int32)), (0, .ref (ad 14 100)), (1, .int p1), (2, .int p2)]) hx hb dX12_exit_24 rfl hl (by decide) rfl (fun ls hl => ?_)
        refine lv_iconst (v := 0) hx hb dX12_exit_25 (by decide) ?_
        refine lv_istore (lv' := [(4, .int (0 : Int32)), (3, .int (0 : Int32)), (0, .ref (ad 14 100)), (1, .int p1), (2, .int p2)]) hx hb dX12_exit_26 hl (by decide) rfl (fun ls hl => ?_)
        refine lv_bipush (v := -4) hx hb dX12_exit_28 (by decide) ?_
        refine lv_istore (lv' := [(5, .int (-4 : Int32)), (4, .int (0 : Int32)), (3, .int (0 : Int32)), (0, .ref (ad 14 100)), (1, .int p1), (2, .int p2)]) hx hb dX12_exit_30 hl (by decide) rfl (fun ls hl => ?_)
        refine lv_sipush (v := -10000) hx hb dX12_exit_32 (by decide) ?_
        refine lv_istore (lv' := [(6, .int (-10000 : Int32)), (5, .int (-4 : Int32)), (4, .int (0 : Int32)), (3, .int (0 : Int32)), (0, .ref (ad 14 100)), (1, .int p1), (2, .int p2)]) hx hb dX12_exit_35 hl (by decide) rfl (fun ls hl => ?_)
        obtain ⟨n22, h⟩ := h
        exact b37 n22 z4 p1 p2 (0 : Int32) (0 : Int32) (-4 : Int32) (-10000 : Int32) H locs hw ls (lv_sub hl [4, 5, 6, 3, 2, 1, 0] rfl) h
      · replace h := h.2 c6
        refine lv_ldc (v := -1000000001) hx hb hown (h0 _ qk_12_139) dX12_exit_20 ?_
        exact hret (-1000000001 : Int32) z4 H locs 22 ls hw rfl h dX12_exit_22
  exact b00 s.heap [] hw
def V_X12_wrongLoad_35 (post : Int32 → ZS → Prop) : Nat → ZS → Int32 → Int32 → Prop
  | 0, _, _, _ => False
  | (n + 1), z, v1, v3 => (vp_in v1 8 ∧ (((zR z 14 5 (Int32.toNatClampNeg v1)) ≤ v3 → post (0 : Int32) z) ∧ (¬ (zR z 14 5 (Int32.toNatClampNeg v1)) ≤ v3 → (vp_in (((100 : Int32) * v1) + v3) 800 ∧ V_X12_isFaller z (zR z 14 6 (Int32.toNatClampNeg (((100 : Int32) * v1) + v3))) (fun r9 z8 => ((¬ r9 = 0 → (∀ t11 : Int32, t11 = v3 + (1 : Int32) → (V_X12_wrongLoad_35 post n) z8 v1 t11)) ∧ (r9 = 0 → post (-13 : Int32) z8)))))))
def V_X12_wrongLoad (z : ZS) (p1 : Int32) (post : Int32 → ZS → Prop) : Prop := V_X12_wrongRow z p1 (0 : Int32) (fun r2 z1 => ((r2 = 0 → (vp_in p1 8 ∧ V_X12_isIn z1 (Int32.toInt64 (zR z1 14 5 (Int32.toNatClampNeg p1))) (1 : Int64) (5 : Int64) (fun r5 z4 => ((¬ r5 = 0 → (∃ n12 : Nat, V_X12_wrongLoad_35 post n12 z4 p1 (0 : Int32))) ∧ (r5 = 0 → post (-13 : Int32) z4))))) ∧ (¬ r2 = 0 → post r2 z1)))
set_option maxHeartbeats 4000000 in
set_option maxRecDepth 100000 in
theorem c_X12_wrongLoad (l : Launch) (D : va_G) (ad : Nat → Nat → Nat) (cs : Nat → ClassId) (sk : (Nat → Nat) × (Nat → Nat)) (z : ZS) (p1 : Int32) (post : Int32 → ZS → Prop) (h : V_X12_wrongLoad z p1 post) : MI l D ad cs sk yX12_wrongLoad cX12_wrongLoad 4 .int (rmq 3 0 0) [.ref (ad 14 100), .int p1] z post := by
  refine MI.of RX12 rfl (by decide) (Nat.le_of_ble_eq_true rfl) ?_
  intro p e s m args below meth c A Q E hw hA hret ls hl
  have hx := E.1.1
  have hb := E.1.2.1
  have hml := E.1.2.2.1
  have hown := E.1.2.2.2.1
  have h0 := E.1.2.2.2.2
  have hl : lv_has ls 4 [(0, .ref (ad 14 100)), (1, .int p1)] := hl
  unfold V_X12_wrongLoad at h
  have b35 : ∀ (n : Nat) (z : ZS) (v1 : Int32) (v3 : Int32), ∀ (H : Heap) (locs : List Loc), OW D ad cs A s.heap z H locs → ∀ ls : Array Slot, lv_has ls 4 [(0, .ref (ad 14 100)), (1, .int v1), (3, .int v3)] → V_X12_wrongLoad_35 post n z v1 v3 → W p l e (rmq 3 0 0) s m args below meth c H locs 0 0 Q (F0 m 35 ls []) := by
    intro n
    induction n with
    | zero =>
      intro z v1 v3 H locs hw ls hl h
      exact h.elim
    | succ n35x ih35 =>
      intro z v1 v3 H locs hw ls hl h
      unfold V_X12_wrongLoad_35 at h
      refine lv_iload_n hx hb dX12_wrongLoad_35 rfl (lv_at hl 2 rfl) ?_
      refine lv_aload_n hx hb dX12_wrongLoad_36 rfl (lv_at hl 0 rfl) ?_
      refine xgC E hw (c1 := 12) (t := (14, 5)) rfl ky_14_100 fo_12_5 rfl qf_12_25 dX12_wrongLoad_37 ?_
      refine lv_iload_n hx hb dX12_wrongLoad_40 rfl (lv_at hl 1 rfl) ?_
      obtain ⟨hi, h⟩ := h
      refine xal E hw ky_14_5 ka_14_5 hi dX12_wrongLoad_41 ?_
      refine lv_icmp_ge (tgt := 72) hx hb dX12_wrongLoad_42 (by decide) (fun c7 => ?_) (fun c7 => ?_)
      · replace h := h.1 c7
        refine lv_iconst (v := 0) hx hb dX12_wrongLoad_72 (by decide) ?_
        exact hret (0 : Int32) z H locs 73 ls hw rfl h dX12_wrongLoad_73
      · replace h := h.2 c7
        refine lv_aload_n hx hb dX12_wrongLoad_45 rfl (lv_at hl 0 rfl) ?_
        refine lv_aload_n hx hb dX12_wrongLoad_46 rfl (lv_at hl 0 rfl) ?_
        refine xgC E hw (c1 := 12) (t := (14, 6)) rfl ky_14_100 fo_12_6 rfl qf_12_28 dX12_wrongLoad_47 ?_
        refine lv_bipush (v := 100) hx hb dX12_wrongLoad_50 (by decide) ?_
        refine lv_iload_n hx hb dX12_wrongLoad_52 rfl (lv_at hl 1 rfl) ?_
        refine lv_imul hx hb dX12_wrongLoad_53 ?_
        refine lv_iload_n hx hb dX12_wrongLoad_54 rfl (lv_at hl 2 rfl) ?_
        refine lv_iadd hx hb dX12_wrongLoad_55 ?_
        obtain ⟨hi, h⟩ := h
        refine xal E hw ky_14_6 ka_14_6 hi dX12_wrongLoad_56 ?_
        have hq := h
        clear h
        refine xcVI (As := [.int (zR z 14 6 (Int32.toNatClampNeg (((100 : Int32) * v1) + v3)))]) (rest := []) E hw hA (c_X12_isFaller l D ad cs sk z (zR z 14 6 (Int32.toNatClampNeg (((100 : Int32) * v1) + v3))) _ hq) kc_12_149 yo_X12_isFaller ⟨Nat.le_of_ble_eq_true rfl, Nat.le_of_ble_eq_true rfl⟩ (xrc E hw ky_14_100 rfl) rfl hl.1 rfl (Nat.le_of_ble_eq_true rfl) dX12_wrongLoad_57 ⟨Nat.le_of_ble_eq_true rfl, Nat.le_of_ble_eq_true rfl⟩ (fun r9 z8 H locs h hw => ?_)
        refine lv_if_ne (tgt := 66) hx hb dX12_wrongLoad_60 (by decide) (fun c10 => ?_) (fun c10 => ?_)
        · replace h := h.1 c10
          obtain ⟨t11, et11⟩ : ∃ y : Int32, y = v3 + (1 : Int32) := ⟨_, rfl⟩
          replace h := h t11 et11
          refine lv_iinc (v := t11) (lv' := [(3, .int t11), (0, .ref (ad 14 100)), (1, .int v1)]) hx hb dX12_wrongLoad_66 hl (k := 2) rfl (by rw [et11]; rfl) (by decide) rfl (fun ls hl => ?_)
          refine lv_goto (tgt := 35) hx hb dX12_wrongLoad_69 (by decide) ?_
          exact ih35 z8 v1 t11 H locs hw ls (lv_sub hl [1, 2, 0] rfl) h
        · replace h := h.2 c10
          refine lv_bipush (v := -13) hx hb dX12_wrongLoad_63 (by decide) ?_
          exact hret (-13 : Int32) z8 H locs 65 ls hw rfl h dX12_wrongLoad_65
  have b00 : ∀ (H : Heap) (locs : List Loc), OW D ad cs A s.heap z H locs → W p l e (rmq 3 0 0) s m args below meth c H locs 0 0 Q (F0 m 0 ls []) := by
    intro H locs hw
    refine lv_aload_n hx hb dX12_wrongLoad_0 rfl (lv_at hl 0 rfl) ?_
    refine lv_iload_n hx hb dX12_wrongLoad_1 rfl (lv_at hl 1 rfl) ?_
    refine lv_iconst (v := 0) hx hb dX12_wrongLoad_2 (by decide) ?_
    have hq := h
    clear h
    refine xcVI (As := [.int p1, .int (0 : Int32)]) (rest := []) E hw hA (c_X12_wrongRow l D ad cs sk z p1 (0 : Int32) _ hq) kc_12_128 yo_X12_wrongRow ⟨Nat.le_of_ble_eq_true rfl, Nat.le_of_ble_eq_true rfl⟩ (xrc E hw ky_14_100 rfl) rfl hl.1 rfl (Nat.le_of_ble_eq_true rfl) dX12_wrongLoad_3 ⟨Nat.le_of_ble_eq_true rfl, Nat.le_of_ble_eq_true rfl⟩ (fun r2 z1 H locs h hw => ?_)
    refine lv_istore_n (lv' := [(2, .int r2), (0, .ref (ad 14 100)), (1, .int p1)]) hx hb dX12_wrongLoad_6 rfl hl (by decide) rfl (fun ls hl => ?_)
    refine lv_iload_n hx hb dX12_wrongLoad_7 rfl (lv_at hl 0 rfl) ?_
    refine lv_if_eq (tgt := 13) hx hb dX12_wrongLoad_8 (by decide) (fun c3 => ?_) (fun c3 => ?_)
    · replace h := h.1 c3
      refine lv_aload_n hx hb dX12_wrongLoad_13 rfl (lv_at hl 1 rfl) ?_
      refine xgC E hw (c1 := 12) (t := (14, 5)) rfl ky_14_100 fo_12_5 rfl qf_12_25 dX12_wrongLoad_14 ?_
      refine lv_iload_n hx hb dX12_wrongLoad_17 rfl (lv_at hl 2 rfl) ?_
      obtain ⟨hi, h⟩ := h
      refine xal E hw ky_14_5 ka_14_5 hi dX12_wrongLoad_18 ?_
      refine lv_i2l hx hb dX12_wrongLoad_19 rfl ?_
      refine lv_lconst (v := 1) hx hb dX12_wrongLoad_20 (by decide) ?_
      refine lv_ldc2 (v := 5) hx hb hown (h0 _ ql_12_279) dX12_wrongLoad_21 ?_
      have hq := h
      clear h
      refine xcSI (As := [.long (Int32.toInt64 (zR z1 14 5 (Int32.toNatClampNeg p1))), .long (1 : Int64), .long (5 : Int64)]) (rest := []) E hw hA (c_X12_isIn l D ad cs sk z1 (Int32.toInt64 (zR z1 14 5 (Int32.toNatClampNeg p1))) (1 : Int64) (5 : Int64) _ hq) kc_12_56 yo_X12_isIn ⟨Nat.le_of_ble_eq_true rfl, Nat.le_of_ble_eq_true rfl⟩ rfl hl.1 rfl (Nat.le_of_ble_eq_true rfl) dX12_wrongLoad_24 ⟨Nat.le_of_ble_eq_true rfl, Nat.le_of_ble_eq_true rfl⟩ (fun r5 z4 H locs h hw => ?_)
      refine lv_if_ne (tgt := 33) hx hb dX12_wrongLoad_27 (by decide) (fun c6 => ?_) (fun c6 => ?_)
      · replace h := h.1 c6
        refine lv_iconst (v := 0) hx hb dX12_wrongLoad_33 (by decide) ?_
        refine lv_istore_n (lv' := [(3, .int (0 : Int32)), (2, .int r2), (0, .ref (ad 14 100)), (1, .int p1)]) hx hb dX12_wrongLoad_34 rfl hl (by decide) rfl (fun ls hl => ?_)
        obtain ⟨n12, h⟩ := h
        exact b35 n12 z4 p1 (0 : Int32) H locs hw ls (lv_sub hl [2, 3, 0] rfl) h
      · replace h := h.2 c6
        refine lv_bipush (v := -13) hx hb dX12_wrongLoad_30 (by decide) ?_
        exact hret (-13 : Int32) z4 H locs 32 ls hw rfl h dX12_wrongLoad_32
    · replace h := h.2 c3
      refine lv_iload_n hx hb dX12_wrongLoad_11 rfl (lv_at hl 0 rfl) ?_
      exact hret r2 z1 H locs 12 ls hw rfl h dX12_wrongLoad_12
  exact b00 s.heap [] hw
