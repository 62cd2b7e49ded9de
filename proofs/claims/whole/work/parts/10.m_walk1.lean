def V_X12_thrown (z : ZS) (post : Int32 → ZS → Prop) : Prop := post (zI z 14 10) z
set_option maxHeartbeats 4000000 in
set_option maxRecDepth 100000 in
theorem c_X12_thrown (l : Launch) (D : va_G) (ad : Nat → Nat → Nat) (cs : Nat → ClassId) (sk : (Nat → Nat) × (Nat → Nat)) (z : ZS) (post : Int32 → ZS → Prop) (h : V_X12_thrown z post) : MI l D ad cs sk yX12_thrown cX12_thrown 1 .int (rmq 0 0 0) [.ref (ad 14 100)] z post := by
  refine MI.of RX12 rfl (by decide) (Nat.le_of_ble_eq_true rfl) ?_
  intro p e s m args below meth c A Q E hw hA hret ls hl
  have hx := E.1.1
  have hb := E.1.2.1
  have hml := E.1.2.2.1
  have hown := E.1.2.2.2.1
  have h0 := E.1.2.2.2.2
  have hl : lv_has ls 1 [(0, .ref (ad 14 100))] := hl
  unfold V_X12_thrown at h
  have b00 : ∀ (H : Heap) (locs : List Loc), OW D ad cs A s.heap z H locs → W p l e (rmq 0 0 0) s m args below meth c H locs 0 0 Q (F0 m 0 ls []) := by
    intro H locs hw
    refine lv_aload_n hx hb dX12_thrown_0 rfl (lv_at hl 0 rfl) ?_
    refine xgI E hw (c1 := 12) rfl ky_14_100 fo_12_10 qf_12_52 dX12_thrown_1 ?_
    exact hret (zI z 14 10) z H locs 4 ls hw rfl h dX12_thrown_4
  exact b00 s.heap [] hw
def V_X12_isIn (z : ZS) (p0 : Int64) (p2 : Int64) (p4 : Int64) (post : Int32 → ZS → Prop) : Prop := (((lg_cmp p0 p2) < 0 → post (0 : Int32) z) ∧ (¬ (lg_cmp p0 p2) < 0 → ((0 < (lg_cmp p0 p4) → post (0 : Int32) z) ∧ (¬ 0 < (lg_cmp p0 p4) → post (1 : Int32) z))))
set_option maxHeartbeats 4000000 in
set_option maxRecDepth 100000 in
theorem c_X12_isIn (l : Launch) (D : va_G) (ad : Nat → Nat → Nat) (cs : Nat → ClassId) (sk : (Nat → Nat) × (Nat → Nat)) (z : ZS) (p0 : Int64) (p2 : Int64) (p4 : Int64) (post : Int32 → ZS → Prop) (h : V_X12_isIn z p0 p2 p4 post) : MI l D ad cs sk yX12_isIn cX12_isIn 6 .boolean (rmq 0 0 0) [.long p0, .long p2, .long p4] z post := by
  refine MI.of RX12 rfl (by decide) (Nat.le_of_ble_eq_true rfl) ?_
  intro p e s m args below meth c A Q E hw hA hret ls hl
  have hx := E.1.1
  have hb := E.1.2.1
  have hml := E.1.2.2.1
  have hown := E.1.2.2.2.1
  have h0 := E.1.2.2.2.2
  have hl : lv_has ls 6 [(0, .long p0), (2, .long p2), (4, .long p4)] := hl
  unfold V_X12_isIn at h
  have b00 : ∀ (H : Heap) (locs : List Loc), OW D ad cs A s.heap z H locs → W p l e (rmq 0 0 0) s m args below meth c H locs 0 0 Q (F0 m 0 ls []) := by
    intro H locs hw
    refine lv_lload_n hx hb dX12_isIn_0 rfl (lv_at hl 0 rfl) ?_
    refine lv_lload_n hx hb dX12_isIn_1 rfl (lv_at hl 1 rfl) ?_
    refine W.lcmp hx hb dX12_isIn_2 ?_
    refine lv_if_lt (tgt := 17) hx hb dX12_isIn_3 (by decide) (fun c1 => ?_) (fun c1 => ?_)
    · replace h := h.1 c1
      refine lv_iconst (v := 0) hx hb dX12_isIn_17 (by decide) ?_
      exact hret (0 : Int32) z H locs 18 ls hw rfl h dX12_isIn_18
    · replace h := h.2 c1
      refine lv_lload_n hx hb dX12_isIn_6 rfl (lv_at hl 0 rfl) ?_
      refine lv_lload hx hb dX12_isIn_7 (lv_at hl 2 rfl) ?_
      refine W.lcmp hx hb dX12_isIn_9 ?_
      refine lv_if_gt (tgt := 17) hx hb dX12_isIn_10 (by decide) (fun c2 => ?_) (fun c2 => ?_)
      · replace h := h.1 c2
        refine lv_iconst (v := 0) hx hb dX12_isIn_17 (by decide) ?_
        exact hret (0 : Int32) z H locs 18 ls hw rfl h dX12_isIn_18
      · replace h := h.2 c2
        refine lv_iconst (v := 1) hx hb dX12_isIn_13 (by decide) ?_
        refine lv_goto (tgt := 18) hx hb dX12_isIn_14 (by decide) ?_
        exact hret (1 : Int32) z H locs 18 ls hw rfl h dX12_isIn_18
  exact b00 s.heap [] hw
def V_X12_isFaller (z : ZS) (p1 : Int32) (post : Int32 → ZS → Prop) : Prop := V_X12_isIn z (Int32.toInt64 p1) (0 : Int64) (Int32.toInt64 ((zR z 14 0 3) - (1 : Int32))) (fun r2 z1 => (narrow .boolean (.int r2) = .int r2 ∧ post r2 z1))
set_option maxHeartbeats 4000000 in
set_option maxRecDepth 100000 in
theorem c_X12_isFaller (l : Launch) (D : va_G) (ad : Nat → Nat → Nat) (cs : Nat → ClassId) (sk : (Nat → Nat) × (Nat → Nat)) (z : ZS) (p1 : Int32) (post : Int32 → ZS → Prop) (h : V_X12_isFaller z p1 post) : MI l D ad cs sk yX12_isFaller cX12_isFaller 2 .boolean (rmq 1 0 0) [.ref (ad 14 100), .int p1] z post := by
  refine MI.of RX12 rfl (by decide) (Nat.le_of_ble_eq_true rfl) ?_
  intro p e s m args below meth c A Q E hw hA hret ls hl
  have hx := E.1.1
  have hb := E.1.2.1
  have hml := E.1.2.2.1
  have hown := E.1.2.2.2.1
  have h0 := E.1.2.2.2.2
  have hl : lv_has ls 2 [(0, .ref (ad 14 100)), (1, .int p1)] := hl
  unfold V_X12_isFaller at h
  have b00 : ∀ (H : Heap) (locs : List Loc), OW D ad cs A s.heap z H locs → W p l e (rmq 1 0 0) s m args below meth c H locs 0 0 Q (F0 m 0 ls []) := by
    intro H locs hw
    refine lv_iload_n hx hb dX12_isFaller_0 rfl (lv_at hl 1 rfl) ?_
    refine lv_i2l hx hb dX12_isFaller_1 rfl ?_
    refine lv_lconst (v := 0) hx hb dX12_isFaller_2 (by decide) ?_
    refine lv_aload_n hx hb dX12_isFaller_3 rfl (lv_at hl 0 rfl) ?_
    refine xgC E hw (c1 := 12) (t := (14, 0)) rfl ky_14_100 fo_12_0 rfl qf_12_9 dX12_isFaller_4 ?_
    refine lv_iconst (v := 3) hx hb dX12_isFaller_7 (by decide) ?_
    refine xalL (j := 3) E hw ky_14_0 ka_14_0 (by decide) (by decide) dX12_isFaller_8 ?_
    refine lv_iconst (v := 1) hx hb dX12_isFaller_9 (by decide) ?_
    refine lv_isub hx hb dX12_isFaller_10 ?_
    refine lv_i2l hx hb dX12_isFaller_11 rfl ?_
    have hq := h
    clear h
    refine xcSI (As := [.long (Int32.toInt64 p1), .long (0 : Int64), .long (Int32.toInt64 ((zR z 14 0 3) - (1 : Int32)))]) (rest := []) E hw hA (c_X12_isIn l D ad cs sk z (Int32.toInt64 p1) (0 : Int64) (Int32.toInt64 ((zR z 14 0 3) - (1 : Int32))) _ hq) kc_12_56 yo_X12_isIn ⟨Nat.le_of_ble_eq_true rfl, Nat.le_of_ble_eq_true rfl⟩ rfl hl.1 rfl (Nat.le_of_ble_eq_true rfl) dX12_isFaller_12 ⟨Nat.le_of_ble_eq_true rfl, Nat.le_of_ble_eq_true rfl⟩ (fun r2 z1 H locs h hw => ?_)
    exact hret r2 z1 H locs 15 ls hw h.1 h.2 dX12_isFaller_15
  exact b00 s.heap [] hw
def V_X12_isShelf (z : ZS) (p0 : Int32) (post : Int32 → ZS → Prop) : Prop := V_X12_isIn z (Int32.toInt64 p0) (0 : Int64) (7 : Int64) (fun r2 z1 => (narrow .boolean (.int r2) = .int r2 ∧ post r2 z1))
set_option maxHeartbeats 4000000 in
set_option maxRecDepth 100000 in
theorem c_X12_isShelf (l : Launch) (D : va_G) (ad : Nat → Nat → Nat) (cs : Nat → ClassId) (sk : (Nat → Nat) × (Nat → Nat)) (z : ZS) (p0 : Int32) (post : Int32 → ZS → Prop) (h : V_X12_isShelf z p0 post) : MI l D ad cs sk yX12_isShelf cX12_isShelf 1 .boolean (rmq 1 0 0) [.int p0] z post := by
  refine MI.of RX12 rfl (by decide) (Nat.le_of_ble_eq_true rfl) ?_
  intro p e s m args below meth c A Q E hw hA hret ls hl
  have hx := E.1.1
  have hb := E.1.2.1
  have hml := E.1.2.2.1
  have hown := E.1.2.2.2.1
  have h0 := E.1.2.2.2.2
  have hl : lv_has ls 1 [(0, .int p0)] := hl
  unfold V_X12_isShelf at h
  have b00 : ∀ (H : Heap) (locs : List Loc), OW D ad cs A s.heap z H locs → W p l e (rmq 1 0 0) s m args below meth c H locs 0 0 Q (F0 m 0 ls []) := by
    intro H locs hw
    refine lv_iload_n hx hb dX12_isShelf_0 rfl (lv_at hl 0 rfl) ?_
    refine lv_i2l hx hb dX12_isShelf_1 rfl ?_
    refine lv_lconst (v := 0) hx hb dX12_isShelf_2 (by decide) ?_
    refine lv_ldc2 (v := 7) hx hb hown (h0 _ ql_12_60) dX12_isShelf_3 ?_
    have hq := h
    clear h
    refine xcSI (As := [.long (Int32.toInt64 p0), .long (0 : Int64), .long (7 : Int64)]) (rest := []) E hw hA (c_X12_isIn l D ad cs sk z (Int32.toInt64 p0) (0 : Int64) (7 : Int64) _ hq) kc_12_56 yo_X12_isIn ⟨Nat.le_of_ble_eq_true rfl, Nat.le_of_ble_eq_true rfl⟩ rfl hl.1 rfl (Nat.le_of_ble_eq_true rfl) dX12_isShelf_6 ⟨Nat.le_of_ble_eq_true rfl, Nat.le_of_ble_eq_true rfl⟩ (fun r2 z1 H locs h hw => ?_)
    exact hret r2 z1 H locs 9 ls hw h.1 h.2 dX12_isShelf_9
  exact b00 s.heap [] hw
def V_X12_isEdge (z : ZS) (p0 : Int32) (post : Int32 → ZS → Prop) : Prop := V_X12_isIn z (Int32.toInt64 p0) (-30000 : Int64) (30000 : Int64) (fun r2 z1 => (narrow .boolean (.int r2) = .int r2 ∧ post r2 z1))
set_option maxHeartbeats 4000000 in
set_option maxRecDepth 100000 in
theorem c_X12_isEdge (l : Launch) (D : va_G) (ad : Nat → Nat → Nat) (cs : Nat → ClassId) (sk : (Nat → Nat) × (Nat → Nat)) (z : ZS) (p0 : Int32) (post : Int32 → ZS → Prop) (h : V_X12_isEdge z p0 post) : MI l D ad cs sk yX12_isEdge cX12_isEdge 1 .boolean (rmq 1 0 0) [.int p0] z post := by
  refine MI.of RX12 rfl (by decide) (Nat.le_of_ble_eq_true rfl) ?_
  intro p e s m args below meth c A Q E hw hA hret ls hl
  have hx := E.1.1
  have hb := E.1.2.1
  have hml := E.1.2.2.1
  have hown := E.1.2.2.2.1
  have h0 := E.1.2.2.2.2
  have hl : lv_has ls 1 [(0, .int p0)] := hl
  unfold V_X12_isEdge at h
  have b00 : ∀ (H : Heap) (locs : List Loc), OW D ad cs A s.heap z H locs → W p l e (rmq 1 0 0) s m args below meth c H locs 0 0 Q (F0 m 0 ls []) := by
    intro H locs hw
    refine lv_iload_n hx hb dX12_isEdge_0 rfl (lv_at hl 0 rfl) ?_
    refine lv_i2l hx hb dX12_isEdge_1 rfl ?_
    refine lv_ldc2 (v := -30000) hx hb hown (h0 _ ql_12_62) dX12_isEdge_2 ?_
    refine lv_ldc2 (v := 30000) hx hb hown (h0 _ ql_12_64) dX12_isEdge_5 ?_
    have hq := h
    clear h
    refine xcSI (As := [.long (Int32.toInt64 p0), .long (-30000 : Int64), .long (30000 : Int64)]) (rest := []) E hw hA (c_X12_isIn l D ad cs sk z (Int32.toInt64 p0) (-30000 : Int64) (30000 : Int64) _ hq) kc_12_56 yo_X12_isIn ⟨Nat.le_of_ble_eq_true rfl, Nat.le_of_ble_eq_true rfl⟩ rfl hl.1 rfl (Nat.le_of_ble_eq_true rfl) dX12_isEdge_8 ⟨Nat.le_of_ble_eq_true rfl, Nat.le_of_ble_eq_true rfl⟩ (fun r2 z1 H locs h hw => ?_)
    exact hret r2 z1 H locs 11 ls hw h.1 h.2 dX12_isEdge_11
  exact b00 s.heap [] hw
def V_X12_of (z : ZS) (p1 : Int32) (p2 : Int32) (post : Int32 → ZS → Prop) : Prop := (vp_in (((25 : Int32) + ((3 : Int32) * p1)) + p2) 73 ∧ post (zR z 14 0 (Int32.toNatClampNeg (((25 : Int32) + ((3 : Int32) * p1)) + p2))) z)
set_option maxHeartbeats 4000000 in
set_option maxRecDepth 100000 in
theorem c_X12_of (l : Launch) (D : va_G) (ad : Nat → Nat → Nat) (cs : Nat → ClassId) (sk : (Nat → Nat) × (Nat → Nat)) (z : ZS) (p1 : Int32) (p2 : Int32) (post : Int32 → ZS → Prop) (h : V_X12_of z p1 p2 post) : MI l D ad cs sk yX12_of cX12_of 3 .int (rmq 0 0 0) [.ref (ad 14 100), .int p1, .int p2] z post := by
  refine MI.of RX12 rfl (by decide) (Nat.le_of_ble_eq_true rfl) ?_
  intro p e s m args below meth c A Q E hw hA hret ls hl
  have hx := E.1.1
  have hb := E.1.2.1
  have hml := E.1.2.2.1
  have hown := E.1.2.2.2.1
  have h0 := E.1.2.2.2.2
  have hl : lv_has ls 3 [(0, .ref (ad 14 100)), (1, .int p1), (2, .int p2)] := hl
  unfold V_X12_of at h
  have b00 : ∀ (H : Heap) (locs : List Loc), OW D ad cs A s.heap z H locs → W p l e (rmq 0 0 0) s m args below meth c H locs 0 0 Q (F0 m 0 ls []) := by
    intro H locs hw
    refine lv_aload_n hx hb dX12_of_0 rfl (lv_at hl 0 rfl) ?_
    refine xgC E hw (c1 := 12) (t := (14, 0)) rfl ky_14_100 fo_12_0 rfl qf_12_9 dX12_of_1 ?_
    refine lv_bipush (v := 25) hx hb dX12_of_4 (by decide) ?_
    refine lv_iconst (v := 3) hx hb dX12_of_6 (by decide) ?_
    refine lv_iload_n hx hb dX12_of_7 rfl (lv_at hl 1 rfl) ?_
    refine lv_imul hx hb dX12_of_8 ?_
    refine lv_iadd hx hb dX12_of_9 ?_
    refine lv_iload_n hx hb dX12_of_10 rfl (lv_at hl 2 rfl) ?_
    refine lv_iadd hx hb dX12_of_11 ?_
    obtain ⟨hi, h⟩ := h
    refine xal E hw ky_14_0 ka_14_0 hi dX12_of_12 ?_
    exact hret (zR z 14 0 (Int32.toNatClampNeg (((25 : Int32) + ((3 : Int32) * p1)) + p2))) z H locs 13 ls hw rfl h dX12_of_13
  exact b00 s.heap [] hw
def V_X12_amount (z : ZS) (p0 : Int32) (post : Int32 → ZS → Prop) : Prop := ((0 ≤ p0 → post p0 z) ∧ (¬ 0 ≤ p0 → post (-p0) z))
set_option maxHeartbeats 4000000 in
set_option maxRecDepth 100000 in
theorem c_X12_amount (l : Launch) (D : va_G) (ad : Nat → Nat → Nat) (cs : Nat → ClassId) (sk : (Nat → Nat) × (Nat → Nat)) (z : ZS) (p0 : Int32) (post : Int32 → ZS → Prop) (h : V_X12_amount z p0 post) : MI l D ad cs sk yX12_amount cX12_amount 1 .int (rmq 0 0 0) [.int p0] z post := by
  refine MI.of RX12 rfl (by decide) (Nat.le_of_ble_eq_true rfl) ?_
  intro p e s m args below meth c A Q E hw hA hret ls hl
  have hx := E.1.1
  have hb := E.1.2.1
  have hml := E.1.2.2.1
  have hown := E.1.2.2.2.1
  have h0 := E.1.2.2.2.2
  have hl : lv_has ls 1 [(0, .int p0)] := hl
  unfold V_X12_amount at h
  have b00 : ∀ (H : Heap) (locs : List Loc), OW D ad cs A s.heap z H locs → W p l e (rmq 0 0 0) s m args below meth c H locs 0 0 Q (F0 m 0 ls []) := by
    intro H locs hw
    refine lv_iload_n hx hb dX12_amount_0 rfl (lv_at hl 0 rfl) ?_
    refine lv_if_ge (tgt := 9) hx hb dX12_amount_1 (by decide) (fun c1 => ?_) (fun c1 => ?_)
    · replace h := h.1 c1
      refine lv_iload_n hx hb dX12_amount_9 rfl (lv_at hl 0 rfl) ?_
      exact hret p0 z H locs 10 ls hw rfl h dX12_amount_10
    · replace h := h.2 c1
      refine lv_iload_n hx hb dX12_amount_4 rfl (lv_at hl 0 rfl) ?_
      refine lv_ineg hx hb dX12_amount_5 ?_
      refine lv_goto (tgt := 10) hx hb dX12_amount_6 (by decide) ?_
      exact hret (-p0) z H locs 10 ls hw rfl h dX12_amount_10
  exact b00 s.heap [] hw
def V_X12_lesser (z : ZS) (p0 : Int32) (p1 : Int32) (post : Int32 → ZS → Prop) : Prop := ((p1 ≤ p0 → post p1 z) ∧ (¬ p1 ≤ p0 → post p0 z))
set_option maxHeartbeats 4000000 in
set_option maxRecDepth 100000 in
theorem c_X12_lesser (l : Launch) (D : va_G) (ad : Nat → Nat → Nat) (cs : Nat → ClassId) (sk : (Nat → Nat) × (Nat → Nat)) (z : ZS) (p0 : Int32) (p1 : Int32) (post : Int32 → ZS → Prop) (h : V_X12_lesser z p0 p1 post) : MI l D ad cs sk yX12_lesser cX12_lesser 2 .int (rmq 0 0 0) [.int p0, .int p1] z post := by
  refine MI.of RX12 rfl (by decide) (Nat.le_of_ble_eq_true rfl) ?_
  intro p e s m args below meth c A Q E hw hA hret ls hl
  have hx := E.1.1
  have hb := E.1.2.1
  have hml := E.1.2.2.1
  have hown := E.1.2.2.2.1
  have h0 := E.1.2.2.2.2
  have hl : lv_has ls 2 [(0, .int p0), (1, .int p1)] := hl
  unfold V_X12_lesser at h
  have b00 : ∀ (H : Heap) (locs : List Loc), OW D ad cs A s.heap z H locs → W p l e (rmq 0 0 0) s m args below meth c H locs 0 0 Q (F0 m 0 ls []) := by
    intro H locs hw
    refine lv_iload_n hx hb dX12_lesser_0 rfl (lv_at hl 0 rfl) ?_
    refine lv_iload_n hx hb dX12_lesser_1 rfl (lv_at hl 1 rfl) ?_
    refine lv_icmp_ge (tgt := 9) hx hb dX12_lesser_2 (by decide) (fun c1 => ?_) (fun c1 => ?_)
    · replace h := h.1 c1
      refine lv_iload_n hx hb dX12_lesser_9 rfl (lv_at hl 1 rfl) ?_
      exact hret p1 z H locs 10 ls hw rfl h dX12_lesser_10
    · replace h := h.2 c1
      refine lv_iload_n hx hb dX12_lesser_5 rfl (lv_at hl 0 rfl) ?_
      refine lv_goto (tgt := 10) hx hb dX12_lesser_6 (by decide) ?_
      exact hret p0 z H locs 10 ls hw rfl h dX12_lesser_10
  exact b00 s.heap [] hw
def V_X12_held (z : ZS) (p0 : Int32) (post : Int32 → ZS → Prop) : Prop := (((-30000 : Int32) ≤ p0 → ((p0 ≤ (30000 : Int32) → post p0 z) ∧ (¬ p0 ≤ (30000 : Int32) → post (30000 : Int32) z))) ∧ (¬ (-30000 : Int32) ≤ p0 → post (-30000 : Int32) z))
set_option maxHeartbeats 4000000 in
set_option maxRecDepth 100000 in
theorem c_X12_held (l : Launch) (D : va_G) (ad : Nat → Nat → Nat) (cs : Nat → ClassId) (sk : (Nat → Nat) × (Nat → Nat)) (z : ZS) (p0 : Int32) (post : Int32 → ZS → Prop) (h : V_X12_held z p0 post) : MI l D ad cs sk yX12_held cX12_held 1 .int (rmq 0 0 0) [.int p0] z post := by
  refine MI.of RX12 rfl (by decide) (Nat.le_of_ble_eq_true rfl) ?_
  intro p e s m args below meth c A Q E hw hA hret ls hl
  have hx := E.1.1
  have hb := E.1.2.1
  have hml := E.1.2.2.1
  have hown := E.1.2.2.2.1
  have h0 := E.1.2.2.2.2
  have hl : lv_has ls 1 [(0, .int p0)] := hl
  unfold V_X12_held at h
  have b00 : ∀ (H : Heap) (locs : List Loc), OW D ad cs A s.heap z H locs → W p l e (rmq 0 0 0) s m args below meth c H locs 0 0 Q (F0 m 0 ls []) := by
    intro H locs hw
    refine lv_iload_n hx hb dX12_held_0 rfl (lv_at hl 0 rfl) ?_
    refine lv_sipush (v := -30000) hx hb dX12_held_1 (by decide) ?_
    refine lv_icmp_ge (tgt := 13) hx hb dX12_held_4 (by decide) (fun c1 => ?_) (fun c1 => ?_)
    · replace h := h.1 c1
      refine lv_iload_n hx hb dX12_held_13 rfl (lv_at hl 0 rfl) ?_
      refine lv_sipush (v := 30000) hx hb dX12_held_14 (by decide) ?_
      refine lv_icmp_le (tgt := 26) hx hb dX12_held_17 (by decide) (fun c2 => ?_) (fun c2 => ?_)
      · replace h := h.1 c2
        refine lv_iload_n hx hb dX12_held_26 rfl (lv_at hl 0 rfl) ?_
        exact hret p0 z H locs 27 ls hw rfl h dX12_held_27
      · replace h := h.2 c2
        refine lv_sipush (v := 30000) hx hb dX12_held_20 (by decide) ?_
        refine lv_goto (tgt := 27) hx hb dX12_held_23 (by decide) ?_
        exact hret (30000 : Int32) z H locs 27 ls hw rfl h dX12_held_27
    · replace h := h.2 c1
      refine lv_sipush (v := -30000) hx hb dX12_held_7 (by decide) ?_
      refine lv_goto (tgt := 27) hx hb dX12_held_10 (by decide) ?_
      exact hret (-30000 : Int32) z H locs 27 ls hw rfl h dX12_held_27
  exact b00 s.heap [] hw
def V_X12_here (z : ZS) (post : Int32 → ZS → Prop) : Prop := (((zI z 14 13) ≤ (zI z 14 11) → post (-1000 : Int32) z) ∧ (¬ (zI z 14 13) ≤ (zI z 14 11) → (vp_in ((zI z 14 12) + (zI z 14 11)) 800 ∧ post (zR z 14 6 (Int32.toNatClampNeg ((zI z 14 12) + (zI z 14 11)))) z)))
set_option maxHeartbeats 4000000 in
set_option maxRecDepth 100000 in
theorem c_X12_here (l : Launch) (D : va_G) (ad : Nat → Nat → Nat) (cs : Nat → ClassId) (sk : (Nat → Nat) × (Nat → Nat)) (z : ZS) (post : Int32 → ZS → Prop) (h : V_X12_here z post) : MI l D ad cs sk yX12_here cX12_here 1 .int (rmq 0 0 0) [.ref (ad 14 100)] z post := by
  refine MI.of RX12 rfl (by decide) (Nat.le_of_ble_eq_true rfl) ?_
  intro p e s m args below meth c A Q E hw hA hret ls hl
  have hx := E.1.1
  have hb := E.1.2.1
  have hml := E.1.2.2.1
  have hown := E.1.2.2.2.1
  have h0 := E.1.2.2.2.2
  have hl : lv_has ls 1 [(0, .ref (ad 14 100))] := hl
  unfold V_X12_here at h
  have b00 : ∀ (H : Heap) (locs : List Loc), OW D ad cs A s.heap z H locs → W p l e (rmq 0 0 0) s m args below meth c H locs 0 0 Q (F0 m 0 ls []) := by
    intro H locs hw
    refine lv_aload_n hx hb dX12_here_0 rfl (lv_at hl 0 rfl) ?_
    refine xgI E hw (c1 := 12) rfl ky_14_100 fo_12_11 qf_12_66 dX12_here_1 ?_
    refine lv_aload_n hx hb dX12_here_4 rfl (lv_at hl 0 rfl) ?_
    refine xgI E hw (c1 := 12) rfl ky_14_100 fo_12_13 qf_12_69 dX12_here_5 ?_
    refine lv_icmp_ge (tgt := 28) hx hb dX12_here_8 (by decide) (fun c1 => ?_) (fun c1 => ?_)
    · replace h := h.1 c1
      refine lv_sipush (v := -1000) hx hb dX12_here_28 (by decide) ?_
      exact hret (-1000 : Int32) z H locs 31 ls hw rfl h dX12_here_31
    · replace h := h.2 c1
      refine lv_aload_n hx hb dX12_here_11 rfl (lv_at hl 0 rfl) ?_
      refine xgC E hw (c1 := 12) (t := (14, 6)) rfl ky_14_100 fo_12_6 rfl qf_12_28 dX12_here_12 ?_
      refine lv_aload_n hx hb dX12_here_15 rfl (lv_at hl 0 rfl) ?_
      refine xgI E hw (c1 := 12) rfl ky_14_100 fo_12_12 qf_12_72 dX12_here_16 ?_
      refine lv_aload_n hx hb dX12_here_19 rfl (lv_at hl 0 rfl) ?_
      refine xgI E hw (c1 := 12) rfl ky_14_100 fo_12_11 qf_12_66 dX12_here_20 ?_
      refine lv_iadd hx hb dX12_here_23 ?_
      obtain ⟨hi, h⟩ := h
      refine xal E hw ky_14_6 ka_14_6 hi dX12_here_24 ?_
      refine lv_goto (tgt := 31) hx hb dX12_here_25 (by decide) ?_
      exact hret (zR z 14 6 (Int32.toNatClampNeg ((zI z 14 12) + (zI z 14 11)))) z H locs 31 ls hw rfl h dX12_here_31
  exact b00 s.heap [] hw
def V_X12_isDigit (z : ZS) (post : Int32 → ZS → Prop) : Prop := V_X12_here z (fun r2 z1 => V_X12_isIn z1 (Int32.toInt64 r2) (48 : Int64) (57 : Int64) (fun r4 z3 => (narrow .boolean (.int r4) = .int r4 ∧ post r4 z3)))
set_option maxHeartbeats 4000000 in
set_option maxRecDepth 100000 in
theorem c_X12_isDigit (l : Launch) (D : va_G) (ad : Nat → Nat → Nat) (cs : Nat → ClassId) (sk : (Nat → Nat) × (Nat → Nat)) (z : ZS) (post : Int32 → ZS → Prop) (h : V_X12_isDigit z post) : MI l D ad cs sk yX12_isDigit cX12_isDigit 1 .boolean (rmq 1 0 0) [.ref (ad 14 100)] z post := by
  refine MI.of RX12 rfl (by decide) (Nat.le_of_ble_eq_true rfl) ?_
  intro p e s m args below meth c A Q E hw hA hret ls hl
  have hx := E.1.1
  have hb := E.1.2.1
  have hml := E.1.2.2.1
  have hown := E.1.2.2.2.1
  have h0 := E.1.2.2.2.2
  have hl : lv_has ls 1 [(0, .ref (ad 14 100))] := hl
  unfold V_X12_isDigit at h
  have b00 : ∀ (H : Heap) (locs : List Loc), OW D ad cs A s.heap z H locs → W p l e (rmq 1 0 0) s m args below meth c H locs 0 0 Q (F0 m 0 ls []) := by
    intro H locs hw
    refine lv_aload_n hx hb dX12_isDigit_0 rfl (lv_at hl 0 rfl) ?_
    have hq := h
    clear h
    refine xcVI (As := []) (rest := []) E hw hA (c_X12_here l D ad cs sk z _ hq) kc_12_75 yo_X12_here ⟨Nat.le_of_ble_eq_true rfl, Nat.le_of_ble_eq_true rfl⟩ (xrc E hw ky_14_100 rfl) rfl hl.1 rfl (Nat.le_of_ble_eq_true rfl) dX12_isDigit_1 ⟨Nat.le_of_ble_eq_true rfl, Nat.le_of_ble_eq_true rfl⟩ (fun r2 z1 H locs h hw => ?_)
    refine lv_i2l hx hb dX12_isDigit_4 rfl ?_
    refine lv_ldc2 (v := 48) hx hb hown (h0 _ ql_12_79) dX12_isDigit_5 ?_
    refine lv_ldc2 (v := 57) hx hb hown (h0 _ ql_12_81) dX12_isDigit_8 ?_
    have hq := h
    clear h
    refine xcSI (As := [.long (Int32.toInt64 r2), .long (48 : Int64), .long (57 : Int64)]) (rest := []) E hw hA (c_X12_isIn l D ad cs sk z1 (Int32.toInt64 r2) (48 : Int64) (57 : Int64) _ hq) kc_12_56 yo_X12_isIn ⟨Nat.le_of_ble_eq_true rfl, Nat.le_of_ble_eq_true rfl⟩ rfl hl.1 rfl (Nat.le_of_ble_eq_true rfl) dX12_isDigit_11 ⟨Nat.le_of_ble_eq_true rfl, Nat.le_of_ble_eq_true rfl⟩ (fun r4 z3 H locs h hw => ?_)
    exact hret r4 z3 H locs 14 ls hw h.1 h.2 dX12_isDigit_14
  exact b00 s.heap [] hw
def V_X12_takes (z : ZS) (p1 : Int32) (post : Int32 → ZS → Prop) : Prop := V_X12_here z (fun r2 z1 => ((r2 = p1 → (∀ z4 : ZS, z4 = wI z1 14 11 ((zI z1 14 11) + (1 : Int32)) → post (1 : Int32) z4)) ∧ (¬ r2 = p1 → post (0 : Int32) z1)))
set_option maxHeartbeats 4000000 in
set_option maxRecDepth 100000 in
theorem c_X12_takes (l : Launch) (D : va_G) (ad : Nat → Nat → Nat) (cs : Nat → ClassId) (sk : (Nat → Nat) × (Nat → Nat)) (z : ZS) (p1 : Int32) (post : Int32 → ZS → Prop) (h : V_X12_takes z p1 post) : MI l D ad cs sk yX12_takes cX12_takes 2 .boolean (rmq 1 0 0) [.ref (ad 14 100), .int p1] z post := by
  refine MI.of RX12 rfl (by decide) (Nat.le_of_ble_eq_true rfl) ?_
  intro p e s m args below meth c A Q E hw hA hret ls hl
  have hx := E.1.1
  have hb := E.1.2.1
  have hml := E.1.2.2.1
  have hown := E.1.2.2.2.1
  have h0 := E.1.2.2.2.2
  have hl : lv_has ls 2 [(0, .ref (ad 14 100)), (1, .int p1)] := hl
  unfold V_X12_takes at h
  have b00 : ∀ (H : Heap) (locs : List Loc), OW D ad cs A s.heap z H locs → W p l e (rmq 1 0 0) s m args below meth c H locs 0 0 Q (F0 m 0 ls []) := by
    intro H locs hw
    refine lv_aload_n hx hb dX12_takes_0 rfl (lv_at hl 0 rfl) ?_
    have hq := h
    clear h
    refine xcVI (As := []) (rest := []) E hw hA (c_X12_here l D ad cs sk z _ hq) kc_12_75 yo_X12_here ⟨Nat.le_of_ble_eq_true rfl, Nat.le_of_ble_eq_true rfl⟩ (xrc E hw ky_14_100 rfl) rfl hl.1 rfl (Nat.le_of_ble_eq_true rfl) dX12_takes_1 ⟨Nat.le_of_ble_eq_true rfl, Nat.le_of_ble_eq_true rfl⟩ (fun r2 z1 H locs h hw => ?_)
    refine lv_iload_n hx hb dX12_takes_4 rfl (lv_at hl 1 rfl) ?_
    refine lv_icmp_eq (tgt := 10) hx hb dX12_takes_5 (by decide) (fun c3 => ?_) (fun c3 => ?_)
    · replace h := h.1 c3
      refine lv_aload_n hx hb dX12_takes_10 rfl (lv_at hl 0 rfl) ?_
      refine lv_dup hx hb dX12_takes_11 rfl ?_
      refine xgI E hw (c1 := 12) rfl ky_14_100 fo_12_11 qf_12_66 dX12_takes_12 ?_
      refine lv_iconst (v := 1) hx hb dX12_takes_15 (by decide) ?_
      refine lv_iadd hx hb dX12_takes_16 ?_
      refine xpI E hw (c1 := 12) rfl ky_14_100 fp_12_11 rfl rfl qf_12_66 dX12_takes_17 (fun z4 ez4 H locs hw => ?_)
      replace h := h z4 ez4
      refine lv_iconst (v := 1) hx hb dX12_takes_20 (by decide) ?_
      exact hret (1 : Int32) z4 H locs 21 ls hw rfl h dX12_takes_21
    · replace h := h.2 c3
      refine lv_iconst (v := 0) hx hb dX12_takes_8 (by decide) ?_
      exact hret (0 : Int32) z1 H locs 9 ls hw rfl h dX12_takes_9
  exact b00 s.heap [] hw
def V_X12_readsDigit (z : ZS) (post : Int32 → ZS → Prop) : Prop := V_X12_isDigit z (fun r2 z1 => ((¬ r2 = 0 → V_X12_here z1 (fun r5 z4 => (vp_in (zI z1 14 14) 4 ∧ ∀ z6 : ZS, z6 = wR z4 14 15 (Int32.toNatClampNeg (zI z1 14 14)) (r5 - (48 : Int32)) → (∀ z7 : ZS, z7 = wI z6 14 14 ((zI z6 14 14) + (1 : Int32)) → (∀ z8 : ZS, z8 = wI z7 14 11 ((zI z7 14 11) + (1 : Int32)) → post (1 : Int32) z8))))) ∧ (r2 = 0 → post (0 : Int32) z1)))
set_option maxHeartbeats 4000000 in
set_option maxRecDepth 100000 in
theorem c_X12_readsDigit (l : Launch) (D : va_G) (ad : Nat → Nat → Nat) (cs : Nat → ClassId) (sk : (Nat → Nat) × (Nat → Nat)) (z : ZS) (post : Int32 → ZS → Prop) (h : V_X12_readsDigit z post) : MI l D ad cs sk yX12_readsDigit cX12_readsDigit 1 .boolean (rmq 2 0 0) [.ref (ad 14 100)] z post := by
  refine MI.of RX12 rfl (by decide) (Nat.le_of_ble_eq_true rfl) ?_
  intro p e s m args below meth c A Q E hw hA hret ls hl
  have hx := E.1.1
  have hb := E.1.2.1
  have hml := E.1.2.2.1
  have hown := E.1.2.2.2.1
  have h0 := E.1.2.2.2.2
  have hl : lv_has ls 1 [(0, .ref (ad 14 100))] := hl
  unfold V_X12_readsDigit at h
  have b00 : ∀ (H : Heap) (locs : List Loc), OW D ad cs A s.heap z H locs → W p l e (rmq 2 0 0) s m args below meth c H locs 0 0 Q (F0 m 0 ls []) := by
    intro H locs hw
    refine lv_aload_n hx hb dX12_readsDigit_0 rfl (lv_at hl 0 rfl) ?_
    have hq := h
    clear h
    refine xcVI (As := []) (rest := []) E hw hA (c_X12_isDigit l D ad cs sk z _ hq) kc_12_83 yo_X12_isDigit ⟨Nat.le_of_ble_eq_true rfl, Nat.le_of_ble_eq_true rfl⟩ (xrc E hw ky_14_100 rfl) rfl hl.1 rfl (Nat.le_of_ble_eq_true rfl) dX12_readsDigit_1 ⟨Nat.le_of_ble_eq_true rfl, Nat.le_of_ble_eq_true rfl⟩ (fun r2 z1 H locs h hw => ?_)
    refine lv_if_ne (tgt := 9) hx hb dX12_readsDigit_4 (by decide) (fun c3 => ?_) (fun c3 => ?_)
    · replace h := h.1 c3
      refine lv_aload_n hx hb dX12_readsDigit_9 rfl (lv_at hl 0 rfl) ?_
      refine xgC E hw (c1 := 12) (t := (14, 15)) rfl ky_14_100 fo_12_15 rfl qf_12_37 dX12_readsDigit_10 ?_
      refine lv_aload_n hx hb dX12_readsDigit_13 rfl (lv_at hl 0 rfl) ?_
      refine xgI E hw (c1 := 12) rfl ky_14_100 fo_12_14 qf_12_87 dX12_readsDigit_14 ?_
      refine lv_aload_n hx hb dX12_readsDigit_17 rfl (lv_at hl 0 rfl) ?_
      have hq := h
      clear h
      refine xcVI (As := []) (rest := [.int (zI z1 14 14), .ref (ad 14 15)]) E hw hA (c_X12_here l D ad cs sk z1 _ hq) kc_12_75 yo_X12_here ⟨Nat.le_of_ble_eq_true rfl, Nat.le_of_ble_eq_true rfl⟩ (xrc E hw ky_14_100 rfl) rfl hl.1 rfl (Nat.le_of_ble_eq_true rfl) dX12_readsDigit_18 ⟨Nat.le_of_ble_eq_true rfl, Nat.le_of_ble_eq_true rfl⟩ (fun r5 z4 H locs h hw => ?_)
      refine lv_bipush (v := 48) hx hb dX12_readsDigit_21 (by decide) ?_
      refine lv_isub hx hb dX12_readsDigit_23 ?_
      obtain ⟨hi, h⟩ := h
      refine xas E hw ky_14_15 ka_14_15 hi dX12_readsDigit_24 (fun z6 ez6 H locs hw => ?_)
      replace h := h z6 ez6
      refine lv_aload_n hx hb dX12_readsDigit_25 rfl (lv_at hl 0 rfl) ?_
      refine lv_dup hx hb dX12_readsDigit_26 rfl ?_
      refine xgI E hw (c1 := 12) rfl ky_14_100 fo_12_14 qf_12_87 dX12_readsDigit_27 ?_
      refine lv_iconst (v := 1) hx hb dX12_readsDigit_30 (by decide) ?_
      refine lv_iadd hx hb dX12_readsDigit_31 ?_
      refine xpI E hw (c1 := 12) rfl ky_14_100 fp_12_14 rfl rfl qf_12_87 dX12_readsDigit_32 (fun z7 ez7 H locs hw => ?_)
      replace h := h z7 ez7
      refine lv_aload_n hx hb dX12_readsDigit_35 rfl (lv_at hl 0 rfl) ?_
      refine lv_dup hx hb dX12_readsDigit_36 rfl ?_
      refine xgI E hw (c1 := 12) rfl ky_14_100 fo_12_11 qf_12_66 dX12_readsDigit_37 ?_
      refine lv_iconst (v := 1) hx hb dX12_readsDigit_40 (by decide) ?_
      refine lv_iadd hx hb dX12_readsDigit_41 ?_
      refine xpI E hw (c1 := 12) rfl ky_14_100 fp_12_11 rfl rfl qf_12_66 dX12_readsDigit_42 (fun z8 ez8 H locs hw => ?_)
      replace h := h z8 ez8
      refine lv_iconst (v := 1) hx hb dX12_readsDigit_45 (by decide) ?_
      exact hret (1 : Int32) z8 H locs 46 ls hw rfl h dX12_readsDigit_46
    · replace h := h.2 c3
      refine lv_iconst (v := 0) hx hb dX12_readsDigit_7 (by decide) ?_
      exact hret (0 : Int32) z1 H locs 8 ls hw rfl h dX12_readsDigit_8
  exact b00 s.heap [] hw
def V_X12_readsNumber_11 (post : Int32 → ZS → Prop) : Nat → ZS → Int32 → Prop
  | 0, _, _ => False
  | (n + 1), z, v1 => (((4 : Int32) ≤ v1 → post (1 : Int32) z) ∧ (¬ (4 : Int32) ≤ v1 → (vp_in ((zI z 14 14) - (1 : Int32)) 4 ∧ (((zR z 14 15 (Int32.toNatClampNeg ((zI z 14 14) - (1 : Int32)))) ≤ 0 → post (1 : Int32) z) ∧ (¬ (zR z 14 15 (Int32.toNatClampNeg ((zI z 14 14) - (1 : Int32)))) ≤ 0 → V_X12_isDigit z (fun r7 z6 => ((r7 = 0 → post (1 : Int32) z6) ∧ (¬ r7 = 0 → (vp_in ((zI z6 14 14) - (1 : Int32)) 4 ∧ V_X12_here z6 (fun r10 z9 => (vp_in ((zI z6 14 14) - (1 : Int32)) 4 ∧ ∀ z11 : ZS, z11 = wR z9 14 15 (Int32.toNatClampNeg ((zI z6 14 14) - (1 : Int32))) ((((10 : Int32) * (zR z6 14 15 (Int32.toNatClampNeg ((zI z6 14 14) - (1 : Int32))))) + r10) - (48 : Int32)) → (∀ z12 : ZS, z12 = wI z11 14 11 ((zI z11 14 11) + (1 : Int32)) → (∀ t13 : Int32, t13 = v1 + (1 : Int32) → (V_X12_readsNumber_11 post n) z12 t13)))))))))))))
def V_X12_readsNumber (z : ZS) (post : Int32 → ZS → Prop) : Prop := V_X12_readsDigit z (fun r2 z1 => ((¬ r2 = 0 → (∃ n14 : Nat, V_X12_readsNumber_11 post n14 z1 (1 : Int32))) ∧ (r2 = 0 → post (0 : Int32) z1)))
set_option maxHeartbeats 4000000 in
set_option maxRecDepth 100000 in
theorem c_X12_readsNumber (l : Launch) (D : va_G) (ad : Nat → Nat → Nat) (cs : Nat → ClassId) (sk : (Nat → Nat) × (Nat → Nat)) (z : ZS) (post : Int32 → ZS → Prop) (h : V_X12_readsNumber z post) : MI l D ad cs sk yX12_readsNumber cX12_readsNumber 2 .boolean (rmq 3 0 0) [.ref (ad 14 100)] z post := by
  refine MI.of RX12 rfl (by decide) (Nat.le_of_ble_eq_true rfl) ?_
  intro p e s m args below meth c A Q E hw hA hret ls hl
  have hx := E.1.1
  have hb := E.1.2.1
  have hml := E.1.2.2.1
  have hown := E.1.2.2.2.1
  have h0 := E.1.2.2.2.2
  have hl : lv_has ls 2 [(0, .ref (ad 14 100))] := hl
  unfold V_X12_readsNumber at h
  have b11 : ∀ (n : Nat) (z : ZS) (v1 : Int32), ∀ (H : Heap) (locs : List Loc), OW D ad cs A s.heap z H locs → ∀ ls : Array Slot, lv_has ls 2 [(0, .ref (ad 14 100)), (1, .int v1)] → V_X12_readsNumber_11 post n z v1 → W p l e (rmq 3 0 0) s m args below meth c H locs 0 0 Q (F0 m 11 ls []) := by
    intro n
    induction n with
    | zero =>
      intro z v1 H locs hw ls hl h
      exact h.elim
    | succ n11x ih11 =>
      intro z v1 H locs hw ls hl h
      unfold V_X12_readsNumber_11 at h
      refine lv_iload_n hx hb dX12_readsNumber_11 rfl (lv_at hl 1 rfl) ?_
      refine lv_iconst (v := 4) hx hb dX12_readsNumber_12 (by decide) ?_
      refine lv_icmp_ge (tgt := 86) hx hb dX12_readsNumber_13 (by decide) (fun c4 => ?_) (fun c4 => ?_)
      · replace h := h.1 c4
        refine lv_iconst (v := 1) hx hb dX12_readsNumber_86 (by decide) ?_
        exact hret (1 : Int32) z H locs 87 ls hw rfl h dX12_readsNumber_87
      · replace h := h.2 c4
        refine lv_aload_n hx hb dX12_readsNumber_16 rfl (lv_at hl 0 rfl) ?_
        refine xgC E hw (c1 := 12) (t := (14, 15)) rfl ky_14_100 fo_12_15 rfl qf_12_37 dX12_readsNumber_17 ?_
        refine lv_aload_n hx hb dX12_readsNumber_20 rfl (lv_at hl 0 rfl) ?_
        refine xgI E hw (c1 := 12) rfl ky_14_100 fo_12_14 qf_12_87 dX12_readsNumber_21 ?_
        refine lv_iconst (v := 1) hx hb dX12_readsNumber_24 (by decide) ?_
        refine lv_isub hx hb dX12_readsNumber_25 ?_
        obtain ⟨hi, h⟩ := h
        refine xal E hw ky_14_15 ka_14_15 hi dX12_readsNumber_26 ?_
        refine lv_if_le (tgt := 86) hx hb dX12_readsNumber_27 (by decide) (fun c5 => ?_) (fun c5 => ?_)
        · replace h := h.1 c5
          refine lv_iconst (v := 1) hx hb dX12_readsNumber_86 (by decide) ?_
          exact hret (1 : Int32) z H locs 87 ls hw rfl h dX12_readsNumber_87
        · replace h := h.2 c5
          refine lv_aload_n hx hb dX12_readsNumber_30 rfl (lv_at hl 0 rfl) ?_
          have hq := h
          clear h
          refine xcVI (As := []) (rest := []) E hw hA (c_X12_isDigit l D ad cs sk z _ hq) kc_12_83 yo_X12_isDigit ⟨Nat.le_of_ble_eq_true rfl, Nat.le_of_ble_eq_true rfl⟩ (xrc E hw ky_14_100 rfl) rfl hl.1 rfl (Nat.le_of_ble_eq_true rfl) dX12_readsNumber_31 ⟨Nat.le_of_ble_eq_true rfl, Nat.le_of_ble_eq_true rfl⟩ (fun r7 z6 H locs h hw => ?_)
          refine lv_if_eq (tgt := 86) hx hb dX12_readsNumber_34 (by decide) (fun c8 => ?_) (fun c8 => ?_)
          · replace h := h.1 c8
            refine lv_iconst (v := 1) hx hb dX12_readsNumber_86 (by decide) ?_
            exact hret (1 : Int32) z6 H locs 87 ls hw rfl h dX12_readsNumber_87
          · replace h := h.2 c8
            refine lv_aload_n hx hb dX12_readsNumber_37 rfl (lv_at hl 0 rfl) ?_
            refine xgC E hw (c1 := 12) (t := (14, 15)) rfl ky_14_100 fo_12_15 rfl qf_12_37 dX12_readsNumber_38 ?_
            refine lv_aload_n hx hb dX12_readsNumber_41 rfl (lv_at hl 0 rfl) ?_
            refine xgI E hw (c1 := 12) rfl ky_14_100 fo_12_14 qf_12_87 dX12_readsNumber_42 ?_
            refine lv_iconst (v := 1) hx hb dX12_readsNumber_45 (by decide) ?_
            refine lv_isub hx hb dX12_readsNumber_46 ?_
            refine lv_bipush (v := 10) hx hb dX12_readsNumber_47 (by decide) ?_
            refine lv_aload_n hx hb dX12_readsNumber_49 rfl (lv_at hl 0 rfl) ?_
            refine xgC E hw (c1 := 12) (t := (14, 15)) rfl ky_14_100 fo_12_15 rfl qf_12_37 dX12_readsNumber_50 ?_
            refine lv_aload_n hx hb dX12_readsNumber_53 rfl (lv_at hl 0 rfl) ?_
            refine xgI E hw (c1 := 12) rfl ky_14_100 fo_12_14 qf_12_87 dX12_readsNumber_54 ?_
            refine lv_iconst (v := 1) hx hb dX12_readsNumber_57 (by decide) ?_
            refine lv_isub hx hb dX12_readsNumber_58 ?_
            obtain ⟨hi, h⟩ := h
            refine xal E hw ky_14_15 ka_14_15 hi dX12_readsNumber_59 ?_
            refine lv_imul hx hb dX12_readsNumber_60 ?_
            refine lv_aload_n hx hb dX12_readsNumber_61 rfl (lv_at hl 0 rfl) ?_
            have hq := h
            clear h
            refine xcVI (As := []) (rest := [.int ((10 : Int32) * (zR z6 14 15 (Int32.toNatClampNeg ((zI z6 14 14) - (1 : Int32))))), .int ((zI z6 14 14) - (1 : Int32)), .ref (ad 14 15)]) E hw hA (c_X12_here l D ad cs sk z6 _ hq) kc_12_75 yo_X12_here ⟨Nat.le_of_ble_eq_true rfl, Nat.le_of_ble_eq_true rfl⟩ (xrc E hw ky_14_100 rfl) rfl hl.1 rfl (Nat.le_of_ble_eq_true rfl) dX12_readsNumber_62 ⟨Nat.le_of_ble_eq_true rfl, Nat.le_of_ble_eq_true rfl⟩ (fun r10 z9 H locs h hw => ?_)
            refine lv_iadd hx hb dX12_readsNumber_65 ?_
            refine lv_bipush (v := 48) hx hb dX12_readsNumber_66 (by decide) ?_
            refine lv_isub hx hb dX12_readsNumber_68 ?_
            obtain ⟨hi, h⟩ := h
            refine xas E hw ky_14_15 ka_14_15 hi dX12_readsNumber_69 (fun z11 ez11 H locs hw => ?_)
            replace h := h z11 ez11
            refine lv_aload_n hx hb dX12_readsNumber_70 rfl (lv_at hl 0 rfl) ?_
            refine lv_dup hx hb dX12_readsNumber_71 rfl ?_
            refine xgI E hw (c1 := 12) rfl ky_14_100 fo_12_11 qf_12_66 dX12_readsNumber_72 ?_
            refine lv_iconst (v := 1) hx hb dX12_readsNumber_75 (by decide) ?_
            refine lv_iadd hx hb dX12_readsNumber_76 ?_
            refine xpI E hw (c1 := 12) rfl ky_14_100 fp_12_11 rfl rfl qf_12_66 dX12_readsNumber_77 (fun z12 ez12 H locs hw => ?_)
            replace h := h z12 ez12
            obtain ⟨t13, et13⟩ : ∃ y : Int32, y = v1 + (1 : Int32) := ⟨_, rfl⟩
            replace h := h t13 et13
            refine lv_iinc (v := t13) (lv' := [(1, .int t13), (0, .ref (ad 14 100))]) hx hb dX12_readsNumber_80 hl (k := 1) rfl (by rw [et13]; rfl) (by decide) rfl (fun ls hl => ?_)
            refine lv_goto (tgt := 11) hx hb dX12_readsNumber_83 (by decide) ?_
            exact ih11 z12 t13 H locs hw ls (lv_sub hl [1, 0] rfl) h
  have b00 : ∀ (H : Heap) (locs : List Loc), OW D ad cs A s.heap z H locs → W p l e (rmq 3 0 0) s m args below meth c H locs 0 0 Q (F0 m 0 ls []) := by
    intro H locs hw
    refine lv_aload_n hx hb dX12_readsNumber_0 rfl (lv_at hl 0 rfl) ?_
    have hq := h
    clear h
    refine xcVI (As := []) (rest := []) E hw hA (c_X12_readsDigit l D ad cs sk z _ hq) kc_12_90 yo_X12_readsDigit ⟨Nat.le_of_ble_eq_true rfl, Nat.le_of_ble_eq_true rfl⟩ (xrc E hw ky_14_100 rfl) rfl hl.1 rfl (Nat.le_of_ble_eq_true rfl) dX12_readsNumber_1 ⟨Nat.le_of_ble_eq_true rfl, Nat.le_of_ble_eq_true rfl⟩ (fun r2 z1 H locs h hw => ?_)
    refine lv_if_ne (tgt := 9) hx hb dX12_readsNumber_4 (by decide) (fun c3 => ?_) (fun c3 => ?_)
    · replace h := h.1 c3
      refine lv_iconst (v := 1) hx hb dX12_readsNumber_9 (by decide) ?_
      refine lv_istore_n (lv' := [(1, .int (1 : Int32)), (0, .ref (ad 14 100))]) hx hb dX12_readsNumber_10 rfl hl (by decide) rfl (fun ls hl => ?_)
      obtain ⟨n14, h⟩ := h
      exact b11 n14 z1 (1 : Int32) H locs hw ls (lv_sub hl [1, 0] rfl) h
    · replace h := h.2 c3
      refine lv_iconst (v := 0) hx hb dX12_readsNumber_7 (by decide) ?_
      exact hret (0 : Int32) z1 H locs 8 ls hw rfl h dX12_readsNumber_8
  exact b00 s.heap [] hw
def V_X12_readsSigned_19 (post : Int32 → ZS → Prop) (z : ZS) (v1 : Int32) : Prop := (∀ z4 : ZS, z4 = wI z 14 11 ((zI z 14 11) + (1 : Int32)) → V_X12_readsNumber z4 (fun r6 z5 => ((¬ r6 = 0 → ((¬ v1 = (45 : Int32) → post (1 : Int32) z5) ∧ (v1 = (45 : Int32) → (vp_in ((zI z5 14 14) - (1 : Int32)) 4 ∧ (vp_in ((zI z5 14 14) - (1 : Int32)) 4 ∧ ∀ z9 : ZS, z9 = wR z5 14 15 (Int32.toNatClampNeg ((zI z5 14 14) - (1 : Int32))) (-(zR z5 14 15 (Int32.toNatClampNeg ((zI z5 14 14) - (1 : Int32))))) → post (1 : Int32) z9))))) ∧ (r6 = 0 → post (0 : Int32) z5))))
def V_X12_readsSigned (z : ZS) (post : Int32 → ZS → Prop) : Prop := V_X12_here z (fun r2 z1 => ((r2 = (43 : Int32) → V_X12_readsSigned_19 post z1 r2) ∧ (¬ r2 = (43 : Int32) → ((r2 = (45 : Int32) → V_X12_readsSigned_19 post z1 r2) ∧ (¬ r2 = (45 : Int32) → post (0 : Int32) z1)))))
set_option maxHeartbeats 4000000 in
set_option maxRecDepth 100000 in
theorem c_X12_readsSigned (l : Launch) (D : va_G) (ad : Nat → Nat → Nat) (cs : Nat → ClassId) (sk : (Nat → Nat) × (Nat → Nat)) (z : ZS) (post : Int32 → ZS → Prop) (h : V_X12_readsSigned z post) : MI l D ad cs sk yX12_readsSigned cX12_readsSigned 2 .boolean (rmq 4 0 0) [.ref (ad 14 100)] z post := by
  refine MI.of RX12 rfl (by decide) (Nat.le_of_ble_eq_true rfl) ?_
  intro p e s m args below meth c A Q E hw hA hret ls hl
  have hx := E.1.1
  have hb := E.1.2.1
  have hml := E.1.2.2.1
  have hown := E.1.2.2.2.1
  have h0 := E.1.2.2.2.2
  have hl : lv_has ls 2 [(0, .ref (ad 14 100))] := hl
  unfold V_X12_readsSigned at h
  have b19 : ∀ (z : ZS) (v1 : Int32), ∀ (H : Heap) (locs : List Loc), OW D ad cs A s.heap z H locs → ∀ ls : Array Slot, lv_has ls 2 [(0, .ref (ad 14 100)), (1, .int v1)] → V_X12_readsSigned_19 post z v1 → W p l e (rmq 4 0 0) s m args below meth c H locs 0 0 Q (F0 m 19 ls []) := by
    intro z v1 H locs hw ls hl h
    unfold V_X12_readsSigned_19 at h
    refine lv_aload_n hx hb dX12_readsSigned_19 rfl (lv_at hl 0 rfl) ?_
    refine lv_dup hx hb dX12_readsSigned_20 rfl ?_
    refine xgI E hw (c1 := 12) rfl ky_14_100 fo_12_11 qf_12_66 dX12_readsSigned_21 ?_
    refine lv_iconst (v := 1) hx hb dX12_readsSigned_24 (by decide) ?_
    refine lv_iadd hx hb dX12_readsSigned_25 ?_
    refine xpI E hw (c1 := 12) rfl ky_14_100 fp_12_11 rfl rfl qf_12_66 dX12_readsSigned_26 (fun z4 ez4 H locs hw => ?_)
    replace h := h z4 ez4
    refine lv_aload_n hx hb dX12_readsSigned_29 rfl (lv_at hl 0 rfl) ?_
    have hq := h
    clear h
    refine xcVI (As := []) (rest := []) E hw hA (c_X12_readsNumber l D ad cs sk z4 _ hq) kc_12_93 yo_X12_readsNumber ⟨Nat.le_of_ble_eq_true rfl, Nat.le_of_ble_eq_true rfl⟩ (xrc E hw ky_14_100 rfl) rfl hl.1 rfl (Nat.le_of_ble_eq_true rfl) dX12_readsSigned_30 ⟨Nat.le_of_ble_eq_true rfl, Nat.le_of_ble_eq_true rfl⟩ (fun r6 z5 H locs h hw => ?_)
    refine lv_if_ne (tgt := 38) hx hb dX12_readsSigned_33 (by decide) (fun c7 => ?_) (fun c7 => ?_)
    · replace h := h.1 c7
      refine lv_iload_n hx hb dX12_readsSigned_38 rfl (lv_at hl 1 rfl) ?_
      refine lv_bipush (v := 45) hx hb dX12_readsSigned_39 (by decide) ?_
      refine lv_icmp_ne (tgt := 67) hx hb dX12_readsSigned_41 (by decide) (fun c8 => ?_) (fun c8 => ?_)
      · replace h := h.1 c8
        refine lv_iconst (v := 1) hx hb dX12_readsSigned_67 (by decide) ?_
        exact hret (1 : Int32) z5 H locs 68 ls hw rfl h dX12_readsSigned_68
      · replace h := h.2 c8
        refine lv_aload_n hx hb dX12_readsSigned_44 rfl (lv_at hl 0 rfl) ?_
        refine xgC E hw (c1 := 12) (t := (14, 15)) rfl ky_14_100 fo_12_15 rfl qf_12_37 dX12_readsSigned_45 ?_
        refine lv_aload_n hx hb dX12_readsSigned_48 rfl (lv_at hl 0 rfl) ?_
        refine xgI E hw (c1 := 12) rfl ky_14_100 fo_12_14 qf_12_87 dX12_readsSigned_49 ?_
        refine lv_iconst (v := 1) hx hb dX12_readsSigned_52 (by decide) ?_
        refine lv_isub hx hb dX12_readsSigned_53 ?_
        refine lv_aload_n hx hb dX12_readsSigned_54 rfl (lv_at hl 0 rfl) ?_
        refine xgC E hw (c1 := 12) (t := (14, 15)) rfl ky_14_100 fo_12_15 rfl qf_12_37 dX12_readsSigned_55 ?_
        refine lv_aload_n hx hb dX12_readsSigned_58 rfl (lv_at hl 0 rfl) ?_
        refine xgI E hw (c1 := 12) rfl ky_14_100 fo_12_14 qf_12_87 dX12_readsSigned_59 ?_
        refine lv_iconst (v := 1) hx hb dX12_readsSigned_62 (by decide) ?_
        refine lv_isub hx hb dX12_readsSigned_63 ?_
        obtain ⟨hi, h⟩ := h
        refine xal E hw ky_14_15 ka_14_15 hi dX12_readsSigned_64 ?_
        refine lv_ineg hx hb dX12_readsSigned_65 ?_
        obtain ⟨hi, h⟩ := h
        refine xas E hw ky_14_15 ka_14_15 hi dX12_readsSigned_66 (fun z9 ez9 H locs hw => ?_)
        replace h := h z9 ez9
        refine lv_iconst (v := 1) hx hb dX12_readsSigned_67 (by decide) ?_
        exact hret (1 : Int32) z9 H locs 68 ls hw rfl h dX12_readsSigned_68
    · replace h := h.2 c7
      refine lv_iconst (v := 0) hx hb dX12_readsSigned_36 (by decide) ?_
      exact hret (0 : Int32) z5 H locs 37 ls hw rfl h dX12_readsSigned_37
  have b00 : ∀ (H : Heap) (locs : List Loc), OW D ad cs A s.heap z H locs → W p l e (rmq 4 0 0) s m args below meth c H locs 0 0 Q (F0 m 0 ls []) := by
    intro H locs hw
    refine lv_aload_n hx hb dX12_readsSigned_0 rfl (lv_at hl 0 rfl) ?_
    have hq := h
    clear h
    refine xcVI (As := []) (rest := []) E hw hA (c_X12_here l D ad cs sk z _ hq) kc_12_75 yo_X12_here ⟨Nat.le_of_ble_eq_true rfl, Nat.le_of_ble_eq_true rfl⟩ (xrc E hw ky_14_100 rfl) rfl hl.1 rfl (Nat.le_of_ble_eq_true rfl) dX12_readsSigned_1 ⟨Nat.le_of_ble_eq_true rfl, Nat.le_of_ble_eq_true rfl⟩ (fun r2 z1 H locs h hw => ?_)
    refine lv_istore_n (lv' := [(1, .int r2), (0, .ref (ad 14 100))]) hx hb dX12_readsSigned_4 rfl hl (by decide) rfl (fun ls hl => ?_)
    refine lv_iload_n hx hb dX12_readsSigned_5 rfl (lv_at hl 0 rfl) ?_
    refine lv_bipush (v := 43) hx hb dX12_readsSigned_6 (by decide) ?_
    refine lv_icmp_eq (tgt := 19) hx hb dX12_readsSigned_8 (by decide) (fun c3 => ?_) (fun c3 => ?_)
    · replace h := h.1 c3
      exact b19 z1 r2 H locs hw ls (lv_sub hl [1, 0] rfl) h
    · replace h := h.2 c3
      refine lv_iload_n hx hb dX12_readsSigned_11 rfl (lv_at hl 0 rfl) ?_
      refine lv_bipush (v := 45) hx hb dX12_readsSigned_12 (by decide) ?_
      refine lv_icmp_eq (tgt := 19) hx hb dX12_readsSigned_14 (by decide) (fun c10 => ?_) (fun c10 => ?_)
      · replace h := h.1 c10
        exact b19 z1 r2 H locs hw ls (lv_sub hl [1, 0] rfl) h
      · replace h := h.2 c10
        refine lv_iconst (v := 0) hx hb dX12_readsSigned_17 (by decide) ?_
        exact hret (0 : Int32) z1 H locs 18 ls hw rfl h dX12_readsSigned_18
  exact b00 s.heap [] hw
def V_X12_readsStatement_239 (post : Int32 → ZS → Prop) (z : ZS) (v2 : Int32) : Prop := ((v2 = 0 → post (0 : Int32) z) ∧ (¬ v2 = 0 → V_X12_takes z (59 : Int32) (fun r11 z10 => ((r11 = 0 → post (0 : Int32) z10) ∧ (¬ r11 = 0 → post (1 : Int32) z10)))))
def V_X12_readsStatement_238 (post : Int32 → ZS → Prop) (z : ZS) (s0 : Int32) : Prop := V_X12_readsStatement_239 post z s0
def V_X12_readsStatement_237 (post : Int32 → ZS → Prop) (z : ZS) : Prop := V_X12_readsStatement_238 post z (0 : Int32)
def V_X12_readsStatement_122 (post : Int32 → ZS → Prop) (z : ZS) (s0 : Int32) : Prop := V_X12_readsStatement_239 post z s0
def V_X12_readsStatement_121 (post : Int32 → ZS → Prop) (z : ZS) : Prop := V_X12_readsStatement_122 post z (0 : Int32)
def V_X12_readsStatement_201 (post : Int32 → ZS → Prop) (z : ZS) (s0 : Int32) : Prop := V_X12_readsStatement_239 post z s0
def V_X12_readsStatement_200 (post : Int32 → ZS → Prop) (z : ZS) : Prop := V_X12_readsStatement_201 post z (0 : Int32)
def V_X12_readsStatement_162 (post : Int32 → ZS → Prop) (z : ZS) (s0 : Int32) : Prop := V_X12_readsStatement_239 post z s0
def V_X12_readsStatement_161 (post : Int32 → ZS → Prop) (z : ZS) : Prop := V_X12_readsStatement_162 post z (0 : Int32)
def V_X12_readsStatement_42 (post : Int32 → ZS → Prop) (z : ZS) (v1 : Int32) : Prop := (∀ z5 : ZS, z5 = wI z 14 11 ((zI z 14 11) + (1 : Int32)) → ((v1 = (97 : Int32) → V_X12_readsNumber z5 (fun r51 z50 => ((r51 = 0 → V_X12_readsStatement_161 post z50) ∧ (¬ r51 = 0 → V_X12_takes z50 (32 : Int32) (fun r54 z53 => ((r54 = 0 → V_X12_readsStatement_161 post z53) ∧ (¬ r54 = 0 → V_X12_readsNumber z53 (fun r57 z56 => ((r57 = 0 → V_X12_readsStatement_161 post z56) ∧ (¬ r57 = 0 → V_X12_readsStatement_162 post z56 (1 : Int32))))))))))) ∧ (¬ v1 = (97 : Int32) → ((v1 = (102 : Int32) → V_X12_readsDigit z5 (fun r39 z38 => ((r39 = 0 → V_X12_readsStatement_200 post z38) ∧ (¬ r39 = 0 → V_X12_readsDigit z38 (fun r42 z41 => ((r42 = 0 → V_X12_readsStatement_200 post z41) ∧ (¬ r42 = 0 → V_X12_takes z41 (32 : Int32) (fun r45 z44 => ((r45 = 0 → V_X12_readsStatement_200 post z44) ∧ (¬ r45 = 0 → V_X12_readsNumber z44 (fun r48 z47 => ((r48 = 0 → V_X12_readsStatement_200 post z47) ∧ (¬ r48 = 0 → V_X12_readsStatement_201 post z47 (1 : Int32)))))))))))))) ∧ (¬ v1 = (102 : Int32) → ((v1 = (103 : Int32) → V_X12_readsNumber z5 (fun r37 z36 => V_X12_readsStatement_239 post z36 r37)) ∧ (¬ v1 = (103 : Int32) → ((v1 = (108 : Int32) → V_X12_readsDigit z5 (fun r28 z27 => ((r28 = 0 → V_X12_readsStatement_121 post z27) ∧ (¬ r28 = 0 → V_X12_readsSigned z27 (fun r31 z30 => ((r31 = 0 → V_X12_readsStatement_121 post z30) ∧ (¬ r31 = 0 → V_X12_readsSigned z30 (fun r34 z33 => ((r34 = 0 → V_X12_readsStatement_121 post z33) ∧ (¬ r34 = 0 → V_X12_readsStatement_122 post z33 (1 : Int32))))))))))) ∧ (¬ v1 = (108 : Int32) → V_X12_readsSigned z5 (fun r7 z6 => ((r7 = 0 → V_X12_readsStatement_237 post z6) ∧ (¬ r7 = 0 → V_X12_readsSigned z6 (fun r14 z13 => ((r14 = 0 → V_X12_readsStatement_237 post z13) ∧ (¬ r14 = 0 → V_X12_readsSigned z13 (fun r17 z16 => ((r17 = 0 → V_X12_readsStatement_237 post z16) ∧ (¬ r17 = 0 → V_X12_readsSigned z16 (fun r20 z19 => ((r20 = 0 → V_X12_readsStatement_237 post z19) ∧ (¬ r20 = 0 → V_X12_readsStatement_238 post z19 (1 : Int32))))))))))))))))))))))
def V_X12_readsStatement (z : ZS) (post : Int32 → ZS → Prop) : Prop := V_X12_here z (fun r2 z1 => (∀ z3 : ZS, z3 = wI z1 14 14 (0 : Int32) → ((r2 = (108 : Int32) → V_X12_readsStatement_42 post z3 r2) ∧ (¬ r2 = (108 : Int32) → ((r2 = (103 : Int32) → V_X12_readsStatement_42 post z3 r2) ∧ (¬ r2 = (103 : Int32) → ((r2 = (97 : Int32) → V_X12_readsStatement_42 post z3 r2) ∧ (¬ r2 = (97 : Int32) → ((r2 = (102 : Int32) → V_X12_readsStatement_42 post z3 r2) ∧ (¬ r2 = (102 : Int32) → ((r2 = (98 : Int32) → V_X12_readsStatement_42 post z3 r2) ∧ (¬ r2 = (98 : Int32) → post (0 : Int32) z3))))))))))))
set_option maxHeartbeats 4000000 in
set_option maxRecDepth 100000 in
theorem c_X12_readsStatement (l : Launch) (D : va_G) (ad : Nat → Nat → Nat) (cs : Nat → ClassId) (sk : (Nat → Nat) × (Nat → Nat)) (z : ZS) (post : Int32 → ZS → Prop) (h : V_X12_readsStatement z post) : MI l D ad cs sk yX12_readsStatement cX12_readsStatement 3 .boolean (rmq 5 0 0) [.ref (ad 14 100)] z post := by
  refine MI.of RX12 rfl (by decide) (Nat.le_of_ble_eq_true rfl) ?_
  intro p e s m args below meth c A Q E hw hA hret ls hl
  have hx := E.1.1
  have hb := E.1.2.1
  have hml := E.1.2.2.1
  have hown := E.1.2.2.2.1
  have h0 := E.1.2.2.2.2
  have hl : lv_has ls 3 [(0, .ref (ad 14 100))] := hl
  unfold V_X12_readsStatement at h
  have b239 : ∀ (z : ZS) (v2 : Int32), ∀ (H : Heap) (locs : List Loc), OW D ad cs A s.heap z H locs → ∀ ls : Array Slot, lv_has ls 3 [(0, .ref (ad 14 100)), (2, .int v2)] → V_X12_readsStatement_239 post z v2 → W p l e (rmq 5 0 0) s m args below meth c H locs 0 0 Q (F0 m 239 ls []) := by
    intro z v2 H locs hw ls hl h
    unfold V_X12_readsStatement_239 at h
    refine lv_iload_n hx hb dX12_readsStatement_239 rfl (lv_at hl 1 rfl) ?_
    refine lv_if_eq (tgt := 256) hx hb dX12_readsStatement_240 (by decide) (fun c9 => ?_) (fun c9 => ?_)
    · replace h := h.1 c9
      refine lv_iconst (v := 0) hx hb dX12_readsStatement_256 (by decide) ?_
      exact hret (0 : Int32) z H locs 257 ls hw rfl h dX12_readsStatement_257
    · replace h := h.2 c9
      refine lv_aload_n hx hb dX12_readsStatement_243 rfl (lv_at hl 0 rfl) ?_
      refine lv_bipush (v := 59) hx hb dX12_readsStatement_244 (by decide) ?_
      have hq := h
      clear h
      refine xcVI (As := [.int (59 : Int32)]) (rest := []) E hw hA (c_X12_takes l D ad cs sk z (59 : Int32) _ hq) kc_12_99 yo_X12_takes ⟨Nat.le_of_ble_eq_true rfl, Nat.le_of_ble_eq_true rfl⟩ (xrc E hw ky_14_100 rfl) rfl hl.1 rfl (Nat.le_of_ble_eq_true rfl) dX12_readsStatement_246 ⟨Nat.le_of_ble_eq_true rfl, Nat.le_of_ble_eq_true rfl⟩ (fun r11 z10 H locs h hw => ?_)
      refine lv_if_eq (tgt := 256) hx hb dX12_readsStatement_249 (by decide) (fun c12 => ?_) (fun c12 => ?_)
      · replace h := h.1 c12
        refine lv_iconst (v := 0) hx hb dX12_readsStatement_256 (by decide) ?_
        exact hret (0 : Int32) z10 H locs 257 ls hw rfl h dX12_readsStatement_257
      · replace h := h.2 c12
        refine lv_iconst (v := 1) hx hb dX12_readsStatement_252 (by decide) ?_
        refine lv_goto (tgt := 257) hx hb dX12_readsStatement_253 (by decide) ?_
        exact hret (1 : Int32) z10 H locs 257 ls hw rfl h dX12_readsStatement_257
  have b238 : ∀ (z : ZS) (s0 : Int32), ∀ (H : Heap) (locs : List Loc), OW D ad cs A s.heap z H locs → ∀ ls : Array Slot, lv_has ls 3 [(0, .ref (ad 14 100))] → V_X12_readsStatement_238 post z s0 → W p l e (rmq 5 0 0) s m args below meth c H locs 0 0 Q (F0 m 238 ls [.int s0]) := by
    intro z s0 H locs hw ls hl h
    unfold V_X12_readsStatement_238 at h
    refine lv_istore_n (lv' := [(2, .int s0), (0, .ref (ad 14 100))]) hx hb dX12_readsStatement_238 rfl hl (by decide) rfl (fun ls hl => ?_)
    exact b239 z s0 H locs hw ls (lv_sub hl [1, 0] rfl) h
  have b237 : ∀ (z : ZS), ∀ (H : Heap) (locs : List Loc), OW D ad cs A s.heap z H locs → ∀ ls : Array Slot, lv_has ls 3 [(0, .ref (ad 14 100))] → V_X12_readsStatement_237 post z → W p l e (rmq 5 0 0) s m args below meth c H locs 0 0 Q (F0 m 237 ls []) := by
    intro z H locs hw ls hl h
    unfold V_X12_readsStatement_237 at h
    refine lv_iconst (v := 0) hx hb dX12_readsStatement_237 (by decide) ?_
    exact b238 z (0 : Int32) H locs hw ls (lv_sub hl [0] rfl) h
  have b122 : ∀ (z : ZS) (s0 : Int32), ∀ (H : Heap) (locs : List Loc), OW D ad cs A s.heap z H locs → ∀ ls : Array Slot, lv_has ls 3 [(0, .ref (ad 14 100))] → V_X12_readsStatement_122 post z s0 → W p l e (rmq 5 0 0) s m args below meth c H locs 0 0 Q (F0 m 122 ls [.int s0]) := by
    intro z s0 H locs hw ls hl h
    unfold V_X12_readsStatement_122 at h
    refine lv_istore_n (lv' := [(2, .int s0), (0, .ref (ad 14 100))]) hx hb dX12_readsStatement_122 rfl hl (by decide) rfl (fun ls hl => ?_)
    refine lv_goto (tgt := 239) hx hb dX12_readsStatement_123 (by decide) ?_
    exact b239 z s0 H locs hw ls (lv_sub hl [1, 0] rfl) h
  have b121 : ∀ (z : ZS), ∀ (H : Heap) (locs : List Loc), OW D ad cs A s.heap z H locs → ∀ ls : Array Slot, lv_has ls 3 [(0, .ref (ad 14 100))] → V_X12_readsStatement_121 post z → W p l e (rmq 5 0 0) s m args below meth c H locs 0 0 Q (F0 m 121 ls []) := by
    intro z H locs hw ls hl h
    unfold V_X12_readsStatement_121 at h
    refine lv_iconst (v := 0) hx hb dX12_readsStatement_121 (by decide) ?_
    exact b122 z (0 : Int32) H locs hw ls (lv_sub hl [0] rfl) h
  have b201 : ∀ (z : ZS) (s0 : Int32), ∀ (H : Heap) (locs : List Loc), OW D ad cs A s.heap z H locs → ∀ ls : Array Slot, lv_has ls 3 [(0, .ref (ad 14 100))] → V_X12_readsStatement_201 post z s0 → W p l e (rmq 5 0 0) s m args below meth c H locs 0 0 Q (F0 m 201 ls [.int s0]) := by
    intro z s0 H locs hw ls hl h
    unfold V_X12_readsStatement_201 at h
    refine lv_istore_n (lv' := [(2, .int s0), (0, .ref (ad 14 100))]) hx hb dX12_readsStatement_201 rfl hl (by decide) rfl (fun ls hl => ?_)
    refine lv_goto (tgt := 239) hx hb dX12_readsStatement_202 (by decide) ?_
    exact b239 z s0 H locs hw ls (lv_sub hl [1, 0] rfl) h
  have b200 : ∀ (z : ZS), ∀ (H : Heap) (locs : List Loc), OW D ad cs A s.heap z H locs → ∀ ls : Array Slot, lv_has ls 3 [(0, .ref (ad 14 100))] → V_X12_readsStatement_200 post z → W p l e (rmq 5 0 0) s m args below meth c H locs 0 0 Q (F0 m 200 ls []) := by
    intro z H locs hw ls hl h
    unfold V_X12_readsStatement_200 at h
    refine lv_iconst (v := 0) hx hb dX12_readsStatement_200 (by decide) ?_
    exact b201 z (0 : Int32) H locs hw ls (lv_sub hl [0] rfl) h
  have b162 : ∀ (z : ZS) (s0 : Int32), ∀ (H : Heap) (locs : List Loc), OW D ad cs A s.heap z H locs → ∀ ls : Array Slot, lv_has ls 3 [(0, .ref (ad 14 100))] → V_X12_readsStatement_162 post z s0 → W p l e (rmq 5 0 0) s m args below meth c H locs 0 0 Q (F0 m 162 ls [.int s0]) := by
    intro z s0 H locs hw ls hl h
    unfold V_X12_readsStatement_162 at h
    refine lv_istore_n (lv' := [(2, .int s0), (0, .ref (ad 14 100))]) hx hb dX12_readsStatement_162 rfl hl (by decide) rfl (fun ls hl => ?_)
    refine lv_goto (tgt := 239) hx hb dX12_readsStatement_163 (by decide) ?_
    exact b239 z s0 H locs hw ls (lv_sub hl [1, 0] rfl) h
  have b161 : ∀ (z : ZS), ∀ (H : Heap) (locs : List Loc), OW D ad cs A s.heap z H locs → ∀ ls : Array Slot, lv_has ls 3 [(0, .ref (ad 14 100))] → V_X12_readsStatement_161 post z → W p l e (rmq 5 0 0) s m args below meth c H locs 0 0 Q (F0 m 161 ls []) := by
    intro z H locs hw ls hl h
    unfold V_X12_readsStatement_161 at h
    refine lv_iconst (v := 0) hx hb dX12_readsStatement_161 (by decide) ?_
    exact b162 z (0 : Int32) H locs hw ls (lv_sub hl [0] rfl) h
  have b42 : ∀ (z : ZS) (v1 : Int32), ∀ (H : Heap) (locs : List Loc), OW D ad cs A s.heap z H locs → ∀ ls : Array Slot, lv_has ls 3 [(0, .ref (ad 14 100)), (1, .int v1)] → V_X12_readsStatement_42 post z v1 → W p l e (rmq 5 0 0) s m args below meth c H locs 0 0 Q (F0 m 42 ls []) := by
    intro z v1 H locs hw ls hl h
    unfold V_X12_readsStatement_42 at h
    refine lv_aload_n hx hb dX12_readsStatement_42 rfl (lv_at hl 0 rfl) ?_
    refine lv_dup hx hb dX12_readsStatement_43 rfl ?_
    refine xgI E hw (c1 := 12) rfl ky_14_100 fo_12_11 qf_12_66 dX12_readsStatement_44 ?_
    refine lv_iconst (v := 1) hx hb dX12_readsStatement_47 (by decide) ?_
    refine lv_iadd hx hb dX12_readsStatement_48 ?_
    refine xpI E hw (c1 := 12) rfl ky_14_100 fp_12_11 rfl rfl qf_12_66 dX12_readsStatement_49 (fun z5 ez5 H locs hw => ?_)
    replace h := h z5 ez5
    refine lv_iconst (v := 0) hx hb dX12_readsStatement_52 (by decide) ?_
    refine lv_istore_n (lv' := [(2, .int (0 : Int32)), (0, .ref (ad 14 100)), (1, .int v1)]) hx hb dX12_readsStatement_53 rfl hl (by decide) rfl (fun ls hl => ?_)
    refine lv_iload_n hx hb dX12_readsStatement_54 rfl (lv_at hl 2 rfl) ?_
    by_cases c22 : v1 = (97 : Int32)
    · replace h := h.1 c22
      refine lv_lookup (tgt := 134) (off := 79) hx hb dX12_readsStatement_55 (by decide) (by rw [c22]; rfl) (by decide) ?_
      refine lv_aload_n hx hb dX12_readsStatement_134 rfl (lv_at hl 1 rfl) ?_
      have hq := h
      clear h
      refine xcVI (As := []) (rest := []) E hw hA (c_X12_readsNumber l D ad cs sk z5 _ hq) kc_12_93 yo_X12_readsNumber ⟨Nat.le_of_ble_eq_true rfl, Nat.le_of_ble_eq_true rfl⟩ (xrc E hw ky_14_100 rfl) rfl hl.1 rfl (Nat.le_of_ble_eq_true rfl) dX12_readsStatement_135 ⟨Nat.le_of_ble_eq_true rfl, Nat.le_of_ble_eq_true rfl⟩ (fun r51 z50 H locs h hw => ?_)
      refine lv_if_eq (tgt := 161) hx hb dX12_readsStatement_138 (by decide) (fun c52 => ?_) (fun c52 => ?_)
      · replace h := h.1 c52
        exact b161 z50 H locs hw ls (lv_sub hl [1] rfl) h
      · replace h := h.2 c52
        refine lv_aload_n hx hb dX12_readsStatement_141 rfl (lv_at hl 1 rfl) ?_
        refine lv_bipush (v := 32) hx hb dX12_readsStatement_142 (by decide) ?_
        have hq := h
        clear h
        refine xcVI (As := [.int (32 : Int32)]) (rest := []) E hw hA (c_X12_takes l D ad cs sk z50 (32 : Int32) _ hq) kc_12_99 yo_X12_takes ⟨Nat.le_of_ble_eq_true rfl, Nat.le_of_ble_eq_true rfl⟩ (xrc E hw ky_14_100 rfl) rfl hl.1 rfl (Nat.le_of_ble_eq_true rfl) dX12_readsStatement_144 ⟨Nat.le_of_ble_eq_true rfl, Nat.le_of_ble_eq_true rfl⟩ (fun r54 z53 H locs h hw => ?_)
        refine lv_if_eq (tgt := 161) hx hb dX12_readsStatement_147 (by decide) (fun c55 => ?_) (fun c55 => ?_)
        · replace h := h.1 c55
          exact b161 z53 H locs hw ls (lv_sub hl [1] rfl) h
        · replace h := h.2 c55
          refine lv_aload_n hx hb dX12_readsStatement_150 rfl (lv_at hl 1 rfl) ?_
          have hq := h
          clear h
          refine xcVI (As := []) (rest := []) E hw hA (c_X12_readsNumber l D ad cs sk z53 _ hq) kc_12_93 yo_X12_readsNumber ⟨Nat.le_of_ble_eq_true rfl, Nat.le_of_ble_eq_true rfl⟩ (xrc E hw ky_14_100 rfl) rfl hl.1 rfl (Nat.le_of_ble_eq_true rfl) dX12_readsStatement_151 ⟨Nat.le_of_ble_eq_true rfl, Nat.le_of_ble_eq_true rfl⟩ (fun r57 z56 H locs h hw => ?_)
          refine lv_if_eq (tgt := 161) hx hb dX12_readsStatement_154 (by decide) (fun c58 => ?_) (fun c58 => ?_)
          · replace h := h.1 c58
            exact b161 z56 H locs hw ls (lv_sub hl [1] rfl) h
          · replace h := h.2 c58
            refine lv_iconst (v := 1) hx hb dX12_readsStatement_157 (by decide) ?_
            refine lv_goto (tgt := 162) hx hb dX12_readsStatement_158 (by decide) ?_
            exact b162 z56 (1 : Int32) H locs hw ls (lv_sub hl [1] rfl) h
    · replace h := h.2 c22
      by_cases c23 : v1 = (102 : Int32)
      · replace h := h.1 c23
        refine lv_lookup (tgt := 166) (off := 111) hx hb dX12_readsStatement_55 (by decide) (by rw [c23]; rfl) (by decide) ?_
        refine lv_aload_n hx hb dX12_readsStatement_166 rfl (lv_at hl 1 rfl) ?_
        have hq := h
        clear h
        refine xcVI (As := []) (rest := []) E hw hA (c_X12_readsDigit l D ad cs sk z5 _ hq) kc_12_90 yo_X12_readsDigit ⟨Nat.le_of_ble_eq_true rfl, Nat.le_of_ble_eq_true rfl⟩ (xrc E hw ky_14_100 rfl) rfl hl.1 rfl (Nat.le_of_ble_eq_true rfl) dX12_readsStatement_167 ⟨Nat.le_of_ble_eq_true rfl, Nat.le_of_ble_eq_true rfl⟩ (fun r39 z38 H locs h hw => ?_)
        refine lv_if_eq (tgt := 200) hx hb dX12_readsStatement_170 (by decide) (fun c40 => ?_) (fun c40 => ?_)
        · replace h := h.1 c40
          exact b200 z38 H locs hw ls (lv_sub hl [1] rfl) h
        · replace h := h.2 c40
          refine lv_aload_n hx hb dX12_readsStatement_173 rfl (lv_at hl 1 rfl) ?_
          have hq := h
          clear h
          refine xcVI (As := []) (rest := []) E hw hA (c_X12_readsDigit l D ad cs sk z38 _ hq) kc_12_90 yo_X12_readsDigit ⟨Nat.le_of_ble_eq_true rfl, Nat.le_of_ble_eq_true rfl⟩ (xrc E hw ky_14_100 rfl) rfl hl.1 rfl (Nat.le_of_ble_eq_true rfl) dX12_readsStatement_174 ⟨Nat.le_of_ble_eq_true rfl, Nat.le_of_ble_eq_true rfl⟩ (fun r42 z41 H locs h hw => ?_)
          refine lv_if_eq (tgt := 200) hx hb dX12_readsStatement_177 (by decide) (fun c43 => ?_) (fun c43 => ?_)
          · replace h := h.1 c43
            exact b200 z41 H locs hw ls (lv_sub hl [1] rfl) h
          · replace h := h.2 c43
            refine lv_aload_n hx hb dX12_readsStatement_180 rfl (lv_at hl 1 rfl) ?_
            refine lv_bipush (v := 32) hx hb dX12_readsStatement_181 (by decide) ?_
            have hq := h
            clear h
            refine xcVI (As := [.int (32 : Int32)]) (rest := []) E hw hA (c_X12_takes l D ad cs sk z41 (32 : Int32) _ hq) kc_12_99 yo_X12_takes ⟨Nat.le_of_ble_eq_true rfl, Nat.le_of_ble_eq_true rfl⟩ (xrc E hw ky_14_100 rfl) rfl hl.1 rfl (Nat.le_of_ble_eq_true rfl) dX12_readsStatement_183 ⟨Nat.le_of_ble_eq_true rfl, Nat.le_of_ble_eq_true rfl⟩ (fun r45 z44 H locs h hw => ?_)
            refine lv_if_eq (tgt := 200) hx hb dX12_readsStatement_186 (by decide) (fun c46 => ?_) (fun c46 => ?_)
            · replace h := h.1 c46
              exact b200 z44 H locs hw ls (lv_sub hl [1] rfl) h
            · replace h := h.2 c46
              refine lv_aload_n hx hb dX12_readsStatement_189 rfl (lv_at hl 1 rfl) ?_
              have hq := h
              clear h
              refine xcVI (As := []) (rest := []) E hw hA (c_X12_readsNumber l D ad cs sk z44 _ hq) kc_12_93 yo_X12_readsNumber ⟨Nat.le_of_ble_eq_true rfl, Nat.le_of_ble_eq_true rfl⟩ (xrc E hw ky_14_100 rfl) rfl hl.1 rfl (Nat.le_of_ble_eq_true rfl) dX12_readsStatement_190 ⟨Nat.le_of_ble_eq_true rfl, Nat.le_of_ble_eq_true rfl⟩ (fun r48 z47 H locs h hw => ?_)
              refine lv_if_eq (tgt := 200) hx hb dX12_readsStatement_193 (by decide) (fun c49 => ?_) (fun c49 => ?_)
              · replace h := h.1 c49
                exact b200 z47 H locs hw ls (lv_sub hl [1] rfl) h
              · replace h := h.2 c49
                refine lv_iconst (v := 1) hx hb dX12_readsStatement_196 (by decide) ?_
                refine lv_goto (tgt := 201) hx hb dX12_readsStatement_197 (by decide) ?_
                exact b201 z47 (1 : Int32) H locs hw ls (lv_sub hl [1] rfl) h
      · replace h := h.2 c23
        by_cases c24 : v1 = (103 : Int32)
        · replace h := h.1 c24
          refine lv_lookup (tgt := 126) (off := 71) hx hb dX12_readsStatement_55 (by decide) (by rw [c24]; rfl) (by decide) ?_
          refine lv_aload_n hx hb dX12_readsStatement_126 rfl (lv_at hl 1 rfl) ?_
          have hq := h
          clear h
          refine xcVI (As := []) (rest := []) E hw hA (c_X12_readsNumber l D ad cs sk z5 _ hq) kc_12_93 yo_X12_readsNumber ⟨Nat.le_of_ble_eq_true rfl, Nat.le_of_ble_eq_true rfl⟩ (xrc E hw ky_14_100 rfl) rfl hl.1 rfl (Nat.le_of_ble_eq_true rfl) dX12_readsStatement_127 ⟨Nat.le_of_ble_eq_true rfl, Nat.le_of_ble_eq_true rfl⟩ (fun r37 z36 H locs h hw => ?_)
          refine lv_istore_n (lv' := [(2, .int r37), (0, .ref (ad 14 100)), (1, .int v1)]) hx hb dX12_readsStatement_130 rfl hl (by decide) rfl (fun ls hl => ?_)
          refine lv_goto (tgt := 239) hx hb dX12_readsStatement_131 (by decide) ?_
          exact b239 z36 r37 H locs hw ls (lv_sub hl [1, 0] rfl) h
        · replace h := h.2 c24
          by_cases c25 : v1 = (108 : Int32)
          · replace h := h.1 c25
            refine lv_lookup (tgt := 96) (off := 41) hx hb dX12_readsStatement_55 (by decide) (by rw [c25]; rfl) (by decide) ?_
            refine lv_aload_n hx hb dX12_readsStatement_96 rfl (lv_at hl 1 rfl) ?_
            have hq := h
            clear h
            refine xcVI (As := []) (rest := []) E hw hA (c_X12_readsDigit l D ad cs sk z5 _ hq) kc_12_90 yo_X12_readsDigit ⟨Nat.le_of_ble_eq_true rfl, Nat.le_of_ble_eq_true rfl⟩ (xrc E hw ky_14_100 rfl) rfl hl.1 rfl (Nat.le_of_ble_eq_true rfl) dX12_readsStatement_97 ⟨Nat.le_of_ble_eq_true rfl, Nat.le_of_ble_eq_true rfl⟩ (fun r28 z27 H locs h hw => ?_)
            refine lv_if_eq (tgt := 121) hx hb dX12_readsStatement_100 (by decide) (fun c29 => ?_) (fun c29 => ?_)
            · replace h := h.1 c29
              exact b121 z27 H locs hw ls (lv_sub hl [1] rfl) h
            · replace h := h.2 c29
              refine lv_aload_n hx hb dX12_readsStatement_103 rfl (lv_at hl 1 rfl) ?_
              have hq := h
              clear h
              refine xcVI (As := []) (rest := []) E hw hA (c_X12_readsSigned l D ad cs sk z27 _ hq) kc_12_96 yo_X12_readsSigned ⟨Nat.le_of_ble_eq_true rfl, Nat.le_of_ble_eq_true rfl⟩ (xrc E hw ky_14_100 rfl) rfl hl.1 rfl (Nat.le_of_ble_eq_true rfl) dX12_readsStatement_104 ⟨Nat.le_of_ble_eq_true rfl, Nat.le_of_ble_eq_true rfl⟩ (fun r31 z30 H locs h hw => ?_)
              refine lv_if_eq (tgt := 121) hx hb dX12_readsStatement_107 (by decide) (fun c32 => ?_) (fun c32 => ?_)
              · replace h := h.1 c32
                exact b121 z30 H locs hw ls (lv_sub hl [1] rfl) h
              · replace h := h.2 c32
                refine lv_aload_n hx hb dX12_readsStatement_110 rfl (lv_at hl 1 rfl) ?_
                have hq := h
                clear h
                refine xcVI (As := []) (rest := []) E hw hA (c_X12_readsSigned l D ad cs sk z30 _ hq) kc_12_96 yo_X12_readsSigned ⟨Nat.le_of_ble_eq_true rfl, Nat.le_of_ble_eq_true rfl⟩ (xrc E hw ky_14_100 rfl) rfl hl.1 rfl (Nat.le_of_ble_eq_true rfl) dX12_readsStatement_111 ⟨Nat.le_of_ble_eq_true rfl, Nat.le_of_ble_eq_true rfl⟩ (fun r34 z33 H locs h hw => ?_)
                refine lv_if_eq (tgt := 121) hx hb dX12_readsStatement_114 (by decide) (fun c35 => ?_) (fun c35 => ?_)
                · replace h := h.1 c35
                  exact b121 z33 H locs hw ls (lv_sub hl [1] rfl) h
                · replace h := h.2 c35
                  refine lv_iconst (v := 1) hx hb dX12_readsStatement_117 (by decide) ?_
                  refine lv_goto (tgt := 122) hx hb dX12_readsStatement_118 (by decide) ?_
                  exact b122 z33 (1 : Int32) H locs hw ls (lv_sub hl [1] rfl) h
          · replace h := h.2 c25
            refine lv_lookup (tgt := 205) (off := 150) hx hb dX12_readsStatement_55 (by decide) (by rw [lv_osw c22 (by decide), lv_osw c23 (by decide), lv_osw c24 (by decide), lv_osw c25 (by decide)]; rfl) (by decide) ?_
            refine lv_aload_n hx hb dX12_readsStatement_205 rfl (lv_at hl 1 rfl) ?_
            have hq := h
            clear h
            refine xcVI (As := []) (rest := []) E hw hA (c_X12_readsSigned l D ad cs sk z5 _ hq) kc_12_96 yo_X12_readsSigned ⟨Nat.le_of_ble_eq_true rfl, Nat.le_of_ble_eq_true rfl⟩ (xrc E hw ky_14_100 rfl) rfl hl.1 rfl (Nat.le_of_ble_eq_true rfl) dX12_readsStatement_206 ⟨Nat.le_of_ble_eq_true rfl, Nat.le_of_ble_eq_true rfl⟩ (fun r7 z6 H locs h hw => ?_)
            refine lv_if_eq (tgt := 237) hx hb dX12_readsStatement_209 (by decide) (fun c8 => ?_) (fun c8 => ?_)
            · replace h := h.1 c8
              exact b237 z6 H locs hw ls (lv_sub hl [1] rfl) h
            · replace h := h.2 c8
              refine lv_aload_n hx hb dX12_readsStatement_212 rfl (lv_at hl 1 rfl) ?_
              have hq := h
              clear h
              refine xcVI (As := []) (rest := []) E hw hA (c_X12_readsSigned l D ad cs sk z6 _ hq) kc_12_96 yo_X12_readsSigned ⟨Nat.le_of_ble_eq_true rfl, Nat.le_of_ble_eq_true rfl⟩ (xrc E hw ky_14_100 rfl) rfl hl.1 rfl (Nat.le_of_ble_eq_true rfl) dX12_readsStatement_213 ⟨Nat.le_of_ble_eq_true rfl, Nat.le_of_ble_eq_true rfl⟩ (fun r14 z13 H locs h hw => ?_)
              refine lv_if_eq (tgt := 237) hx hb dX12_readsStatement_216 (by decide) (fun c15 => ?_) (fun c15 => ?_)
              · replace h := h.1 c15
                exact b237 z13 H locs hw ls (lv_sub hl [1] rfl) h
              · replace h := h.2 c15
                refine lv_aload_n hx hb dX12_readsStatement_219 rfl (lv_at hl 1 rfl) ?_
                have hq := h
                clear h
                refine xcVI (As := []) (rest := []) E hw hA (c_X12_readsSigned l D ad cs sk z13 _ hq) kc_12_96 yo_X12_readsSigned ⟨Nat.le_of_ble_eq_true rfl, Nat.le_of_ble_eq_true rfl⟩ (xrc E hw ky_14_100 rfl) rfl hl.1 rfl (Nat.le_of_ble_eq_true rfl) dX12_readsStatement_220 ⟨Nat.le_of_ble_eq_true rfl, Nat.le_of_ble_eq_true rfl⟩ (fun r17 z16 H locs h hw => ?_)
                refine lv_if_eq (tgt := 237) hx hb dX12_readsStatement_223 (by decide) (fun c18 => ?_) (fun c18 => ?_)
                · replace h := h.1 c18
                  exact b237 z16 H locs hw ls (lv_sub hl [1] rfl) h
                · replace h := h.2 c18
                  refine lv_aload_n hx hb dX12_readsStatement_226 rfl (lv_at hl 1 rfl) ?_
                  have hq := h
                  clear h
                  refine xcVI (As := []) (rest := []) E hw hA (c_X12_readsSigned l D ad cs sk z16 _ hq) kc_12_96 yo_X12_readsSigned ⟨Nat.le_of_ble_eq_true rfl, Nat.le_of_ble_eq_true rfl⟩ (xrc E hw ky_14_100 rfl) rfl hl.1 rfl (Nat.le_of_ble_eq_true rfl) dX12_readsStatement_227 ⟨Nat.le_of_ble_eq_true rfl, Nat.le_of_ble_eq_true rfl⟩ (fun r20 z19 H locs h hw => ?_)
                  refine lv_if_eq (tgt := 237) hx hb dX12_readsStatement_230 (by decide) (fun c21 => ?_) (fun c21 => ?_)
                  · replace h := h.1 c21
                    exact b237 z19 H locs hw ls (lv_sub hl [1] rfl) h
                  · replace h := h.2 c21
                    refine lv_iconst (v := 1) hx hb dX12_readsStatement_233 (by decide) ?_
                    refine lv_goto (tgt := 238) hx hb dX12_readsStatement_234 (by decide) ?_
                    exact b238 z19 (1 : Int32) H locs hw ls (lv_sub hl [1] rfl) h
  have b00 : ∀ (H : Heap) (locs : List Loc), OW D ad cs A s.heap z H locs → W p l e (rmq 5 0 0) s m args below meth c H locs 0 0 Q (F0 m 0 ls []) := by
    intro H locs hw
    refine lv_aload_n hx hb dX12_readsStatement_0 rfl (lv_at hl 0 rfl) ?_
    have hq := h
    clear h
    refine xcVI (As := []) (rest := []) E hw hA (c_X12_here l D ad cs sk z _ hq) kc_12_75 yo_X12_here ⟨Nat.le_of_ble_eq_true rfl, Nat.le_of_ble_eq_true rfl⟩ (xrc E hw ky_14_100 rfl) rfl hl.1 rfl (Nat.le_of_ble_eq_true rfl) dX12_readsStatement_1 ⟨Nat.le_of_ble_eq_true rfl, Nat.le_of_ble_eq_true rfl⟩ (fun r2 z1 H locs h hw => ?_)
    refine lv_istore_n (lv' := [(1, .int r2), (0, .ref (ad 14 100))]) hx hb dX12_readsStatement_4 rfl hl (by decide) rfl (fun ls hl => ?_)
    refine lv_aload_n hx hb dX12_readsStatement_5 rfl (lv_at hl 1 rfl) ?_
    refine lv_iconst (v := 0) hx hb dX12_readsStatement_6 (by decide) ?_
    refine xpI E hw (c1 := 12) rfl ky_14_100 fp_12_14 rfl rfl qf_12_87 dX12_readsStatement_7 (fun z3 ez3 H locs hw => ?_)
    replace h := h z3 ez3
    refine lv_iload_n hx hb dX12_readsStatement_10 rfl (lv_at hl 0 rfl) ?_
    refine lv_bipush (v := 108) hx hb dX12_readsStatement_11 (by decide) ?_
    refine lv_icmp_eq (tgt := 42) hx hb dX12_readsStatement_13 (by decide) (fun c4 => ?_) (fun c4 => ?_)
    · replace h := h.1 c4
      exact b42 z3 r2 H locs hw ls (lv_sub hl [1, 0] rfl) h
    · replace h := h.2 c4
      refine lv_iload_n hx hb dX12_readsStatement_16 rfl (lv_at hl 0 rfl) ?_
      refine lv_bipush (v := 103) hx hb dX12_readsStatement_17 (by decide) ?_
      refine lv_icmp_eq (tgt := 42) hx hb dX12_readsStatement_19 (by decide) (fun c59 => ?_) (fun c59 => ?_)
      · replace h := h.1 c59
        exact b42 z3 r2 H locs hw ls (lv_sub hl [1, 0] rfl) h
      · replace h := h.2 c59
        refine lv_iload_n hx hb dX12_readsStatement_22 rfl (lv_at hl 0 rfl) ?_
        refine lv_bipush (v := 97) hx hb dX12_readsStatement_23 (by decide) ?_
        refine lv_icmp_eq (tgt := 42) hx hb dX12_readsStatement_25 (by decide) (fun c60 => ?_) (fun c60 => ?_)
        · replace h := h.1 c60
          exact b42 z3 r2 H locs hw ls (lv_sub hl [1, 0] rfl) h
        · replace h := h.2 c60
          refine lv_iload_n hx hb dX12_readsStatement_28 rfl (lv_at hl 0 rfl) ?_
          refine lv_bipush (v := 102) hx hb dX12_readsStatement_29 (by decide) ?_
          refine lv_icmp_eq (tgt := 42) hx hb dX12_readsStatement_31 (by decide) (fun c61 => ?_) (fun c61 => ?_)
          · replace h := h.1 c61
            exact b42 z3 r2 H locs hw ls (lv_sub hl [1, 0] rfl) h
          · replace h := h.2 c61
            refine lv_iload_n hx hb dX12_readsStatement_34 rfl (lv_at hl 0 rfl) ?_
            refine lv_bipush (v := 98) hx hb dX12_readsStatement_35 (by decide) ?_
            refine lv_icmp_eq (tgt := 42) hx hb dX12_readsStatement_37 (by decide) (fun c62 => ?_) (fun c62 => ?_)
            · replace h := h.1 c62
              exact b42 z3 r2 H locs hw ls (lv_sub hl [1, 0] rfl) h
            · replace h := h.2 c62
              refine lv_iconst (v := 0) hx hb dX12_readsStatement_40 (by decide) ?_
              exact hret (0 : Int32) z3 H locs 41 ls hw rfl h dX12_readsStatement_41
  exact b00 s.heap [] hw
