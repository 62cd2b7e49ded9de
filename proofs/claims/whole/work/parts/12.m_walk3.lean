def V_X12_east (z : ZS) (p1 : Int32) (post : Int32 → ZS → Prop) : Prop := (vp_in ((5 : Int32) + ((2 : Int32) * p1)) 73 ∧ post (zR z 14 0 (Int32.toNatClampNeg ((5 : Int32) + ((2 : Int32) * p1)))) z)
set_option maxHeartbeats 4000000 in
set_option maxRecDepth 100000 in
theorem c_X12_east (l : Launch) (D : va_G) (ad : Nat → Nat → Nat) (cs : Nat → ClassId) (sk : (Nat → Nat) × (Nat → Nat)) (z : ZS) (p1 : Int32) (post : Int32 → ZS → Prop) (h : V_X12_east z p1 post) : MI l D ad cs sk yX12_east cX12_east 2 .int (rmq 0 0 0) [.ref (ad 14 100), .int p1] z post := by
  refine MI.of RX12 rfl (by decide) (Nat.le_of_ble_eq_true rfl) ?_
  intro p e s m args below meth c A Q E hw hA hret ls hl
  have hx := E.1.1
  have hb := E.1.2.1
  have hml := E.1.2.2.1
  have hown := E.1.2.2.2.1
  have h0 := E.1.2.2.2.2
  have hl : lv_has ls 2 [(0, .ref (ad 14 100)), (1, .int p1)] := hl
  unfold V_X12_east at h
  have b00 : ∀ (H : Heap) (locs : List Loc), OW D ad cs A s.heap z H locs → W p l e (rmq 0 0 0) s m args below meth c H locs 0 0 Q (F0 m 0 ls []) := by
    intro H locs hw
    refine lv_aload_n hx hb dX12_east_0 rfl (lv_at hl 0 rfl) ?_
    refine xgC E hw (c1 := 12) (t := (14, 0)) rfl ky_14_100 fo_12_0 rfl qf_12_9 dX12_east_1 ?_
    refine lv_iconst (v := 5) hx hb dX12_east_4 (by decide) ?_
    refine lv_iconst (v := 2) hx hb dX12_east_5 (by decide) ?_
    refine lv_iload_n hx hb dX12_east_6 rfl (lv_at hl 1 rfl) ?_
    refine lv_imul hx hb dX12_east_7 ?_
    refine lv_iadd hx hb dX12_east_8 ?_
    obtain ⟨hi, h⟩ := h
    refine xal E hw ky_14_0 ka_14_0 hi dX12_east_9 ?_
    exact hret (zR z 14 0 (Int32.toNatClampNeg ((5 : Int32) + ((2 : Int32) * p1)))) z H locs 10 ls hw rfl h dX12_east_10
  exact b00 s.heap [] hw
def V_X12_north (z : ZS) (p1 : Int32) (post : Int32 → ZS → Prop) : Prop := (vp_in (((5 : Int32) + ((2 : Int32) * p1)) + (1 : Int32)) 73 ∧ post (zR z 14 0 (Int32.toNatClampNeg (((5 : Int32) + ((2 : Int32) * p1)) + (1 : Int32)))) z)
set_option maxHeartbeats 4000000 in
set_option maxRecDepth 100000 in
theorem c_X12_north (l : Launch) (D : va_G) (ad : Nat → Nat → Nat) (cs : Nat → ClassId) (sk : (Nat → Nat) × (Nat → Nat)) (z : ZS) (p1 : Int32) (post : Int32 → ZS → Prop) (h : V_X12_north z p1 post) : MI l D ad cs sk yX12_north cX12_north 2 .int (rmq 0 0 0) [.ref (ad 14 100), .int p1] z post := by
  refine MI.of RX12 rfl (by decide) (Nat.le_of_ble_eq_true rfl) ?_
  intro p e s m args below meth c A Q E hw hA hret ls hl
  have hx := E.1.1
  have hb := E.1.2.1
  have hml := E.1.2.2.1
  have hown := E.1.2.2.2.1
  have h0 := E.1.2.2.2.2
  have hl : lv_has ls 2 [(0, .ref (ad 14 100)), (1, .int p1)] := hl
  unfold V_X12_north at h
  have b00 : ∀ (H : Heap) (locs : List Loc), OW D ad cs A s.heap z H locs → W p l e (rmq 0 0 0) s m args below meth c H locs 0 0 Q (F0 m 0 ls []) := by
    intro H locs hw
    refine lv_aload_n hx hb dX12_north_0 rfl (lv_at hl 0 rfl) ?_
    refine xgC E hw (c1 := 12) (t := (14, 0)) rfl ky_14_100 fo_12_0 rfl qf_12_9 dX12_north_1 ?_
    refine lv_iconst (v := 5) hx hb dX12_north_4 (by decide) ?_
    refine lv_iconst (v := 2) hx hb dX12_north_5 (by decide) ?_
    refine lv_iload_n hx hb dX12_north_6 rfl (lv_at hl 1 rfl) ?_
    refine lv_imul hx hb dX12_north_7 ?_
    refine lv_iadd hx hb dX12_north_8 ?_
    refine lv_iconst (v := 1) hx hb dX12_north_9 (by decide) ?_
    refine lv_iadd hx hb dX12_north_10 ?_
    obtain ⟨hi, h⟩ := h
    refine xal E hw ky_14_0 ka_14_0 hi dX12_north_11 ?_
    exact hret (zR z 14 0 (Int32.toNatClampNeg (((5 : Int32) + ((2 : Int32) * p1)) + (1 : Int32)))) z H locs 12 ls hw rfl h dX12_north_12
  exact b00 s.heap [] hw
def V_X12_wind (z : ZS) (p1 : Int32) (p2 : Int32) (post : Int32 → ZS → Prop) : Prop := V_X12_isIn z (Int32.toInt64 p1) (0 : Int64) (9 : Int64) (fun r2 z1 => ((¬ r2 = 0 → ((p2 = 0 → V_X12_east z1 p1 (fun r6 z5 => post r6 z5)) ∧ (¬ p2 = 0 → V_X12_north z1 p1 (fun r8 z7 => post r8 z7)))) ∧ (r2 = 0 → post (-1000000001 : Int32) z1)))
set_option maxHeartbeats 4000000 in
set_option maxRecDepth 100000 in
theorem c_X12_wind (l : Launch) (D : va_G) (ad : Nat → Nat → Nat) (cs : Nat → ClassId) (sk : (Nat → Nat) × (Nat → Nat)) (z : ZS) (p1 : Int32) (p2 : Int32) (post : Int32 → ZS → Prop) (h : V_X12_wind z p1 p2 post) : MI l D ad cs sk yX12_wind cX12_wind 3 .int (rmq 1 0 0) [.ref (ad 14 100), .int p1, .int p2] z post := by
  refine MI.of RX12 rfl (by decide) (Nat.le_of_ble_eq_true rfl) ?_
  intro p e s m args below meth c A Q E hw hA hret ls hl
  have hx := E.1.1
  have hb := E.1.2.1
  have hml := E.1.2.2.1
  have hown := E.1.2.2.2.1
  have h0 := E.1.2.2.2.2
  have hl : lv_has ls 3 [(0, .ref (ad 14 100)), (1, .int p1), (2, .int p2)] := hl
  unfold V_X12_wind at h
  have b00 : ∀ (H : Heap) (locs : List Loc), OW D ad cs A s.heap z H locs → W p l e (rmq 1 0 0) s m args below meth c H locs 0 0 Q (F0 m 0 ls []) := by
    intro H locs hw
    refine lv_iload_n hx hb dX12_wind_0 rfl (lv_at hl 1 rfl) ?_
    refine lv_i2l hx hb dX12_wind_1 rfl ?_
    refine lv_lconst (v := 0) hx hb dX12_wind_2 (by decide) ?_
    refine lv_ldc2 (v := 9) hx hb hown (h0 _ ql_12_137) dX12_wind_3 ?_
    have hq := h
    clear h
    refine xcSI (As := [.long (Int32.toInt64 p1), .long (0 : Int64), .long (9 : Int64)]) (rest := []) E hw hA (c_X12_isIn l D ad cs sk z (Int32.toInt64 p1) (0 : Int64) (9 : Int64) _ hq) kc_12_56 yo_X12_isIn ⟨Nat.le_of_ble_eq_true rfl, Nat.le_of_ble_eq_true rfl⟩ rfl hl.1 rfl (Nat.le_of_ble_eq_true rfl) dX12_wind_6 ⟨Nat.le_of_ble_eq_true rfl, Nat.le_of_ble_eq_true rfl⟩ (fun r2 z1 H locs h hw => ?_)
    refine lv_if_ne (tgt := 17) hx hb dX12_wind_9 (by decide) (fun c3 => ?_) (fun c3 => ?_)
    · replace h := h.1 c3
      refine lv_iload_n hx hb dX12_wind_17 rfl (lv_at hl 2 rfl) ?_
      refine lv_if_eq (tgt := 29) hx hb dX12_wind_18 (by decide) (fun c4 => ?_) (fun c4 => ?_)
      · replace h := h.1 c4
        refine lv_aload_n hx hb dX12_wind_29 rfl (lv_at hl 0 rfl) ?_
        refine lv_iload_n hx hb dX12_wind_30 rfl (lv_at hl 1 rfl) ?_
        have hq := h
        clear h
        refine xcVI (As := [.int p1]) (rest := []) E hw hA (c_X12_east l D ad cs sk z1 p1 _ hq) kc_12_144 yo_X12_east ⟨Nat.le_of_ble_eq_true rfl, Nat.le_of_ble_eq_true rfl⟩ (xrc E hw ky_14_100 rfl) rfl hl.1 rfl (Nat.le_of_ble_eq_true rfl) dX12_wind_31 ⟨Nat.le_of_ble_eq_true rfl, Nat.le_of_ble_eq_true rfl⟩ (fun r6 z5 H locs h hw => ?_)
        exact hret r6 z5 H locs 34 ls hw rfl h dX12_wind_34
      · replace h := h.2 c4
        refine lv_aload_n hx hb dX12_wind_21 rfl (lv_at hl 0 rfl) ?_
        refine lv_iload_n hx hb dX12_wind_22 rfl (lv_at hl 1 rfl) ?_
        have hq := h
        clear h
        refine xcVI (As := [.int p1]) (rest := []) E hw hA (c_X12_north l D ad cs sk z1 p1 _ hq) kc_12_140 yo_X12_north ⟨Nat.le_of_ble_eq_true rfl, Nat.le_of_ble_eq_true rfl⟩ (xrc E hw ky_14_100 rfl) rfl hl.1 rfl (Nat.le_of_ble_eq_true rfl) dX12_wind_23 ⟨Nat.le_of_ble_eq_true rfl, Nat.le_of_ble_eq_true rfl⟩ (fun r8 z7 H locs h hw => ?_)
        refine lv_goto (tgt := 34) hx hb dX12_wind_26 (by decide) ?_
        exact hret r8 z7 H locs 34 ls hw rfl h dX12_wind_34
    · replace h := h.2 c3
      refine lv_ldc (v := -1000000001) hx hb hown (h0 _ qk_12_139) dX12_wind_12 ?_
      refine lv_goto (tgt := 34) hx hb dX12_wind_14 (by decide) ?_
      exact hret (-1000000001 : Int32) z1 H locs 34 ls hw rfl h dX12_wind_34
  exact b00 s.heap [] hw
def V_X12_set (z : ZS) (p1 : Int32) (p2 : Int32) (post : Int32 → ZS → Prop) : Prop := V_X12_isIn z (Int32.toInt64 p1) (0 : Int64) (2 : Int64) (fun r2 z1 => ((r2 = 0 → post (-1 : Int32) z1) ∧ (¬ r2 = 0 → V_X12_isValue z1 p1 p2 (fun r5 z4 => ((¬ r5 = 0 → (vp_in p1 73 ∧ (∀ t7 : Int32, t7 = (zR z4 14 0 (Int32.toNatClampNeg p1)) → (vp_in p1 73 ∧ ∀ z8 : ZS, z8 = wR z4 14 0 (Int32.toNatClampNeg p1) p2 → post t7 z8)))) ∧ (r5 = 0 → post (-1 : Int32) z4))))))
set_option maxHeartbeats 4000000 in
set_option maxRecDepth 100000 in
theorem c_X12_set (l : Launch) (D : va_G) (ad : Nat → Nat → Nat) (cs : Nat → ClassId) (sk : (Nat → Nat) × (Nat → Nat)) (z : ZS) (p1 : Int32) (p2 : Int32) (post : Int32 → ZS → Prop) (h : V_X12_set z p1 p2 post) : MI l D ad cs sk yX12_set cX12_set 4 .int (rmq 2 0 0) [.ref (ad 14 100), .int p1, .int p2] z post := by
  refine MI.of RX12 rfl (by decide) (Nat.le_of_ble_eq_true rfl) ?_
  intro p e s m args below meth c A Q E hw hA hret ls hl
  have hx := E.1.1
  have hb := E.1.2.1
  have hml := E.1.2.2.1
  have hown := E.1.2.2.2.1
  have h0 := E.1.2.2.2.2
  have hl : lv_has ls 4 [(0, .ref (ad 14 100)), (1, .int p1), (2, .int p2)] := hl
  unfold V_X12_set at h
  have b00 : ∀ (H : Heap) (locs : List Loc), OW D ad cs A s.heap z H locs → W p l e (rmq 2 0 0) s m args below meth c H locs 0 0 Q (F0 m 0 ls []) := by
    intro H locs hw
    refine lv_iload_n hx hb dX12_set_0 rfl (lv_at hl 1 rfl) ?_
    refine lv_i2l hx hb dX12_set_1 rfl ?_
    refine lv_lconst (v := 0) hx hb dX12_set_2 (by decide) ?_
    refine lv_ldc2 (v := 2) hx hb hown (h0 _ ql_12_147) dX12_set_3 ?_
    have hq := h
    clear h
    refine xcSI (As := [.long (Int32.toInt64 p1), .long (0 : Int64), .long (2 : Int64)]) (rest := []) E hw hA (c_X12_isIn l D ad cs sk z (Int32.toInt64 p1) (0 : Int64) (2 : Int64) _ hq) kc_12_56 yo_X12_isIn ⟨Nat.le_of_ble_eq_true rfl, Nat.le_of_ble_eq_true rfl⟩ rfl hl.1 rfl (Nat.le_of_ble_eq_true rfl) dX12_set_6 ⟨Nat.le_of_ble_eq_true rfl, Nat.le_of_ble_eq_true rfl⟩ (fun r2 z1 H locs h hw => ?_)
    refine lv_if_eq (tgt := 20) hx hb dX12_set_9 (by decide) (fun c3 => ?_) (fun c3 => ?_)
    · replace h := h.1 c3
      refine lv_iconst (v := -1) hx hb dX12_set_20 (by decide) ?_
      exact hret (-1 : Int32) z1 H locs 21 ls hw rfl h dX12_set_21
    · replace h := h.2 c3
      refine lv_iload_n hx hb dX12_set_12 rfl (lv_at hl 1 rfl) ?_
      refine lv_iload_n hx hb dX12_set_13 rfl (lv_at hl 2 rfl) ?_
      have hq := h
      clear h
      refine xcSI (As := [.int p1, .int p2]) (rest := []) E hw hA (c_X12_isValue l D ad cs sk z1 p1 p2 _ hq) kc_12_115 yo_X12_isValue ⟨Nat.le_of_ble_eq_true rfl, Nat.le_of_ble_eq_true rfl⟩ rfl hl.1 rfl (Nat.le_of_ble_eq_true rfl) dX12_set_14 ⟨Nat.le_of_ble_eq_true rfl, Nat.le_of_ble_eq_true rfl⟩ (fun r5 z4 H locs h hw => ?_)
      refine lv_if_ne (tgt := 22) hx hb dX12_set_17 (by decide) (fun c6 => ?_) (fun c6 => ?_)
      · replace h := h.1 c6
        refine lv_aload_n hx hb dX12_set_22 rfl (lv_at hl 0 rfl) ?_
        refine xgC E hw (c1 := 12) (t := (14, 0)) rfl ky_14_100 fo_12_0 rfl qf_12_9 dX12_set_23 ?_
        refine lv_iload_n hx hb dX12_set_26 rfl (lv_at hl 1 rfl) ?_
        obtain ⟨hi, h⟩ := h
        refine xal E hw ky_14_0 ka_14_0 hi dX12_set_27 ?_
        refine lv_topi (fun t7 et7 => ?_)
        replace h := h t7 et7
        refine lv_istore_n (lv' := [(3, .int t7), (0, .ref (ad 14 100)), (1, .int p1), (2, .int p2)]) hx hb dX12_set_28 rfl hl (by decide) rfl (fun ls hl => ?_)
        refine lv_aload_n hx hb dX12_set_29 rfl (lv_at hl 1 rfl) ?_
        refine xgC E hw (c1 := 12) (t := (14, 0)) rfl ky_14_100 fo_12_0 rfl qf_12_9 dX12_set_30 ?_
        refine lv_iload_n hx hb dX12_set_33 rfl (lv_at hl 2 rfl) ?_
        refine lv_iload_n hx hb dX12_set_34 rfl (lv_at hl 3 rfl) ?_
        obtain ⟨hi, h⟩ := h
        refine xas E hw ky_14_0 ka_14_0 hi dX12_set_35 (fun z8 ez8 H locs hw => ?_)
        replace h := h z8 ez8
        refine lv_iload_n hx hb dX12_set_36 rfl (lv_at hl 0 rfl) ?_
        exact hret t7 z8 H locs 37 ls hw rfl h dX12_set_37
      · replace h := h.2 c6
        refine lv_iconst (v := -1) hx hb dX12_set_20 (by decide) ?_
        exact hret (-1 : Int32) z4 H locs 21 ls hw rfl h dX12_set_21
  exact b00 s.heap [] hw
def V_X12_fallsBy_21 (post : Int32 → ZS → Prop) (z : ZS) : Prop := post (145 : Int32) z
def V_X12_fallsBy (z : ZS) (p0 : Int32) (post : Int32 → ZS → Prop) : Prop := ((¬ p0 = (2 : Int32) → ((p0 = (3 : Int32) → V_X12_fallsBy_21 post z) ∧ (¬ p0 = (3 : Int32) → ((¬ p0 = (7 : Int32) → post (120 : Int32) z) ∧ (p0 = (7 : Int32) → V_X12_fallsBy_21 post z))))) ∧ (p0 = (2 : Int32) → post (100 : Int32) z))
set_option maxHeartbeats 4000000 in
set_option maxRecDepth 100000 in
theorem c_X12_fallsBy (l : Launch) (D : va_G) (ad : Nat → Nat → Nat) (cs : Nat → ClassId) (sk : (Nat → Nat) × (Nat → Nat)) (z : ZS) (p0 : Int32) (post : Int32 → ZS → Prop) (h : V_X12_fallsBy z p0 post) : MI l D ad cs sk yX12_fallsBy cX12_fallsBy 1 .int (rmq 0 0 0) [.int p0] z post := by
  refine MI.of RX12 rfl (by decide) (Nat.le_of_ble_eq_true rfl) ?_
  intro p e s m args below meth c A Q E hw hA hret ls hl
  have hx := E.1.1
  have hb := E.1.2.1
  have hml := E.1.2.2.1
  have hown := E.1.2.2.2.1
  have h0 := E.1.2.2.2.2
  have hl : lv_has ls 1 [(0, .int p0)] := hl
  unfold V_X12_fallsBy at h
  have b21 : ∀ (z : ZS), ∀ (H : Heap) (locs : List Loc), OW D ad cs A s.heap z H locs → ∀ ls : Array Slot, lv_has ls 1 [] → V_X12_fallsBy_21 post z → W p l e (rmq 0 0 0) s m args below meth c H locs 0 0 Q (F0 m 21 ls []) := by
    intro z H locs hw ls hl h
    unfold V_X12_fallsBy_21 at h
    refine lv_sipush (v := 145) hx hb dX12_fallsBy_21 (by decide) ?_
    refine lv_goto (tgt := 29) hx hb dX12_fallsBy_24 (by decide) ?_
    exact hret (145 : Int32) z H locs 29 ls hw rfl h dX12_fallsBy_29
  have b00 : ∀ (H : Heap) (locs : List Loc), OW D ad cs A s.heap z H locs → W p l e (rmq 0 0 0) s m args below meth c H locs 0 0 Q (F0 m 0 ls []) := by
    intro H locs hw
    refine lv_iload_n hx hb dX12_fallsBy_0 rfl (lv_at hl 0 rfl) ?_
    refine lv_iconst (v := 2) hx hb dX12_fallsBy_1 (by decide) ?_
    refine lv_icmp_ne (tgt := 10) hx hb dX12_fallsBy_2 (by decide) (fun c1 => ?_) (fun c1 => ?_)
    · replace h := h.1 c1
      refine lv_iload_n hx hb dX12_fallsBy_10 rfl (lv_at hl 0 rfl) ?_
      refine lv_iconst (v := 3) hx hb dX12_fallsBy_11 (by decide) ?_
      refine lv_icmp_eq (tgt := 21) hx hb dX12_fallsBy_12 (by decide) (fun c2 => ?_) (fun c2 => ?_)
      · replace h := h.1 c2
        exact b21 z H locs hw ls (lv_sub hl [] rfl) h
      · replace h := h.2 c2
        refine lv_iload_n hx hb dX12_fallsBy_15 rfl (lv_at hl 0 rfl) ?_
        refine lv_bipush (v := 7) hx hb dX12_fallsBy_16 (by decide) ?_
        refine lv_icmp_ne (tgt := 27) hx hb dX12_fallsBy_18 (by decide) (fun c3 => ?_) (fun c3 => ?_)
        · replace h := h.1 c3
          refine lv_bipush (v := 120) hx hb dX12_fallsBy_27 (by decide) ?_
          exact hret (120 : Int32) z H locs 29 ls hw rfl h dX12_fallsBy_29
        · replace h := h.2 c3
          exact b21 z H locs hw ls (lv_sub hl [] rfl) h
    · replace h := h.2 c1
      refine lv_bipush (v := 100) hx hb dX12_fallsBy_5 (by decide) ?_
      refine lv_goto (tgt := 29) hx hb dX12_fallsBy_7 (by decide) ?_
      exact hret (100 : Int32) z H locs 29 ls hw rfl h dX12_fallsBy_29
  exact b00 s.heap [] hw
def V_X12_sinksBy (z : ZS) (p0 : Int32) (p1 : Int32) (post : Int32 → ZS → Prop) : Prop := ((p0 = (1 : Int32) → post (20 : Int32) z) ∧ (¬ p0 = (1 : Int32) → ((p0 = (2 : Int32) → post (13 : Int32) z) ∧ (¬ p0 = (2 : Int32) → ((p0 = (3 : Int32) → post (21 : Int32) z) ∧ (¬ p0 = (3 : Int32) → ((p0 = (4 : Int32) → post ((16 : Int32) + p1) z) ∧ (¬ p0 = (4 : Int32) → ((p0 = (5 : Int32) → post ((14 : Int32) + p1) z) ∧ (¬ p0 = (5 : Int32) → ((p0 = (6 : Int32) → post (18 : Int32) z) ∧ (¬ p0 = (6 : Int32) → ((p0 = (7 : Int32) → post (31 : Int32) z) ∧ (¬ p0 = (7 : Int32) → post (16 : Int32) z))))))))))))))
set_option maxHeartbeats 4000000 in
set_option maxRecDepth 100000 in
theorem c_X12_sinksBy (l : Launch) (D : va_G) (ad : Nat → Nat → Nat) (cs : Nat → ClassId) (sk : (Nat → Nat) × (Nat → Nat)) (z : ZS) (p0 : Int32) (p1 : Int32) (post : Int32 → ZS → Prop) (h : V_X12_sinksBy z p0 p1 post) : MI l D ad cs sk yX12_sinksBy cX12_sinksBy 2 .int (rmq 0 0 0) [.int p0, .int p1] z post := by
  refine MI.of RX12 rfl (by decide) (Nat.le_of_ble_eq_true rfl) ?_
  intro p e s m args below meth c A Q E hw hA hret ls hl
  have hx := E.1.1
  have hb := E.1.2.1
  have hml := E.1.2.2.1
  have hown := E.1.2.2.2.1
  have h0 := E.1.2.2.2.2
  have hl : lv_has ls 2 [(0, .int p0), (1, .int p1)] := hl
  unfold V_X12_sinksBy at h
  have b00 : ∀ (H : Heap) (locs : List Loc), OW D ad cs A s.heap z H locs → W p l e (rmq 0 0 0) s m args below meth c H locs 0 0 Q (F0 m 0 ls []) := by
    intro H locs hw
    refine lv_iload_n hx hb dX12_sinksBy_0 rfl (lv_at hl 0 rfl) ?_
    by_cases c1 : p0 = (1 : Int32)
    · replace h := h.1 c1
      refine lv_tableIn (tgt := 44) hx hb dX12_sinksBy_1 (by rw [c1]; decide) (by rw [c1]; decide) (by rw [c1]; rfl) (by decide) ?_
      refine lv_bipush (v := 20) hx hb dX12_sinksBy_44 (by decide) ?_
      exact hret (20 : Int32) z H locs 46 ls hw rfl h dX12_sinksBy_46
    · replace h := h.2 c1
      by_cases c2 : p0 = (2 : Int32)
      · replace h := h.1 c2
        refine lv_tableIn (tgt := 47) hx hb dX12_sinksBy_1 (by rw [c2]; decide) (by rw [c2]; decide) (by rw [c2]; rfl) (by decide) ?_
        refine lv_bipush (v := 13) hx hb dX12_sinksBy_47 (by decide) ?_
        exact hret (13 : Int32) z H locs 49 ls hw rfl h dX12_sinksBy_49
      · replace h := h.2 c2
        by_cases c3 : p0 = (3 : Int32)
        · replace h := h.1 c3
          refine lv_tableIn (tgt := 50) hx hb dX12_sinksBy_1 (by rw [c3]; decide) (by rw [c3]; decide) (by rw [c3]; rfl) (by decide) ?_
          refine lv_bipush (v := 21) hx hb dX12_sinksBy_50 (by decide) ?_
          exact hret (21 : Int32) z H locs 52 ls hw rfl h dX12_sinksBy_52
        · replace h := h.2 c3
          by_cases c4 : p0 = (4 : Int32)
          · replace h := h.1 c4
            refine lv_tableIn (tgt := 53) hx hb dX12_sinksBy_1 (by rw [c4]; decide) (by rw [c4]; decide) (by rw [c4]; rfl) (by decide) ?_
            refine lv_bipush (v := 16) hx hb dX12_sinksBy_53 (by decide) ?_
            refine lv_iload_n hx hb dX12_sinksBy_55 rfl (lv_at hl 1 rfl) ?_
            refine lv_iadd hx hb dX12_sinksBy_56 ?_
            exact hret ((16 : Int32) + p1) z H locs 57 ls hw rfl h dX12_sinksBy_57
          · replace h := h.2 c4
            by_cases c5 : p0 = (5 : Int32)
            · replace h := h.1 c5
              refine lv_tableIn (tgt := 58) hx hb dX12_sinksBy_1 (by rw [c5]; decide) (by rw [c5]; decide) (by rw [c5]; rfl) (by decide) ?_
              refine lv_bipush (v := 14) hx hb dX12_sinksBy_58 (by decide) ?_
              refine lv_iload_n hx hb dX12_sinksBy_60 rfl (lv_at hl 1 rfl) ?_
              refine lv_iadd hx hb dX12_sinksBy_61 ?_
              exact hret ((14 : Int32) + p1) z H locs 62 ls hw rfl h dX12_sinksBy_62
            · replace h := h.2 c5
              by_cases c6 : p0 = (6 : Int32)
              · replace h := h.1 c6
                refine lv_tableIn (tgt := 63) hx hb dX12_sinksBy_1 (by rw [c6]; decide) (by rw [c6]; decide) (by rw [c6]; rfl) (by decide) ?_
                refine lv_bipush (v := 18) hx hb dX12_sinksBy_63 (by decide) ?_
                exact hret (18 : Int32) z H locs 65 ls hw rfl h dX12_sinksBy_65
              · replace h := h.2 c6
                by_cases c7 : p0 = (7 : Int32)
                · replace h := h.1 c7
                  refine lv_tableIn (tgt := 66) hx hb dX12_sinksBy_1 (by rw [c7]; decide) (by rw [c7]; decide) (by rw [c7]; rfl) (by decide) ?_
                  refine lv_bipush (v := 31) hx hb dX12_sinksBy_66 (by decide) ?_
                  exact hret (31 : Int32) z H locs 68 ls hw rfl h dX12_sinksBy_68
                · replace h := h.2 c7
                  refine lv_tableOut (tgt := 69) hx hb dX12_sinksBy_1 (by have n0 := lv_neT c1 (by decide : ((1 : Int32) : Int32).toInt = 1); have n1 := lv_neT c2 (by decide : ((2 : Int32) : Int32).toInt = 2); have n2 := lv_neT c3 (by decide : ((3 : Int32) : Int32).toInt = 3); have n3 := lv_neT c4 (by decide : ((4 : Int32) : Int32).toInt = 4); have n4 := lv_neT c5 (by decide : ((5 : Int32) : Int32).toInt = 5); have n5 := lv_neT c6 (by decide : ((6 : Int32) : Int32).toInt = 6); have n6 := lv_neT c7 (by decide : ((7 : Int32) : Int32).toInt = 7); omega) (by decide) ?_
                  refine lv_bipush (v := 16) hx hb dX12_sinksBy_69 (by decide) ?_
                  exact hret (16 : Int32) z H locs 71 ls hw rfl h dX12_sinksBy_71
  exact b00 s.heap [] hw
def V_X12_paceBy (z : ZS) (p0 : Int32) (p1 : Int32) (post : Int32 → ZS → Prop) : Prop := ((p0 = (1 : Int32) → post (0 : Int32) z) ∧ (¬ p0 = (1 : Int32) → ((p0 = (2 : Int32) → post (34 : Int32) z) ∧ (¬ p0 = (2 : Int32) → ((p0 = (3 : Int32) → post (44 : Int32) z) ∧ (¬ p0 = (3 : Int32) → ((p0 = (4 : Int32) → post (20 : Int32) z) ∧ (¬ p0 = (4 : Int32) → ((p0 = (5 : Int32) → post (30 : Int32) z) ∧ (¬ p0 = (5 : Int32) → ((p0 = (6 : Int32) → post ((40 : Int32) + ((3 : Int32) * p1)) z) ∧ (¬ p0 = (6 : Int32) → ((p0 = (7 : Int32) → post (0 : Int32) z) ∧ (¬ p0 = (7 : Int32) → post (40 : Int32) z))))))))))))))
set_option maxHeartbeats 4000000 in
set_option maxRecDepth 100000 in
theorem c_X12_paceBy (l : Launch) (D : va_G) (ad : Nat → Nat → Nat) (cs : Nat → ClassId) (sk : (Nat → Nat) × (Nat → Nat)) (z : ZS) (p0 : Int32) (p1 : Int32) (post : Int32 → ZS → Prop) (h : V_X12_paceBy z p0 p1 post) : MI l D ad cs sk yX12_paceBy cX12_paceBy 2 .int (rmq 0 0 0) [.int p0, .int p1] z post := by
  refine MI.of RX12 rfl (by decide) (Nat.le_of_ble_eq_true rfl) ?_
  intro p e s m args below meth c A Q E hw hA hret ls hl
  have hx := E.1.1
  have hb := E.1.2.1
  have hml := E.1.2.2.1
  have hown := E.1.2.2.2.1
  have h0 := E.1.2.2.2.2
  have hl : lv_has ls 2 [(0, .int p0), (1, .int p1)] := hl
  unfold V_X12_paceBy at h
  have b00 : ∀ (H : Heap) (locs : List Loc), OW D ad cs A s.heap z H locs → W p l e (rmq 0 0 0) s m args below meth c H locs 0 0 Q (F0 m 0 ls []) := by
    intro H locs hw
    refine lv_iload_n hx hb dX12_paceBy_0 rfl (lv_at hl 0 rfl) ?_
    by_cases c1 : p0 = (1 : Int32)
    · replace h := h.1 c1
      refine lv_tableIn (tgt := 44) hx hb dX12_paceBy_1 (by rw [c1]; decide) (by rw [c1]; decide) (by rw [c1]; rfl) (by decide) ?_
      refine lv_iconst (v := 0) hx hb dX12_paceBy_44 (by decide) ?_
      exact hret (0 : Int32) z H locs 45 ls hw rfl h dX12_paceBy_45
    · replace h := h.2 c1
      by_cases c2 : p0 = (2 : Int32)
      · replace h := h.1 c2
        refine lv_tableIn (tgt := 46) hx hb dX12_paceBy_1 (by rw [c2]; decide) (by rw [c2]; decide) (by rw [c2]; rfl) (by decide) ?_
        refine lv_bipush (v := 34) hx hb dX12_paceBy_46 (by decide) ?_
        exact hret (34 : Int32) z H locs 48 ls hw rfl h dX12_paceBy_48
      · replace h := h.2 c2
        by_cases c3 : p0 = (3 : Int32)
        · replace h := h.1 c3
          refine lv_tableIn (tgt := 49) hx hb dX12_paceBy_1 (by rw [c3]; decide) (by rw [c3]; decide) (by rw [c3]; rfl) (by decide) ?_
          refine lv_bipush (v := 44) hx hb dX12_paceBy_49 (by decide) ?_
          exact hret (44 : Int32) z H locs 51 ls hw rfl h dX12_paceBy_51
        · replace h := h.2 c3
          by_cases c4 : p0 = (4 : Int32)
          · replace h := h.1 c4
            refine lv_tableIn (tgt := 52) hx hb dX12_paceBy_1 (by rw [c4]; decide) (by rw [c4]; decide) (by rw [c4]; rfl) (by decide) ?_
            refine lv_bipush (v := 20) hx hb dX12_paceBy_52 (by decide) ?_
            exact hret (20 : Int32) z H locs 54 ls hw rfl h dX12_paceBy_54
          · replace h := h.2 c4
            by_cases c5 : p0 = (5 : Int32)
            · replace h := h.1 c5
              refine lv_tableIn (tgt := 55) hx hb dX12_paceBy_1 (by rw [c5]; decide) (by rw [c5]; decide) (by rw [c5]; rfl) (by decide) ?_
              refine lv_bipush (v := 30) hx hb dX12_paceBy_55 (by decide) ?_
              exact hret (30 : Int32) z H locs 57 ls hw rfl h dX12_paceBy_57
            · replace h := h.2 c5
              by_cases c6 : p0 = (6 : Int32)
              · replace h := h.1 c6
                refine lv_tableIn (tgt := 58) hx hb dX12_paceBy_1 (by rw [c6]; decide) (by rw [c6]; decide) (by rw [c6]; rfl) (by decide) ?_
                refine lv_bipush (v := 40) hx hb dX12_paceBy_58 (by decide) ?_
                refine lv_iconst (v := 3) hx hb dX12_paceBy_60 (by decide) ?_
                refine lv_iload_n hx hb dX12_paceBy_61 rfl (lv_at hl 1 rfl) ?_
                refine lv_imul hx hb dX12_paceBy_62 ?_
                refine lv_iadd hx hb dX12_paceBy_63 ?_
                exact hret ((40 : Int32) + ((3 : Int32) * p1)) z H locs 64 ls hw rfl h dX12_paceBy_64
              · replace h := h.2 c6
                by_cases c7 : p0 = (7 : Int32)
                · replace h := h.1 c7
                  refine lv_tableIn (tgt := 44) hx hb dX12_paceBy_1 (by rw [c7]; decide) (by rw [c7]; decide) (by rw [c7]; rfl) (by decide) ?_
                  refine lv_iconst (v := 0) hx hb dX12_paceBy_44 (by decide) ?_
                  exact hret (0 : Int32) z H locs 45 ls hw rfl h dX12_paceBy_45
                · replace h := h.2 c7
                  refine lv_tableOut (tgt := 65) hx hb dX12_paceBy_1 (by have n0 := lv_neT c1 (by decide : ((1 : Int32) : Int32).toInt = 1); have n1 := lv_neT c2 (by decide : ((2 : Int32) : Int32).toInt = 2); have n2 := lv_neT c3 (by decide : ((3 : Int32) : Int32).toInt = 3); have n3 := lv_neT c4 (by decide : ((4 : Int32) : Int32).toInt = 4); have n4 := lv_neT c5 (by decide : ((5 : Int32) : Int32).toInt = 5); have n5 := lv_neT c6 (by decide : ((6 : Int32) : Int32).toInt = 6); have n6 := lv_neT c7 (by decide : ((7 : Int32) : Int32).toInt = 7); omega) (by decide) ?_
                  refine lv_bipush (v := 40) hx hb dX12_paceBy_65 (by decide) ?_
                  exact hret (40 : Int32) z H locs 67 ls hw rfl h dX12_paceBy_67
  exact b00 s.heap [] hw
def V_X12_driftBy (z : ZS) (p0 : Int32) (p1 : Int32) (post : Int32 → ZS → Prop) : Prop := ((¬ p0 = (2 : Int32) → ((¬ p0 = (3 : Int32) → ((¬ p0 = (7 : Int32) → post p1 z) ∧ (p0 = (7 : Int32) → post (((p1 * (4 : Int32)) / (5 : Int32)) / (2 : Int32)) z))) ∧ (p0 = (3 : Int32) → post ((p1 * (4 : Int32)) / (5 : Int32)) z))) ∧ (p0 = (2 : Int32) → post ((p1 * (5 : Int32)) / (4 : Int32)) z))
set_option maxHeartbeats 4000000 in
set_option maxRecDepth 100000 in
theorem c_X12_driftBy (l : Launch) (D : va_G) (ad : Nat → Nat → Nat) (cs : Nat → ClassId) (sk : (Nat → Nat) × (Nat → Nat)) (z : ZS) (p0 : Int32) (p1 : Int32) (post : Int32 → ZS → Prop) (h : V_X12_driftBy z p0 p1 post) : MI l D ad cs sk yX12_driftBy cX12_driftBy 2 .int (rmq 0 0 0) [.int p0, .int p1] z post := by
  refine MI.of RX12 rfl (by decide) (Nat.le_of_ble_eq_true rfl) ?_
  intro p e s m args below meth c A Q E hw hA hret ls hl
  have hx := E.1.1
  have hb := E.1.2.1
  have hml := E.1.2.2.1
  have hown := E.1.2.2.2.1
  have h0 := E.1.2.2.2.2
  have hl : lv_has ls 2 [(0, .int p0), (1, .int p1)] := hl
  unfold V_X12_driftBy at h
  have b00 : ∀ (H : Heap) (locs : List Loc), OW D ad cs A s.heap z H locs → W p l e (rmq 0 0 0) s m args below meth c H locs 0 0 Q (F0 m 0 ls []) := by
    intro H locs hw
    refine lv_iload_n hx hb dX12_driftBy_0 rfl (lv_at hl 0 rfl) ?_
    refine lv_iconst (v := 2) hx hb dX12_driftBy_1 (by decide) ?_
    refine lv_icmp_ne (tgt := 13) hx hb dX12_driftBy_2 (by decide) (fun c1 => ?_) (fun c1 => ?_)
    · replace h := h.1 c1
      refine lv_iload_n hx hb dX12_driftBy_13 rfl (lv_at hl 0 rfl) ?_
      refine lv_iconst (v := 3) hx hb dX12_driftBy_14 (by decide) ?_
      refine lv_icmp_ne (tgt := 26) hx hb dX12_driftBy_15 (by decide) (fun c2 => ?_) (fun c2 => ?_)
      · replace h := h.1 c2
        refine lv_iload_n hx hb dX12_driftBy_26 rfl (lv_at hl 0 rfl) ?_
        refine lv_bipush (v := 7) hx hb dX12_driftBy_27 (by decide) ?_
        refine lv_icmp_ne (tgt := 42) hx hb dX12_driftBy_29 (by decide) (fun c3 => ?_) (fun c3 => ?_)
        · replace h := h.1 c3
          refine lv_iload_n hx hb dX12_driftBy_42 rfl (lv_at hl 1 rfl) ?_
          exact hret p1 z H locs 43 ls hw rfl h dX12_driftBy_43
        · replace h := h.2 c3
          refine lv_iload_n hx hb dX12_driftBy_32 rfl (lv_at hl 1 rfl) ?_
          refine lv_iconst (v := 4) hx hb dX12_driftBy_33 (by decide) ?_
          refine lv_imul hx hb dX12_driftBy_34 ?_
          refine lv_iconst (v := 5) hx hb dX12_driftBy_35 (by decide) ?_
          refine lv_idiv hx hb dX12_driftBy_36 (by decide) ?_
          refine lv_iconst (v := 2) hx hb dX12_driftBy_37 (by decide) ?_
          refine lv_idiv hx hb dX12_driftBy_38 (by decide) ?_
          refine lv_goto (tgt := 43) hx hb dX12_driftBy_39 (by decide) ?_
          exact hret (((p1 * (4 : Int32)) / (5 : Int32)) / (2 : Int32)) z H locs 43 ls hw rfl h dX12_driftBy_43
      · replace h := h.2 c2
        refine lv_iload_n hx hb dX12_driftBy_18 rfl (lv_at hl 1 rfl) ?_
        refine lv_iconst (v := 4) hx hb dX12_driftBy_19 (by decide) ?_
        refine lv_imul hx hb dX12_driftBy_20 ?_
        refine lv_iconst (v := 5) hx hb dX12_driftBy_21 (by decide) ?_
        refine lv_idiv hx hb dX12_driftBy_22 (by decide) ?_
        refine lv_goto (tgt := 43) hx hb dX12_driftBy_23 (by decide) ?_
        exact hret ((p1 * (4 : Int32)) / (5 : Int32)) z H locs 43 ls hw rfl h dX12_driftBy_43
    · replace h := h.2 c1
      refine lv_iload_n hx hb dX12_driftBy_5 rfl (lv_at hl 1 rfl) ?_
      refine lv_iconst (v := 5) hx hb dX12_driftBy_6 (by decide) ?_
      refine lv_imul hx hb dX12_driftBy_7 ?_
      refine lv_iconst (v := 4) hx hb dX12_driftBy_8 (by decide) ?_
      refine lv_idiv hx hb dX12_driftBy_9 (by decide) ?_
      refine lv_goto (tgt := 43) hx hb dX12_driftBy_10 (by decide) ?_
      exact hret ((p1 * (5 : Int32)) / (4 : Int32)) z H locs 43 ls hw rfl h dX12_driftBy_43
  exact b00 s.heap [] hw
def V_X12_faller (z : ZS) (p1 : Int32) (p2 : Int32) (post : Int32 → ZS → Prop) : Prop := V_X12_isFaller z p1 (fun r2 z1 => ((¬ r2 = 0 → V_X12_of z1 p1 (0 : Int32) (fun r5 z4 => ((p2 = (0 : Int32) → V_X12_of z4 p1 p2 (fun r28 z27 => post r28 z27)) ∧ (¬ p2 = (0 : Int32) → ((p2 = (1 : Int32) → V_X12_of z4 p1 p2 (fun r26 z25 => post r26 z25)) ∧ (¬ p2 = (1 : Int32) → ((p2 = (2 : Int32) → V_X12_of z4 p1 p2 (fun r24 z23 => post r24 z23)) ∧ (¬ p2 = (2 : Int32) → ((p2 = (3 : Int32) → V_X12_fallsBy z4 r5 (fun r22 z21 => post r22 z21)) ∧ (¬ p2 = (3 : Int32) → ((p2 = (4 : Int32) → V_X12_of z4 p1 (1 : Int32) (fun r18 z17 => V_X12_sinksBy z17 r5 r18 (fun r20 z19 => post r20 z19))) ∧ (¬ p2 = (4 : Int32) → ((p2 = (5 : Int32) → V_X12_of z4 p1 (1 : Int32) (fun r14 z13 => V_X12_paceBy z13 r5 r14 (fun r16 z15 => post r16 z15))) ∧ (¬ p2 = (5 : Int32) → post (-1 : Int32) z4)))))))))))))) ∧ (r2 = 0 → post (-1 : Int32) z1)))
set_option maxHeartbeats 4000000 in
set_option maxRecDepth 100000 in
theorem c_X12_faller (l : Launch) (D : va_G) (ad : Nat → Nat → Nat) (cs : Nat → ClassId) (sk : (Nat → Nat) × (Nat → Nat)) (z : ZS) (p1 : Int32) (p2 : Int32) (post : Int32 → ZS → Prop) (h : V_X12_faller z p1 p2 post) : MI l D ad cs sk yX12_faller cX12_faller 4 .int (rmq 2 0 0) [.ref (ad 14 100), .int p1, .int p2] z post := by
  refine MI.of RX12 rfl (by decide) (Nat.le_of_ble_eq_true rfl) ?_
  intro p e s m args below meth c A Q E hw hA hret ls hl
  have hx := E.1.1
  have hb := E.1.2.1
  have hml := E.1.2.2.1
  have hown := E.1.2.2.2.1
  have h0 := E.1.2.2.2.2
  have hl : lv_has ls 4 [(0, .ref (ad 14 100)), (1, .int p1), (2, .int p2)] := hl
  unfold V_X12_faller at h
  have b00 : ∀ (H : Heap) (locs : List Loc), OW D ad cs A s.heap z H locs → W p l e (rmq 2 0 0) s m args below meth c H locs 0 0 Q (F0 m 0 ls []) := by
    intro H locs hw
    refine lv_aload_n hx hb dX12_faller_0 rfl (lv_at hl 0 rfl) ?_
    refine lv_iload_n hx hb dX12_faller_1 rfl (lv_at hl 1 rfl) ?_
    have hq := h
    clear h
    refine xcVI (As := [.int p1]) (rest := []) E hw hA (c_X12_isFaller l D ad cs sk z p1 _ hq) kc_12_149 yo_X12_isFaller ⟨Nat.le_of_ble_eq_true rfl, Nat.le_of_ble_eq_true rfl⟩ (xrc E hw ky_14_100 rfl) rfl hl.1 rfl (Nat.le_of_ble_eq_true rfl) dX12_faller_2 ⟨Nat.le_of_ble_eq_true rfl, Nat.le_of_ble_eq_true rfl⟩ (fun r2 z1 H locs h hw => ?_)
    refine lv_if_ne (tgt := 10) hx hb dX12_faller_5 (by decide) (fun c3 => ?_) (fun c3 => ?_)
    · replace h := h.1 c3
      refine lv_aload_n hx hb dX12_faller_10 rfl (lv_at hl 0 rfl) ?_
      refine lv_iload_n hx hb dX12_faller_11 rfl (lv_at hl 1 rfl) ?_
      refine lv_iconst (v := 0) hx hb dX12_faller_12 (by decide) ?_
      have hq := h
      clear h
      refine xcVI (As := [.int p1, .int (0 : Int32)]) (rest := []) E hw hA (c_X12_of l D ad cs sk z1 p1 (0 : Int32) _ hq) kc_12_152 yo_X12_of ⟨Nat.le_of_ble_eq_true rfl, Nat.le_of_ble_eq_true rfl⟩ (xrc E hw ky_14_100 rfl) rfl hl.1 rfl (Nat.le_of_ble_eq_true rfl) dX12_faller_13 ⟨Nat.le_of_ble_eq_true rfl, Nat.le_of_ble_eq_true rfl⟩ (fun r5 z4 H locs h hw => ?_)
      refine lv_istore_n (lv' := [(3, .int r5), (0, .ref (ad 14 100)), (1, .int p1), (2, .int p2)]) hx hb dX12_faller_16 rfl hl (by decide) rfl (fun ls hl => ?_)
      refine lv_iload_n hx hb dX12_faller_17 rfl (lv_at hl 3 rfl) ?_
      by_cases c6 : p2 = (0 : Int32)
      · replace h := h.1 c6
        refine lv_tableIn (tgt := 56) hx hb dX12_faller_18 (by rw [c6]; decide) (by rw [c6]; decide) (by rw [c6]; rfl) (by decide) ?_
        refine lv_aload_n hx hb dX12_faller_56 rfl (lv_at hl 1 rfl) ?_
        refine lv_iload_n hx hb dX12_faller_57 rfl (lv_at hl 2 rfl) ?_
        refine lv_iload_n hx hb dX12_faller_58 rfl (lv_at hl 3 rfl) ?_
        have hq := h
        clear h
        refine xcVI (As := [.int p1, .int p2]) (rest := []) E hw hA (c_X12_of l D ad cs sk z4 p1 p2 _ hq) kc_12_152 yo_X12_of ⟨Nat.le_of_ble_eq_true rfl, Nat.le_of_ble_eq_true rfl⟩ (xrc E hw ky_14_100 rfl) rfl hl.1 rfl (Nat.le_of_ble_eq_true rfl) dX12_faller_59 ⟨Nat.le_of_ble_eq_true rfl, Nat.le_of_ble_eq_true rfl⟩ (fun r28 z27 H locs h hw => ?_)
        exact hret r28 z27 H locs 62 ls hw rfl h dX12_faller_62
      · replace h := h.2 c6
        by_cases c7 : p2 = (1 : Int32)
        · replace h := h.1 c7
          refine lv_tableIn (tgt := 56) hx hb dX12_faller_18 (by rw [c7]; decide) (by rw [c7]; decide) (by rw [c7]; rfl) (by decide) ?_
          refine lv_aload_n hx hb dX12_faller_56 rfl (lv_at hl 1 rfl) ?_
          refine lv_iload_n hx hb dX12_faller_57 rfl (lv_at hl 2 rfl) ?_
          refine lv_iload_n hx hb dX12_faller_58 rfl (lv_at hl 3 rfl) ?_
          have hq := h
          clear h
          refine xcVI (As := [.int p1, .int p2]) (rest := []) E hw hA (c_X12_of l D ad cs sk z4 p1 p2 _ hq) kc_12_152 yo_X12_of ⟨Nat.le_of_ble_eq_true rfl, Nat.le_of_ble_eq_true rfl⟩ (xrc E hw ky_14_100 rfl) rfl hl.1 rfl (Nat.le_of_ble_eq_true rfl) dX12_faller_59 ⟨Nat.le_of_ble_eq_true rfl, Nat.le_of_ble_eq_true rfl⟩ (fun r26 z25 H locs h hw => ?_)
          exact hret r26 z25 H locs 62 ls hw rfl h dX12_faller_62
        · replace h := h.2 c7
          by_cases c8 : p2 = (2 : Int32)
          · replace h := h.1 c8
            refine lv_tableIn (tgt := 56) hx hb dX12_faller_18 (by rw [c8]; decide) (by rw [c8]; decide) (by rw [c8]; rfl) (by decide) ?_
            refine lv_aload_n hx hb dX12_faller_56 rfl (lv_at hl 1 rfl) ?_
            refine lv_iload_n hx hb dX12_faller_57 rfl (lv_at hl 2 rfl) ?_
            refine lv_iload_n hx hb dX12_faller_58 rfl (lv_at hl 3 rfl) ?_
            have hq := h
            clear h
            refine xcVI (As := [.int p1, .int p2]) (rest := []) E hw hA (c_X12_of l D ad cs sk z4 p1 p2 _ hq) kc_12_152 yo_X12_of ⟨Nat.le_of_ble_eq_true rfl, Nat.le_of_ble_eq_true rfl⟩ (xrc E hw ky_14_100 rfl) rfl hl.1 rfl (Nat.le_of_ble_eq_true rfl) dX12_faller_59 ⟨Nat.le_of_ble_eq_true rfl, Nat.le_of_ble_eq_true rfl⟩ (fun r24 z23 H locs h hw => ?_)
            exact hret r24 z23 H locs 62 ls hw rfl h dX12_faller_62
          · replace h := h.2 c8
            by_cases c9 : p2 = (3 : Int32)
            · replace h := h.1 c9
              refine lv_tableIn (tgt := 63) hx hb dX12_faller_18 (by rw [c9]; decide) (by rw [c9]; decide) (by rw [c9]; rfl) (by decide) ?_
              refine lv_iload_n hx hb dX12_faller_63 rfl (lv_at hl 0 rfl) ?_
              have hq := h
              clear h
              refine xcSI (As := [.int r5]) (rest := []) E hw hA (c_X12_fallsBy l D ad cs sk z4 r5 _ hq) kc_12_155 yo_X12_fallsBy ⟨Nat.le_of_ble_eq_true rfl, Nat.le_of_ble_eq_true rfl⟩ rfl hl.1 rfl (Nat.le_of_ble_eq_true rfl) dX12_faller_64 ⟨Nat.le_of_ble_eq_true rfl, Nat.le_of_ble_eq_true rfl⟩ (fun r22 z21 H locs h hw => ?_)
              exact hret r22 z21 H locs 67 ls hw rfl h dX12_faller_67
            · replace h := h.2 c9
              by_cases c10 : p2 = (4 : Int32)
              · replace h := h.1 c10
                refine lv_tableIn (tgt := 68) hx hb dX12_faller_18 (by rw [c10]; decide) (by rw [c10]; decide) (by rw [c10]; rfl) (by decide) ?_
                refine lv_iload_n hx hb dX12_faller_68 rfl (lv_at hl 0 rfl) ?_
                refine lv_aload_n hx hb dX12_faller_69 rfl (lv_at hl 1 rfl) ?_
                refine lv_iload_n hx hb dX12_faller_70 rfl (lv_at hl 2 rfl) ?_
                refine lv_iconst (v := 1) hx hb dX12_faller_71 (by decide) ?_
                have hq := h
                clear h
                refine xcVI (As := [.int p1, .int (1 : Int32)]) (rest := [.int r5]) E hw hA (c_X12_of l D ad cs sk z4 p1 (1 : Int32) _ hq) kc_12_152 yo_X12_of ⟨Nat.le_of_ble_eq_true rfl, Nat.le_of_ble_eq_true rfl⟩ (xrc E hw ky_14_100 rfl) rfl hl.1 rfl (Nat.le_of_ble_eq_true rfl) dX12_faller_72 ⟨Nat.le_of_ble_eq_true rfl, Nat.le_of_ble_eq_true rfl⟩ (fun r18 z17 H locs h hw => ?_)
                have hq := h
                clear h
                refine xcSI (As := [.int r5, .int r18]) (rest := []) E hw hA (c_X12_sinksBy l D ad cs sk z17 r5 r18 _ hq) kc_12_158 yo_X12_sinksBy ⟨Nat.le_of_ble_eq_true rfl, Nat.le_of_ble_eq_true rfl⟩ rfl hl.1 rfl (Nat.le_of_ble_eq_true rfl) dX12_faller_75 ⟨Nat.le_of_ble_eq_true rfl, Nat.le_of_ble_eq_true rfl⟩ (fun r20 z19 H locs h hw => ?_)
                exact hret r20 z19 H locs 78 ls hw rfl h dX12_faller_78
              · replace h := h.2 c10
                by_cases c11 : p2 = (5 : Int32)
                · replace h := h.1 c11
                  refine lv_tableIn (tgt := 79) hx hb dX12_faller_18 (by rw [c11]; decide) (by rw [c11]; decide) (by rw [c11]; rfl) (by decide) ?_
                  refine lv_iload_n hx hb dX12_faller_79 rfl (lv_at hl 0 rfl) ?_
                  refine lv_aload_n hx hb dX12_faller_80 rfl (lv_at hl 1 rfl) ?_
                  refine lv_iload_n hx hb dX12_faller_81 rfl (lv_at hl 2 rfl) ?_
                  refine lv_iconst (v := 1) hx hb dX12_faller_82 (by decide) ?_
                  have hq := h
                  clear h
                  refine xcVI (As := [.int p1, .int (1 : Int32)]) (rest := [.int r5]) E hw hA (c_X12_of l D ad cs sk z4 p1 (1 : Int32) _ hq) kc_12_152 yo_X12_of ⟨Nat.le_of_ble_eq_true rfl, Nat.le_of_ble_eq_true rfl⟩ (xrc E hw ky_14_100 rfl) rfl hl.1 rfl (Nat.le_of_ble_eq_true rfl) dX12_faller_83 ⟨Nat.le_of_ble_eq_true rfl, Nat.le_of_ble_eq_true rfl⟩ (fun r14 z13 H locs h hw => ?_)
                  have hq := h
                  clear h
                  refine xcSI (As := [.int r5, .int r14]) (rest := []) E hw hA (c_X12_paceBy l D ad cs sk z13 r5 r14 _ hq) kc_12_161 yo_X12_paceBy ⟨Nat.le_of_ble_eq_true rfl, Nat.le_of_ble_eq_true rfl⟩ rfl hl.1 rfl (Nat.le_of_ble_eq_true rfl) dX12_faller_86 ⟨Nat.le_of_ble_eq_true rfl, Nat.le_of_ble_eq_true rfl⟩ (fun r16 z15 H locs h hw => ?_)
                  exact hret r16 z15 H locs 89 ls hw rfl h dX12_faller_89
                · replace h := h.2 c11
                  refine lv_tableOut (tgt := 90) hx hb dX12_faller_18 (by have n0 := lv_neT c6 (by decide : ((0 : Int32) : Int32).toInt = 0); have n1 := lv_neT c7 (by decide : ((1 : Int32) : Int32).toInt = 1); have n2 := lv_neT c8 (by decide : ((2 : Int32) : Int32).toInt = 2); have n3 := lv_neT c9 (by decide : ((3 : Int32) : Int32).toInt = 3); have n4 := lv_neT c10 (by decide : ((4 : Int32) : Int32).toInt = 4); have n5 := lv_neT c11 (by decide : ((5 : Int32) : Int32).toInt = 5); omega) (by decide) ?_
                  refine lv_iconst (v := -1) hx hb dX12_faller_90 (by decide) ?_
                  exact hret (-1 : Int32) z4 H locs 91 ls hw rfl h dX12_faller_91
    · replace h := h.2 c3
      refine lv_iconst (v := -1) hx hb dX12_faller_8 (by decide) ?_
      exact hret (-1 : Int32) z1 H locs 9 ls hw rfl h dX12_faller_9
  exact b00 s.heap [] hw
def V_X12_drift (z : ZS) (p1 : Int32) (p2 : Int32) (post : Int32 → ZS → Prop) : Prop := V_X12_isFaller z p1 (fun r2 z1 => ((r2 = 0 → post (-1000000001 : Int32) z1) ∧ (¬ r2 = 0 → V_X12_isIn z1 (Int32.toInt64 p2) (-120 : Int64) (120 : Int64) (fun r5 z4 => ((r5 = 0 → post (-1000000001 : Int32) z4) ∧ (¬ r5 = 0 → V_X12_of z4 p1 (0 : Int32) (fun r8 z7 => V_X12_driftBy z7 r8 p2 (fun r10 z9 => post r10 z9))))))))
set_option maxHeartbeats 4000000 in
set_option maxRecDepth 100000 in
theorem c_X12_drift (l : Launch) (D : va_G) (ad : Nat → Nat → Nat) (cs : Nat → ClassId) (sk : (Nat → Nat) × (Nat → Nat)) (z : ZS) (p1 : Int32) (p2 : Int32) (post : Int32 → ZS → Prop) (h : V_X12_drift z p1 p2 post) : MI l D ad cs sk yX12_drift cX12_drift 3 .int (rmq 2 0 0) [.ref (ad 14 100), .int p1, .int p2] z post := by
  refine MI.of RX12 rfl (by decide) (Nat.le_of_ble_eq_true rfl) ?_
  intro p e s m args below meth c A Q E hw hA hret ls hl
  have hx := E.1.1
  have hb := E.1.2.1
  have hml := E.1.2.2.1
  have hown := E.1.2.2.2.1
  have h0 := E.1.2.2.2.2
  have hl : lv_has ls 3 [(0, .ref (ad 14 100)), (1, .int p1), (2, .int p2)] := hl
  unfold V_X12_drift at h
  have b00 : ∀ (H : Heap) (locs : List Loc), OW D ad cs A s.heap z H locs → W p l e (rmq 2 0 0) s m args below meth c H locs 0 0 Q (F0 m 0 ls []) := by
    intro H locs hw
    refine lv_aload_n hx hb dX12_drift_0 rfl (lv_at hl 0 rfl) ?_
    refine lv_iload_n hx hb dX12_drift_1 rfl (lv_at hl 1 rfl) ?_
    have hq := h
    clear h
    refine xcVI (As := [.int p1]) (rest := []) E hw hA (c_X12_isFaller l D ad cs sk z p1 _ hq) kc_12_149 yo_X12_isFaller ⟨Nat.le_of_ble_eq_true rfl, Nat.le_of_ble_eq_true rfl⟩ (xrc E hw ky_14_100 rfl) rfl hl.1 rfl (Nat.le_of_ble_eq_true rfl) dX12_drift_2 ⟨Nat.le_of_ble_eq_true rfl, Nat.le_of_ble_eq_true rfl⟩ (fun r2 z1 H locs h hw => ?_)
    refine lv_if_eq (tgt := 35) hx hb dX12_drift_5 (by decide) (fun c3 => ?_) (fun c3 => ?_)
    · replace h := h.1 c3
      refine lv_ldc (v := -1000000001) hx hb hown (h0 _ qk_12_139) dX12_drift_35 ?_
      exact hret (-1000000001 : Int32) z1 H locs 37 ls hw rfl h dX12_drift_37
    · replace h := h.2 c3
      refine lv_iload_n hx hb dX12_drift_8 rfl (lv_at hl 2 rfl) ?_
      refine lv_i2l hx hb dX12_drift_9 rfl ?_
      refine lv_ldc2 (v := -120) hx hb hown (h0 _ ql_12_164) dX12_drift_10 ?_
      refine lv_ldc2 (v := 120) hx hb hown (h0 _ ql_12_166) dX12_drift_13 ?_
      have hq := h
      clear h
      refine xcSI (As := [.long (Int32.toInt64 p2), .long (-120 : Int64), .long (120 : Int64)]) (rest := []) E hw hA (c_X12_isIn l D ad cs sk z1 (Int32.toInt64 p2) (-120 : Int64) (120 : Int64) _ hq) kc_12_56 yo_X12_isIn ⟨Nat.le_of_ble_eq_true rfl, Nat.le_of_ble_eq_true rfl⟩ rfl hl.1 rfl (Nat.le_of_ble_eq_true rfl) dX12_drift_16 ⟨Nat.le_of_ble_eq_true rfl, Nat.le_of_ble_eq_true rfl⟩ (fun r5 z4 H locs h hw => ?_)
      refine lv_if_eq (tgt := 35) hx hb dX12_drift_19 (by decide) (fun c6 => ?_) (fun c6 => ?_)
      · replace h := h.1 c6
        refine lv_ldc (v := -1000000001) hx hb hown (h0 _ qk_12_139) dX12_drift_35 ?_
        exact hret (-1000000001 : Int32) z4 H locs 37 ls hw rfl h dX12_drift_37
      · replace h := h.2 c6
        refine lv_aload_n hx hb dX12_drift_22 rfl (lv_at hl 0 rfl) ?_
        refine lv_iload_n hx hb dX12_drift_23 rfl (lv_at hl 1 rfl) ?_
        refine lv_iconst (v := 0) hx hb dX12_drift_24 (by decide) ?_
        have hq := h
        clear h
        refine xcVI (As := [.int p1, .int (0 : Int32)]) (rest := []) E hw hA (c_X12_of l D ad cs sk z4 p1 (0 : Int32) _ hq) kc_12_152 yo_X12_of ⟨Nat.le_of_ble_eq_true rfl, Nat.le_of_ble_eq_true rfl⟩ (xrc E hw ky_14_100 rfl) rfl hl.1 rfl (Nat.le_of_ble_eq_true rfl) dX12_drift_25 ⟨Nat.le_of_ble_eq_true rfl, Nat.le_of_ble_eq_true rfl⟩ (fun r8 z7 H locs h hw => ?_)
        refine lv_iload_n hx hb dX12_drift_28 rfl (lv_at hl 2 rfl) ?_
        have hq := h
        clear h
        refine xcSI (As := [.int r8, .int p2]) (rest := []) E hw hA (c_X12_driftBy l D ad cs sk z7 r8 p2 _ hq) kc_12_168 yo_X12_driftBy ⟨Nat.le_of_ble_eq_true rfl, Nat.le_of_ble_eq_true rfl⟩ rfl hl.1 rfl (Nat.le_of_ble_eq_true rfl) dX12_drift_29 ⟨Nat.le_of_ble_eq_true rfl, Nat.le_of_ble_eq_true rfl⟩ (fun r10 z9 H locs h hw => ?_)
        refine lv_goto (tgt := 37) hx hb dX12_drift_32 (by decide) ?_
        exact hret r10 z9 H locs 37 ls hw rfl h dX12_drift_37
  exact b00 s.heap [] hw
def V_X12_toward_36 (post : ZS → Prop) (z : ZS) (v1 : Int32) (s0 : Int32) : Prop := ((v1 = 0 → (∀ z8 : ZS, z8 = wI z 14 17 s0 → post z8)) ∧ (¬ v1 = 0 → (∀ z9 : ZS, z9 = wI z 14 16 s0 → post z9)))
def V_X12_toward_9 (post : ZS → Prop) (z : ZS) (v1 : Int32) (v4 : Int32) (s0 : Int32) : Prop := V_X12_amount z s0 (fun r3 z2 => V_X12_lesser z2 v4 r3 (fun r5 z4 => ((s0 ≤ 0 → V_X12_toward_36 post z4 v1 r5) ∧ (¬ s0 ≤ 0 → V_X12_toward_36 post z4 v1 (-r5)))))
def V_X12_toward (z : ZS) (p1 : Int32) (p2 : Int32) (p3 : Int32) (p4 : Int32) (post : ZS → Prop) : Prop := ((p1 = 0 → V_X12_toward_9 post z p1 p4 p3) ∧ (¬ p1 = 0 → V_X12_toward_9 post z p1 p4 p2))
set_option maxHeartbeats 4000000 in
set_option maxRecDepth 100000 in
theorem c_X12_toward (l : Launch) (D : va_G) (ad : Nat → Nat → Nat) (cs : Nat → ClassId) (sk : (Nat → Nat) × (Nat → Nat)) (z : ZS) (p1 : Int32) (p2 : Int32) (p3 : Int32) (p4 : Int32) (post : ZS → Prop) (h : V_X12_toward z p1 p2 p3 p4 post) : MV l D ad cs sk yX12_toward cX12_toward 7 (rmq 1 0 0) [.ref (ad 14 100), .int p1, .int p2, .int p3, .int p4] z post := by
  refine MV.of RX12 rfl (by decide) (Nat.le_of_ble_eq_true rfl) ?_
  intro p e s m args below meth c A Q E hw hA hret ls hl
  have hx := E.1.1
  have hb := E.1.2.1
  have hml := E.1.2.2.1
  have hown := E.1.2.2.2.1
  have h0 := E.1.2.2.2.2
  have hl : lv_has ls 7 [(0, .ref (ad 14 100)), (1, .int p1), (2, .int p2), (3, .int p3), (4, .int p4)] := hl
  unfold V_X12_toward at h
  have b36 : ∀ (z : ZS) (v1 : Int32) (s0 : Int32), ∀ (H : Heap) (locs : List Loc), OW D ad cs A s.heap z H locs → ∀ ls : Array Slot, lv_has ls 7 [(0, .ref (ad 14 100)), (1, .int v1)] → V_X12_toward_36 post z v1 s0 → W p l e (rmq 1 0 0) s m args below meth c H locs 0 0 Q (F0 m 36 ls [.int s0]) := by
    intro z v1 s0 H locs hw ls hl h
    unfold V_X12_toward_36 at h
    refine lv_istore (lv' := [(6, .int s0), (0, .ref (ad 14 100)), (1, .int v1)]) hx hb dX12_toward_36 hl (by decide) rfl (fun ls hl => ?_)
    refine lv_iload_n hx hb dX12_toward_38 rfl (lv_at hl 2 rfl) ?_
    refine lv_if_eq (tgt := 51) hx hb dX12_toward_39 (by decide) (fun c7 => ?_) (fun c7 => ?_)
    · replace h := h.1 c7
      refine lv_aload_n hx hb dX12_toward_51 rfl (lv_at hl 1 rfl) ?_
      refine lv_iload hx hb dX12_toward_52 (lv_at hl 0 rfl) ?_
      refine xpI E hw (c1 := 12) rfl ky_14_100 fp_12_17 rfl rfl qf_12_177 dX12_toward_54 (fun z8 ez8 H locs hw => ?_)
      replace h := h z8 ez8
      exact hret z8 H locs 57 ls hw h dX12_toward_57
    · replace h := h.2 c7
      refine lv_aload_n hx hb dX12_toward_42 rfl (lv_at hl 1 rfl) ?_
      refine lv_iload hx hb dX12_toward_43 (lv_at hl 0 rfl) ?_
      refine xpI E hw (c1 := 12) rfl ky_14_100 fp_12_16 rfl rfl qf_12_174 dX12_toward_45 (fun z9 ez9 H locs hw => ?_)
      replace h := h z9 ez9
      refine lv_goto (tgt := 57) hx hb dX12_toward_48 (by decide) ?_
      exact hret z9 H locs 57 ls hw h dX12_toward_57
  have b9 : ∀ (z : ZS) (v1 : Int32) (v4 : Int32) (s0 : Int32), ∀ (H : Heap) (locs : List Loc), OW D ad cs A s.heap z H locs → ∀ ls : Array Slot, lv_has ls 7 [(0, .ref (ad 14 100)), (1, .int v1), (4, .int v4)] → V_X12_toward_9 post z v1 v4 s0 → W p l e (rmq 1 0 0) s m args below meth c H locs 0 0 Q (F0 m 9 ls [.int s0]) := by
    intro z v1 v4 s0 H locs hw ls hl h
    unfold V_X12_toward_9 at h
    refine lv_istore (lv' := [(5, .int s0), (0, .ref (ad 14 100)), (1, .int v1), (4, .int v4)]) hx hb dX12_toward_9 hl (by decide) rfl (fun ls hl => ?_)
    refine lv_iload hx hb dX12_toward_11 (lv_at hl 3 rfl) ?_
    refine lv_iload hx hb dX12_toward_13 (lv_at hl 0 rfl) ?_
    have hq := h
    clear h
    refine xcSI (As := [.int s0]) (rest := [.int v4]) E hw hA (c_X12_amount l D ad cs sk z s0 _ hq) kc_12_171 yo_X12_amount ⟨Nat.le_of_ble_eq_true rfl, Nat.le_of_ble_eq_true rfl⟩ rfl hl.1 rfl (Nat.le_of_ble_eq_true rfl) dX12_toward_15 ⟨Nat.le_of_ble_eq_true rfl, Nat.le_of_ble_eq_true rfl⟩ (fun r3 z2 H locs h hw => ?_)
    have hq := h
    clear h
    refine xcSI (As := [.int v4, .int r3]) (rest := []) E hw hA (c_X12_lesser l D ad cs sk z2 v4 r3 _ hq) kc_12_121 yo_X12_lesser ⟨Nat.le_of_ble_eq_true rfl, Nat.le_of_ble_eq_true rfl⟩ rfl hl.1 rfl (Nat.le_of_ble_eq_true rfl) dX12_toward_18 ⟨Nat.le_of_ble_eq_true rfl, Nat.le_of_ble_eq_true rfl⟩ (fun r5 z4 H locs h hw => ?_)
    refine lv_istore (lv' := [(6, .int r5), (5, .int s0), (0, .ref (ad 14 100)), (1, .int v1), (4, .int v4)]) hx hb dX12_toward_21 hl (by decide) rfl (fun ls hl => ?_)
    refine lv_iload hx hb dX12_toward_23 (lv_at hl 1 rfl) ?_
    refine lv_if_le (tgt := 34) hx hb dX12_toward_25 (by decide) (fun c6 => ?_) (fun c6 => ?_)
    · replace h := h.1 c6
      refine lv_iload hx hb dX12_toward_34 (lv_at hl 0 rfl) ?_
      exact b36 z4 v1 r5 H locs hw ls (lv_sub hl [2, 3] rfl) h
    · replace h := h.2 c6
      refine lv_iload hx hb dX12_toward_28 (lv_at hl 0 rfl) ?_
      refine lv_ineg hx hb dX12_toward_30 ?_
      refine lv_goto (tgt := 36) hx hb dX12_toward_31 (by decide) ?_
      exact b36 z4 v1 (-r5) H locs hw ls (lv_sub hl [2, 3] rfl) h
  have b00 : ∀ (H : Heap) (locs : List Loc), OW D ad cs A s.heap z H locs → W p l e (rmq 1 0 0) s m args below meth c H locs 0 0 Q (F0 m 0 ls []) := by
    intro H locs hw
    refine lv_iload_n hx hb dX12_toward_0 rfl (lv_at hl 1 rfl) ?_
    refine lv_if_eq (tgt := 8) hx hb dX12_toward_1 (by decide) (fun c1 => ?_) (fun c1 => ?_)
    · replace h := h.1 c1
      refine lv_iload_n hx hb dX12_toward_8 rfl (lv_at hl 3 rfl) ?_
      exact b9 z p1 p4 p3 H locs hw ls (lv_sub hl [0, 1, 4] rfl) h
    · replace h := h.2 c1
      refine lv_iload_n hx hb dX12_toward_4 rfl (lv_at hl 2 rfl) ?_
      refine lv_goto (tgt := 9) hx hb dX12_toward_5 (by decide) ?_
      exact b9 z p1 p4 p2 H locs hw ls (lv_sub hl [0, 1, 4] rfl) h
  exact b00 s.heap [] hw
def V_X12_steersBy_236 (post : ZS → Prop) (z : ZS) (v3 : Int32) (v4 : Int32) (v7 : Int32) (s1 : Int32) : Prop := V_X12_toward z s1 v3 v4 v7 (fun z13 => post z13)
def V_X12_steersBy_214 (post : ZS → Prop) (z : ZS) (s1 : Int32) : Prop := (∀ z27 : ZS, z27 = wI z 14 17 s1 → post z27)
def V_X12_steersBy_194 (post : ZS → Prop) (z : ZS) (s1 : Int32) : Prop := (∀ z30 : ZS, z30 = wI z 14 16 s1 → post z30)
def V_X12_steersBy_149 (post : ZS → Prop) (z : ZS) (v3 : Int32) (v4 : Int32) (v7 : Int32) (s1 : Int32) : Prop := V_X12_toward z s1 v3 v4 v7 (fun z37 => post z37)
def V_X12_steersBy_116 (post : ZS → Prop) (z : ZS) (v3 : Int32) (v4 : Int32) (v7 : Int32) (s1 : Int32) : Prop := V_X12_toward z s1 v3 v4 v7 (fun z45 => post z45)
def V_X12_steersBy_45 (post : ZS → Prop) (z : ZS) (v1 : Int32) (v3 : Int32) (v4 : Int32) (v5 : Int32) (v6 : Int32) (v7 : Int32) (s0 : Int32) : Prop := ((v1 = (1 : Int32) → post z) ∧ (¬ v1 = (1 : Int32) → ((v1 = (4 : Int32) → ((s0 = 0 → post z) ∧ (¬ s0 = 0 → V_X12_amount z v3 (fun r41 z40 => V_X12_amount z40 v4 (fun r43 z42 => ((r41 < r43 → V_X12_steersBy_116 post z42 v3 v4 v7 (0 : Int32)) ∧ (¬ r41 < r43 → V_X12_steersBy_116 post z42 v3 v4 v7 (1 : Int32)))))))) ∧ (¬ v1 = (4 : Int32) → ((v1 = (5 : Int32) → ((s0 = 0 → post z) ∧ (¬ s0 = 0 → V_X12_amount z v6 (fun r33 z32 => V_X12_amount z32 v5 (fun r35 z34 => ((r33 ≤ r35 → V_X12_steersBy_149 post z34 v3 v4 v7 (0 : Int32)) ∧ (¬ r33 ≤ r35 → V_X12_steersBy_149 post z34 v3 v4 v7 (1 : Int32)))))))) ∧ (¬ v1 = (5 : Int32) → ((v1 = (6 : Int32) → V_X12_amount z v5 (fun r22 z21 => V_X12_amount z21 v6 (fun r24 z23 => ((r22 < r24 → ((v6 ≤ 0 → V_X12_steersBy_214 post z23 (-v7)) ∧ (¬ v6 ≤ 0 → V_X12_steersBy_214 post z23 v7))) ∧ (¬ r22 < r24 → ((v5 ≤ 0 → ((0 ≤ v5 → V_X12_steersBy_194 post z23 (0 : Int32)) ∧ (¬ 0 ≤ v5 → V_X12_steersBy_194 post z23 (-v7)))) ∧ (¬ v5 ≤ 0 → V_X12_steersBy_194 post z23 v7))))))) ∧ (¬ v1 = (6 : Int32) → ((v1 = (7 : Int32) → post z) ∧ (¬ v1 = (7 : Int32) → V_X12_amount z v3 (fun r9 z8 => V_X12_amount z8 v4 (fun r11 z10 => ((r9 < r11 → V_X12_steersBy_236 post z10 v3 v4 v7 (0 : Int32)) ∧ (¬ r9 < r11 → V_X12_steersBy_236 post z10 v3 v4 v7 (1 : Int32)))))))))))))))
def V_X12_steersBy_40 (post : ZS → Prop) (z : ZS) (v1 : Int32) (v3 : Int32) (v4 : Int32) (v5 : Int32) (v6 : Int32) (v7 : Int32) : Prop := V_X12_steersBy_45 post z v1 v3 v4 v5 v6 v7 (1 : Int32)
def V_X12_steersBy (z : ZS) (p1 : Int32) (p2 : Int32) (p3 : Int32) (p4 : Int32) (p5 : Int32) (p6 : Int32) (post : ZS → Prop) : Prop := (∀ z1 : ZS, z1 = wI z 14 16 (0 : Int32) → (∀ z2 : ZS, z2 = wI z1 14 17 (0 : Int32) → V_X12_paceBy z2 p1 p2 (fun r4 z3 => V_X12_amount z3 p3 (fun r6 z5 => ((((100 : Int32) * p2) < r6 → V_X12_steersBy_40 post z5 p1 p3 p4 p5 p6 r4) ∧ (¬ ((100 : Int32) * p2) < r6 → V_X12_amount z5 p4 (fun r48 z47 => ((r48 ≤ ((100 : Int32) * p2) → V_X12_steersBy_45 post z47 p1 p3 p4 p5 p6 r4 (0 : Int32)) ∧ (¬ r48 ≤ ((100 : Int32) * p2) → V_X12_steersBy_40 post z47 p1 p3 p4 p5 p6 r4)))))))))
set_option maxHeartbeats 4000000 in
set_option maxRecDepth 100000 in
theorem c_X12_steersBy (l : Launch) (D : va_G) (ad : Nat → Nat → Nat) (cs : Nat → ClassId) (sk : (Nat → Nat) × (Nat → Nat)) (z : ZS) (p1 : Int32) (p2 : Int32) (p3 : Int32) (p4 : Int32) (p5 : Int32) (p6 : Int32) (post : ZS → Prop) (h : V_X12_steersBy z p1 p2 p3 p4 p5 p6 post) : MV l D ad cs sk yX12_steersBy cX12_steersBy 9 (rmq 2 0 0) [.ref (ad 14 100), .int p1, .int p2, .int p3, .int p4, .int p5, .int p6] z post := by
  refine MV.of RX12 rfl (by decide) (Nat.le_of_ble_eq_true rfl) ?_
  intro p e s m args below meth c A Q E hw hA hret ls hl
  have hx := E.1.1
  have hb := E.1.2.1
  have hml := E.1.2.2.1
  have hown := E.1.2.2.2.1
  have h0 := E.1.2.2.2.2
  have hl : lv_has ls 9 [(0, .ref (ad 14 100)), (1, .int p1), (2, .int p2), (3, .int p3), (4, .int p4), (5, .int p5), (6, .int p6)] := hl
  unfold V_X12_steersBy at h
  have b236 : ∀ (z : ZS) (v3 : Int32) (v4 : Int32) (v7 : Int32) (s1 : Int32), ∀ (H : Heap) (locs : List Loc), OW D ad cs A s.heap z H locs → ∀ ls : Array Slot, lv_has ls 9 [(3, .int v3), (4, .int v4), (7, .int v7)] → V_X12_steersBy_236 post z v3 v4 v7 s1 → W p l e (rmq 2 0 0) s m args below meth c H locs 0 0 Q (F0 m 236 ls [.int s1, .ref (ad 14 100)]) := by
    intro z v3 v4 v7 s1 H locs hw ls hl h
    unfold V_X12_steersBy_236 at h
    refine lv_iload_n hx hb dX12_steersBy_236 rfl (lv_at hl 0 rfl) ?_
    refine lv_iload hx hb dX12_steersBy_237 (lv_at hl 1 rfl) ?_
    refine lv_iload hx hb dX12_steersBy_239 (lv_at hl 2 rfl) ?_
    have hq := h
    clear h
    refine xcVV (As := [.int s1, .int v3, .int v4, .int v7]) (rest := []) E hw hA (c_X12_toward l D ad cs sk z s1 v3 v4 v7 _ hq) kc_12_180 yo_X12_toward ⟨Nat.le_of_ble_eq_true rfl, Nat.le_of_ble_eq_true rfl⟩ (xrc E hw ky_14_100 rfl) rfl hl.1 rfl (Nat.le_of_ble_eq_true rfl) dX12_steersBy_241 ⟨Nat.le_of_ble_eq_true rfl, Nat.le_of_ble_eq_true rfl⟩ (fun z13 H locs h hw => ?_)
    exact hret z13 H locs 244 ls hw h dX12_steersBy_244
  have b214 : ∀ (z : ZS) (s1 : Int32), ∀ (H : Heap) (locs : List Loc), OW D ad cs A s.heap z H locs → ∀ ls : Array Slot, lv_has ls 9 [] → V_X12_steersBy_214 post z s1 → W p l e (rmq 2 0 0) s m args below meth c H locs 0 0 Q (F0 m 214 ls [.int s1, .ref (ad 14 100)]) := by
    intro z s1 H locs hw ls hl h
    unfold V_X12_steersBy_214 at h
    refine xpI E hw (c1 := 12) rfl ky_14_100 fp_12_17 rfl rfl qf_12_177 dX12_steersBy_214 (fun z27 ez27 H locs hw => ?_)
    replace h := h z27 ez27
    exact hret z27 H locs 217 ls hw h dX12_steersBy_217
  have b194 : ∀ (z : ZS) (s1 : Int32), ∀ (H : Heap) (locs : List Loc), OW D ad cs A s.heap z H locs → ∀ ls : Array Slot, lv_has ls 9 [] → V_X12_steersBy_194 post z s1 → W p l e (rmq 2 0 0) s m args below meth c H locs 0 0 Q (F0 m 194 ls [.int s1, .ref (ad 14 100)]) := by
    intro z s1 H locs hw ls hl h
    unfold V_X12_steersBy_194 at h
    refine xpI E hw (c1 := 12) rfl ky_14_100 fp_12_16 rfl rfl qf_12_174 dX12_steersBy_194 (fun z30 ez30 H locs hw => ?_)
    replace h := h z30 ez30
    refine lv_goto (tgt := 217) hx hb dX12_steersBy_197 (by decide) ?_
    exact hret z30 H locs 217 ls hw h dX12_steersBy_217
  have b149 : ∀ (z : ZS) (v3 : Int32) (v4 : Int32) (v7 : Int32) (s1 : Int32), ∀ (H : Heap) (locs : List Loc), OW D ad cs A s.heap z H locs → ∀ ls : Array Slot, lv_has ls 9 [(3, .int v3), (4, .int v4), (7, .int v7)] → V_X12_steersBy_149 post z v3 v4 v7 s1 → W p l e (rmq 2 0 0) s m args below meth c H locs 0 0 Q (F0 m 149 ls [.int s1, .ref (ad 14 100)]) := by
    intro z v3 v4 v7 s1 H locs hw ls hl h
    unfold V_X12_steersBy_149 at h
    refine lv_iload_n hx hb dX12_steersBy_149 rfl (lv_at hl 0 rfl) ?_
    refine lv_iload hx hb dX12_steersBy_150 (lv_at hl 1 rfl) ?_
    refine lv_iload hx hb dX12_steersBy_152 (lv_at hl 2 rfl) ?_
    have hq := h
    clear h
    refine xcVV (As := [.int s1, .int v3, .int v4, .int v7]) (rest := []) E hw hA (c_X12_toward l D ad cs sk z s1 v3 v4 v7 _ hq) kc_12_180 yo_X12_toward ⟨Nat.le_of_ble_eq_true rfl, Nat.le_of_ble_eq_true rfl⟩ (xrc E hw ky_14_100 rfl) rfl hl.1 rfl (Nat.le_of_ble_eq_true rfl) dX12_steersBy_154 ⟨Nat.le_of_ble_eq_true rfl, Nat.le_of_ble_eq_true rfl⟩ (fun z37 H locs h hw => ?_)
    exact hret z37 H locs 157 ls hw h dX12_steersBy_157
  have b116 : ∀ (z : ZS) (v3 : Int32) (v4 : Int32) (v7 : Int32) (s1 : Int32), ∀ (H : Heap) (locs : List Loc), OW D ad cs A s.heap z H locs → ∀ ls : Array Slot, lv_has ls 9 [(3, .int v3), (4, .int v4), (7, .int v7)] → V_X12_steersBy_116 post z v3 v4 v7 s1 → W p l e (rmq 2 0 0) s m args below meth c H locs 0 0 Q (F0 m 116 ls [.int s1, .ref (ad 14 100)]) := by
    intro z v3 v4 v7 s1 H locs hw ls hl h
    unfold V_X12_steersBy_116 at h
    refine lv_iload_n hx hb dX12_steersBy_116 rfl (lv_at hl 0 rfl) ?_
    refine lv_iload hx hb dX12_steersBy_117 (lv_at hl 1 rfl) ?_
    refine lv_iload hx hb dX12_steersBy_119 (lv_at hl 2 rfl) ?_
    have hq := h
    clear h
    refine xcVV (As := [.int s1, .int v3, .int v4, .int v7]) (rest := []) E hw hA (c_X12_toward l D ad cs sk z s1 v3 v4 v7 _ hq) kc_12_180 yo_X12_toward ⟨Nat.le_of_ble_eq_true rfl, Nat.le_of_ble_eq_true rfl⟩ (xrc E hw ky_14_100 rfl) rfl hl.1 rfl (Nat.le_of_ble_eq_true rfl) dX12_steersBy_121 ⟨Nat.le_of_ble_eq_true rfl, Nat.le_of_ble_eq_true rfl⟩ (fun z45 H locs h hw => ?_)
    exact hret z45 H locs 124 ls hw h dX12_steersBy_124
  have b45 : ∀ (z : ZS) (v1 : Int32) (v3 : Int32) (v4 : Int32) (v5 : Int32) (v6 : Int32) (v7 : Int32) (s0 : Int32), ∀ (H : Heap) (locs : List Loc), OW D ad cs A s.heap z H locs → ∀ ls : Array Slot, lv_has ls 9 [(0, .ref (ad 14 100)), (1, .int v1), (3, .int v3), (4, .int v4), (5, .int v5), (6, .int v6), (7, .int v7)] → V_X12_steersBy_45 post z v1 v3 v4 v5 v6 v7 s0 → W p l e (rmq 2 0 0) s m args below meth c H locs 0 0 Q (F0 m 45 ls [.int s0]) := by
    intro z v1 v3 v4 v5 v6 v7 s0 H locs hw ls hl h
    unfold V_X12_steersBy_45 at h
    refine lv_istore (lv' := [(8, .int s0), (0, .ref (ad 14 100)), (1, .int v1), (3, .int v3), (4, .int v4), (5, .int v5), (6, .int v6), (7, .int v7)]) hx hb dX12_steersBy_45 hl (by decide) rfl (fun ls hl => ?_)
    refine lv_iload_n hx hb dX12_steersBy_47 rfl (lv_at hl 2 rfl) ?_
    by_cases c15 : v1 = (1 : Int32)
    · replace h := h.1 c15
      refine lv_tableIn (tgt := 92) hx hb dX12_steersBy_48 (by rw [c15]; decide) (by rw [c15]; decide) (by rw [c15]; rfl) (by decide) ?_
      exact hret z H locs 92 ls hw h dX12_steersBy_92
    · replace h := h.2 c15
      by_cases c16 : v1 = (4 : Int32)
      · replace h := h.1 c16
        refine lv_tableIn (tgt := 93) hx hb dX12_steersBy_48 (by rw [c16]; decide) (by rw [c16]; decide) (by rw [c16]; rfl) (by decide) ?_
        refine lv_iload hx hb dX12_steersBy_93 (lv_at hl 0 rfl) ?_
        refine lv_if_eq (tgt := 124) hx hb dX12_steersBy_95 (by decide) (fun c39 => ?_) (fun c39 => ?_)
        · replace h := h.1 c39
          exact hret z H locs 124 ls hw h dX12_steersBy_124
        · replace h := h.2 c39
          refine lv_aload_n hx hb dX12_steersBy_98 rfl (lv_at hl 1 rfl) ?_
          refine lv_iload_n hx hb dX12_steersBy_99 rfl (lv_at hl 3 rfl) ?_
          have hq := h
          clear h
          refine xcSI (As := [.int v3]) (rest := [.ref (ad 14 100)]) E hw hA (c_X12_amount l D ad cs sk z v3 _ hq) kc_12_171 yo_X12_amount ⟨Nat.le_of_ble_eq_true rfl, Nat.le_of_ble_eq_true rfl⟩ rfl hl.1 rfl (Nat.le_of_ble_eq_true rfl) dX12_steersBy_100 ⟨Nat.le_of_ble_eq_true rfl, Nat.le_of_ble_eq_true rfl⟩ (fun r41 z40 H locs h hw => ?_)
          refine lv_iload hx hb dX12_steersBy_103 (lv_at hl 4 rfl) ?_
          have hq := h
          clear h
          refine xcSI (As := [.int v4]) (rest := [.int r41, .ref (ad 14 100)]) E hw hA (c_X12_amount l D ad cs sk z40 v4 _ hq) kc_12_171 yo_X12_amount ⟨Nat.le_of_ble_eq_true rfl, Nat.le_of_ble_eq_true rfl⟩ rfl hl.1 rfl (Nat.le_of_ble_eq_true rfl) dX12_steersBy_105 ⟨Nat.le_of_ble_eq_true rfl, Nat.le_of_ble_eq_true rfl⟩ (fun r43 z42 H locs h hw => ?_)
          refine lv_icmp_lt (tgt := 115) hx hb dX12_steersBy_108 (by decide) (fun c44 => ?_) (fun c44 => ?_)
          · replace h := h.1 c44
            refine lv_iconst (v := 0) hx hb dX12_steersBy_115 (by decide) ?_
            exact b116 z42 v3 v4 v7 (0 : Int32) H locs hw ls (lv_sub hl [3, 4, 7] rfl) h
          · replace h := h.2 c44
            refine lv_iconst (v := 1) hx hb dX12_steersBy_111 (by decide) ?_
            refine lv_goto (tgt := 116) hx hb dX12_steersBy_112 (by decide) ?_
            exact b116 z42 v3 v4 v7 (1 : Int32) H locs hw ls (lv_sub hl [3, 4, 7] rfl) h
      · replace h := h.2 c16
        by_cases c17 : v1 = (5 : Int32)
        · replace h := h.1 c17
          refine lv_tableIn (tgt := 125) hx hb dX12_steersBy_48 (by rw [c17]; decide) (by rw [c17]; decide) (by rw [c17]; rfl) (by decide) ?_
          refine lv_iload hx hb dX12_steersBy_125 (lv_at hl 0 rfl) ?_
          refine lv_if_eq (tgt := 157) hx hb dX12_steersBy_127 (by decide) (fun c31 => ?_) (fun c31 => ?_)
          · replace h := h.1 c31
            exact hret z H locs 157 ls hw h dX12_steersBy_157
          · replace h := h.2 c31
            refine lv_aload_n hx hb dX12_steersBy_130 rfl (lv_at hl 1 rfl) ?_
            refine lv_iload hx hb dX12_steersBy_131 (lv_at hl 6 rfl) ?_
            have hq := h
            clear h
            refine xcSI (As := [.int v6]) (rest := [.ref (ad 14 100)]) E hw hA (c_X12_amount l D ad cs sk z v6 _ hq) kc_12_171 yo_X12_amount ⟨Nat.le_of_ble_eq_true rfl, Nat.le_of_ble_eq_true rfl⟩ rfl hl.1 rfl (Nat.le_of_ble_eq_true rfl) dX12_steersBy_133 ⟨Nat.le_of_ble_eq_true rfl, Nat.le_of_ble_eq_true rfl⟩ (fun r33 z32 H locs h hw => ?_)
            refine lv_iload hx hb dX12_steersBy_136 (lv_at hl 5 rfl) ?_
            have hq := h
            clear h
            refine xcSI (As := [.int v5]) (rest := [.int r33, .ref (ad 14 100)]) E hw hA (c_X12_amount l D ad cs sk z32 v5 _ hq) kc_12_171 yo_X12_amount ⟨Nat.le_of_ble_eq_true rfl, Nat.le_of_ble_eq_true rfl⟩ rfl hl.1 rfl (Nat.le_of_ble_eq_true rfl) dX12_steersBy_138 ⟨Nat.le_of_ble_eq_true rfl, Nat.le_of_ble_eq_true rfl⟩ (fun r35 z34 H locs h hw => ?_)
            refine lv_icmp_le (tgt := 148) hx hb dX12_steersBy_141 (by decide) (fun c36 => ?_) (fun c36 => ?_)
            · replace h := h.1 c36
              refine lv_iconst (v := 0) hx hb dX12_steersBy_148 (by decide) ?_
              exact b149 z34 v3 v4 v7 (0 : Int32) H locs hw ls (lv_sub hl [3, 4, 7] rfl) h
            · replace h := h.2 c36
              refine lv_iconst (v := 1) hx hb dX12_steersBy_144 (by decide) ?_
              refine lv_goto (tgt := 149) hx hb dX12_steersBy_145 (by decide) ?_
              exact b149 z34 v3 v4 v7 (1 : Int32) H locs hw ls (lv_sub hl [3, 4, 7] rfl) h
        · replace h := h.2 c17
          by_cases c18 : v1 = (6 : Int32)
          · replace h := h.1 c18
            refine lv_tableIn (tgt := 158) hx hb dX12_steersBy_48 (by rw [c18]; decide) (by rw [c18]; decide) (by rw [c18]; rfl) (by decide) ?_
            refine lv_iload hx hb dX12_steersBy_158 (lv_at hl 5 rfl) ?_
            have hq := h
            clear h
            refine xcSI (As := [.int v5]) (rest := []) E hw hA (c_X12_amount l D ad cs sk z v5 _ hq) kc_12_171 yo_X12_amount ⟨Nat.le_of_ble_eq_true rfl, Nat.le_of_ble_eq_true rfl⟩ rfl hl.1 rfl (Nat.le_of_ble_eq_true rfl) dX12_steersBy_160 ⟨Nat.le_of_ble_eq_true rfl, Nat.le_of_ble_eq_true rfl⟩ (fun r22 z21 H locs h hw => ?_)
            refine lv_iload hx hb dX12_steersBy_163 (lv_at hl 6 rfl) ?_
            have hq := h
            clear h
            refine xcSI (As := [.int v6]) (rest := [.int r22]) E hw hA (c_X12_amount l D ad cs sk z21 v6 _ hq) kc_12_171 yo_X12_amount ⟨Nat.le_of_ble_eq_true rfl, Nat.le_of_ble_eq_true rfl⟩ rfl hl.1 rfl (Nat.le_of_ble_eq_true rfl) dX12_steersBy_165 ⟨Nat.le_of_ble_eq_true rfl, Nat.le_of_ble_eq_true rfl⟩ (fun r24 z23 H locs h hw => ?_)
            refine lv_icmp_lt (tgt := 200) hx hb dX12_steersBy_168 (by decide) (fun c25 => ?_) (fun c25 => ?_)
            · replace h := h.1 c25
              refine lv_aload_n hx hb dX12_steersBy_200 rfl (lv_at hl 1 rfl) ?_
              refine lv_iload hx hb dX12_steersBy_201 (lv_at hl 6 rfl) ?_
              refine lv_if_le (tgt := 211) hx hb dX12_steersBy_203 (by decide) (fun c26 => ?_) (fun c26 => ?_)
              · replace h := h.1 c26
                refine lv_iload hx hb dX12_steersBy_211 (lv_at hl 7 rfl) ?_
                refine lv_ineg hx hb dX12_steersBy_213 ?_
                exact b214 z23 (-v7) H locs hw ls (lv_sub hl [] rfl) h
              · replace h := h.2 c26
                refine lv_iload hx hb dX12_steersBy_206 (lv_at hl 7 rfl) ?_
                refine lv_goto (tgt := 214) hx hb dX12_steersBy_208 (by decide) ?_
                exact b214 z23 v7 H locs hw ls (lv_sub hl [] rfl) h
            · replace h := h.2 c25
              refine lv_aload_n hx hb dX12_steersBy_171 rfl (lv_at hl 1 rfl) ?_
              refine lv_iload hx hb dX12_steersBy_172 (lv_at hl 5 rfl) ?_
              refine lv_if_le (tgt := 182) hx hb dX12_steersBy_174 (by decide) (fun c28 => ?_) (fun c28 => ?_)
              · replace h := h.1 c28
                refine lv_iload hx hb dX12_steersBy_182 (lv_at hl 5 rfl) ?_
                refine lv_if_ge (tgt := 193) hx hb dX12_steersBy_184 (by decide) (fun c29 => ?_) (fun c29 => ?_)
                · replace h := h.1 c29
                  refine lv_iconst (v := 0) hx hb dX12_steersBy_193 (by decide) ?_
                  exact b194 z23 (0 : Int32) H locs hw ls (lv_sub hl [] rfl) h
                · replace h := h.2 c29
                  refine lv_iload hx hb dX12_steersBy_187 (lv_at hl 7 rfl) ?_
                  refine lv_ineg hx hb dX12_steersBy_189 ?_
                  refine lv_goto (tgt := 194) hx hb dX12_steersBy_190 (by decide) ?_
                  exact b194 z23 (-v7) H locs hw ls (lv_sub hl [] rfl) h
              · replace h := h.2 c28
                refine lv_iload hx hb dX12_steersBy_177 (lv_at hl 7 rfl) ?_
                refine lv_goto (tgt := 194) hx hb dX12_steersBy_179 (by decide) ?_
                exact b194 z23 v7 H locs hw ls (lv_sub hl [] rfl) h
          · replace h := h.2 c18
            by_cases c19 : v1 = (7 : Int32)
            · replace h := h.1 c19
              refine lv_tableIn (tgt := 92) hx hb dX12_steersBy_48 (by rw [c19]; decide) (by rw [c19]; decide) (by rw [c19]; rfl) (by decide) ?_
              exact hret z H locs 92 ls hw h dX12_steersBy_92
            · replace h := h.2 c19
              have k20 : W p l e (rmq 2 0 0) s m args below meth c H locs 0 0 Q (F0 m 218 ls []) := by
                refine lv_aload_n hx hb dX12_steersBy_218 rfl (lv_at hl 1 rfl) ?_
                refine lv_iload_n hx hb dX12_steersBy_219 rfl (lv_at hl 3 rfl) ?_
                have hq := h
                clear h
                refine xcSI (As := [.int v3]) (rest := [.ref (ad 14 100)]) E hw hA (c_X12_amount l D ad cs sk z v3 _ hq) kc_12_171 yo_X12_amount ⟨Nat.le_of_ble_eq_true rfl, Nat.le_of_ble_eq_true rfl⟩ rfl hl.1 rfl (Nat.le_of_ble_eq_true rfl) dX12_steersBy_220 ⟨Nat.le_of_ble_eq_true rfl, Nat.le_of_ble_eq_true rfl⟩ (fun r9 z8 H locs h hw => ?_)
                refine lv_iload hx hb dX12_steersBy_223 (lv_at hl 4 rfl) ?_
                have hq := h
                clear h
                refine xcSI (As := [.int v4]) (rest := [.int r9, .ref (ad 14 100)]) E hw hA (c_X12_amount l D ad cs sk z8 v4 _ hq) kc_12_171 yo_X12_amount ⟨Nat.le_of_ble_eq_true rfl, Nat.le_of_ble_eq_true rfl⟩ rfl hl.1 rfl (Nat.le_of_ble_eq_true rfl) dX12_steersBy_225 ⟨Nat.le_of_ble_eq_true rfl, Nat.le_of_ble_eq_true rfl⟩ (fun r11 z10 H locs h hw => ?_)
                refine lv_icmp_lt (tgt := 235) hx hb dX12_steersBy_228 (by decide) (fun c12 => ?_) (fun c12 => ?_)
                · replace h := h.1 c12
                  refine lv_iconst (v := 0) hx hb dX12_steersBy_235 (by decide) ?_
                  exact b236 z10 v3 v4 v7 (0 : Int32) H locs hw ls (lv_sub hl [3, 4, 7] rfl) h
                · replace h := h.2 c12
                  refine lv_iconst (v := 1) hx hb dX12_steersBy_231 (by decide) ?_
                  refine lv_goto (tgt := 236) hx hb dX12_steersBy_232 (by decide) ?_
                  exact b236 z10 v3 v4 v7 (1 : Int32) H locs hw ls (lv_sub hl [3, 4, 7] rfl) h
              by_cases gk20 : (v1).toInt < 1 ∨ 7 < (v1).toInt
              · exact lv_tableOut (tgt := 218) hx hb dX12_steersBy_48 gk20 (by decide) k20
              · have g2 : (v1).toInt = 2 ∨ (v1).toInt = 3 := by have n0 := lv_neT c15 (by decide : ((1 : Int32) : Int32).toInt = 1); have n1 := lv_neT c16 (by decide : ((4 : Int32) : Int32).toInt = 4); have n2 := lv_neT c17 (by decide : ((5 : Int32) : Int32).toInt = 5); have n3 := lv_neT c18 (by decide : ((6 : Int32) : Int32).toInt = 6); have n4 := lv_neT c19 (by decide : ((7 : Int32) : Int32).toInt = 7); omega
                rcases g2 with g2 | g2
                · exact lv_tableIn (tgt := 218) hx hb dX12_steersBy_48 (by rw [g2]; decide) (by rw [g2]; decide) (by rw [g2]; rfl) (by decide) k20
                · exact lv_tableIn (tgt := 218) hx hb dX12_steersBy_48 (by rw [g2]; decide) (by rw [g2]; decide) (by rw [g2]; rfl) (by decide) k20
  have b40 : ∀ (z : ZS) (v1 : Int32) (v3 : Int32) (v4 : Int32) (v5 : Int32) (v6 : Int32) (v7 : Int32), ∀ (H : Heap) (locs : List Loc), OW D ad cs A s.heap z H locs → ∀ ls : Array Slot, lv_has ls 9 [(0, .ref (ad 14 100)), (1, .int v1), (3, .int v3), (4, .int v4), (5, .int v5), (6, .int v6), (7, .int v7)] → V_X12_steersBy_40 post z v1 v3 v4 v5 v6 v7 → W p l e (rmq 2 0 0) s m args below meth c H locs 0 0 Q (F0 m 40 ls []) := by
    intro z v1 v3 v4 v5 v6 v7 H locs hw ls hl h
    unfold V_X12_steersBy_40 at h
    refine lv_iconst (v := 1) hx hb dX12_steersBy_40 (by decide) ?_
    refine lv_goto (tgt := 45) hx hb dX12_steersBy_41 (by decide) ?_
    exact b45 z v1 v3 v4 v5 v6 v7 (1 : Int32) H locs hw ls (lv_sub hl [0, 1, 2, 3, 4, 5, 6] rfl) h
  have b00 : ∀ (H : Heap) (locs : List Loc), OW D ad cs A s.heap z H locs → W p l e (rmq 2 0 0) s m args below meth c H locs 0 0 Q (F0 m 0 ls []) := by
    intro H locs hw
    refine lv_aload_n hx hb dX12_steersBy_0 rfl (lv_at hl 0 rfl) ?_
    refine lv_iconst (v := 0) hx hb dX12_steersBy_1 (by decide) ?_
    refine xpI E hw (c1 := 12) rfl ky_14_100 fp_12_16 rfl rfl qf_12_174 dX12_steersBy_2 (fun z1 ez1 H locs hw => ?_)
    replace h := h z1 ez1
    refine lv_aload_n hx hb dX12_steersBy_5 rfl (lv_at hl 0 rfl) ?_
    refine lv_iconst (v := 0) hx hb dX12_steersBy_6 (by decide) ?_
    refine xpI E hw (c1 := 12) rfl ky_14_100 fp_12_17 rfl rfl qf_12_177 dX12_steersBy_7 (fun z2 ez2 H locs hw => ?_)
    replace h := h z2 ez2
    refine lv_iload_n hx hb dX12_steersBy_10 rfl (lv_at hl 1 rfl) ?_
    refine lv_iload_n hx hb dX12_steersBy_11 rfl (lv_at hl 2 rfl) ?_
    have hq := h
    clear h
    refine xcSI (As := [.int p1, .int p2]) (rest := []) E hw hA (c_X12_paceBy l D ad cs sk z2 p1 p2 _ hq) kc_12_161 yo_X12_paceBy ⟨Nat.le_of_ble_eq_true rfl, Nat.le_of_ble_eq_true rfl⟩ rfl hl.1 rfl (Nat.le_of_ble_eq_true rfl) dX12_steersBy_12 ⟨Nat.le_of_ble_eq_true rfl, Nat.le_of_ble_eq_true rfl⟩ (fun r4 z3 H locs h hw => ?_)
    refine lv_istore (lv' := [(7, .int r4), (0, .ref (ad 14 100)), (1, .int p1), (2, .int p2), (3, .int p3), (4, .int p4), (5, .int p5), (6, .int p6)]) hx hb dX12_steersBy_15 hl (by decide) rfl (fun ls hl => ?_)
    refine lv_iload_n hx hb dX12_steersBy_17 rfl (lv_at hl 4 rfl) ?_
    have hq := h
    clear h
    refine xcSI (As := [.int p3]) (rest := []) E hw hA (c_X12_amount l D ad cs sk z3 p3 _ hq) kc_12_171 yo_X12_amount ⟨Nat.le_of_ble_eq_true rfl, Nat.le_of_ble_eq_true rfl⟩ rfl hl.1 rfl (Nat.le_of_ble_eq_true rfl) dX12_steersBy_18 ⟨Nat.le_of_ble_eq_true rfl, Nat.le_of_ble_eq_true rfl⟩ (fun r6 z5 H locs h hw => ?_)
    refine lv_bipush (v := 100) hx hb dX12_steersBy_21 (by decide) ?_
    refine lv_iload_n hx hb dX12_steersBy_23 rfl (lv_at hl 3 rfl) ?_
    refine lv_imul hx hb dX12_steersBy_24 ?_
    refine lv_icmp_gt (tgt := 40) hx hb dX12_steersBy_25 (by decide) (fun c7 => ?_) (fun c7 => ?_)
    · replace h := h.1 c7
      exact b40 z5 p1 p3 p4 p5 p6 r4 H locs hw ls (lv_sub hl [1, 2, 4, 5, 6, 7, 0] rfl) h
    · replace h := h.2 c7
      refine lv_iload hx hb dX12_steersBy_28 (lv_at hl 5 rfl) ?_
      have hq := h
      clear h
      refine xcSI (As := [.int p4]) (rest := []) E hw hA (c_X12_amount l D ad cs sk z5 p4 _ hq) kc_12_171 yo_X12_amount ⟨Nat.le_of_ble_eq_true rfl, Nat.le_of_ble_eq_true rfl⟩ rfl hl.1 rfl (Nat.le_of_ble_eq_true rfl) dX12_steersBy_30 ⟨Nat.le_of_ble_eq_true rfl, Nat.le_of_ble_eq_true rfl⟩ (fun r48 z47 H locs h hw => ?_)
      refine lv_bipush (v := 100) hx hb dX12_steersBy_33 (by decide) ?_
      refine lv_iload_n hx hb dX12_steersBy_35 rfl (lv_at hl 3 rfl) ?_
      refine lv_imul hx hb dX12_steersBy_36 ?_
      refine lv_icmp_le (tgt := 44) hx hb dX12_steersBy_37 (by decide) (fun c49 => ?_) (fun c49 => ?_)
      · replace h := h.1 c49
        refine lv_iconst (v := 0) hx hb dX12_steersBy_44 (by decide) ?_
        exact b45 z47 p1 p3 p4 p5 p6 r4 (0 : Int32) H locs hw ls (lv_sub hl [1, 2, 4, 5, 6, 7, 0] rfl) h
      · replace h := h.2 c49
        exact b40 z47 p1 p3 p4 p5 p6 r4 H locs hw ls (lv_sub hl [1, 2, 4, 5, 6, 7, 0] rfl) h
  exact b00 s.heap [] hw
