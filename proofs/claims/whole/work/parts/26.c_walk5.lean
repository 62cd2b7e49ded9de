def V_X9_leastOfSort (z : ZS) (o0 : Nat) (post : Int32 → ZS → Prop) : Prop := ((¬ (zI z o0 2) = 0 → ((¬ (zI z o0 2) = (1 : Int32) → post (-2147483648 : Int32) z) ∧ ((zI z o0 2) = (1 : Int32) → post (-32768 : Int32) z))) ∧ ((zI z o0 2) = 0 → post (-128 : Int32) z))
set_option maxHeartbeats 4000000 in
set_option maxRecDepth 100000 in
theorem c_X9_leastOfSort (l : Launch) (D : va_G) (ad : Nat → Nat → Nat) (cs : Nat → ClassId) (sk : (Nat → Nat) × (Nat → Nat)) (z : ZS) (o0 : Nat) (post : Int32 → ZS → Prop) (ho0 : isS o0) (h : V_X9_leastOfSort z o0 post) : MI l D ad cs sk yX9_leastOfSort cX9_leastOfSort 1 .int (rmq 0 0 0) [.ref (ad o0 100)] z post := by
  refine MI.of RX9 rfl (by decide) (Nat.le_of_ble_eq_true rfl) ?_
  intro p e s m args below meth c A Q E hw hA hret ls hl
  have hx := E.1.1
  have hb := E.1.2.1
  have hml := E.1.2.2.1
  have hown := E.1.2.2.2.1
  have h0 := E.1.2.2.2.2
  have hl : lv_has ls 1 [(0, .ref (ad o0 100))] := hl
  unfold V_X9_leastOfSort at h
  have b00 : ∀ (H : Heap) (locs : List Loc), OW D ad cs A s.heap z H locs → W p l e (rmq 0 0 0) s m args below meth c H locs 0 0 Q (F0 m 0 ls []) := by
    intro H locs hw
    refine lv_aload_n hx hb dX9_leastOfSort_0 rfl (lv_at hl 0 rfl) ?_
    refine xgI E hw (c1 := 9) (ciisS ho0) (kyisS_100 ho0) fo_9_2 qf_9_19 dX9_leastOfSort_1 ?_
    refine lv_if_ne (tgt := 12) hx hb dX9_leastOfSort_4 (by decide) (fun c1 => ?_) (fun c1 => ?_)
    · replace h := h.1 c1
      refine lv_aload_n hx hb dX9_leastOfSort_12 rfl (lv_at hl 0 rfl) ?_
      refine xgI E hw (c1 := 9) (ciisS ho0) (kyisS_100 ho0) fo_9_2 qf_9_19 dX9_leastOfSort_13 ?_
      refine lv_iconst (v := 1) hx hb dX9_leastOfSort_16 (by decide) ?_
      refine lv_icmp_ne (tgt := 26) hx hb dX9_leastOfSort_17 (by decide) (fun c2 => ?_) (fun c2 => ?_)
      · replace h := h.1 c2
        refine lv_ldc (v := -2147483648) hx hb hown (h0 _ qk_9_48) dX9_leastOfSort_26 ?_
        exact hret (-2147483648 : Int32) z H locs 28 ls hw rfl h dX9_leastOfSort_28
      · replace h := h.2 c2
        refine lv_sipush (v := -32768) hx hb dX9_leastOfSort_20 (by decide) ?_
        refine lv_goto (tgt := 28) hx hb dX9_leastOfSort_23 (by decide) ?_
        exact hret (-32768 : Int32) z H locs 28 ls hw rfl h dX9_leastOfSort_28
    · replace h := h.2 c1
      refine lv_bipush (v := -128) hx hb dX9_leastOfSort_7 (by decide) ?_
      refine lv_goto (tgt := 28) hx hb dX9_leastOfSort_9 (by decide) ?_
      exact hret (-128 : Int32) z H locs 28 ls hw rfl h dX9_leastOfSort_28
  exact b00 s.heap [] hw
def V_X11_refusalOfRow (z : ZS) (p0 : Nat) (post : Int32 → ZS → Prop) : Prop := V_X9_isEmpty z p0 (fun r2 z1 => ((r2 = 0 → (((zI z1 p0 1) = 0 → post (-12 : Int32) z1) ∧ (¬ (zI z1 p0 1) = 0 → post (0 : Int32) z1))) ∧ (¬ r2 = 0 → post (-11 : Int32) z1)))
set_option maxHeartbeats 4000000 in
set_option maxRecDepth 100000 in
theorem c_X11_refusalOfRow (l : Launch) (D : va_G) (ad : Nat → Nat → Nat) (cs : Nat → ClassId) (sk : (Nat → Nat) × (Nat → Nat)) (z : ZS) (p0 : Nat) (post : Int32 → ZS → Prop) (hp0 : isS p0) (h : V_X11_refusalOfRow z p0 post) : MI l D ad cs sk yX11_refusalOfRow cX11_refusalOfRow 1 .int (rmq 1 0 0) [.ref (ad p0 100)] z post := by
  refine MI.of RX11 rfl (by decide) (Nat.le_of_ble_eq_true rfl) ?_
  intro p e s m args below meth c A Q E hw hA hret ls hl
  have hx := E.1.1
  have hb := E.1.2.1
  have hml := E.1.2.2.1
  have hown := E.1.2.2.2.1
  have h0 := E.1.2.2.2.2
  have hl : lv_has ls 1 [(0, .ref (ad p0 100))] := hl
  unfold V_X11_refusalOfRow at h
  have b00 : ∀ (H : Heap) (locs : List Loc), OW D ad cs A s.heap z H locs → W p l e (rmq 1 0 0) s m args below meth c H locs 0 0 Q (F0 m 0 ls []) := by
    intro H locs hw
    refine lv_aload_n hx hb dX11_refusalOfRow_0 rfl (lv_at hl 0 rfl) ?_
    have hq := h
    clear h
    refine xcVI (As := []) (rest := []) E hw hA (c_X9_isEmpty l D ad cs sk z p0 _ hp0 hq) kc_11_306 yo_X9_isEmpty ⟨Nat.le_of_ble_eq_true rfl, Nat.le_of_ble_eq_true rfl⟩ (xrc E hw (kyisS_100 hp0) (ciisS hp0)) rfl hl.1 rfl (Nat.le_of_ble_eq_true rfl) dX11_refusalOfRow_1 ⟨Nat.le_of_ble_eq_true rfl, Nat.le_of_ble_eq_true rfl⟩ (fun r2 z1 H locs h hw => ?_)
    refine lv_if_eq (tgt := 10) hx hb dX11_refusalOfRow_4 (by decide) (fun c3 => ?_) (fun c3 => ?_)
    · replace h := h.1 c3
      refine lv_aload_n hx hb dX11_refusalOfRow_10 rfl (lv_at hl 0 rfl) ?_
      refine xgI E hw (c1 := 9) (ciisS hp0) (kyisS_100 hp0) fo_9_1 qf_11_296 dX11_refusalOfRow_11 ?_
      refine lv_if_eq (tgt := 21) hx hb dX11_refusalOfRow_14 (by decide) (fun c4 => ?_) (fun c4 => ?_)
      · replace h := h.1 c4
        refine lv_bipush (v := -12) hx hb dX11_refusalOfRow_21 (by decide) ?_
        exact hret (-12 : Int32) z1 H locs 23 ls hw rfl h dX11_refusalOfRow_23
      · replace h := h.2 c4
        refine lv_iconst (v := 0) hx hb dX11_refusalOfRow_17 (by decide) ?_
        refine lv_goto (tgt := 23) hx hb dX11_refusalOfRow_18 (by decide) ?_
        exact hret (0 : Int32) z1 H locs 23 ls hw rfl h dX11_refusalOfRow_23
    · replace h := h.2 c3
      refine lv_bipush (v := -11) hx hb dX11_refusalOfRow_7 (by decide) ?_
      exact hret (-11 : Int32) z1 H locs 9 ls hw rfl h dX11_refusalOfRow_9
  exact b00 s.heap [] hw
def V_X11_refusalOfBytes (z : ZS) (p0 : Nat) (post : Int32 → ZS → Prop) : Prop := V_X11_refusalOfRow z p0 (fun r2 z1 => ((¬ r2 = 0 → post r2 z1) ∧ (r2 = 0 → (((zI z1 p0 2) = 0 → post r2 z1) ∧ (¬ (zI z1 p0 2) = 0 → post (-12 : Int32) z1)))))
set_option maxHeartbeats 4000000 in
set_option maxRecDepth 100000 in
theorem c_X11_refusalOfBytes (l : Launch) (D : va_G) (ad : Nat → Nat → Nat) (cs : Nat → ClassId) (sk : (Nat → Nat) × (Nat → Nat)) (z : ZS) (p0 : Nat) (post : Int32 → ZS → Prop) (hp0 : isS p0) (h : V_X11_refusalOfBytes z p0 post) : MI l D ad cs sk yX11_refusalOfBytes cX11_refusalOfBytes 2 .int (rmq 2 0 0) [.ref (ad p0 100)] z post := by
  refine MI.of RX11 rfl (by decide) (Nat.le_of_ble_eq_true rfl) ?_
  intro p e s m args below meth c A Q E hw hA hret ls hl
  have hx := E.1.1
  have hb := E.1.2.1
  have hml := E.1.2.2.1
  have hown := E.1.2.2.2.1
  have h0 := E.1.2.2.2.2
  have hl : lv_has ls 2 [(0, .ref (ad p0 100))] := hl
  unfold V_X11_refusalOfBytes at h
  have b00 : ∀ (H : Heap) (locs : List Loc), OW D ad cs A s.heap z H locs → W p l e (rmq 2 0 0) s m args below meth c H locs 0 0 Q (F0 m 0 ls []) := by
    intro H locs hw
    refine lv_aload_n hx hb dX11_refusalOfBytes_0 rfl (lv_at hl 0 rfl) ?_
    have hq := h
    clear h
    refine xcSI (As := [.ref (ad p0 100)]) (rest := []) E hw hA (c_X11_refusalOfRow l D ad cs sk z p0 _ hp0 hq) kc_11_255 yo_X11_refusalOfRow ⟨Nat.le_of_ble_eq_true rfl, Nat.le_of_ble_eq_true rfl⟩ rfl hl.1 rfl (Nat.le_of_ble_eq_true rfl) dX11_refusalOfBytes_1 ⟨Nat.le_of_ble_eq_true rfl, Nat.le_of_ble_eq_true rfl⟩ (fun r2 z1 H locs h hw => ?_)
    refine lv_istore_n (lv' := [(1, .int r2), (0, .ref (ad p0 100))]) hx hb dX11_refusalOfBytes_4 rfl hl (by decide) rfl (fun ls hl => ?_)
    refine lv_iload_n hx hb dX11_refusalOfBytes_5 rfl (lv_at hl 0 rfl) ?_
    refine lv_if_ne (tgt := 19) hx hb dX11_refusalOfBytes_6 (by decide) (fun c3 => ?_) (fun c3 => ?_)
    · replace h := h.1 c3
      refine lv_iload_n hx hb dX11_refusalOfBytes_19 rfl (lv_at hl 0 rfl) ?_
      exact hret r2 z1 H locs 20 ls hw rfl h dX11_refusalOfBytes_20
    · replace h := h.2 c3
      refine lv_aload_n hx hb dX11_refusalOfBytes_9 rfl (lv_at hl 1 rfl) ?_
      refine xgI E hw (c1 := 9) (ciisS hp0) (kyisS_100 hp0) fo_9_2 qf_11_309 dX11_refusalOfBytes_10 ?_
      refine lv_if_eq (tgt := 19) hx hb dX11_refusalOfBytes_13 (by decide) (fun c4 => ?_) (fun c4 => ?_)
      · replace h := h.1 c4
        refine lv_iload_n hx hb dX11_refusalOfBytes_19 rfl (lv_at hl 0 rfl) ?_
        exact hret r2 z1 H locs 20 ls hw rfl h dX11_refusalOfBytes_20
      · replace h := h.2 c4
        refine lv_bipush (v := -12) hx hb dX11_refusalOfBytes_16 (by decide) ?_
        exact hret (-12 : Int32) z1 H locs 18 ls hw rfl h dX11_refusalOfBytes_18
  exact b00 s.heap [] hw
def V_X11_shelfAt_20 (post : Option Nat → ZS → Prop) (z : ZS) (s0 : Option Nat) : Prop := post s0 z
def V_X11_shelfAt (z : ZS) (p1 : Int32) (post : Option Nat → ZS → Prop) : Prop := V_X11_isFrom z (0 : Int32) p1 (7 : Int32) (fun r2 z1 => ((r2 = 0 → V_X11_shelfAt_20 post z1 none) ∧ (¬ r2 = 0 → (vp_in p1 8 ∧ V_X11_shelfAt_20 post z1 (some (6 + Int32.toNatClampNeg p1))))))
set_option maxHeartbeats 4000000 in
set_option maxRecDepth 100000 in
theorem c_X11_shelfAt (l : Launch) (D : va_G) (ad : Nat → Nat → Nat) (cs : Nat → ClassId) (sk : (Nat → Nat) × (Nat → Nat)) (z : ZS) (p1 : Int32) (post : Option Nat → ZS → Prop) (h : V_X11_shelfAt z p1 post) : MA l D ad cs sk yX11_shelfAt cX11_shelfAt 2 "TenYards$Shelf" (rmq 1 0 0) [.ref (ad 0 100), .int p1] z (fun r z1 => ∃ ro : Option Nat, r = Option.map (fun o => ad o 100) ro ∧ post ro z1) := by
  refine MA.of RX11 rfl (by decide) (Nat.le_of_ble_eq_true rfl) ?_
  intro p e s m args below meth c A Q E hw hA hret ls hl
  have hx := E.1.1
  have hb := E.1.2.1
  have hml := E.1.2.2.1
  have hown := E.1.2.2.2.1
  have h0 := E.1.2.2.2.2
  have hl : lv_has ls 2 [(0, .ref (ad 0 100)), (1, .int p1)] := hl
  unfold V_X11_shelfAt at h
  have b20 : ∀ (z : ZS) (s0 : Option Nat), ∀ (H : Heap) (locs : List Loc), OW D ad cs A s.heap z H locs → ∀ ls : Array Slot, lv_has ls 2 [] → V_X11_shelfAt_20 post z s0 → W p l e (rmq 1 0 0) s m args below meth c H locs 0 0 Q (F0 m 20 ls [va_rf (Option.map (fun o => ad o 100) s0)]) := by
    intro z s0 H locs hw ls hl h
    unfold V_X11_shelfAt_20 at h
    exact hret _ z H locs 20 ls hw ⟨s0, rfl, h⟩ dX11_shelfAt_20
  have b00 : ∀ (H : Heap) (locs : List Loc), OW D ad cs A s.heap z H locs → W p l e (rmq 1 0 0) s m args below meth c H locs 0 0 Q (F0 m 0 ls []) := by
    intro H locs hw
    refine lv_iconst (v := 0) hx hb dX11_shelfAt_0 (by decide) ?_
    refine lv_iload_n hx hb dX11_shelfAt_1 rfl (lv_at hl 1 rfl) ?_
    refine lv_bipush (v := 7) hx hb dX11_shelfAt_2 (by decide) ?_
    have hq := h
    clear h
    refine xcSI (As := [.int (0 : Int32), .int p1, .int (7 : Int32)]) (rest := []) E hw hA (c_X11_isFrom l D ad cs sk z (0 : Int32) p1 (7 : Int32) _ hq) kc_11_83 yo_X11_isFrom ⟨Nat.le_of_ble_eq_true rfl, Nat.le_of_ble_eq_true rfl⟩ rfl hl.1 rfl (Nat.le_of_ble_eq_true rfl) dX11_shelfAt_4 ⟨Nat.le_of_ble_eq_true rfl, Nat.le_of_ble_eq_true rfl⟩ (fun r2 z1 H locs h hw => ?_)
    refine lv_if_eq (tgt := 19) hx hb dX11_shelfAt_7 (by decide) (fun c3 => ?_) (fun c3 => ?_)
    · replace h := h.1 c3
      refine lv_null hx hb dX11_shelfAt_19 ?_
      exact b20 z1 none H locs hw ls (lv_sub hl [] rfl) h
    · replace h := h.2 c3
      refine lv_aload_n hx hb dX11_shelfAt_10 rfl (lv_at hl 0 rfl) ?_
      refine xgC E hw (c1 := 11) (t := (0, 6)) rfl ky_0_100 fo_11_6 rfl qf_11_40 dX11_shelfAt_11 ?_
      refine lv_iload_n hx hb dX11_shelfAt_14 rfl (lv_at hl 1 rfl) ?_
      obtain ⟨hi, h⟩ := h
      refine xsh E hw hi dX11_shelfAt_15 ?_
      refine lv_goto (tgt := 20) hx hb dX11_shelfAt_16 (by decide) ?_
      exact b20 z1 (some (6 + Int32.toNatClampNeg p1)) H locs hw ls (lv_sub hl [] rfl) h
  exact b00 s.heap [] hw
def V_X11_wind (z : ZS) (p1 : Int32) (p2 : Int32) (post : Int32 → ZS → Prop) : Prop := V_X11_isLayer z p1 (fun r2 z1 => ((¬ r2 = 0 → ((p2 = 0 → (vp_in p1 10 ∧ post (zR z1 1 0 (Int32.toNatClampNeg p1)) z1)) ∧ (¬ p2 = 0 → (vp_in p1 10 ∧ post (zR z1 1 1 (Int32.toNatClampNeg p1)) z1)))) ∧ (r2 = 0 → post (-1000000001 : Int32) z1)))
set_option maxHeartbeats 4000000 in
set_option maxRecDepth 100000 in
theorem c_X11_wind (l : Launch) (D : va_G) (ad : Nat → Nat → Nat) (cs : Nat → ClassId) (sk : (Nat → Nat) × (Nat → Nat)) (z : ZS) (p1 : Int32) (p2 : Int32) (post : Int32 → ZS → Prop) (h : V_X11_wind z p1 p2 post) : MI l D ad cs sk yX11_wind cX11_wind 3 .int (rmq 2 0 0) [.ref (ad 0 100), .int p1, .int p2] z post := by
  refine MI.of RX11 rfl (by decide) (Nat.le_of_ble_eq_true rfl) ?_
  intro p e s m args below meth c A Q E hw hA hret ls hl
  have hx := E.1.1
  have hb := E.1.2.1
  have hml := E.1.2.2.1
  have hown := E.1.2.2.2.1
  have h0 := E.1.2.2.2.2
  have hl : lv_has ls 3 [(0, .ref (ad 0 100)), (1, .int p1), (2, .int p2)] := hl
  unfold V_X11_wind at h
  have b00 : ∀ (H : Heap) (locs : List Loc), OW D ad cs A s.heap z H locs → W p l e (rmq 2 0 0) s m args below meth c H locs 0 0 Q (F0 m 0 ls []) := by
    intro H locs hw
    refine lv_iload_n hx hb dX11_wind_0 rfl (lv_at hl 1 rfl) ?_
    have hq := h
    clear h
    refine xcSI (As := [.int p1]) (rest := []) E hw hA (c_X11_isLayer l D ad cs sk z p1 _ hq) kc_11_72 yo_X11_isLayer ⟨Nat.le_of_ble_eq_true rfl, Nat.le_of_ble_eq_true rfl⟩ rfl hl.1 rfl (Nat.le_of_ble_eq_true rfl) dX11_wind_1 ⟨Nat.le_of_ble_eq_true rfl, Nat.le_of_ble_eq_true rfl⟩ (fun r2 z1 H locs h hw => ?_)
    refine lv_if_ne (tgt := 10) hx hb dX11_wind_4 (by decide) (fun c3 => ?_) (fun c3 => ?_)
    · replace h := h.1 c3
      refine lv_iload_n hx hb dX11_wind_10 rfl (lv_at hl 2 rfl) ?_
      refine lv_if_eq (tgt := 26) hx hb dX11_wind_11 (by decide) (fun c4 => ?_) (fun c4 => ?_)
      · replace h := h.1 c4
        refine lv_aload_n hx hb dX11_wind_26 rfl (lv_at hl 0 rfl) ?_
        refine xgC E hw (c1 := 11) (t := (1, 100)) rfl ky_0_100 fo_11_0 rfl qf_11_10 dX11_wind_27 ?_
        refine xgC E hw (c1 := 0) (t := (1, 0)) rfl ky_1_100 fo_0_0 rfl qf_11_80 dX11_wind_30 ?_
        refine lv_iload_n hx hb dX11_wind_33 rfl (lv_at hl 1 rfl) ?_
        obtain ⟨hi, h⟩ := h
        refine xal E hw ky_1_0 ka_1_0 hi dX11_wind_34 ?_
        exact hret (zR z1 1 0 (Int32.toNatClampNeg p1)) z1 H locs 35 ls hw rfl h dX11_wind_35
      · replace h := h.2 c4
        refine lv_aload_n hx hb dX11_wind_14 rfl (lv_at hl 0 rfl) ?_
        refine xgC E hw (c1 := 11) (t := (1, 100)) rfl ky_0_100 fo_11_0 rfl qf_11_10 dX11_wind_15 ?_
        refine xgC E hw (c1 := 0) (t := (1, 1)) rfl ky_1_100 fo_0_1 rfl qf_11_77 dX11_wind_18 ?_
        refine lv_iload_n hx hb dX11_wind_21 rfl (lv_at hl 1 rfl) ?_
        obtain ⟨hi, h⟩ := h
        refine xal E hw ky_1_1 ka_1_1 hi dX11_wind_22 ?_
        refine lv_goto (tgt := 35) hx hb dX11_wind_23 (by decide) ?_
        exact hret (zR z1 1 1 (Int32.toNatClampNeg p1)) z1 H locs 35 ls hw rfl h dX11_wind_35
    · replace h := h.2 c3
      refine lv_ldc (v := -1000000001) hx hb hown (h0 _ qk_11_76) dX11_wind_7 ?_
      exact hret (-1000000001 : Int32) z1 H locs 9 ls hw rfl h dX11_wind_9
  exact b00 s.heap [] hw
def V_X11_set_70 (post : Int32 → ZS → Prop) (z : ZS) (v1 : Int32) (v2 : Int32) (v3 : Int32) : Prop := ((¬ v1 = (2 : Int32) → post v3 z) ∧ (v1 = (2 : Int32) → V_X11_isFrom z (300 : Int32) v2 (3000 : Int32) (fun r5 z4 => ((r5 = 0 → post v3 z4) ∧ (¬ r5 = 0 → (∀ t7 : Int32, t7 = (zI z4 1 4) → (∀ z8 : ZS, z8 = wI z4 1 4 v2 → post t7 z8)))))))
def V_X11_set_35 (post : Int32 → ZS → Prop) (z : ZS) (v1 : Int32) (v2 : Int32) (v3 : Int32) : Prop := ((¬ v1 = (1 : Int32) → V_X11_set_70 post z v1 v2 v3) ∧ (v1 = (1 : Int32) → V_X11_isFrom z (0 : Int32) v2 (900 : Int32) (fun r10 z9 => ((r10 = 0 → V_X11_set_70 post z9 v1 v2 v3) ∧ (¬ r10 = 0 → (∀ t12 : Int32, t12 = (zI z9 1 3) → (∀ z13 : ZS, z13 = wI z9 1 3 v2 → post t12 z13)))))))
def V_X11_set (z : ZS) (p1 : Int32) (p2 : Int32) (post : Int32 → ZS → Prop) : Prop := ((¬ p1 = 0 → V_X11_set_35 post z p1 p2 (-1 : Int32)) ∧ (p1 = 0 → V_X11_isFrom z (0 : Int32) p2 (30 : Int32) (fun r15 z14 => ((r15 = 0 → V_X11_set_35 post z14 p1 p2 (-1 : Int32)) ∧ (¬ r15 = 0 → (∀ t17 : Int32, t17 = (zI z14 1 2) → (∀ z18 : ZS, z18 = wI z14 1 2 p2 → post t17 z18)))))))
set_option maxHeartbeats 4000000 in
set_option maxRecDepth 100000 in
theorem c_X11_set (l : Launch) (D : va_G) (ad : Nat → Nat → Nat) (cs : Nat → ClassId) (sk : (Nat → Nat) × (Nat → Nat)) (z : ZS) (p1 : Int32) (p2 : Int32) (post : Int32 → ZS → Prop) (h : V_X11_set z p1 p2 post) : MI l D ad cs sk yX11_set cX11_set 4 .int (rmq 1 0 0) [.ref (ad 0 100), .int p1, .int p2] z post := by
  refine MI.of RX11 rfl (by decide) (Nat.le_of_ble_eq_true rfl) ?_
  intro p e s m args below meth c A Q E hw hA hret ls hl
  have hx := E.1.1
  have hb := E.1.2.1
  have hml := E.1.2.2.1
  have hown := E.1.2.2.2.1
  have h0 := E.1.2.2.2.2
  have hl : lv_has ls 4 [(0, .ref (ad 0 100)), (1, .int p1), (2, .int p2)] := hl
  unfold V_X11_set at h
  have b70 : ∀ (z : ZS) (v1 : Int32) (v2 : Int32) (v3 : Int32), ∀ (H : Heap) (locs : List Loc), OW D ad cs A s.heap z H locs → ∀ ls : Array Slot, lv_has ls 4 [(0, .ref (ad 0 100)), (1, .int v1), (2, .int v2), (3, .int v3)] → V_X11_set_70 post z v1 v2 v3 → W p l e (rmq 1 0 0) s m args below meth c H locs 0 0 Q (F0 m 70 ls []) := by
    intro z v1 v2 v3 H locs hw ls hl h
    unfold V_X11_set_70 at h
    refine lv_iload_n hx hb dX11_set_70 rfl (lv_at hl 1 rfl) ?_
    refine lv_iconst (v := 2) hx hb dX11_set_71 (by decide) ?_
    refine lv_icmp_ne (tgt := 104) hx hb dX11_set_72 (by decide) (fun c3 => ?_) (fun c3 => ?_)
    · replace h := h.1 c3
      refine lv_iload_n hx hb dX11_set_104 rfl (lv_at hl 3 rfl) ?_
      exact hret v3 z H locs 105 ls hw rfl h dX11_set_105
    · replace h := h.2 c3
      refine lv_sipush (v := 300) hx hb dX11_set_75 (by decide) ?_
      refine lv_iload_n hx hb dX11_set_78 rfl (lv_at hl 2 rfl) ?_
      refine lv_sipush (v := 3000) hx hb dX11_set_79 (by decide) ?_
      have hq := h
      clear h
      refine xcSI (As := [.int (300 : Int32), .int v2, .int (3000 : Int32)]) (rest := []) E hw hA (c_X11_isFrom l D ad cs sk z (300 : Int32) v2 (3000 : Int32) _ hq) kc_11_83 yo_X11_isFrom ⟨Nat.le_of_ble_eq_true rfl, Nat.le_of_ble_eq_true rfl⟩ rfl hl.1 rfl (Nat.le_of_ble_eq_true rfl) dX11_set_82 ⟨Nat.le_of_ble_eq_true rfl, Nat.le_of_ble_eq_true rfl⟩ (fun r5 z4 H locs h hw => ?_)
      refine lv_if_eq (tgt := 104) hx hb dX11_set_85 (by decide) (fun c6 => ?_) (fun c6 => ?_)
      · replace h := h.1 c6
        refine lv_iload_n hx hb dX11_set_104 rfl (lv_at hl 3 rfl) ?_
        exact hret v3 z4 H locs 105 ls hw rfl h dX11_set_105
      · replace h := h.2 c6
        refine lv_aload_n hx hb dX11_set_88 rfl (lv_at hl 0 rfl) ?_
        refine xgC E hw (c1 := 11) (t := (1, 100)) rfl ky_0_100 fo_11_0 rfl qf_11_10 dX11_set_89 ?_
        refine xgI E hw (c1 := 0) rfl ky_1_100 fo_0_4 qf_11_94 dX11_set_92 ?_
        refine lv_topi (fun t7 et7 => ?_)
        replace h := h t7 et7
        refine lv_istore_n (lv' := [(3, .int t7), (0, .ref (ad 0 100)), (1, .int v1), (2, .int v2)]) hx hb dX11_set_95 rfl hl (by decide) rfl (fun ls hl => ?_)
        refine lv_aload_n hx hb dX11_set_96 rfl (lv_at hl 1 rfl) ?_
        refine xgC E hw (c1 := 11) (t := (1, 100)) rfl ky_0_100 fo_11_0 rfl qf_11_10 dX11_set_97 ?_
        refine lv_iload_n hx hb dX11_set_100 rfl (lv_at hl 3 rfl) ?_
        refine xpI E hw (c1 := 0) rfl ky_1_100 fp_0_4 rfl rfl qf_11_94 dX11_set_101 (fun z8 ez8 H locs hw => ?_)
        replace h := h z8 ez8
        refine lv_iload_n hx hb dX11_set_104 rfl (lv_at hl 0 rfl) ?_
        exact hret t7 z8 H locs 105 ls hw rfl h dX11_set_105
  have b35 : ∀ (z : ZS) (v1 : Int32) (v2 : Int32) (v3 : Int32), ∀ (H : Heap) (locs : List Loc), OW D ad cs A s.heap z H locs → ∀ ls : Array Slot, lv_has ls 4 [(0, .ref (ad 0 100)), (1, .int v1), (2, .int v2), (3, .int v3)] → V_X11_set_35 post z v1 v2 v3 → W p l e (rmq 1 0 0) s m args below meth c H locs 0 0 Q (F0 m 35 ls []) := by
    intro z v1 v2 v3 H locs hw ls hl h
    unfold V_X11_set_35 at h
    refine lv_iload_n hx hb dX11_set_35 rfl (lv_at hl 1 rfl) ?_
    refine lv_iconst (v := 1) hx hb dX11_set_36 (by decide) ?_
    refine lv_icmp_ne (tgt := 70) hx hb dX11_set_37 (by decide) (fun c2 => ?_) (fun c2 => ?_)
    · replace h := h.1 c2
      exact b70 z v1 v2 v3 H locs hw ls (lv_sub hl [0, 1, 2, 3] rfl) h
    · replace h := h.2 c2
      refine lv_iconst (v := 0) hx hb dX11_set_40 (by decide) ?_
      refine lv_iload_n hx hb dX11_set_41 rfl (lv_at hl 2 rfl) ?_
      refine lv_sipush (v := 900) hx hb dX11_set_42 (by decide) ?_
      have hq := h
      clear h
      refine xcSI (As := [.int (0 : Int32), .int v2, .int (900 : Int32)]) (rest := []) E hw hA (c_X11_isFrom l D ad cs sk z (0 : Int32) v2 (900 : Int32) _ hq) kc_11_83 yo_X11_isFrom ⟨Nat.le_of_ble_eq_true rfl, Nat.le_of_ble_eq_true rfl⟩ rfl hl.1 rfl (Nat.le_of_ble_eq_true rfl) dX11_set_45 ⟨Nat.le_of_ble_eq_true rfl, Nat.le_of_ble_eq_true rfl⟩ (fun r10 z9 H locs h hw => ?_)
      refine lv_if_eq (tgt := 70) hx hb dX11_set_48 (by decide) (fun c11 => ?_) (fun c11 => ?_)
      · replace h := h.1 c11
        exact b70 z9 v1 v2 v3 H locs hw ls (lv_sub hl [0, 1, 2, 3] rfl) h
      · replace h := h.2 c11
        refine lv_aload_n hx hb dX11_set_51 rfl (lv_at hl 0 rfl) ?_
        refine xgC E hw (c1 := 11) (t := (1, 100)) rfl ky_0_100 fo_11_0 rfl qf_11_10 dX11_set_52 ?_
        refine xgI E hw (c1 := 0) rfl ky_1_100 fo_0_3 qf_11_91 dX11_set_55 ?_
        refine lv_topi (fun t12 et12 => ?_)
        replace h := h t12 et12
        refine lv_istore_n (lv' := [(3, .int t12), (0, .ref (ad 0 100)), (1, .int v1), (2, .int v2)]) hx hb dX11_set_58 rfl hl (by decide) rfl (fun ls hl => ?_)
        refine lv_aload_n hx hb dX11_set_59 rfl (lv_at hl 1 rfl) ?_
        refine xgC E hw (c1 := 11) (t := (1, 100)) rfl ky_0_100 fo_11_0 rfl qf_11_10 dX11_set_60 ?_
        refine lv_iload_n hx hb dX11_set_63 rfl (lv_at hl 3 rfl) ?_
        refine xpI E hw (c1 := 0) rfl ky_1_100 fp_0_3 rfl rfl qf_11_91 dX11_set_64 (fun z13 ez13 H locs hw => ?_)
        replace h := h z13 ez13
        refine lv_goto (tgt := 104) hx hb dX11_set_67 (by decide) ?_
        refine lv_iload_n hx hb dX11_set_104 rfl (lv_at hl 0 rfl) ?_
        exact hret t12 z13 H locs 105 ls hw rfl h dX11_set_105
  have b00 : ∀ (H : Heap) (locs : List Loc), OW D ad cs A s.heap z H locs → W p l e (rmq 1 0 0) s m args below meth c H locs 0 0 Q (F0 m 0 ls []) := by
    intro H locs hw
    refine lv_iconst (v := -1) hx hb dX11_set_0 (by decide) ?_
    refine lv_istore_n (lv' := [(3, .int (-1 : Int32)), (0, .ref (ad 0 100)), (1, .int p1), (2, .int p2)]) hx hb dX11_set_1 rfl hl (by decide) rfl (fun ls hl => ?_)
    refine lv_iload_n hx hb dX11_set_2 rfl (lv_at hl 2 rfl) ?_
    refine lv_if_ne (tgt := 35) hx hb dX11_set_3 (by decide) (fun c1 => ?_) (fun c1 => ?_)
    · replace h := h.1 c1
      exact b35 z p1 p2 (-1 : Int32) H locs hw ls (lv_sub hl [1, 2, 3, 0] rfl) h
    · replace h := h.2 c1
      refine lv_iconst (v := 0) hx hb dX11_set_6 (by decide) ?_
      refine lv_iload_n hx hb dX11_set_7 rfl (lv_at hl 3 rfl) ?_
      refine lv_bipush (v := 30) hx hb dX11_set_8 (by decide) ?_
      have hq := h
      clear h
      refine xcSI (As := [.int (0 : Int32), .int p2, .int (30 : Int32)]) (rest := []) E hw hA (c_X11_isFrom l D ad cs sk z (0 : Int32) p2 (30 : Int32) _ hq) kc_11_83 yo_X11_isFrom ⟨Nat.le_of_ble_eq_true rfl, Nat.le_of_ble_eq_true rfl⟩ rfl hl.1 rfl (Nat.le_of_ble_eq_true rfl) dX11_set_10 ⟨Nat.le_of_ble_eq_true rfl, Nat.le_of_ble_eq_true rfl⟩ (fun r15 z14 H locs h hw => ?_)
      refine lv_if_eq (tgt := 35) hx hb dX11_set_13 (by decide) (fun c16 => ?_) (fun c16 => ?_)
      · replace h := h.1 c16
        exact b35 z14 p1 p2 (-1 : Int32) H locs hw ls (lv_sub hl [1, 2, 3, 0] rfl) h
      · replace h := h.2 c16
        refine lv_aload_n hx hb dX11_set_16 rfl (lv_at hl 1 rfl) ?_
        refine xgC E hw (c1 := 11) (t := (1, 100)) rfl ky_0_100 fo_11_0 rfl qf_11_10 dX11_set_17 ?_
        refine xgI E hw (c1 := 0) rfl ky_1_100 fo_0_2 qf_11_87 dX11_set_20 ?_
        refine lv_topi (fun t17 et17 => ?_)
        replace h := h t17 et17
        refine lv_istore_n (lv' := [(3, .int t17), (0, .ref (ad 0 100)), (1, .int p1), (2, .int p2)]) hx hb dX11_set_23 rfl hl (by decide) rfl (fun ls hl => ?_)
        refine lv_aload_n hx hb dX11_set_24 rfl (lv_at hl 1 rfl) ?_
        refine xgC E hw (c1 := 11) (t := (1, 100)) rfl ky_0_100 fo_11_0 rfl qf_11_10 dX11_set_25 ?_
        refine lv_iload_n hx hb dX11_set_28 rfl (lv_at hl 3 rfl) ?_
        refine xpI E hw (c1 := 0) rfl ky_1_100 fp_0_2 rfl rfl qf_11_87 dX11_set_29 (fun z18 ez18 H locs hw => ?_)
        replace h := h z18 ez18
        refine lv_goto (tgt := 104) hx hb dX11_set_32 (by decide) ?_
        refine lv_iload_n hx hb dX11_set_104 rfl (lv_at hl 0 rfl) ?_
        exact hret t17 z18 H locs 105 ls hw rfl h dX11_set_105
  exact b00 s.heap [] hw
def V_X11_faller (z : ZS) (p1 : Int32) (p2 : Int32) (post : Int32 → ZS → Prop) : Prop := V_X0_fallerAt z 1 p1 (fun r2 z1 => ((r2 = none → post (-1 : Int32) z1) ∧ (∀ a3 : Nat, r2 = some a3 → ((p2 = (0 : Int32) → (a3 ∈ zP z1 ∧ post (zF z1 a3 3) z1)) ∧ (¬ p2 = (0 : Int32) → ((p2 = (1 : Int32) → (a3 ∈ zP z1 ∧ post (zF z1 a3 1) z1)) ∧ (¬ p2 = (1 : Int32) → ((p2 = (2 : Int32) → (a3 ∈ zP z1 ∧ post (zF z1 a3 2) z1)) ∧ (¬ p2 = (2 : Int32) → ((p2 = (3 : Int32) → (a3 ∈ zP z1 ∧ post (zF z1 a3 4) z1)) ∧ (¬ p2 = (3 : Int32) → ((p2 = (4 : Int32) → (a3 ∈ zP z1 ∧ post (zF z1 a3 5) z1)) ∧ (¬ p2 = (4 : Int32) → ((p2 = (5 : Int32) → (a3 ∈ zP z1 ∧ post (zF z1 a3 6) z1)) ∧ (¬ p2 = (5 : Int32) → post (-1 : Int32) z1)))))))))))))))
set_option maxHeartbeats 4000000 in
set_option maxRecDepth 100000 in
theorem c_X11_faller (l : Launch) (D : va_G) (ad : Nat → Nat → Nat) (cs : Nat → ClassId) (sk : (Nat → Nat) × (Nat → Nat)) (z : ZS) (p1 : Int32) (p2 : Int32) (post : Int32 → ZS → Prop) (h : V_X11_faller z p1 p2 post) : MI l D ad cs sk yX11_faller cX11_faller 4 .int (rmq 1 0 0) [.ref (ad 0 100), .int p1, .int p2] z post := by
  refine MI.of RX11 rfl (by decide) (Nat.le_of_ble_eq_true rfl) ?_
  intro p e s m args below meth c A Q E hw hA hret ls hl
  have hx := E.1.1
  have hb := E.1.2.1
  have hml := E.1.2.2.1
  have hown := E.1.2.2.2.1
  have h0 := E.1.2.2.2.2
  have hl : lv_has ls 4 [(0, .ref (ad 0 100)), (1, .int p1), (2, .int p2)] := hl
  unfold V_X11_faller at h
  have b00 : ∀ (H : Heap) (locs : List Loc), OW D ad cs A s.heap z H locs → W p l e (rmq 1 0 0) s m args below meth c H locs 0 0 Q (F0 m 0 ls []) := by
    intro H locs hw
    refine lv_aload_n hx hb dX11_faller_0 rfl (lv_at hl 0 rfl) ?_
    refine xgC E hw (c1 := 11) (t := (1, 100)) rfl ky_0_100 fo_11_0 rfl qf_11_10 dX11_faller_1 ?_
    refine lv_iload_n hx hb dX11_faller_4 rfl (lv_at hl 1 rfl) ?_
    have hq := h
    clear h
    refine xcVA (As := [.int p1]) (rest := []) E hw hA (c_X0_fallerAt l D ad cs sk z 1 p1 _ is_1 hq) kc_11_97 yo_X0_fallerAt ⟨Nat.le_of_ble_eq_true rfl, Nat.le_of_ble_eq_true rfl⟩ (xrc E hw ky_1_100 rfl) rfl hl.1 rfl (Nat.le_of_ble_eq_true rfl) dX11_faller_5 ⟨Nat.le_of_ble_eq_true rfl, Nat.le_of_ble_eq_true rfl⟩ (fun r2 z1 H locs h hw => ?_)
    refine xsqastore_n (lv' := [(3, va_rf r2), (0, .ref (ad 0 100)), (1, .int p1), (2, .int p2)]) hx hb dX11_faller_8 rfl hl (by decide) rfl (fun ls hl => ?_)
    refine xlqaload_n hx hb dX11_faller_9 rfl (lv_at hl 0 rfl) ?_
    refine xnnl (tgt := 15) hx hb dX11_faller_10 (by decide) (fun ea3 => ?_) (fun a3 ea3 => ?_)
    · replace h := h.1 ea3
      subst ea3
      have hl : lv_has ls 4 [(3, .null), (0, .ref (ad 0 100)), (1, .int p1), (2, .int p2)] := hl
      refine lv_iconst (v := -1) hx hb dX11_faller_13 (by decide) ?_
      exact hret (-1 : Int32) z1 H locs 14 ls hw rfl h dX11_faller_14
    · replace h := h.2 a3 ea3
      subst ea3
      have hl : lv_has ls 4 [(3, .ref a3), (0, .ref (ad 0 100)), (1, .int p1), (2, .int p2)] := hl
      refine lv_iload_n hx hb dX11_faller_15 rfl (lv_at hl 3 rfl) ?_
      by_cases c4 : p2 = (0 : Int32)
      · replace h := h.1 c4
        refine lv_tableIn (tgt := 56) hx hb dX11_faller_16 (by rw [c4]; decide) (by rw [c4]; decide) (by rw [c4]; rfl) (by decide) ?_
        refine lv_aload_n hx hb dX11_faller_56 rfl (lv_at hl 0 rfl) ?_
        obtain ⟨hm, h⟩ := h
        refine xgF E hw hm (k := 3) (ref := "TenYards$Faller") (by decide) qf_11_101 (Or.inl rfl) dX11_faller_57 ?_
        exact hret (zF z1 a3 3) z1 H locs 60 ls hw rfl h dX11_faller_60
      · replace h := h.2 c4
        by_cases c5 : p2 = (1 : Int32)
        · replace h := h.1 c5
          refine lv_tableIn (tgt := 61) hx hb dX11_faller_16 (by rw [c5]; decide) (by rw [c5]; decide) (by rw [c5]; rfl) (by decide) ?_
          refine lv_aload_n hx hb dX11_faller_61 rfl (lv_at hl 0 rfl) ?_
          obtain ⟨hm, h⟩ := h
          refine xgF E hw hm (k := 1) (ref := "TenYards$Faller") (by decide) qf_11_106 (Or.inl rfl) dX11_faller_62 ?_
          exact hret (zF z1 a3 1) z1 H locs 65 ls hw rfl h dX11_faller_65
        · replace h := h.2 c5
          by_cases c6 : p2 = (2 : Int32)
          · replace h := h.1 c6
            refine lv_tableIn (tgt := 66) hx hb dX11_faller_16 (by rw [c6]; decide) (by rw [c6]; decide) (by rw [c6]; rfl) (by decide) ?_
            refine lv_aload_n hx hb dX11_faller_66 rfl (lv_at hl 0 rfl) ?_
            obtain ⟨hm, h⟩ := h
            refine xgF E hw hm (k := 2) (ref := "TenYards$Faller") (by decide) qf_11_109 (Or.inl rfl) dX11_faller_67 ?_
            exact hret (zF z1 a3 2) z1 H locs 70 ls hw rfl h dX11_faller_70
          · replace h := h.2 c6
            by_cases c7 : p2 = (3 : Int32)
            · replace h := h.1 c7
              refine lv_tableIn (tgt := 71) hx hb dX11_faller_16 (by rw [c7]; decide) (by rw [c7]; decide) (by rw [c7]; rfl) (by decide) ?_
              refine lv_aload_n hx hb dX11_faller_71 rfl (lv_at hl 0 rfl) ?_
              obtain ⟨hm, h⟩ := h
              refine xgF E hw hm (k := 4) (ref := "TenYards$Faller") (by decide) qf_11_112 (Or.inl rfl) dX11_faller_72 ?_
              exact hret (zF z1 a3 4) z1 H locs 75 ls hw rfl h dX11_faller_75
            · replace h := h.2 c7
              by_cases c8 : p2 = (4 : Int32)
              · replace h := h.1 c8
                refine lv_tableIn (tgt := 76) hx hb dX11_faller_16 (by rw [c8]; decide) (by rw [c8]; decide) (by rw [c8]; rfl) (by decide) ?_
                refine lv_aload_n hx hb dX11_faller_76 rfl (lv_at hl 0 rfl) ?_
                obtain ⟨hm, h⟩ := h
                refine xgF E hw hm (k := 5) (ref := "TenYards$Faller") (by decide) qf_11_115 (Or.inl rfl) dX11_faller_77 ?_
                exact hret (zF z1 a3 5) z1 H locs 80 ls hw rfl h dX11_faller_80
              · replace h := h.2 c8
                by_cases c9 : p2 = (5 : Int32)
                · replace h := h.1 c9
                  refine lv_tableIn (tgt := 81) hx hb dX11_faller_16 (by rw [c9]; decide) (by rw [c9]; decide) (by rw [c9]; rfl) (by decide) ?_
                  refine lv_aload_n hx hb dX11_faller_81 rfl (lv_at hl 0 rfl) ?_
                  obtain ⟨hm, h⟩ := h
                  refine xgF E hw hm (k := 6) (ref := "TenYards$Faller") (by decide) qf_11_118 (Or.inl rfl) dX11_faller_82 ?_
                  exact hret (zF z1 a3 6) z1 H locs 85 ls hw rfl h dX11_faller_85
                · replace h := h.2 c9
                  refine lv_tableOut (tgt := 86) hx hb dX11_faller_16 (by have n0 := lv_neT c4 (by decide : ((0 : Int32) : Int32).toInt = 0); have n1 := lv_neT c5 (by decide : ((1 : Int32) : Int32).toInt = 1); have n2 := lv_neT c6 (by decide : ((2 : Int32) : Int32).toInt = 2); have n3 := lv_neT c7 (by decide : ((3 : Int32) : Int32).toInt = 3); have n4 := lv_neT c8 (by decide : ((4 : Int32) : Int32).toInt = 4); have n5 := lv_neT c9 (by decide : ((5 : Int32) : Int32).toInt = 5); omega) (by decide) ?_
                  refine lv_iconst (v := -1) hx hb dX11_faller_86 (by decide) ?_
                  exact hret (-1 : Int32) z1 H locs 87 ls hw rfl h dX11_faller_87
  exact b00 s.heap [] hw
theorem dv_11_121 {p : Program} {l : Launch} {e : Env} {R : Room} {s : State} {m : MethodId} {args : Array Value} {below : List Frame} {meth : Method} {c : Code} {H : Heap} {locs : List Loc} {cells slots : Nat} {Q : State → Prop} {cc : ByteArray} {nL pc : Nat} {ls : Array Slot} {rest : List Value} {D : va_G} {ad : Nat → Nat → Nat} {cs : Nat → ClassId} {A : Nat → Prop} {sk : (Nat → Nat) × (Nat → Nat)} {z : ZS} (E : EN p m c cc nL s args RX11 D cs A sk) (hw : OW D ad cs A s.heap z H locs) (hA : ∀ q, s.heap.size ≤ q → A q) {a : Nat} {p1 : Int32} {post : Int32 → ZS → Prop} (ha : a ∈ zP z) (h : Vd_driftOf z a p1 post) (hR : 2 + 1 ≤ R.frames ∧ 40 * (2 + 1) ≤ R.locals) (hsz : ls.size = nL) (h8 : (rest.map fun v => v.category).sum ≤ 8) (hdg : decode cc pc = .ok (.invokevirtual 121, 3)) (hf : cells ≤ R.cells ∧ slots ≤ R.slots) (kk : ∀ (r : Int32) (z1 : ZS) (H1 : Heap) (locs1 : List Loc), post r z1 → OW D ad cs A s.heap z1 H1 locs1 → W p l e R s m args below meth c H1 locs1 cells slots Q (F0 m (pc + 3) ls (.int r :: rest))) : W p l e R s m args below meth c H locs cells slots Q (F0 m pc ls (.int p1 :: .ref a :: rest)) := by
  obtain ⟨k, hk⟩ : ∃ k, zK z a = k := ⟨_, rfl⟩
  unfold Vd_driftOf at h
  rw [hk] at h
  match k, hk, h with
  | 0, hk, h => exact xcVI (As := [.int p1]) (rest := rest) E hw hA (c_X4_driftOf l D ad cs sk z a p1 _ h) kc_11_121 yo_X4_driftOf ⟨by simp only [rmq]; omega, by simp only [rmq]; omega⟩ (xrF E hw ha hk (C := RX4) (T := TX4) (n := 8) rfl) rfl hsz rfl h8 hdg hf kk
  | 1, hk, h => exact xcUI (As := [.int p1]) (rest := rest) E hw hA (c_X4_driftOf l D ad cs sk z a p1 _ h) (xwU E ku_11_121_8 (Or.inl rfl) xo_X4_driftOf ⟨by simp only [rmq]; omega, by simp only [rmq]; omega⟩) (xrF E hw ha hk (C := RX8) (T := TX8) (n := 8) rfl) rfl hsz rfl h8 hdg hf kk
  | 2, hk, h => exact xcUI (As := [.int p1]) (rest := rest) E hw hA (c_X7_driftOf l D ad cs sk z a p1 _ h) (xwU E ku_11_121_7 (Or.inr ⟨_, _, _, qi_X4_driftOf, qc_X4_driftOf⟩) xo_X4_driftOf ⟨by simp only [rmq]; omega, by simp only [rmq]; omega⟩) (xrF E hw ha hk (C := RX7) (T := TX7) (n := 8) rfl) rfl hsz rfl h8 hdg hf kk
  | 3, hk, h => exact xcUI (As := [.int p1]) (rest := rest) E hw hA (c_X5_driftOf l D ad cs sk z a p1 _ h) (xwU E ku_11_121_5 (Or.inr ⟨_, _, _, qi_X4_driftOf, qc_X4_driftOf⟩) xo_X4_driftOf ⟨by simp only [rmq]; omega, by simp only [rmq]; omega⟩) (xrF E hw ha hk (C := RX5) (T := TX5) (n := 8) rfl) rfl hsz rfl h8 hdg hf kk
  | 4, hk, h => exact xcUI (As := [.int p1]) (rest := rest) E hw hA (c_X4_driftOf l D ad cs sk z a p1 _ h) (xwU E ku_11_121_6 (Or.inl rfl) xo_X4_driftOf ⟨by simp only [rmq]; omega, by simp only [rmq]; omega⟩) (xrF E hw ha hk (C := RX6) (T := TX6) (n := 8) rfl) rfl hsz rfl h8 hdg hf kk
  | 5, hk, h => exact xcUI (As := [.int p1]) (rest := rest) E hw hA (c_X4_driftOf l D ad cs sk z a p1 _ h) (xwU E ku_11_121_1 (Or.inl rfl) xo_X4_driftOf ⟨by simp only [rmq]; omega, by simp only [rmq]; omega⟩) (xrF E hw ha hk (C := RX1) (T := TX1) (n := 8) rfl) rfl hsz rfl h8 hdg hf kk
  | 6, hk, h => exact xcUI (As := [.int p1]) (rest := rest) E hw hA (c_X4_driftOf l D ad cs sk z a p1 _ h) (xwU E ku_11_121_2 (Or.inl rfl) xo_X4_driftOf ⟨by simp only [rmq]; omega, by simp only [rmq]; omega⟩) (xrF E hw ha hk (C := RX2) (T := TX2) (n := 8) rfl) rfl hsz rfl h8 hdg hf kk
  | 7, hk, h => exact xcUI (As := [.int p1]) (rest := rest) E hw hA (c_X10_driftOf l D ad cs sk z a p1 _ h) (xwU E ku_11_121_10 (Or.inr ⟨_, _, _, qi_X4_driftOf, qc_X4_driftOf⟩) xo_X4_driftOf ⟨by simp only [rmq]; omega, by simp only [rmq]; omega⟩) (xrF E hw ha hk (C := RX10) (T := TX10) (n := 8) rfl) rfl hsz rfl h8 hdg hf kk
  | (_ + 8), hk, h => exact xcVI (As := [.int p1]) (rest := rest) E hw hA (c_X4_driftOf l D ad cs sk z a p1 _ h) kc_11_121 yo_X4_driftOf ⟨by simp only [rmq]; omega, by simp only [rmq]; omega⟩ (xrF E hw ha hk (C := RX4) (T := TX4) (n := 8) rfl) rfl hsz rfl h8 hdg hf kk
def V_X11_drift (z : ZS) (p1 : Int32) (p2 : Int32) (post : Int32 → ZS → Prop) : Prop := V_X0_fallerAt z 1 p1 (fun r2 z1 => ((r2 = none → post (-1000000001 : Int32) z1) ∧ (∀ a3 : Nat, r2 = some a3 → V_X11_isFrom z1 (-120 : Int32) p2 (120 : Int32) (fun r5 z4 => ((¬ r5 = 0 → (a3 ∈ zP z4 ∧ Vd_driftOf z4 a3 p2 (fun r7 z8 => post r7 z8))) ∧ (r5 = 0 → post (-1000000001 : Int32) z4))))))
set_option maxHeartbeats 4000000 in
set_option maxRecDepth 100000 in
theorem c_X11_drift (l : Launch) (D : va_G) (ad : Nat → Nat → Nat) (cs : Nat → ClassId) (sk : (Nat → Nat) × (Nat → Nat)) (z : ZS) (p1 : Int32) (p2 : Int32) (post : Int32 → ZS → Prop) (h : V_X11_drift z p1 p2 post) : MI l D ad cs sk yX11_drift cX11_drift 4 .int (rmq 3 0 0) [.ref (ad 0 100), .int p1, .int p2] z post := by
  refine MI.of RX11 rfl (by decide) (Nat.le_of_ble_eq_true rfl) ?_
  intro p e s m args below meth c A Q E hw hA hret ls hl
  have hx := E.1.1
  have hb := E.1.2.1
  have hml := E.1.2.2.1
  have hown := E.1.2.2.2.1
  have h0 := E.1.2.2.2.2
  have hl : lv_has ls 4 [(0, .ref (ad 0 100)), (1, .int p1), (2, .int p2)] := hl
  unfold V_X11_drift at h
  have b00 : ∀ (H : Heap) (locs : List Loc), OW D ad cs A s.heap z H locs → W p l e (rmq 3 0 0) s m args below meth c H locs 0 0 Q (F0 m 0 ls []) := by
    intro H locs hw
    refine lv_aload_n hx hb dX11_drift_0 rfl (lv_at hl 0 rfl) ?_
    refine xgC E hw (c1 := 11) (t := (1, 100)) rfl ky_0_100 fo_11_0 rfl qf_11_10 dX11_drift_1 ?_
    refine lv_iload_n hx hb dX11_drift_4 rfl (lv_at hl 1 rfl) ?_
    have hq := h
    clear h
    refine xcVA (As := [.int p1]) (rest := []) E hw hA (c_X0_fallerAt l D ad cs sk z 1 p1 _ is_1 hq) kc_11_97 yo_X0_fallerAt ⟨Nat.le_of_ble_eq_true rfl, Nat.le_of_ble_eq_true rfl⟩ (xrc E hw ky_1_100 rfl) rfl hl.1 rfl (Nat.le_of_ble_eq_true rfl) dX11_drift_5 ⟨Nat.le_of_ble_eq_true rfl, Nat.le_of_ble_eq_true rfl⟩ (fun r2 z1 H locs h hw => ?_)
    refine xsqastore_n (lv' := [(3, va_rf r2), (0, .ref (ad 0 100)), (1, .int p1), (2, .int p2)]) hx hb dX11_drift_8 rfl hl (by decide) rfl (fun ls hl => ?_)
    refine xlqaload_n hx hb dX11_drift_9 rfl (lv_at hl 0 rfl) ?_
    refine xnul (tgt := 24) hx hb dX11_drift_10 (by decide) (fun ea3 => ?_) (fun a3 ea3 => ?_)
    · replace h := h.1 ea3
      subst ea3
      have hl : lv_has ls 4 [(3, .null), (0, .ref (ad 0 100)), (1, .int p1), (2, .int p2)] := hl
      refine lv_ldc (v := -1000000001) hx hb hown (h0 _ qk_11_76) dX11_drift_24 ?_
      exact hret (-1000000001 : Int32) z1 H locs 26 ls hw rfl h dX11_drift_26
    · replace h := h.2 a3 ea3
      subst ea3
      have hl : lv_has ls 4 [(3, .ref a3), (0, .ref (ad 0 100)), (1, .int p1), (2, .int p2)] := hl
      refine lv_bipush (v := -120) hx hb dX11_drift_13 (by decide) ?_
      refine lv_iload_n hx hb dX11_drift_15 rfl (lv_at hl 3 rfl) ?_
      refine lv_bipush (v := 120) hx hb dX11_drift_16 (by decide) ?_
      have hq := h
      clear h
      refine xcSI (As := [.int (-120 : Int32), .int p2, .int (120 : Int32)]) (rest := []) E hw hA (c_X11_isFrom l D ad cs sk z1 (-120 : Int32) p2 (120 : Int32) _ hq) kc_11_83 yo_X11_isFrom ⟨Nat.le_of_ble_eq_true rfl, Nat.le_of_ble_eq_true rfl⟩ rfl hl.1 rfl (Nat.le_of_ble_eq_true rfl) dX11_drift_18 ⟨Nat.le_of_ble_eq_true rfl, Nat.le_of_ble_eq_true rfl⟩ (fun r5 z4 H locs h hw => ?_)
      refine lv_if_ne (tgt := 27) hx hb dX11_drift_21 (by decide) (fun c6 => ?_) (fun c6 => ?_)
      · replace h := h.1 c6
        refine lv_aload_n hx hb dX11_drift_27 rfl (lv_at hl 0 rfl) ?_
        refine lv_iload_n hx hb dX11_drift_28 rfl (lv_at hl 3 rfl) ?_
        obtain ⟨hm, hq⟩ := h
        refine dv_11_121 (rest := []) E hw hA hm hq ⟨Nat.le_of_ble_eq_true rfl, Nat.le_of_ble_eq_true rfl⟩ hl.1 (Nat.le_of_ble_eq_true rfl) dX11_drift_29 ⟨Nat.le_of_ble_eq_true rfl, Nat.le_of_ble_eq_true rfl⟩ (fun r7 z8 H locs h hw => ?_)
        exact hret r7 z8 H locs 32 ls hw rfl h dX11_drift_32
      · replace h := h.2 c6
        refine lv_ldc (v := -1000000001) hx hb hown (h0 _ qk_11_76) dX11_drift_24 ?_
        exact hret (-1000000001 : Int32) z4 H locs 26 ls hw rfl h dX11_drift_26
  exact b00 s.heap [] hw
def V_X11_isPlace (z : ZS) (p0 : Int32) (p1 : Int32) (post : Int32 → ZS → Prop) : Prop := V_X11_isFrom z (-30000 : Int32) p0 (30000 : Int32) (fun r2 z1 => ((r2 = 0 → post (0 : Int32) z1) ∧ (¬ r2 = 0 → V_X11_isFrom z1 (-30000 : Int32) p1 (30000 : Int32) (fun r5 z4 => ((r5 = 0 → post (0 : Int32) z4) ∧ (¬ r5 = 0 → post (1 : Int32) z4))))))
set_option maxHeartbeats 4000000 in
set_option maxRecDepth 100000 in
theorem c_X11_isPlace (l : Launch) (D : va_G) (ad : Nat → Nat → Nat) (cs : Nat → ClassId) (sk : (Nat → Nat) × (Nat → Nat)) (z : ZS) (p0 : Int32) (p1 : Int32) (post : Int32 → ZS → Prop) (h : V_X11_isPlace z p0 p1 post) : MI l D ad cs sk yX11_isPlace cX11_isPlace 2 .boolean (rmq 1 0 0) [.int p0, .int p1] z post := by
  refine MI.of RX11 rfl (by decide) (Nat.le_of_ble_eq_true rfl) ?_
  intro p e s m args below meth c A Q E hw hA hret ls hl
  have hx := E.1.1
  have hb := E.1.2.1
  have hml := E.1.2.2.1
  have hown := E.1.2.2.2.1
  have h0 := E.1.2.2.2.2
  have hl : lv_has ls 2 [(0, .int p0), (1, .int p1)] := hl
  unfold V_X11_isPlace at h
  have b00 : ∀ (H : Heap) (locs : List Loc), OW D ad cs A s.heap z H locs → W p l e (rmq 1 0 0) s m args below meth c H locs 0 0 Q (F0 m 0 ls []) := by
    intro H locs hw
    refine lv_sipush (v := -30000) hx hb dX11_isPlace_0 (by decide) ?_
    refine lv_iload_n hx hb dX11_isPlace_3 rfl (lv_at hl 0 rfl) ?_
    refine lv_sipush (v := 30000) hx hb dX11_isPlace_4 (by decide) ?_
    have hq := h
    clear h
    refine xcSI (As := [.int (-30000 : Int32), .int p0, .int (30000 : Int32)]) (rest := []) E hw hA (c_X11_isFrom l D ad cs sk z (-30000 : Int32) p0 (30000 : Int32) _ hq) kc_11_83 yo_X11_isFrom ⟨Nat.le_of_ble_eq_true rfl, Nat.le_of_ble_eq_true rfl⟩ rfl hl.1 rfl (Nat.le_of_ble_eq_true rfl) dX11_isPlace_7 ⟨Nat.le_of_ble_eq_true rfl, Nat.le_of_ble_eq_true rfl⟩ (fun r2 z1 H locs h hw => ?_)
    refine lv_if_eq (tgt := 30) hx hb dX11_isPlace_10 (by decide) (fun c3 => ?_) (fun c3 => ?_)
    · replace h := h.1 c3
      refine lv_iconst (v := 0) hx hb dX11_isPlace_30 (by decide) ?_
      exact hret (0 : Int32) z1 H locs 31 ls hw rfl h dX11_isPlace_31
    · replace h := h.2 c3
      refine lv_sipush (v := -30000) hx hb dX11_isPlace_13 (by decide) ?_
      refine lv_iload_n hx hb dX11_isPlace_16 rfl (lv_at hl 1 rfl) ?_
      refine lv_sipush (v := 30000) hx hb dX11_isPlace_17 (by decide) ?_
      have hq := h
      clear h
      refine xcSI (As := [.int (-30000 : Int32), .int p1, .int (30000 : Int32)]) (rest := []) E hw hA (c_X11_isFrom l D ad cs sk z1 (-30000 : Int32) p1 (30000 : Int32) _ hq) kc_11_83 yo_X11_isFrom ⟨Nat.le_of_ble_eq_true rfl, Nat.le_of_ble_eq_true rfl⟩ rfl hl.1 rfl (Nat.le_of_ble_eq_true rfl) dX11_isPlace_20 ⟨Nat.le_of_ble_eq_true rfl, Nat.le_of_ble_eq_true rfl⟩ (fun r5 z4 H locs h hw => ?_)
      refine lv_if_eq (tgt := 30) hx hb dX11_isPlace_23 (by decide) (fun c6 => ?_) (fun c6 => ?_)
      · replace h := h.1 c6
        refine lv_iconst (v := 0) hx hb dX11_isPlace_30 (by decide) ?_
        exact hret (0 : Int32) z4 H locs 31 ls hw rfl h dX11_isPlace_31
      · replace h := h.2 c6
        refine lv_iconst (v := 1) hx hb dX11_isPlace_26 (by decide) ?_
        refine lv_goto (tgt := 31) hx hb dX11_isPlace_27 (by decide) ?_
        exact hret (1 : Int32) z4 H locs 31 ls hw rfl h dX11_isPlace_31
  exact b00 s.heap [] hw
theorem dv_11_133 {p : Program} {l : Launch} {e : Env} {R : Room} {s : State} {m : MethodId} {args : Array Value} {below : List Frame} {meth : Method} {c : Code} {H : Heap} {locs : List Loc} {cells slots : Nat} {Q : State → Prop} {cc : ByteArray} {nL pc : Nat} {ls : Array Slot} {rest : List Value} {D : va_G} {ad : Nat → Nat → Nat} {cs : Nat → ClassId} {A : Nat → Prop} {sk : (Nat → Nat) × (Nat → Nat)} {z : ZS} (E : EN p m c cc nL s args RX11 D cs A sk) (hw : OW D ad cs A s.heap z H locs) (hA : ∀ q, s.heap.size ≤ q → A q) {a : Nat} {p1 p2 p3 p4 : Int32} {post : Int32 → ZS → Prop} (ha : a ∈ zP z) (h : Vd_steerEast z a p1 p2 p3 p4 post) (hR : 2 + 1 ≤ R.frames ∧ 40 * (2 + 1) ≤ R.locals) (hsz : ls.size = nL) (h8 : (rest.map fun v => v.category).sum ≤ 8) (hdg : decode cc pc = .ok (.invokevirtual 133, 3)) (hf : cells ≤ R.cells ∧ slots ≤ R.slots) (kk : ∀ (r : Int32) (z1 : ZS) (H1 : Heap) (locs1 : List Loc), post r z1 → OW D ad cs A s.heap z1 H1 locs1 → W p l e R s m args below meth c H1 locs1 cells slots Q (F0 m (pc + 3) ls (.int r :: rest))) : W p l e R s m args below meth c H locs cells slots Q (F0 m pc ls (.int p4 :: .int p3 :: .int p2 :: .int p1 :: .ref a :: rest)) := by
  obtain ⟨k, hk⟩ : ∃ k, zK z a = k := ⟨_, rfl⟩
  unfold Vd_steerEast at h
  match k, hk, h with
  | 0, hk, h => exact xcVI (As := [.int p1, .int p2, .int p3, .int p4]) (rest := rest) E hw hA (c_X4_steerEast l D ad cs sk z a p1 p2 p3 p4 _ h) kc_11_133 yo_X4_steerEast ⟨by simp only [rmq]; omega, by simp only [rmq]; omega⟩ (xrF E hw ha hk (C := RX4) (T := TX4) (n := 8) rfl) rfl hsz rfl h8 hdg hf kk
  | 1, hk, h => exact xcUI (As := [.int p1, .int p2, .int p3, .int p4]) (rest := rest) E hw hA (c_X4_steerEast l D ad cs sk z a p1 p2 p3 p4 _ h) (xwU E ku_11_133_8 (Or.inl rfl) xo_X4_steerEast ⟨by simp only [rmq]; omega, by simp only [rmq]; omega⟩) (xrF E hw ha hk (C := RX8) (T := TX8) (n := 8) rfl) rfl hsz rfl h8 hdg hf kk
  | 2, hk, h => exact xcUI (As := [.int p1, .int p2, .int p3, .int p4]) (rest := rest) E hw hA (c_X4_steerEast l D ad cs sk z a p1 p2 p3 p4 _ h) (xwU E ku_11_133_7 (Or.inl rfl) xo_X4_steerEast ⟨by simp only [rmq]; omega, by simp only [rmq]; omega⟩) (xrF E hw ha hk (C := RX7) (T := TX7) (n := 8) rfl) rfl hsz rfl h8 hdg hf kk
  | 3, hk, h => exact xcUI (As := [.int p1, .int p2, .int p3, .int p4]) (rest := rest) E hw hA (c_X4_steerEast l D ad cs sk z a p1 p2 p3 p4 _ h) (xwU E ku_11_133_5 (Or.inl rfl) xo_X4_steerEast ⟨by simp only [rmq]; omega, by simp only [rmq]; omega⟩) (xrF E hw ha hk (C := RX5) (T := TX5) (n := 8) rfl) rfl hsz rfl h8 hdg hf kk
  | 4, hk, h => exact xcUI (As := [.int p1, .int p2, .int p3, .int p4]) (rest := rest) E hw hA (c_X4_steerEast l D ad cs sk z a p1 p2 p3 p4 _ h) (xwU E ku_11_133_6 (Or.inl rfl) xo_X4_steerEast ⟨by simp only [rmq]; omega, by simp only [rmq]; omega⟩) (xrF E hw ha hk (C := RX6) (T := TX6) (n := 8) rfl) rfl hsz rfl h8 hdg hf kk
  | 5, hk, h => exact xcUI (As := [.int p1, .int p2, .int p3, .int p4]) (rest := rest) E hw hA (c_X4_steerEast l D ad cs sk z a p1 p2 p3 p4 _ h) (xwU E ku_11_133_1 (Or.inl rfl) xo_X4_steerEast ⟨by simp only [rmq]; omega, by simp only [rmq]; omega⟩) (xrF E hw ha hk (C := RX1) (T := TX1) (n := 8) rfl) rfl hsz rfl h8 hdg hf kk
  | 6, hk, h => exact xcUI (As := [.int p1, .int p2, .int p3, .int p4]) (rest := rest) E hw hA (c_X4_steerEast l D ad cs sk z a p1 p2 p3 p4 _ h) (xwU E ku_11_133_2 (Or.inl rfl) xo_X4_steerEast ⟨by simp only [rmq]; omega, by simp only [rmq]; omega⟩) (xrF E hw ha hk (C := RX2) (T := TX2) (n := 8) rfl) rfl hsz rfl h8 hdg hf kk
  | 7, hk, h => exact xcUI (As := [.int p1, .int p2, .int p3, .int p4]) (rest := rest) E hw hA (c_X4_steerEast l D ad cs sk z a p1 p2 p3 p4 _ h) (xwU E ku_11_133_10 (Or.inl rfl) xo_X4_steerEast ⟨by simp only [rmq]; omega, by simp only [rmq]; omega⟩) (xrF E hw ha hk (C := RX10) (T := TX10) (n := 8) rfl) rfl hsz rfl h8 hdg hf kk
  | (_ + 8), hk, h => exact xcVI (As := [.int p1, .int p2, .int p3, .int p4]) (rest := rest) E hw hA (c_X4_steerEast l D ad cs sk z a p1 p2 p3 p4 _ h) kc_11_133 yo_X4_steerEast ⟨by simp only [rmq]; omega, by simp only [rmq]; omega⟩ (xrF E hw ha hk (C := RX4) (T := TX4) (n := 8) rfl) rfl hsz rfl h8 hdg hf kk
theorem dv_11_129 {p : Program} {l : Launch} {e : Env} {R : Room} {s : State} {m : MethodId} {args : Array Value} {below : List Frame} {meth : Method} {c : Code} {H : Heap} {locs : List Loc} {cells slots : Nat} {Q : State → Prop} {cc : ByteArray} {nL pc : Nat} {ls : Array Slot} {rest : List Value} {D : va_G} {ad : Nat → Nat → Nat} {cs : Nat → ClassId} {A : Nat → Prop} {sk : (Nat → Nat) × (Nat → Nat)} {z : ZS} (E : EN p m c cc nL s args RX11 D cs A sk) (hw : OW D ad cs A s.heap z H locs) (hA : ∀ q, s.heap.size ≤ q → A q) {a : Nat} {p1 p2 p3 p4 : Int32} {post : Int32 → ZS → Prop} (ha : a ∈ zP z) (h : Vd_steerNorth z a p1 p2 p3 p4 post) (hR : 2 + 1 ≤ R.frames ∧ 40 * (2 + 1) ≤ R.locals) (hsz : ls.size = nL) (h8 : (rest.map fun v => v.category).sum ≤ 8) (hdg : decode cc pc = .ok (.invokevirtual 129, 3)) (hf : cells ≤ R.cells ∧ slots ≤ R.slots) (kk : ∀ (r : Int32) (z1 : ZS) (H1 : Heap) (locs1 : List Loc), post r z1 → OW D ad cs A s.heap z1 H1 locs1 → W p l e R s m args below meth c H1 locs1 cells slots Q (F0 m (pc + 3) ls (.int r :: rest))) : W p l e R s m args below meth c H locs cells slots Q (F0 m pc ls (.int p4 :: .int p3 :: .int p2 :: .int p1 :: .ref a :: rest)) := by
  obtain ⟨k, hk⟩ : ∃ k, zK z a = k := ⟨_, rfl⟩
  unfold Vd_steerNorth at h
  match k, hk, h with
  | 0, hk, h => exact xcVI (As := [.int p1, .int p2, .int p3, .int p4]) (rest := rest) E hw hA (c_X4_steerNorth l D ad cs sk z a p1 p2 p3 p4 _ h) kc_11_129 yo_X4_steerNorth ⟨by simp only [rmq]; omega, by simp only [rmq]; omega⟩ (xrF E hw ha hk (C := RX4) (T := TX4) (n := 8) rfl) rfl hsz rfl h8 hdg hf kk
  | 1, hk, h => exact xcUI (As := [.int p1, .int p2, .int p3, .int p4]) (rest := rest) E hw hA (c_X4_steerNorth l D ad cs sk z a p1 p2 p3 p4 _ h) (xwU E ku_11_129_8 (Or.inl rfl) xo_X4_steerNorth ⟨by simp only [rmq]; omega, by simp only [rmq]; omega⟩) (xrF E hw ha hk (C := RX8) (T := TX8) (n := 8) rfl) rfl hsz rfl h8 hdg hf kk
  | 2, hk, h => exact xcUI (As := [.int p1, .int p2, .int p3, .int p4]) (rest := rest) E hw hA (c_X4_steerNorth l D ad cs sk z a p1 p2 p3 p4 _ h) (xwU E ku_11_129_7 (Or.inl rfl) xo_X4_steerNorth ⟨by simp only [rmq]; omega, by simp only [rmq]; omega⟩) (xrF E hw ha hk (C := RX7) (T := TX7) (n := 8) rfl) rfl hsz rfl h8 hdg hf kk
  | 3, hk, h => exact xcUI (As := [.int p1, .int p2, .int p3, .int p4]) (rest := rest) E hw hA (c_X4_steerNorth l D ad cs sk z a p1 p2 p3 p4 _ h) (xwU E ku_11_129_5 (Or.inl rfl) xo_X4_steerNorth ⟨by simp only [rmq]; omega, by simp only [rmq]; omega⟩) (xrF E hw ha hk (C := RX5) (T := TX5) (n := 8) rfl) rfl hsz rfl h8 hdg hf kk
  | 4, hk, h => exact xcUI (As := [.int p1, .int p2, .int p3, .int p4]) (rest := rest) E hw hA (c_X4_steerNorth l D ad cs sk z a p1 p2 p3 p4 _ h) (xwU E ku_11_129_6 (Or.inl rfl) xo_X4_steerNorth ⟨by simp only [rmq]; omega, by simp only [rmq]; omega⟩) (xrF E hw ha hk (C := RX6) (T := TX6) (n := 8) rfl) rfl hsz rfl h8 hdg hf kk
  | 5, hk, h => exact xcUI (As := [.int p1, .int p2, .int p3, .int p4]) (rest := rest) E hw hA (c_X4_steerNorth l D ad cs sk z a p1 p2 p3 p4 _ h) (xwU E ku_11_129_1 (Or.inl rfl) xo_X4_steerNorth ⟨by simp only [rmq]; omega, by simp only [rmq]; omega⟩) (xrF E hw ha hk (C := RX1) (T := TX1) (n := 8) rfl) rfl hsz rfl h8 hdg hf kk
  | 6, hk, h => exact xcUI (As := [.int p1, .int p2, .int p3, .int p4]) (rest := rest) E hw hA (c_X4_steerNorth l D ad cs sk z a p1 p2 p3 p4 _ h) (xwU E ku_11_129_2 (Or.inl rfl) xo_X4_steerNorth ⟨by simp only [rmq]; omega, by simp only [rmq]; omega⟩) (xrF E hw ha hk (C := RX2) (T := TX2) (n := 8) rfl) rfl hsz rfl h8 hdg hf kk
  | 7, hk, h => exact xcUI (As := [.int p1, .int p2, .int p3, .int p4]) (rest := rest) E hw hA (c_X4_steerNorth l D ad cs sk z a p1 p2 p3 p4 _ h) (xwU E ku_11_129_10 (Or.inl rfl) xo_X4_steerNorth ⟨by simp only [rmq]; omega, by simp only [rmq]; omega⟩) (xrF E hw ha hk (C := RX10) (T := TX10) (n := 8) rfl) rfl hsz rfl h8 hdg hf kk
  | (_ + 8), hk, h => exact xcVI (As := [.int p1, .int p2, .int p3, .int p4]) (rest := rest) E hw hA (c_X4_steerNorth l D ad cs sk z a p1 p2 p3 p4 _ h) kc_11_129 yo_X4_steerNorth ⟨by simp only [rmq]; omega, by simp only [rmq]; omega⟩ (xrF E hw ha hk (C := RX4) (T := TX4) (n := 8) rfl) rfl hsz rfl h8 hdg hf kk
def V_X11_steers (z : ZS) (p1 : Int32) (p2 : Int32) (p3 : Int32) (p4 : Int32) (p5 : Int32) (post : Int32 → ZS → Prop) : Prop := V_X0_fallerAt z 1 p1 (fun r2 z1 => ((r2 = none → post (-1000000001 : Int32) z1) ∧ (∀ a3 : Nat, r2 = some a3 → V_X11_isPlace z1 p2 p3 (fun r5 z4 => ((r5 = 0 → post (-1000000001 : Int32) z4) ∧ (¬ r5 = 0 → V_X11_isLayer z4 p4 (fun r8 z7 => ((¬ r8 = 0 → (vp_in p4 10 ∧ (∀ t10 : Int32, t10 = (zR z7 1 0 (Int32.toNatClampNeg p4)) → (vp_in p4 10 ∧ (∀ t11 : Int32, t11 = (zR z7 1 1 (Int32.toNatClampNeg p4)) → ((p5 = 0 → (a3 ∈ zP z7 ∧ Vd_steerEast z7 a3 p2 p3 t10 t11 (fun r13 z14 => post r13 z14))) ∧ (¬ p5 = 0 → (a3 ∈ zP z7 ∧ Vd_steerNorth z7 a3 p2 p3 t10 t11 (fun r15 z16 => post r15 z16))))))))) ∧ (r8 = 0 → post (-1000000001 : Int32) z7)))))))))
set_option maxHeartbeats 4000000 in
set_option maxRecDepth 100000 in
theorem c_X11_steers (l : Launch) (D : va_G) (ad : Nat → Nat → Nat) (cs : Nat → ClassId) (sk : (Nat → Nat) × (Nat → Nat)) (z : ZS) (p1 : Int32) (p2 : Int32) (p3 : Int32) (p4 : Int32) (p5 : Int32) (post : Int32 → ZS → Prop) (h : V_X11_steers z p1 p2 p3 p4 p5 post) : MI l D ad cs sk yX11_steers cX11_steers 9 .int (rmq 3 0 0) [.ref (ad 0 100), .int p1, .int p2, .int p3, .int p4, .int p5] z post := by
  refine MI.of RX11 rfl (by decide) (Nat.le_of_ble_eq_true rfl) ?_
  intro p e s m args below meth c A Q E hw hA hret ls hl
  have hx := E.1.1
  have hb := E.1.2.1
  have hml := E.1.2.2.1
  have hown := E.1.2.2.2.1
  have h0 := E.1.2.2.2.2
  have hl : lv_has ls 9 [(0, .ref (ad 0 100)), (1, .int p1), (2, .int p2), (3, .int p3), (4, .int p4), (5, .int p5)] := hl
  unfold V_X11_steers at h
  have b00 : ∀ (H : Heap) (locs : List Loc), OW D ad cs A s.heap z H locs → W p l e (rmq 3 0 0) s m args below meth c H locs 0 0 Q (F0 m 0 ls []) := by
    intro H locs hw
    refine lv_aload_n hx hb dX11_steers_0 rfl (lv_at hl 0 rfl) ?_
    refine xgC E hw (c1 := 11) (t := (1, 100)) rfl ky_0_100 fo_11_0 rfl qf_11_10 dX11_steers_1 ?_
    refine lv_iload_n hx hb dX11_steers_4 rfl (lv_at hl 1 rfl) ?_
    have hq := h
    clear h
    refine xcVA (As := [.int p1]) (rest := []) E hw hA (c_X0_fallerAt l D ad cs sk z 1 p1 _ is_1 hq) kc_11_97 yo_X0_fallerAt ⟨Nat.le_of_ble_eq_true rfl, Nat.le_of_ble_eq_true rfl⟩ (xrc E hw ky_1_100 rfl) rfl hl.1 rfl (Nat.le_of_ble_eq_true rfl) dX11_steers_5 ⟨Nat.le_of_ble_eq_true rfl, Nat.le_of_ble_eq_true rfl⟩ (fun r2 z1 H locs h hw => ?_)
    refine xsqastore (lv' := [(6, va_rf r2), (0, .ref (ad 0 100)), (1, .int p1), (2, .int p2), (3, .int p3), (4, .int p4), (5, .int p5)]) hx hb dX11_steers_8 hl (by decide) rfl (fun ls hl => ?_)
    refine xlqaload hx hb dX11_steers_10 (lv_at hl 0 rfl) ?_
    refine xnul (tgt := 31) hx hb dX11_steers_12 (by decide) (fun ea3 => ?_) (fun a3 ea3 => ?_)
    · replace h := h.1 ea3
      subst ea3
      have hl : lv_has ls 9 [(6, .null), (0, .ref (ad 0 100)), (1, .int p1), (2, .int p2), (3, .int p3), (4, .int p4), (5, .int p5)] := hl
      refine lv_ldc (v := -1000000001) hx hb hown (h0 _ qk_11_76) dX11_steers_31 ?_
      exact hret (-1000000001 : Int32) z1 H locs 33 ls hw rfl h dX11_steers_33
    · replace h := h.2 a3 ea3
      subst ea3
      have hl : lv_has ls 9 [(6, .ref a3), (0, .ref (ad 0 100)), (1, .int p1), (2, .int p2), (3, .int p3), (4, .int p4), (5, .int p5)] := hl
      refine lv_iload_n hx hb dX11_steers_15 rfl (lv_at hl 3 rfl) ?_
      refine lv_iload_n hx hb dX11_steers_16 rfl (lv_at hl 4 rfl) ?_
      have hq := h
      clear h
      refine xcSI (As := [.int p2, .int p3]) (rest := []) E hw hA (c_X11_isPlace l D ad cs sk z1 p2 p3 _ hq) kc_11_125 yo_X11_isPlace ⟨Nat.le_of_ble_eq_true rfl, Nat.le_of_ble_eq_true rfl⟩ rfl hl.1 rfl (Nat.le_of_ble_eq_true rfl) dX11_steers_17 ⟨Nat.le_of_ble_eq_true rfl, Nat.le_of_ble_eq_true rfl⟩ (fun r5 z4 H locs h hw => ?_)
      refine lv_if_eq (tgt := 31) hx hb dX11_steers_20 (by decide) (fun c6 => ?_) (fun c6 => ?_)
      · replace h := h.1 c6
        refine lv_ldc (v := -1000000001) hx hb hown (h0 _ qk_11_76) dX11_steers_31 ?_
        exact hret (-1000000001 : Int32) z4 H locs 33 ls hw rfl h dX11_steers_33
      · replace h := h.2 c6
        refine lv_iload hx hb dX11_steers_23 (lv_at hl 5 rfl) ?_
        have hq := h
        clear h
        refine xcSI (As := [.int p4]) (rest := []) E hw hA (c_X11_isLayer l D ad cs sk z4 p4 _ hq) kc_11_72 yo_X11_isLayer ⟨Nat.le_of_ble_eq_true rfl, Nat.le_of_ble_eq_true rfl⟩ rfl hl.1 rfl (Nat.le_of_ble_eq_true rfl) dX11_steers_25 ⟨Nat.le_of_ble_eq_true rfl, Nat.le_of_ble_eq_true rfl⟩ (fun r8 z7 H locs h hw => ?_)
        refine lv_if_ne (tgt := 34) hx hb dX11_steers_28 (by decide) (fun c9 => ?_) (fun c9 => ?_)
        · replace h := h.1 c9
          refine lv_aload_n hx hb dX11_steers_34 rfl (lv_at hl 1 rfl) ?_
          refine xgC E hw (c1 := 11) (t := (1, 100)) rfl ky_0_100 fo_11_0 rfl qf_11_10 dX11_steers_35 ?_
          refine xgC E hw (c1 := 0) (t := (1, 0)) rfl ky_1_100 fo_0_0 rfl qf_11_80 dX11_steers_38 ?_
          refine lv_iload hx hb dX11_steers_41 (lv_at hl 5 rfl) ?_
          obtain ⟨hi, h⟩ := h
          refine xal E hw ky_1_0 ka_1_0 hi dX11_steers_43 ?_
          refine lv_topi (fun t10 et10 => ?_)
          replace h := h t10 et10
          refine lv_istore (lv' := [(7, .int t10), (6, .ref a3), (0, .ref (ad 0 100)), (1, .int p1), (2, .int p2), (3, .int p3), (4, .int p4), (5, .int p5)]) hx hb dX11_steers_44 hl (by decide) rfl (fun ls hl => ?_)
          refine lv_aload_n hx hb dX11_steers_46 rfl (lv_at hl 2 rfl) ?_
          refine xgC E hw (c1 := 11) (t := (1, 100)) rfl ky_0_100 fo_11_0 rfl qf_11_10 dX11_steers_47 ?_
          refine xgC E hw (c1 := 0) (t := (1, 1)) rfl ky_1_100 fo_0_1 rfl qf_11_77 dX11_steers_50 ?_
          refine lv_iload hx hb dX11_steers_53 (lv_at hl 6 rfl) ?_
          obtain ⟨hi, h⟩ := h
          refine xal E hw ky_1_1 ka_1_1 hi dX11_steers_55 ?_
          refine lv_topi (fun t11 et11 => ?_)
          replace h := h t11 et11
          refine lv_istore (lv' := [(8, .int t11), (7, .int t10), (6, .ref a3), (0, .ref (ad 0 100)), (1, .int p1), (2, .int p2), (3, .int p3), (4, .int p4), (5, .int p5)]) hx hb dX11_steers_56 hl (by decide) rfl (fun ls hl => ?_)
          refine lv_iload hx hb dX11_steers_58 (lv_at hl 8 rfl) ?_
          refine lv_if_eq (tgt := 77) hx hb dX11_steers_60 (by decide) (fun c12 => ?_) (fun c12 => ?_)
          · replace h := h.1 c12
            refine lv_aload hx hb dX11_steers_77 (lv_at hl 2 rfl) ?_
            refine lv_iload_n hx hb dX11_steers_79 rfl (lv_at hl 5 rfl) ?_
            refine lv_iload_n hx hb dX11_steers_80 rfl (lv_at hl 6 rfl) ?_
            refine lv_iload hx hb dX11_steers_81 (lv_at hl 1 rfl) ?_
            refine lv_iload hx hb dX11_steers_83 (lv_at hl 0 rfl) ?_
            obtain ⟨hm, hq⟩ := h
            refine dv_11_133 (rest := []) E hw hA hm hq ⟨Nat.le_of_ble_eq_true rfl, Nat.le_of_ble_eq_true rfl⟩ hl.1 (Nat.le_of_ble_eq_true rfl) dX11_steers_85 ⟨Nat.le_of_ble_eq_true rfl, Nat.le_of_ble_eq_true rfl⟩ (fun r13 z14 H locs h hw => ?_)
            exact hret r13 z14 H locs 88 ls hw rfl h dX11_steers_88
          · replace h := h.2 c12
            refine lv_aload hx hb dX11_steers_63 (lv_at hl 2 rfl) ?_
            refine lv_iload_n hx hb dX11_steers_65 rfl (lv_at hl 5 rfl) ?_
            refine lv_iload_n hx hb dX11_steers_66 rfl (lv_at hl 6 rfl) ?_
            refine lv_iload hx hb dX11_steers_67 (lv_at hl 1 rfl) ?_
            refine lv_iload hx hb dX11_steers_69 (lv_at hl 0 rfl) ?_
            obtain ⟨hm, hq⟩ := h
            refine dv_11_129 (rest := []) E hw hA hm hq ⟨Nat.le_of_ble_eq_true rfl, Nat.le_of_ble_eq_true rfl⟩ hl.1 (Nat.le_of_ble_eq_true rfl) dX11_steers_71 ⟨Nat.le_of_ble_eq_true rfl, Nat.le_of_ble_eq_true rfl⟩ (fun r15 z16 H locs h hw => ?_)
            refine lv_goto (tgt := 88) hx hb dX11_steers_74 (by decide) ?_
            exact hret r15 z16 H locs 88 ls hw rfl h dX11_steers_88
        · replace h := h.2 c9
          refine lv_ldc (v := -1000000001) hx hb hown (h0 _ qk_11_76) dX11_steers_31 ?_
          exact hret (-1000000001 : Int32) z7 H locs 33 ls hw rfl h dX11_steers_33
  exact b00 s.heap [] hw
def V_X11_barred (z : ZS) (p1 : Int32) (p2 : Int32) (post : Int32 → ZS → Prop) : Prop := V_X11_isPlace z p1 p2 (fun r2 z1 => ((¬ r2 = 0 → V_X0_bars z1 1 p1 p2 (fun r5 z4 => ((r5 = 0 → post (0 : Int32) z4) ∧ (¬ r5 = 0 → post (1 : Int32) z4)))) ∧ (r2 = 0 → post (-1 : Int32) z1)))
set_option maxHeartbeats 4000000 in
set_option maxRecDepth 100000 in
theorem c_X11_barred (l : Launch) (D : va_G) (ad : Nat → Nat → Nat) (cs : Nat → ClassId) (sk : (Nat → Nat) × (Nat → Nat)) (z : ZS) (p1 : Int32) (p2 : Int32) (post : Int32 → ZS → Prop) (h : V_X11_barred z p1 p2 post) : MI l D ad cs sk yX11_barred cX11_barred 3 .int (rmq 2 0 0) [.ref (ad 0 100), .int p1, .int p2] z post := by
  refine MI.of RX11 rfl (by decide) (Nat.le_of_ble_eq_true rfl) ?_
  intro p e s m args below meth c A Q E hw hA hret ls hl
  have hx := E.1.1
  have hb := E.1.2.1
  have hml := E.1.2.2.1
  have hown := E.1.2.2.2.1
  have h0 := E.1.2.2.2.2
  have hl : lv_has ls 3 [(0, .ref (ad 0 100)), (1, .int p1), (2, .int p2)] := hl
  unfold V_X11_barred at h
  have b00 : ∀ (H : Heap) (locs : List Loc), OW D ad cs A s.heap z H locs → W p l e (rmq 2 0 0) s m args below meth c H locs 0 0 Q (F0 m 0 ls []) := by
    intro H locs hw
    refine lv_iload_n hx hb dX11_barred_0 rfl (lv_at hl 1 rfl) ?_
    refine lv_iload_n hx hb dX11_barred_1 rfl (lv_at hl 2 rfl) ?_
    have hq := h
    clear h
    refine xcSI (As := [.int p1, .int p2]) (rest := []) E hw hA (c_X11_isPlace l D ad cs sk z p1 p2 _ hq) kc_11_125 yo_X11_isPlace ⟨Nat.le_of_ble_eq_true rfl, Nat.le_of_ble_eq_true rfl⟩ rfl hl.1 rfl (Nat.le_of_ble_eq_true rfl) dX11_barred_2 ⟨Nat.le_of_ble_eq_true rfl, Nat.le_of_ble_eq_true rfl⟩ (fun r2 z1 H locs h hw => ?_)
    refine lv_if_ne (tgt := 10) hx hb dX11_barred_5 (by decide) (fun c3 => ?_) (fun c3 => ?_)
    · replace h := h.1 c3
      refine lv_aload_n hx hb dX11_barred_10 rfl (lv_at hl 0 rfl) ?_
      refine xgC E hw (c1 := 11) (t := (1, 100)) rfl ky_0_100 fo_11_0 rfl qf_11_10 dX11_barred_11 ?_
      refine lv_iload_n hx hb dX11_barred_14 rfl (lv_at hl 1 rfl) ?_
      refine lv_iload_n hx hb dX11_barred_15 rfl (lv_at hl 2 rfl) ?_
      have hq := h
      clear h
      refine xcVI (As := [.int p1, .int p2]) (rest := []) E hw hA (c_X0_bars l D ad cs sk z1 1 p1 p2 _ is_1 hq) kc_11_136 yo_X0_bars ⟨Nat.le_of_ble_eq_true rfl, Nat.le_of_ble_eq_true rfl⟩ (xrc E hw ky_1_100 rfl) rfl hl.1 rfl (Nat.le_of_ble_eq_true rfl) dX11_barred_16 ⟨Nat.le_of_ble_eq_true rfl, Nat.le_of_ble_eq_true rfl⟩ (fun r5 z4 H locs h hw => ?_)
      refine lv_if_eq (tgt := 26) hx hb dX11_barred_19 (by decide) (fun c6 => ?_) (fun c6 => ?_)
      · replace h := h.1 c6
        refine lv_iconst (v := 0) hx hb dX11_barred_26 (by decide) ?_
        exact hret (0 : Int32) z4 H locs 27 ls hw rfl h dX11_barred_27
      · replace h := h.2 c6
        refine lv_iconst (v := 1) hx hb dX11_barred_22 (by decide) ?_
        refine lv_goto (tgt := 27) hx hb dX11_barred_23 (by decide) ?_
        exact hret (1 : Int32) z4 H locs 27 ls hw rfl h dX11_barred_27
    · replace h := h.2 c3
      refine lv_iconst (v := -1) hx hb dX11_barred_8 (by decide) ?_
      exact hret (-1 : Int32) z1 H locs 9 ls hw rfl h dX11_barred_9
  exact b00 s.heap [] hw
