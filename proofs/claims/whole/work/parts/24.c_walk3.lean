def V_X2_stepAlong (z : ZS) (a0 : Nat) (p1 : Int32) (p2 : Int32) (post : Int32 → ZS → Prop) : Prop := V_J6_signum_0f7a4 z p2 (fun r1 z2 => (a0 ∈ zP z2 ∧ post (r1 * (zF z2 a0 6)) z2))
set_option maxHeartbeats 4000000 in
set_option maxRecDepth 100000 in
theorem c_X2_stepAlong (l : Launch) (D : va_G) (ad : Nat → Nat → Nat) (cs : Nat → ClassId) (sk : (Nat → Nat) × (Nat → Nat)) (z : ZS) (a0 : Nat) (p1 : Int32) (p2 : Int32) (post : Int32 → ZS → Prop) (h : V_X2_stepAlong z a0 p1 p2 post) : MI l D ad cs sk yX2_stepAlong cX2_stepAlong 3 .int (rmq 1 0 0) [.ref a0, .int p1, .int p2] z post := by
  refine MI.of RX2 rfl (by decide) (Nat.le_of_ble_eq_true rfl) ?_
  intro p e s m args below meth c A Q E hw hA hret ls hl
  have hx := E.1.1
  have hb := E.1.2.1
  have hml := E.1.2.2.1
  have hown := E.1.2.2.2.1
  have h0 := E.1.2.2.2.2
  have hl : lv_has ls 3 [(0, .ref a0), (1, .int p1), (2, .int p2)] := hl
  unfold V_X2_stepAlong at h
  have b00 : ∀ (H : Heap) (locs : List Loc), OW D ad cs A s.heap z H locs → W p l e (rmq 1 0 0) s m args below meth c H locs 0 0 Q (F0 m 0 ls []) := by
    intro H locs hw
    refine lv_iload_n hx hb dX2_stepAlong_0 rfl (lv_at hl 2 rfl) ?_
    have hq := h
    clear h
    refine xcSI (As := [.int p2]) (rest := []) E hw hA (c_J6_signum_0f7a4 l D ad cs sk z p2 _ hq) kc_sg yo_sg ⟨Nat.le_of_ble_eq_true rfl, Nat.le_of_ble_eq_true rfl⟩ rfl hl.1 rfl (Nat.le_of_ble_eq_true rfl) dX2_stepAlong_1 ⟨Nat.le_of_ble_eq_true rfl, Nat.le_of_ble_eq_true rfl⟩ (fun r1 z2 H locs h hw => ?_)
    refine lv_aload_n hx hb dX2_stepAlong_4 rfl (lv_at hl 0 rfl) ?_
    obtain ⟨hm, h⟩ := h
    refine xgF E hw hm (k := 6) (ref := "TenYards$Downwind") (by decide) qf_2_16 (Or.inr qg_2_pace) dX2_stepAlong_5 ?_
    refine lv_imul hx hb dX2_stepAlong_8 ?_
    exact hret (r1 * (zF z2 a0 6)) z2 H locs 9 ls hw rfl h dX2_stepAlong_9
  exact b00 s.heap [] hw
def V_X3_held (z : ZS) (p0 : Int32) (post : Int32 → ZS → Prop) : Prop := post (if (-30000 : Int32) < (if (30000 : Int32) < p0 then (30000 : Int32) else p0) then (if (30000 : Int32) < p0 then (30000 : Int32) else p0) else (-30000 : Int32)) z
set_option maxHeartbeats 4000000 in
set_option maxRecDepth 100000 in
theorem c_X3_held (l : Launch) (D : va_G) (ad : Nat → Nat → Nat) (cs : Nat → ClassId) (sk : (Nat → Nat) × (Nat → Nat)) (z : ZS) (p0 : Int32) (post : Int32 → ZS → Prop) (h : V_X3_held z p0 post) : MI l D ad cs sk yX3_held cX3_held 1 .int (rmq 1 0 0) [.int p0] z post := by
  refine MI.of RX3 rfl (by decide) (Nat.le_of_ble_eq_true rfl) ?_
  intro p e s m args below meth c A Q E hw hA hret ls hl
  have hx := E.1.1
  have hb := E.1.2.1
  have hml := E.1.2.2.1
  have hown := E.1.2.2.2.1
  have h0 := E.1.2.2.2.2
  have hl : lv_has ls 1 [(0, .int p0)] := hl
  unfold V_X3_held at h
  have b00 : ∀ (H : Heap) (locs : List Loc), OW D ad cs A s.heap z H locs → W p l e (rmq 1 0 0) s m args below meth c H locs 0 0 Q (F0 m 0 ls []) := by
    intro H locs hw
    refine lv_sipush (v := -30000) hx hb dX3_held_0 (by decide) ?_
    refine lv_iload_n hx hb dX3_held_3 rfl (lv_at hl 0 rfl) ?_
    refine lv_sipush (v := 30000) hx hb dX3_held_4 (by decide) ?_
    refine va_mmin hx hb (hml.trans hl.1.symm) hown (h0 _ qm_3_56) (h0 _ qs_ib_Math_min_name) (h0 _ qn_Math) (h0 _ qc_Math_min) (Nat.le_of_ble_eq_true rfl) (Nat.le_of_ble_eq_true rfl) (Nat.le_of_ble_eq_true rfl) (Nat.le_of_ble_eq_true rfl) dX3_held_7 ?_
    refine va_mmax hx hb (hml.trans hl.1.symm) hown (h0 _ qm_3_62) (h0 _ qs_ib_Math_max_name) (h0 _ qn_Math) (h0 _ qc_Math_max) (Nat.le_of_ble_eq_true rfl) (Nat.le_of_ble_eq_true rfl) (Nat.le_of_ble_eq_true rfl) (Nat.le_of_ble_eq_true rfl) dX3_held_10 ?_
    exact hret (if (-30000 : Int32) < (if (30000 : Int32) < p0 then (30000 : Int32) else p0) then (if (30000 : Int32) < p0 then (30000 : Int32) else p0) else (-30000 : Int32)) z H locs 13 ls hw rfl h dX3_held_13
  exact b00 s.heap [] hw
def V_X3_begin (z : ZS) (o0 : Nat) (p1 : Nat) (p2 : Int32) (p3 : Int32) (p4 : Int32) (post : ZS → Prop) : Prop := (∀ z1 : ZS, z1 = wG z o0 1 (some p1) → (∀ z2 : ZS, z2 = wI z1 o0 2 p2 → (∀ z3 : ZS, z3 = wI z2 o0 3 p3 → (∀ z4 : ZS, z4 = wI z3 o0 8 p4 → (∀ z5 : ZS, z5 = wI z4 o0 4 (zI z4 1 4) → (∀ z6 : ZS, z6 = wI z5 o0 6 (zI z5 1 2) → (p1 ∈ zP z6 ∧ (∀ z7 : ZS, z7 = wI z6 o0 7 (zF z6 p1 2) → (∀ z8 : ZS, z8 = wI z7 o0 5 (0 : Int32) → (∀ z9 : ZS, z9 = wI z8 o0 9 (0 : Int32) → post z9))))))))))
set_option maxHeartbeats 4000000 in
set_option maxRecDepth 100000 in
theorem c_X3_begin (l : Launch) (D : va_G) (ad : Nat → Nat → Nat) (cs : Nat → ClassId) (sk : (Nat → Nat) × (Nat → Nat)) (z : ZS) (o0 : Nat) (p1 : Nat) (p2 : Int32) (p3 : Int32) (p4 : Int32) (post : ZS → Prop) (ho0 : isL o0) (h : V_X3_begin z o0 p1 p2 p3 p4 post) : MV l D ad cs sk yX3_begin cX3_begin 5 (rmq 0 0 0) [.ref (ad o0 100), .ref p1, .int p2, .int p3, .int p4] z post := by
  refine MV.of RX3 rfl (by decide) (Nat.le_of_ble_eq_true rfl) ?_
  intro p e s m args below meth c A Q E hw hA hret ls hl
  have hx := E.1.1
  have hb := E.1.2.1
  have hml := E.1.2.2.1
  have hown := E.1.2.2.2.1
  have h0 := E.1.2.2.2.2
  have hl : lv_has ls 5 [(0, .ref (ad o0 100)), (1, .ref p1), (2, .int p2), (3, .int p3), (4, .int p4)] := hl
  unfold V_X3_begin at h
  have b00 : ∀ (H : Heap) (locs : List Loc), OW D ad cs A s.heap z H locs → W p l e (rmq 0 0 0) s m args below meth c H locs 0 0 Q (F0 m 0 ls []) := by
    intro H locs hw
    refine lv_aload_n hx hb dX3_begin_0 rfl (lv_at hl 0 rfl) ?_
    refine lv_aload_n hx hb dX3_begin_1 rfl (lv_at hl 1 rfl) ?_
    refine xpG E hw (c1 := 3) (r := (some p1)) (ciisL ho0) (kyisL_100 ho0) fp_3_1 qf_3_14 dX3_begin_2 (fun z1 ez1 H locs hw => ?_)
    replace h := h z1 ez1
    refine lv_aload_n hx hb dX3_begin_5 rfl (lv_at hl 0 rfl) ?_
    refine lv_iload_n hx hb dX3_begin_6 rfl (lv_at hl 2 rfl) ?_
    refine xpI E hw (c1 := 3) (ciisL ho0) (kyisL_100 ho0) fp_3_2 rfl rfl qf_3_20 dX3_begin_7 (fun z2 ez2 H locs hw => ?_)
    replace h := h z2 ez2
    refine lv_aload_n hx hb dX3_begin_10 rfl (lv_at hl 0 rfl) ?_
    refine lv_iload_n hx hb dX3_begin_11 rfl (lv_at hl 3 rfl) ?_
    refine xpI E hw (c1 := 3) (ciisL ho0) (kyisL_100 ho0) fp_3_3 rfl rfl qf_3_24 dX3_begin_12 (fun z3 ez3 H locs hw => ?_)
    replace h := h z3 ez3
    refine lv_aload_n hx hb dX3_begin_15 rfl (lv_at hl 0 rfl) ?_
    refine lv_iload hx hb dX3_begin_16 (lv_at hl 4 rfl) ?_
    refine xpI E hw (c1 := 3) (ciisL ho0) (kyisL_100 ho0) fp_3_8 rfl rfl qf_3_39 dX3_begin_18 (fun z4 ez4 H locs hw => ?_)
    replace h := h z4 ez4
    refine lv_aload_n hx hb dX3_begin_21 rfl (lv_at hl 0 rfl) ?_
    refine lv_aload_n hx hb dX3_begin_22 rfl (lv_at hl 0 rfl) ?_
    refine xgC E hw (c1 := 3) (t := (1, 100)) (ciisL ho0) (kyisL_100 ho0) fo_3_0 rfl qf_3_52 dX3_begin_23 ?_
    refine xgI E hw (c1 := 0) rfl ky_1_100 fo_0_4 qf_3_65 dX3_begin_26 ?_
    refine xpI E hw (c1 := 3) (ciisL ho0) (kyisL_100 ho0) fp_3_4 rfl rfl qf_3_27 dX3_begin_29 (fun z5 ez5 H locs hw => ?_)
    replace h := h z5 ez5
    refine lv_aload_n hx hb dX3_begin_32 rfl (lv_at hl 0 rfl) ?_
    refine lv_aload_n hx hb dX3_begin_33 rfl (lv_at hl 0 rfl) ?_
    refine xgC E hw (c1 := 3) (t := (1, 100)) (ciisL ho0) (kyisL_100 ho0) fo_3_0 rfl qf_3_52 dX3_begin_34 ?_
    refine xgI E hw (c1 := 0) rfl ky_1_100 fo_0_2 qf_3_70 dX3_begin_37 ?_
    refine xpI E hw (c1 := 3) (ciisL ho0) (kyisL_100 ho0) fp_3_6 rfl rfl qf_3_33 dX3_begin_40 (fun z6 ez6 H locs hw => ?_)
    replace h := h z6 ez6
    refine lv_aload_n hx hb dX3_begin_43 rfl (lv_at hl 0 rfl) ?_
    refine lv_aload_n hx hb dX3_begin_44 rfl (lv_at hl 1 rfl) ?_
    obtain ⟨hm, h⟩ := h
    refine xgF E hw hm (k := 2) (ref := "TenYards$Faller") (by decide) qf_3_71 (Or.inl rfl) dX3_begin_45 ?_
    refine xpI E hw (c1 := 3) (ciisL ho0) (kyisL_100 ho0) fp_3_7 rfl rfl qf_3_36 dX3_begin_48 (fun z7 ez7 H locs hw => ?_)
    replace h := h z7 ez7
    refine lv_aload_n hx hb dX3_begin_51 rfl (lv_at hl 0 rfl) ?_
    refine lv_iconst (v := 0) hx hb dX3_begin_52 (by decide) ?_
    refine xpI E hw (c1 := 3) (ciisL ho0) (kyisL_100 ho0) fp_3_5 rfl rfl qf_3_30 dX3_begin_53 (fun z8 ez8 H locs hw => ?_)
    replace h := h z8 ez8
    refine lv_aload_n hx hb dX3_begin_56 rfl (lv_at hl 0 rfl) ?_
    refine lv_iconst (v := 0) hx hb dX3_begin_57 (by decide) ?_
    refine xpI E hw (c1 := 3) (ciisL ho0) (kyisL_100 ho0) fp_3_9 rfl rfl qf_3_42 dX3_begin_58 (fun z9 ez9 H locs hw => ?_)
    replace h := h z9 ez9
    exact hret z9 H locs 61 ls hw h dX3_begin_61
  exact b00 s.heap [] hw
def V_X3_holdWay (z : ZS) (o0 : Nat) (p1 : Int32) (p2 : Int32) (post : ZS → Prop) : Prop := (∀ z1 : ZS, z1 = wI z o0 9 (1 : Int32) → (∀ z2 : ZS, z2 = wI z1 o0 10 p1 → (∀ z3 : ZS, z3 = wI z2 o0 11 p2 → post z3)))
set_option maxHeartbeats 4000000 in
set_option maxRecDepth 100000 in
theorem c_X3_holdWay (l : Launch) (D : va_G) (ad : Nat → Nat → Nat) (cs : Nat → ClassId) (sk : (Nat → Nat) × (Nat → Nat)) (z : ZS) (o0 : Nat) (p1 : Int32) (p2 : Int32) (post : ZS → Prop) (ho0 : isL o0) (h : V_X3_holdWay z o0 p1 p2 post) : MV l D ad cs sk yX3_holdWay cX3_holdWay 3 (rmq 0 0 0) [.ref (ad o0 100), .int p1, .int p2] z post := by
  refine MV.of RX3 rfl (by decide) (Nat.le_of_ble_eq_true rfl) ?_
  intro p e s m args below meth c A Q E hw hA hret ls hl
  have hx := E.1.1
  have hb := E.1.2.1
  have hml := E.1.2.2.1
  have hown := E.1.2.2.2.1
  have h0 := E.1.2.2.2.2
  have hl : lv_has ls 3 [(0, .ref (ad o0 100)), (1, .int p1), (2, .int p2)] := hl
  unfold V_X3_holdWay at h
  have b00 : ∀ (H : Heap) (locs : List Loc), OW D ad cs A s.heap z H locs → W p l e (rmq 0 0 0) s m args below meth c H locs 0 0 Q (F0 m 0 ls []) := by
    intro H locs hw
    refine lv_aload_n hx hb dX3_holdWay_0 rfl (lv_at hl 0 rfl) ?_
    refine lv_iconst (v := 1) hx hb dX3_holdWay_1 (by decide) ?_
    refine xpI E hw (c1 := 3) (ciisL ho0) (kyisL_100 ho0) fp_3_9 rfl rfl qf_3_42 dX3_holdWay_2 (fun z1 ez1 H locs hw => ?_)
    replace h := h z1 ez1
    refine lv_aload_n hx hb dX3_holdWay_5 rfl (lv_at hl 0 rfl) ?_
    refine lv_iload_n hx hb dX3_holdWay_6 rfl (lv_at hl 1 rfl) ?_
    refine xpI E hw (c1 := 3) (ciisL ho0) (kyisL_100 ho0) fp_3_10 rfl rfl qf_3_46 dX3_holdWay_7 (fun z2 ez2 H locs hw => ?_)
    replace h := h z2 ez2
    refine lv_aload_n hx hb dX3_holdWay_10 rfl (lv_at hl 0 rfl) ?_
    refine lv_iload_n hx hb dX3_holdWay_11 rfl (lv_at hl 2 rfl) ?_
    refine xpI E hw (c1 := 3) (ciisL ho0) (kyisL_100 ho0) fp_3_11 rfl rfl qf_3_49 dX3_holdWay_12 (fun z3 ez3 H locs hw => ?_)
    replace h := h z3 ez3
    exact hret z3 H locs 15 ls hw h dX3_holdWay_15
  exact b00 s.heap [] hw
def V_X3_openAt (z : ZS) (o0 : Nat) (p1 : Int32) (post : ZS → Prop) : Prop := (∀ z1 : ZS, z1 = wI z o0 4 p1 → (∀ z2 : ZS, z2 = wI z1 o0 7 (0 : Int32) → post z2))
set_option maxHeartbeats 4000000 in
set_option maxRecDepth 100000 in
theorem c_X3_openAt (l : Launch) (D : va_G) (ad : Nat → Nat → Nat) (cs : Nat → ClassId) (sk : (Nat → Nat) × (Nat → Nat)) (z : ZS) (o0 : Nat) (p1 : Int32) (post : ZS → Prop) (ho0 : isL o0) (h : V_X3_openAt z o0 p1 post) : MV l D ad cs sk yX3_openAt cX3_openAt 2 (rmq 0 0 0) [.ref (ad o0 100), .int p1] z post := by
  refine MV.of RX3 rfl (by decide) (Nat.le_of_ble_eq_true rfl) ?_
  intro p e s m args below meth c A Q E hw hA hret ls hl
  have hx := E.1.1
  have hb := E.1.2.1
  have hml := E.1.2.2.1
  have hown := E.1.2.2.2.1
  have h0 := E.1.2.2.2.2
  have hl : lv_has ls 2 [(0, .ref (ad o0 100)), (1, .int p1)] := hl
  unfold V_X3_openAt at h
  have b00 : ∀ (H : Heap) (locs : List Loc), OW D ad cs A s.heap z H locs → W p l e (rmq 0 0 0) s m args below meth c H locs 0 0 Q (F0 m 0 ls []) := by
    intro H locs hw
    refine lv_aload_n hx hb dX3_openAt_0 rfl (lv_at hl 0 rfl) ?_
    refine lv_iload_n hx hb dX3_openAt_1 rfl (lv_at hl 1 rfl) ?_
    refine xpI E hw (c1 := 3) (ciisL ho0) (kyisL_100 ho0) fp_3_4 rfl rfl qf_3_27 dX3_openAt_2 (fun z1 ez1 H locs hw => ?_)
    replace h := h z1 ez1
    refine lv_aload_n hx hb dX3_openAt_5 rfl (lv_at hl 0 rfl) ?_
    refine lv_iconst (v := 0) hx hb dX3_openAt_6 (by decide) ?_
    refine xpI E hw (c1 := 3) (ciisL ho0) (kyisL_100 ho0) fp_3_7 rfl rfl qf_3_36 dX3_openAt_7 (fun z2 ez2 H locs hw => ?_)
    replace h := h z2 ez2
    exact hret z2 H locs 10 ls hw h dX3_openAt_10
  exact b00 s.heap [] hw
def V_X3_hasLanded (z : ZS) (o0 : Nat) (post : Int32 → ZS → Prop) : Prop := ((0 < (zI z o0 4) → post (0 : Int32) z) ∧ (¬ 0 < (zI z o0 4) → post (1 : Int32) z))
set_option maxHeartbeats 4000000 in
set_option maxRecDepth 100000 in
theorem c_X3_hasLanded (l : Launch) (D : va_G) (ad : Nat → Nat → Nat) (cs : Nat → ClassId) (sk : (Nat → Nat) × (Nat → Nat)) (z : ZS) (o0 : Nat) (post : Int32 → ZS → Prop) (ho0 : isL o0) (h : V_X3_hasLanded z o0 post) : MI l D ad cs sk yX3_hasLanded cX3_hasLanded 1 .boolean (rmq 0 0 0) [.ref (ad o0 100)] z post := by
  refine MI.of RX3 rfl (by decide) (Nat.le_of_ble_eq_true rfl) ?_
  intro p e s m args below meth c A Q E hw hA hret ls hl
  have hx := E.1.1
  have hb := E.1.2.1
  have hml := E.1.2.2.1
  have hown := E.1.2.2.2.1
  have h0 := E.1.2.2.2.2
  have hl : lv_has ls 1 [(0, .ref (ad o0 100))] := hl
  unfold V_X3_hasLanded at h
  have b00 : ∀ (H : Heap) (locs : List Loc), OW D ad cs A s.heap z H locs → W p l e (rmq 0 0 0) s m args below meth c H locs 0 0 Q (F0 m 0 ls []) := by
    intro H locs hw
    refine lv_aload_n hx hb dX3_hasLanded_0 rfl (lv_at hl 0 rfl) ?_
    refine xgI E hw (c1 := 3) (ciisL ho0) (kyisL_100 ho0) fo_3_4 qf_3_27 dX3_hasLanded_1 ?_
    refine lv_if_gt (tgt := 11) hx hb dX3_hasLanded_4 (by decide) (fun c1 => ?_) (fun c1 => ?_)
    · replace h := h.1 c1
      refine lv_iconst (v := 0) hx hb dX3_hasLanded_11 (by decide) ?_
      exact hret (0 : Int32) z H locs 12 ls hw rfl h dX3_hasLanded_12
    · replace h := h.2 c1
      refine lv_iconst (v := 1) hx hb dX3_hasLanded_7 (by decide) ?_
      refine lv_goto (tgt := 12) hx hb dX3_hasLanded_8 (by decide) ?_
      exact hret (1 : Int32) z H locs 12 ls hw rfl h dX3_hasLanded_12
  exact b00 s.heap [] hw
def V_X4_driftOf (z : ZS) (a0 : Nat) (p1 : Int32) (post : Int32 → ZS → Prop) : Prop := post p1 z
set_option maxHeartbeats 4000000 in
set_option maxRecDepth 100000 in
theorem c_X4_driftOf (l : Launch) (D : va_G) (ad : Nat → Nat → Nat) (cs : Nat → ClassId) (sk : (Nat → Nat) × (Nat → Nat)) (z : ZS) (a0 : Nat) (p1 : Int32) (post : Int32 → ZS → Prop) (h : V_X4_driftOf z a0 p1 post) : MI l D ad cs sk yX4_driftOf cX4_driftOf 2 .int (rmq 0 0 0) [.ref a0, .int p1] z post := by
  refine MI.of RX4 rfl (by decide) (Nat.le_of_ble_eq_true rfl) ?_
  intro p e s m args below meth c A Q E hw hA hret ls hl
  have hx := E.1.1
  have hb := E.1.2.1
  have hml := E.1.2.2.1
  have hown := E.1.2.2.2.1
  have h0 := E.1.2.2.2.2
  have hl : lv_has ls 2 [(0, .ref a0), (1, .int p1)] := hl
  unfold V_X4_driftOf at h
  have b00 : ∀ (H : Heap) (locs : List Loc), OW D ad cs A s.heap z H locs → W p l e (rmq 0 0 0) s m args below meth c H locs 0 0 Q (F0 m 0 ls []) := by
    intro H locs hw
    refine lv_iload_n hx hb dX4_driftOf_0 rfl (lv_at hl 1 rfl) ?_
    exact hret p1 z H locs 1 ls hw rfl h dX4_driftOf_1
  exact b00 s.heap [] hw
def V_X5_driftOf (z : ZS) (a0 : Nat) (p1 : Int32) (post : Int32 → ZS → Prop) : Prop := (a0 ∈ zP z ∧ V_X4_driftOf z a0 p1 (fun r1 z2 => post ((r1 * (4 : Int32)) / (5 : Int32)) z2))
set_option maxHeartbeats 4000000 in
set_option maxRecDepth 100000 in
theorem c_X5_driftOf (l : Launch) (D : va_G) (ad : Nat → Nat → Nat) (cs : Nat → ClassId) (sk : (Nat → Nat) × (Nat → Nat)) (z : ZS) (a0 : Nat) (p1 : Int32) (post : Int32 → ZS → Prop) (h : V_X5_driftOf z a0 p1 post) : MI l D ad cs sk yX5_driftOf cX5_driftOf 2 .int (rmq 1 0 0) [.ref a0, .int p1] z post := by
  refine MI.of RX5 rfl (by decide) (Nat.le_of_ble_eq_true rfl) ?_
  intro p e s m args below meth c A Q E hw hA hret ls hl
  have hx := E.1.1
  have hb := E.1.2.1
  have hml := E.1.2.2.1
  have hown := E.1.2.2.2.1
  have h0 := E.1.2.2.2.2
  have hl : lv_has ls 2 [(0, .ref a0), (1, .int p1)] := hl
  unfold V_X5_driftOf at h
  have b00 : ∀ (H : Heap) (locs : List Loc), OW D ad cs A s.heap z H locs → W p l e (rmq 1 0 0) s m args below meth c H locs 0 0 Q (F0 m 0 ls []) := by
    intro H locs hw
    refine lv_aload_n hx hb dX5_driftOf_0 rfl (lv_at hl 0 rfl) ?_
    refine lv_iload_n hx hb dX5_driftOf_1 rfl (lv_at hl 1 rfl) ?_
    obtain ⟨hm, hq⟩ := h
    refine xcPI (As := [.int p1]) (rest := []) E hw hA (c_X4_driftOf l D ad cs sk z a0 p1 _ hq) hm kp_5_25 yp_X4_driftOf ⟨Nat.le_of_ble_eq_true rfl, Nat.le_of_ble_eq_true rfl⟩ rfl hl.1 rfl (Nat.le_of_ble_eq_true rfl) dX5_driftOf_2 ⟨Nat.le_of_ble_eq_true rfl, Nat.le_of_ble_eq_true rfl⟩ (fun r1 z2 H locs h hw => ?_)
    refine lv_iconst (v := 4) hx hb dX5_driftOf_5 (by decide) ?_
    refine lv_imul hx hb dX5_driftOf_6 ?_
    refine lv_iconst (v := 5) hx hb dX5_driftOf_7 (by decide) ?_
    refine lv_idiv hx hb dX5_driftOf_8 (by decide) ?_
    exact hret ((r1 * (4 : Int32)) / (5 : Int32)) z2 H locs 9 ls hw rfl h dX5_driftOf_9
  exact b00 s.heap [] hw
def V_X10_driftOf (z : ZS) (a0 : Nat) (p1 : Int32) (post : Int32 → ZS → Prop) : Prop := (a0 ∈ zP z ∧ V_X5_driftOf z a0 p1 (fun r1 z2 => post (r1 / (2 : Int32)) z2))
set_option maxHeartbeats 4000000 in
set_option maxRecDepth 100000 in
theorem c_X10_driftOf (l : Launch) (D : va_G) (ad : Nat → Nat → Nat) (cs : Nat → ClassId) (sk : (Nat → Nat) × (Nat → Nat)) (z : ZS) (a0 : Nat) (p1 : Int32) (post : Int32 → ZS → Prop) (h : V_X10_driftOf z a0 p1 post) : MI l D ad cs sk yX10_driftOf cX10_driftOf 2 .int (rmq 2 0 0) [.ref a0, .int p1] z post := by
  refine MI.of RX10 rfl (by decide) (Nat.le_of_ble_eq_true rfl) ?_
  intro p e s m args below meth c A Q E hw hA hret ls hl
  have hx := E.1.1
  have hb := E.1.2.1
  have hml := E.1.2.2.1
  have hown := E.1.2.2.2.1
  have h0 := E.1.2.2.2.2
  have hl : lv_has ls 2 [(0, .ref a0), (1, .int p1)] := hl
  unfold V_X10_driftOf at h
  have b00 : ∀ (H : Heap) (locs : List Loc), OW D ad cs A s.heap z H locs → W p l e (rmq 2 0 0) s m args below meth c H locs 0 0 Q (F0 m 0 ls []) := by
    intro H locs hw
    refine lv_aload_n hx hb dX10_driftOf_0 rfl (lv_at hl 0 rfl) ?_
    refine lv_iload_n hx hb dX10_driftOf_1 rfl (lv_at hl 1 rfl) ?_
    obtain ⟨hm, hq⟩ := h
    refine xcPI (As := [.int p1]) (rest := []) E hw hA (c_X5_driftOf l D ad cs sk z a0 p1 _ hq) hm kp_10_22 yp_X5_driftOf ⟨Nat.le_of_ble_eq_true rfl, Nat.le_of_ble_eq_true rfl⟩ rfl hl.1 rfl (Nat.le_of_ble_eq_true rfl) dX10_driftOf_2 ⟨Nat.le_of_ble_eq_true rfl, Nat.le_of_ble_eq_true rfl⟩ (fun r1 z2 H locs h hw => ?_)
    refine lv_iconst (v := 2) hx hb dX10_driftOf_5 (by decide) ?_
    refine lv_idiv hx hb dX10_driftOf_6 (by decide) ?_
    exact hret (r1 / (2 : Int32)) z2 H locs 7 ls hw rfl h dX10_driftOf_7
  exact b00 s.heap [] hw
def V_X7_driftOf (z : ZS) (a0 : Nat) (p1 : Int32) (post : Int32 → ZS → Prop) : Prop := (a0 ∈ zP z ∧ V_X4_driftOf z a0 p1 (fun r1 z2 => post ((r1 * (5 : Int32)) / (4 : Int32)) z2))
set_option maxHeartbeats 4000000 in
set_option maxRecDepth 100000 in
theorem c_X7_driftOf (l : Launch) (D : va_G) (ad : Nat → Nat → Nat) (cs : Nat → ClassId) (sk : (Nat → Nat) × (Nat → Nat)) (z : ZS) (a0 : Nat) (p1 : Int32) (post : Int32 → ZS → Prop) (h : V_X7_driftOf z a0 p1 post) : MI l D ad cs sk yX7_driftOf cX7_driftOf 2 .int (rmq 1 0 0) [.ref a0, .int p1] z post := by
  refine MI.of RX7 rfl (by decide) (Nat.le_of_ble_eq_true rfl) ?_
  intro p e s m args below meth c A Q E hw hA hret ls hl
  have hx := E.1.1
  have hb := E.1.2.1
  have hml := E.1.2.2.1
  have hown := E.1.2.2.2.1
  have h0 := E.1.2.2.2.2
  have hl : lv_has ls 2 [(0, .ref a0), (1, .int p1)] := hl
  unfold V_X7_driftOf at h
  have b00 : ∀ (H : Heap) (locs : List Loc), OW D ad cs A s.heap z H locs → W p l e (rmq 1 0 0) s m args below meth c H locs 0 0 Q (F0 m 0 ls []) := by
    intro H locs hw
    refine lv_aload_n hx hb dX7_driftOf_0 rfl (lv_at hl 0 rfl) ?_
    refine lv_iload_n hx hb dX7_driftOf_1 rfl (lv_at hl 1 rfl) ?_
    obtain ⟨hm, hq⟩ := h
    refine xcPI (As := [.int p1]) (rest := []) E hw hA (c_X4_driftOf l D ad cs sk z a0 p1 _ hq) hm kp_7_25 yp_X4_driftOf ⟨Nat.le_of_ble_eq_true rfl, Nat.le_of_ble_eq_true rfl⟩ rfl hl.1 rfl (Nat.le_of_ble_eq_true rfl) dX7_driftOf_2 ⟨Nat.le_of_ble_eq_true rfl, Nat.le_of_ble_eq_true rfl⟩ (fun r1 z2 H locs h hw => ?_)
    refine lv_iconst (v := 5) hx hb dX7_driftOf_5 (by decide) ?_
    refine lv_imul hx hb dX7_driftOf_6 ?_
    refine lv_iconst (v := 4) hx hb dX7_driftOf_7 (by decide) ?_
    refine lv_idiv hx hb dX7_driftOf_8 (by decide) ?_
    exact hret ((r1 * (5 : Int32)) / (4 : Int32)) z2 H locs 9 ls hw rfl h dX7_driftOf_9
  exact b00 s.heap [] hw
def Vd_driftOf (z : ZS) (a : Nat) (p1 : Int32) (post : Int32 → ZS → Prop) : Prop := match zK z a with
  | 2 => V_X7_driftOf z a p1 post
  | 3 => V_X5_driftOf z a p1 post
  | 7 => V_X10_driftOf z a p1 post
  | _ => V_X4_driftOf z a p1 post
theorem dv_3_108 {p : Program} {l : Launch} {e : Env} {R : Room} {s : State} {m : MethodId} {args : Array Value} {below : List Frame} {meth : Method} {c : Code} {H : Heap} {locs : List Loc} {cells slots : Nat} {Q : State → Prop} {cc : ByteArray} {nL pc : Nat} {ls : Array Slot} {rest : List Value} {D : va_G} {ad : Nat → Nat → Nat} {cs : Nat → ClassId} {A : Nat → Prop} {sk : (Nat → Nat) × (Nat → Nat)} {z : ZS} (E : EN p m c cc nL s args RX3 D cs A sk) (hw : OW D ad cs A s.heap z H locs) (hA : ∀ q, s.heap.size ≤ q → A q) {a : Nat} {p1 : Int32} {post : Int32 → ZS → Prop} (ha : a ∈ zP z) (h : Vd_driftOf z a p1 post) (hR : 2 + 1 ≤ R.frames ∧ 40 * (2 + 1) ≤ R.locals) (hsz : ls.size = nL) (h8 : (rest.map fun v => v.category).sum ≤ 8) (hdg : decode cc pc = .ok (.invokevirtual 108, 3)) (hf : cells ≤ R.cells ∧ slots ≤ R.slots) (kk : ∀ (r : Int32) (z1 : ZS) (H1 : Heap) (locs1 : List Loc), post r z1 → OW D ad cs A s.heap z1 H1 locs1 → W p l e R s m args below meth c H1 locs1 cells slots Q (F0 m (pc + 3) ls (.int r :: rest))) : W p l e R s m args below meth c H locs cells slots Q (F0 m pc ls (.int p1 :: .ref a :: rest)) := by
  obtain ⟨k, hk⟩ : ∃ k, zK z a = k := ⟨_, rfl⟩
  unfold Vd_driftOf at h
  rw [hk] at h
  match k, hk, h with
  | 0, hk, h => exact xcVI (As := [.int p1]) (rest := rest) E hw hA (c_X4_driftOf l D ad cs sk z a p1 _ h) kc_3_108 yo_X4_driftOf ⟨by simp only [rmq]; omega, by simp only [rmq]; omega⟩ (xrF E hw ha hk (C := RX4) (T := TX4) (n := 8) rfl) rfl hsz rfl h8 hdg hf kk
  | 1, hk, h => exact xcUI (As := [.int p1]) (rest := rest) E hw hA (c_X4_driftOf l D ad cs sk z a p1 _ h) (xwU E ku_3_108_8 (Or.inl rfl) xo_X4_driftOf ⟨by simp only [rmq]; omega, by simp only [rmq]; omega⟩) (xrF E hw ha hk (C := RX8) (T := TX8) (n := 8) rfl) rfl hsz rfl h8 hdg hf kk
  | 2, hk, h => exact xcUI (As := [.int p1]) (rest := rest) E hw hA (c_X7_driftOf l D ad cs sk z a p1 _ h) (xwU E ku_3_108_7 (Or.inr ⟨_, _, _, qi_X4_driftOf, qc_X4_driftOf⟩) xo_X4_driftOf ⟨by simp only [rmq]; omega, by simp only [rmq]; omega⟩) (xrF E hw ha hk (C := RX7) (T := TX7) (n := 8) rfl) rfl hsz rfl h8 hdg hf kk
  | 3, hk, h => exact xcUI (As := [.int p1]) (rest := rest) E hw hA (c_X5_driftOf l D ad cs sk z a p1 _ h) (xwU E ku_3_108_5 (Or.inr ⟨_, _, _, qi_X4_driftOf, qc_X4_driftOf⟩) xo_X4_driftOf ⟨by simp only [rmq]; omega, by simp only [rmq]; omega⟩) (xrF E hw ha hk (C := RX5) (T := TX5) (n := 8) rfl) rfl hsz rfl h8 hdg hf kk
  | 4, hk, h => exact xcUI (As := [.int p1]) (rest := rest) E hw hA (c_X4_driftOf l D ad cs sk z a p1 _ h) (xwU E ku_3_108_6 (Or.inl rfl) xo_X4_driftOf ⟨by simp only [rmq]; omega, by simp only [rmq]; omega⟩) (xrF E hw ha hk (C := RX6) (T := TX6) (n := 8) rfl) rfl hsz rfl h8 hdg hf kk
  | 5, hk, h => exact xcUI (As := [.int p1]) (rest := rest) E hw hA (c_X4_driftOf l D ad cs sk z a p1 _ h) (xwU E ku_3_108_1 (Or.inl rfl) xo_X4_driftOf ⟨by simp only [rmq]; omega, by simp only [rmq]; omega⟩) (xrF E hw ha hk (C := RX1) (T := TX1) (n := 8) rfl) rfl hsz rfl h8 hdg hf kk
  | 6, hk, h => exact xcUI (As := [.int p1]) (rest := rest) E hw hA (c_X4_driftOf l D ad cs sk z a p1 _ h) (xwU E ku_3_108_2 (Or.inl rfl) xo_X4_driftOf ⟨by simp only [rmq]; omega, by simp only [rmq]; omega⟩) (xrF E hw ha hk (C := RX2) (T := TX2) (n := 8) rfl) rfl hsz rfl h8 hdg hf kk
  | 7, hk, h => exact xcUI (As := [.int p1]) (rest := rest) E hw hA (c_X10_driftOf l D ad cs sk z a p1 _ h) (xwU E ku_3_108_10 (Or.inr ⟨_, _, _, qi_X4_driftOf, qc_X4_driftOf⟩) xo_X4_driftOf ⟨by simp only [rmq]; omega, by simp only [rmq]; omega⟩) (xrF E hw ha hk (C := RX10) (T := TX10) (n := 8) rfl) rfl hsz rfl h8 hdg hf kk
  | (_ + 8), hk, h => exact xcVI (As := [.int p1]) (rest := rest) E hw hA (c_X4_driftOf l D ad cs sk z a p1 _ h) kc_3_108 yo_X4_driftOf ⟨by simp only [rmq]; omega, by simp only [rmq]; omega⟩ (xrF E hw ha hk (C := RX4) (T := TX4) (n := 8) rfl) rfl hsz rfl h8 hdg hf kk
def V_X3_plunge (z : ZS) (o0 : Nat) (p1 : Int32) (p2 : Int32) (post : ZS → Prop) : Prop := (∃ a1 : Nat, zG z o0 1 = some a1 ∧ (a1 ∈ zP z ∧ Vd_driftOf z a1 p1 (fun r2 z3 => (∀ z4 : ZS, z4 = wI z3 o0 2 ((zI z o0 2) + ((((zI z 1 3) * (if (0 : Int32) < ((10 : Int32) - (zI z o0 5)) then ((10 : Int32) - (zI z o0 5)) else (0 : Int32))) / (10 : Int32)) + (r2 / (2 : Int32)))) → (∃ a5 : Nat, zG z4 o0 1 = some a5 ∧ (a5 ∈ zP z4 ∧ Vd_driftOf z4 a5 p2 (fun r6 z7 => (∀ z8 : ZS, z8 = wI z7 o0 3 ((zI z4 o0 3) + (r6 / (2 : Int32))) → (∃ a9 : Nat, zG z8 o0 1 = some a9 ∧ (a9 ∈ zP z8 ∧ (∀ z10 : ZS, z10 = wI z8 o0 4 ((zI z8 o0 4) - (zF z8 a9 4)) → post z10)))))))))))
set_option maxHeartbeats 4000000 in
set_option maxRecDepth 100000 in
theorem c_X3_plunge (l : Launch) (D : va_G) (ad : Nat → Nat → Nat) (cs : Nat → ClassId) (sk : (Nat → Nat) × (Nat → Nat)) (z : ZS) (o0 : Nat) (p1 : Int32) (p2 : Int32) (post : ZS → Prop) (ho0 : isL o0) (h : V_X3_plunge z o0 p1 p2 post) : MV l D ad cs sk yX3_plunge cX3_plunge 3 (rmq 3 0 0) [.ref (ad o0 100), .int p1, .int p2] z post := by
  refine MV.of RX3 rfl (by decide) (Nat.le_of_ble_eq_true rfl) ?_
  intro p e s m args below meth c A Q E hw hA hret ls hl
  have hx := E.1.1
  have hb := E.1.2.1
  have hml := E.1.2.2.1
  have hown := E.1.2.2.2.1
  have h0 := E.1.2.2.2.2
  have hl : lv_has ls 3 [(0, .ref (ad o0 100)), (1, .int p1), (2, .int p2)] := hl
  unfold V_X3_plunge at h
  have b00 : ∀ (H : Heap) (locs : List Loc), OW D ad cs A s.heap z H locs → W p l e (rmq 3 0 0) s m args below meth c H locs 0 0 Q (F0 m 0 ls []) := by
    intro H locs hw
    refine lv_aload_n hx hb dX3_plunge_0 rfl (lv_at hl 0 rfl) ?_
    refine lv_dup hx hb dX3_plunge_1 rfl ?_
    refine xgI E hw (c1 := 3) (ciisL ho0) (kyisL_100 ho0) fo_3_2 qf_3_20 dX3_plunge_2 ?_
    refine lv_aload_n hx hb dX3_plunge_5 rfl (lv_at hl 0 rfl) ?_
    refine xgC E hw (c1 := 3) (t := (1, 100)) (ciisL ho0) (kyisL_100 ho0) fo_3_0 rfl qf_3_52 dX3_plunge_6 ?_
    refine xgI E hw (c1 := 0) rfl ky_1_100 fo_0_3 qf_3_105 dX3_plunge_9 ?_
    refine lv_iconst (v := 0) hx hb dX3_plunge_12 (by decide) ?_
    refine lv_bipush (v := 10) hx hb dX3_plunge_13 (by decide) ?_
    refine lv_aload_n hx hb dX3_plunge_15 rfl (lv_at hl 0 rfl) ?_
    refine xgI E hw (c1 := 3) (ciisL ho0) (kyisL_100 ho0) fo_3_5 qf_3_30 dX3_plunge_16 ?_
    refine lv_isub hx hb dX3_plunge_19 ?_
    refine va_mmax hx hb (hml.trans hl.1.symm) hown (h0 _ qm_3_62) (h0 _ qs_ib_Math_max_name) (h0 _ qn_Math) (h0 _ qc_Math_max) (Nat.le_of_ble_eq_true rfl) (Nat.le_of_ble_eq_true rfl) (Nat.le_of_ble_eq_true rfl) (Nat.le_of_ble_eq_true rfl) dX3_plunge_20 ?_
    refine lv_imul hx hb dX3_plunge_23 ?_
    refine lv_bipush (v := 10) hx hb dX3_plunge_24 (by decide) ?_
    refine lv_idiv hx hb dX3_plunge_26 (by decide) ?_
    refine lv_aload_n hx hb dX3_plunge_27 rfl (lv_at hl 0 rfl) ?_
    obtain ⟨a1, ea1, h⟩ := h
    refine xgS E hw (c1 := 3) (ciisL ho0) (kyisL_100 ho0) fo_3_1 ea1 qf_3_14 dX3_plunge_28 ?_
    refine lv_iload_n hx hb dX3_plunge_31 rfl (lv_at hl 1 rfl) ?_
    obtain ⟨hm, hq⟩ := h
    refine dv_3_108 (rest := [.int (((zI z 1 3) * (if (0 : Int32) < ((10 : Int32) - (zI z o0 5)) then ((10 : Int32) - (zI z o0 5)) else (0 : Int32))) / (10 : Int32)), .int (zI z o0 2), .ref (ad o0 100)]) E hw hA hm hq ⟨Nat.le_of_ble_eq_true rfl, Nat.le_of_ble_eq_true rfl⟩ hl.1 (Nat.le_of_ble_eq_true rfl) dX3_plunge_32 ⟨Nat.le_of_ble_eq_true rfl, Nat.le_of_ble_eq_true rfl⟩ (fun r2 z3 H locs h hw => ?_)
    refine lv_iconst (v := 2) hx hb dX3_plunge_35 (by decide) ?_
    refine lv_idiv hx hb dX3_plunge_36 (by decide) ?_
    refine lv_iadd hx hb dX3_plunge_37 ?_
    refine lv_iadd hx hb dX3_plunge_38 ?_
    refine xpI E hw (c1 := 3) (ciisL ho0) (kyisL_100 ho0) fp_3_2 rfl rfl qf_3_20 dX3_plunge_39 (fun z4 ez4 H locs hw => ?_)
    replace h := h z4 ez4
    refine lv_aload_n hx hb dX3_plunge_42 rfl (lv_at hl 0 rfl) ?_
    refine lv_dup hx hb dX3_plunge_43 rfl ?_
    refine xgI E hw (c1 := 3) (ciisL ho0) (kyisL_100 ho0) fo_3_3 qf_3_24 dX3_plunge_44 ?_
    refine lv_aload_n hx hb dX3_plunge_47 rfl (lv_at hl 0 rfl) ?_
    obtain ⟨a5, ea5, h⟩ := h
    refine xgS E hw (c1 := 3) (ciisL ho0) (kyisL_100 ho0) fo_3_1 ea5 qf_3_14 dX3_plunge_48 ?_
    refine lv_iload_n hx hb dX3_plunge_51 rfl (lv_at hl 2 rfl) ?_
    obtain ⟨hm, hq⟩ := h
    refine dv_3_108 (rest := [.int (zI z4 o0 3), .ref (ad o0 100)]) E hw hA hm hq ⟨Nat.le_of_ble_eq_true rfl, Nat.le_of_ble_eq_true rfl⟩ hl.1 (Nat.le_of_ble_eq_true rfl) dX3_plunge_52 ⟨Nat.le_of_ble_eq_true rfl, Nat.le_of_ble_eq_true rfl⟩ (fun r6 z7 H locs h hw => ?_)
    refine lv_iconst (v := 2) hx hb dX3_plunge_55 (by decide) ?_
    refine lv_idiv hx hb dX3_plunge_56 (by decide) ?_
    refine lv_iadd hx hb dX3_plunge_57 ?_
    refine xpI E hw (c1 := 3) (ciisL ho0) (kyisL_100 ho0) fp_3_3 rfl rfl qf_3_24 dX3_plunge_58 (fun z8 ez8 H locs hw => ?_)
    replace h := h z8 ez8
    refine lv_aload_n hx hb dX3_plunge_61 rfl (lv_at hl 0 rfl) ?_
    refine lv_dup hx hb dX3_plunge_62 rfl ?_
    refine xgI E hw (c1 := 3) (ciisL ho0) (kyisL_100 ho0) fo_3_4 qf_3_27 dX3_plunge_63 ?_
    refine lv_aload_n hx hb dX3_plunge_66 rfl (lv_at hl 0 rfl) ?_
    obtain ⟨a9, ea9, h⟩ := h
    refine xgS E hw (c1 := 3) (ciisL ho0) (kyisL_100 ho0) fo_3_1 ea9 qf_3_14 dX3_plunge_67 ?_
    obtain ⟨hm, h⟩ := h
    refine xgF E hw hm (k := 4) (ref := "TenYards$Faller") (by decide) qf_3_111 (Or.inl rfl) dX3_plunge_70 ?_
    refine lv_isub hx hb dX3_plunge_73 ?_
    refine xpI E hw (c1 := 3) (ciisL ho0) (kyisL_100 ho0) fp_3_4 rfl rfl qf_3_27 dX3_plunge_74 (fun z10 ez10 H locs hw => ?_)
    replace h := h z10 ez10
    exact hret z10 H locs 77 ls hw h dX3_plunge_77
  exact b00 s.heap [] hw
def V_X3_puff (z : ZS) (o0 : Nat) (post : Int32 → ZS → Prop) : Prop := ((0 < (zI z o0 6) → (∀ z2 : ZS, z2 = wI z o0 8 (((zI z o0 8) * (1103515245 : Int32)) + (12345 : Int32)) → (¬ (((2 : Int32) * (zI z2 o0 6)) + (1 : Int32)) = 0 ∧ post (((((zI z2 o0 8) &&& (2147483647 : Int32)) / (65536 : Int32)) - (((zI z2 o0 8) &&& (2147483647 : Int32)) / (65536 : Int32)) / (((2 : Int32) * (zI z2 o0 6)) + (1 : Int32)) * (((2 : Int32) * (zI z2 o0 6)) + (1 : Int32))) - (zI z2 o0 6)) z2))) ∧ (¬ 0 < (zI z o0 6) → post (0 : Int32) z))
set_option maxHeartbeats 4000000 in
set_option maxRecDepth 100000 in
theorem c_X3_puff (l : Launch) (D : va_G) (ad : Nat → Nat → Nat) (cs : Nat → ClassId) (sk : (Nat → Nat) × (Nat → Nat)) (z : ZS) (o0 : Nat) (post : Int32 → ZS → Prop) (ho0 : isL o0) (h : V_X3_puff z o0 post) : MI l D ad cs sk yX3_puff cX3_puff 1 .int (rmq 0 0 0) [.ref (ad o0 100)] z post := by
  refine MI.of RX3 rfl (by decide) (Nat.le_of_ble_eq_true rfl) ?_
  intro p e s m args below meth c A Q E hw hA hret ls hl
  have hx := E.1.1
  have hb := E.1.2.1
  have hml := E.1.2.2.1
  have hown := E.1.2.2.2.1
  have h0 := E.1.2.2.2.2
  have hl : lv_has ls 1 [(0, .ref (ad o0 100))] := hl
  unfold V_X3_puff at h
  have b00 : ∀ (H : Heap) (locs : List Loc), OW D ad cs A s.heap z H locs → W p l e (rmq 0 0 0) s m args below meth c H locs 0 0 Q (F0 m 0 ls []) := by
    intro H locs hw
    refine lv_aload_n hx hb dX3_puff_0 rfl (lv_at hl 0 rfl) ?_
    refine xgI E hw (c1 := 3) (ciisL ho0) (kyisL_100 ho0) fo_3_6 qf_3_33 dX3_puff_1 ?_
    refine lv_if_gt (tgt := 9) hx hb dX3_puff_4 (by decide) (fun c1 => ?_) (fun c1 => ?_)
    · replace h := h.1 c1
      refine lv_aload_n hx hb dX3_puff_9 rfl (lv_at hl 0 rfl) ?_
      refine lv_aload_n hx hb dX3_puff_10 rfl (lv_at hl 0 rfl) ?_
      refine xgI E hw (c1 := 3) (ciisL ho0) (kyisL_100 ho0) fo_3_8 qf_3_39 dX3_puff_11 ?_
      refine lv_ldc (v := 1103515245) hx hb hown (h0 _ qk_3_124) dX3_puff_14 ?_
      refine lv_imul hx hb dX3_puff_16 ?_
      refine lv_sipush (v := 12345) hx hb dX3_puff_17 (by decide) ?_
      refine lv_iadd hx hb dX3_puff_20 ?_
      refine xpI E hw (c1 := 3) (ciisL ho0) (kyisL_100 ho0) fp_3_8 rfl rfl qf_3_39 dX3_puff_21 (fun z2 ez2 H locs hw => ?_)
      replace h := h z2 ez2
      refine lv_aload_n hx hb dX3_puff_24 rfl (lv_at hl 0 rfl) ?_
      refine xgI E hw (c1 := 3) (ciisL ho0) (kyisL_100 ho0) fo_3_8 qf_3_39 dX3_puff_25 ?_
      refine lv_ldc (v := 2147483647) hx hb hown (h0 _ qk_3_127) dX3_puff_28 ?_
      refine lv_iand hx hb dX3_puff_30 ?_
      refine lv_ldc (v := 65536) hx hb hown (h0 _ qk_3_128) dX3_puff_31 ?_
      refine lv_idiv hx hb dX3_puff_33 (by decide) ?_
      refine lv_iconst (v := 2) hx hb dX3_puff_34 (by decide) ?_
      refine lv_aload_n hx hb dX3_puff_35 rfl (lv_at hl 0 rfl) ?_
      refine xgI E hw (c1 := 3) (ciisL ho0) (kyisL_100 ho0) fo_3_6 qf_3_33 dX3_puff_36 ?_
      refine lv_imul hx hb dX3_puff_39 ?_
      refine lv_iconst (v := 1) hx hb dX3_puff_40 (by decide) ?_
      refine lv_iadd hx hb dX3_puff_41 ?_
      obtain ⟨hd, h⟩ := h
      refine lv_irem hx hb dX3_puff_42 hd ?_
      refine lv_aload_n hx hb dX3_puff_43 rfl (lv_at hl 0 rfl) ?_
      refine xgI E hw (c1 := 3) (ciisL ho0) (kyisL_100 ho0) fo_3_6 qf_3_33 dX3_puff_44 ?_
      refine lv_isub hx hb dX3_puff_47 ?_
      exact hret (((((zI z2 o0 8) &&& (2147483647 : Int32)) / (65536 : Int32)) - (((zI z2 o0 8) &&& (2147483647 : Int32)) / (65536 : Int32)) / (((2 : Int32) * (zI z2 o0 6)) + (1 : Int32)) * (((2 : Int32) * (zI z2 o0 6)) + (1 : Int32))) - (zI z2 o0 6)) z2 H locs 48 ls hw rfl h dX3_puff_48
    · replace h := h.2 c1
      refine lv_iconst (v := 0) hx hb dX3_puff_7 (by decide) ?_
      exact hret (0 : Int32) z H locs 8 ls hw rfl h dX3_puff_8
  exact b00 s.heap [] hw
def V_X10_isToSteer (z : ZS) (a0 : Nat) (p1 : Int32) (p2 : Int32) (post : Int32 → ZS → Prop) : Prop := post (0 : Int32) z
set_option maxHeartbeats 4000000 in
set_option maxRecDepth 100000 in
theorem c_X10_isToSteer (l : Launch) (D : va_G) (ad : Nat → Nat → Nat) (cs : Nat → ClassId) (sk : (Nat → Nat) × (Nat → Nat)) (z : ZS) (a0 : Nat) (p1 : Int32) (p2 : Int32) (post : Int32 → ZS → Prop) (h : V_X10_isToSteer z a0 p1 p2 post) : MI l D ad cs sk yX10_isToSteer cX10_isToSteer 3 .boolean (rmq 0 0 0) [.ref a0, .int p1, .int p2] z post := by
  refine MI.of RX10 rfl (by decide) (Nat.le_of_ble_eq_true rfl) ?_
  intro p e s m args below meth c A Q E hw hA hret ls hl
  have hx := E.1.1
  have hb := E.1.2.1
  have hml := E.1.2.2.1
  have hown := E.1.2.2.2.1
  have h0 := E.1.2.2.2.2
  have hl : lv_has ls 3 [(0, .ref a0), (1, .int p1), (2, .int p2)] := hl
  unfold V_X10_isToSteer at h
  have b00 : ∀ (H : Heap) (locs : List Loc), OW D ad cs A s.heap z H locs → W p l e (rmq 0 0 0) s m args below meth c H locs 0 0 Q (F0 m 0 ls []) := by
    intro H locs hw
    refine lv_iconst (v := 0) hx hb dX10_isToSteer_0 (by decide) ?_
    exact hret (0 : Int32) z H locs 1 ls hw rfl h dX10_isToSteer_1
  exact b00 s.heap [] hw
def V_X4_isToSteer (z : ZS) (a0 : Nat) (p1 : Int32) (p2 : Int32) (post : Int32 → ZS → Prop) : Prop := post (1 : Int32) z
set_option maxHeartbeats 4000000 in
set_option maxRecDepth 100000 in
theorem c_X4_isToSteer (l : Launch) (D : va_G) (ad : Nat → Nat → Nat) (cs : Nat → ClassId) (sk : (Nat → Nat) × (Nat → Nat)) (z : ZS) (a0 : Nat) (p1 : Int32) (p2 : Int32) (post : Int32 → ZS → Prop) (h : V_X4_isToSteer z a0 p1 p2 post) : MI l D ad cs sk yX4_isToSteer cX4_isToSteer 3 .boolean (rmq 0 0 0) [.ref a0, .int p1, .int p2] z post := by
  refine MI.of RX4 rfl (by decide) (Nat.le_of_ble_eq_true rfl) ?_
  intro p e s m args below meth c A Q E hw hA hret ls hl
  have hx := E.1.1
  have hb := E.1.2.1
  have hml := E.1.2.2.1
  have hown := E.1.2.2.2.1
  have h0 := E.1.2.2.2.2
  have hl : lv_has ls 3 [(0, .ref a0), (1, .int p1), (2, .int p2)] := hl
  unfold V_X4_isToSteer at h
  have b00 : ∀ (H : Heap) (locs : List Loc), OW D ad cs A s.heap z H locs → W p l e (rmq 0 0 0) s m args below meth c H locs 0 0 Q (F0 m 0 ls []) := by
    intro H locs hw
    refine lv_iconst (v := 1) hx hb dX4_isToSteer_0 (by decide) ?_
    exact hret (1 : Int32) z H locs 1 ls hw rfl h dX4_isToSteer_1
  exact b00 s.heap [] hw
def V_X4_steersAlongX (z : ZS) (a0 : Nat) (p1 : Int32) (p2 : Int32) (p3 : Int32) (p4 : Int32) (post : Int32 → ZS → Prop) : Prop := (((if 0 ≤ p1 then p1 else 0 - p1) < (if 0 ≤ p2 then p2 else 0 - p2) → post (0 : Int32) z) ∧ (¬ (if 0 ≤ p1 then p1 else 0 - p1) < (if 0 ≤ p2 then p2 else 0 - p2) → post (1 : Int32) z))
set_option maxHeartbeats 4000000 in
set_option maxRecDepth 100000 in
theorem c_X4_steersAlongX (l : Launch) (D : va_G) (ad : Nat → Nat → Nat) (cs : Nat → ClassId) (sk : (Nat → Nat) × (Nat → Nat)) (z : ZS) (a0 : Nat) (p1 : Int32) (p2 : Int32) (p3 : Int32) (p4 : Int32) (post : Int32 → ZS → Prop) (h : V_X4_steersAlongX z a0 p1 p2 p3 p4 post) : MI l D ad cs sk yX4_steersAlongX cX4_steersAlongX 5 .boolean (rmq 1 0 0) [.ref a0, .int p1, .int p2, .int p3, .int p4] z post := by
  refine MI.of RX4 rfl (by decide) (Nat.le_of_ble_eq_true rfl) ?_
  intro p e s m args below meth c A Q E hw hA hret ls hl
  have hx := E.1.1
  have hb := E.1.2.1
  have hml := E.1.2.2.1
  have hown := E.1.2.2.2.1
  have h0 := E.1.2.2.2.2
  have hl : lv_has ls 5 [(0, .ref a0), (1, .int p1), (2, .int p2), (3, .int p3), (4, .int p4)] := hl
  unfold V_X4_steersAlongX at h
  have b00 : ∀ (H : Heap) (locs : List Loc), OW D ad cs A s.heap z H locs → W p l e (rmq 1 0 0) s m args below meth c H locs 0 0 Q (F0 m 0 ls []) := by
    intro H locs hw
    refine lv_iload_n hx hb dX4_steersAlongX_0 rfl (lv_at hl 1 rfl) ?_
    refine va_mabs hx hb (hml.trans hl.1.symm) hown (h0 _ qm_4_58) (h0 _ qs_ib_Math_abs_name) (h0 _ qn_Math) (h0 _ qc_Math_abs) (Nat.le_of_ble_eq_true rfl) (Nat.le_of_ble_eq_true rfl) (Nat.le_of_ble_eq_true rfl) (Nat.le_of_ble_eq_true rfl) dX4_steersAlongX_1 ?_
    refine lv_iload_n hx hb dX4_steersAlongX_4 rfl (lv_at hl 2 rfl) ?_
    refine va_mabs hx hb (hml.trans hl.1.symm) hown (h0 _ qm_4_58) (h0 _ qs_ib_Math_abs_name) (h0 _ qn_Math) (h0 _ qc_Math_abs) (Nat.le_of_ble_eq_true rfl) (Nat.le_of_ble_eq_true rfl) (Nat.le_of_ble_eq_true rfl) (Nat.le_of_ble_eq_true rfl) dX4_steersAlongX_5 ?_
    refine lv_icmp_lt (tgt := 15) hx hb dX4_steersAlongX_8 (by decide) (fun c1 => ?_) (fun c1 => ?_)
    · replace h := h.1 c1
      refine lv_iconst (v := 0) hx hb dX4_steersAlongX_15 (by decide) ?_
      exact hret (0 : Int32) z H locs 16 ls hw rfl h dX4_steersAlongX_16
    · replace h := h.2 c1
      refine lv_iconst (v := 1) hx hb dX4_steersAlongX_11 (by decide) ?_
      refine lv_goto (tgt := 16) hx hb dX4_steersAlongX_12 (by decide) ?_
      exact hret (1 : Int32) z H locs 16 ls hw rfl h dX4_steersAlongX_16
  exact b00 s.heap [] hw
def V_X4_stepAlong (z : ZS) (a0 : Nat) (p1 : Int32) (p2 : Int32) (post : Int32 → ZS → Prop) : Prop := (a0 ∈ zP z ∧ (∀ t1 : Int32, t1 = (if (if 0 ≤ p1 then p1 else 0 - p1) < (zF z a0 6) then (if 0 ≤ p1 then p1 else 0 - p1) else (zF z a0 6)) → ((p1 ≤ 0 → post t1 z) ∧ (¬ p1 ≤ 0 → post (-t1) z))))
set_option maxHeartbeats 4000000 in
set_option maxRecDepth 100000 in
theorem c_X4_stepAlong (l : Launch) (D : va_G) (ad : Nat → Nat → Nat) (cs : Nat → ClassId) (sk : (Nat → Nat) × (Nat → Nat)) (z : ZS) (a0 : Nat) (p1 : Int32) (p2 : Int32) (post : Int32 → ZS → Prop) (h : V_X4_stepAlong z a0 p1 p2 post) : MI l D ad cs sk yX4_stepAlong cX4_stepAlong 4 .int (rmq 1 0 0) [.ref a0, .int p1, .int p2] z post := by
  refine MI.of RX4 rfl (by decide) (Nat.le_of_ble_eq_true rfl) ?_
  intro p e s m args below meth c A Q E hw hA hret ls hl
  have hx := E.1.1
  have hb := E.1.2.1
  have hml := E.1.2.2.1
  have hown := E.1.2.2.2.1
  have h0 := E.1.2.2.2.2
  have hl : lv_has ls 4 [(0, .ref a0), (1, .int p1), (2, .int p2)] := hl
  unfold V_X4_stepAlong at h
  have b00 : ∀ (H : Heap) (locs : List Loc), OW D ad cs A s.heap z H locs → W p l e (rmq 1 0 0) s m args below meth c H locs 0 0 Q (F0 m 0 ls []) := by
    intro H locs hw
    refine lv_aload_n hx hb dX4_stepAlong_0 rfl (lv_at hl 0 rfl) ?_
    obtain ⟨hm, h⟩ := h
    refine xgF E hw hm (k := 6) (ref := "TenYards$Faller") (by decide) qf_4_19 (Or.inl rfl) dX4_stepAlong_1 ?_
    refine lv_iload_n hx hb dX4_stepAlong_4 rfl (lv_at hl 1 rfl) ?_
    refine va_mabs hx hb (hml.trans hl.1.symm) hown (h0 _ qm_4_58) (h0 _ qs_ib_Math_abs_name) (h0 _ qn_Math) (h0 _ qc_Math_abs) (Nat.le_of_ble_eq_true rfl) (Nat.le_of_ble_eq_true rfl) (Nat.le_of_ble_eq_true rfl) (Nat.le_of_ble_eq_true rfl) dX4_stepAlong_5 ?_
    refine va_mmin hx hb (hml.trans hl.1.symm) hown (h0 _ qm_4_64) (h0 _ qs_ib_Math_min_name) (h0 _ qn_Math) (h0 _ qc_Math_min) (Nat.le_of_ble_eq_true rfl) (Nat.le_of_ble_eq_true rfl) (Nat.le_of_ble_eq_true rfl) (Nat.le_of_ble_eq_true rfl) dX4_stepAlong_8 ?_
    refine lv_topi (fun t1 et1 => ?_)
    replace h := h t1 et1
    refine lv_istore_n (lv' := [(3, .int t1), (0, .ref a0), (1, .int p1), (2, .int p2)]) hx hb dX4_stepAlong_11 rfl hl (by decide) rfl (fun ls hl => ?_)
    refine lv_iload_n hx hb dX4_stepAlong_12 rfl (lv_at hl 2 rfl) ?_
    refine lv_if_le (tgt := 21) hx hb dX4_stepAlong_13 (by decide) (fun c2 => ?_) (fun c2 => ?_)
    · replace h := h.1 c2
      refine lv_iload_n hx hb dX4_stepAlong_21 rfl (lv_at hl 0 rfl) ?_
      exact hret t1 z H locs 22 ls hw rfl h dX4_stepAlong_22
    · replace h := h.2 c2
      refine lv_iload_n hx hb dX4_stepAlong_16 rfl (lv_at hl 0 rfl) ?_
      refine lv_ineg hx hb dX4_stepAlong_17 ?_
      refine lv_goto (tgt := 22) hx hb dX4_stepAlong_18 (by decide) ?_
      exact hret (-t1) z H locs 22 ls hw rfl h dX4_stepAlong_22
  exact b00 s.heap [] hw
def V_X6_isToSteer_28 (post : Int32 → ZS → Prop) (z : ZS) : Prop := post (1 : Int32) z
def V_X6_isToSteer (z : ZS) (a0 : Nat) (p1 : Int32) (p2 : Int32) (post : Int32 → ZS → Prop) : Prop := (a0 ∈ zP z ∧ ((((100 : Int32) * (zF z a0 1)) < (if 0 ≤ p1 then p1 else 0 - p1) → V_X6_isToSteer_28 post z) ∧ (¬ ((100 : Int32) * (zF z a0 1)) < (if 0 ≤ p1 then p1 else 0 - p1) → (a0 ∈ zP z ∧ (((if 0 ≤ p2 then p2 else 0 - p2) ≤ ((100 : Int32) * (zF z a0 1)) → post (0 : Int32) z) ∧ (¬ (if 0 ≤ p2 then p2 else 0 - p2) ≤ ((100 : Int32) * (zF z a0 1)) → V_X6_isToSteer_28 post z))))))
set_option maxHeartbeats 4000000 in
set_option maxRecDepth 100000 in
theorem c_X6_isToSteer (l : Launch) (D : va_G) (ad : Nat → Nat → Nat) (cs : Nat → ClassId) (sk : (Nat → Nat) × (Nat → Nat)) (z : ZS) (a0 : Nat) (p1 : Int32) (p2 : Int32) (post : Int32 → ZS → Prop) (h : V_X6_isToSteer z a0 p1 p2 post) : MI l D ad cs sk yX6_isToSteer cX6_isToSteer 3 .boolean (rmq 1 0 0) [.ref a0, .int p1, .int p2] z post := by
  refine MI.of RX6 rfl (by decide) (Nat.le_of_ble_eq_true rfl) ?_
  intro p e s m args below meth c A Q E hw hA hret ls hl
  have hx := E.1.1
  have hb := E.1.2.1
  have hml := E.1.2.2.1
  have hown := E.1.2.2.2.1
  have h0 := E.1.2.2.2.2
  have hl : lv_has ls 3 [(0, .ref a0), (1, .int p1), (2, .int p2)] := hl
  unfold V_X6_isToSteer at h
  have b28 : ∀ (z : ZS), ∀ (H : Heap) (locs : List Loc), OW D ad cs A s.heap z H locs → ∀ ls : Array Slot, lv_has ls 3 [] → V_X6_isToSteer_28 post z → W p l e (rmq 1 0 0) s m args below meth c H locs 0 0 Q (F0 m 28 ls []) := by
    intro z H locs hw ls hl h
    unfold V_X6_isToSteer_28 at h
    refine lv_iconst (v := 1) hx hb dX6_isToSteer_28 (by decide) ?_
    refine lv_goto (tgt := 33) hx hb dX6_isToSteer_29 (by decide) ?_
    exact hret (1 : Int32) z H locs 33 ls hw rfl h dX6_isToSteer_33
  have b00 : ∀ (H : Heap) (locs : List Loc), OW D ad cs A s.heap z H locs → W p l e (rmq 1 0 0) s m args below meth c H locs 0 0 Q (F0 m 0 ls []) := by
    intro H locs hw
    refine lv_iload_n hx hb dX6_isToSteer_0 rfl (lv_at hl 1 rfl) ?_
    refine va_mabs hx hb (hml.trans hl.1.symm) hown (h0 _ qm_6_22) (h0 _ qs_ib_Math_abs_name) (h0 _ qn_Math) (h0 _ qc_Math_abs) (Nat.le_of_ble_eq_true rfl) (Nat.le_of_ble_eq_true rfl) (Nat.le_of_ble_eq_true rfl) (Nat.le_of_ble_eq_true rfl) dX6_isToSteer_1 ?_
    refine lv_bipush (v := 100) hx hb dX6_isToSteer_4 (by decide) ?_
    refine lv_aload_n hx hb dX6_isToSteer_6 rfl (lv_at hl 0 rfl) ?_
    obtain ⟨hm, h⟩ := h
    refine xgF E hw hm (k := 1) (ref := "TenYards$Holding") (by decide) qf_6_28 (Or.inr qg_6_figure) dX6_isToSteer_7 ?_
    refine lv_imul hx hb dX6_isToSteer_10 ?_
    refine lv_icmp_gt (tgt := 28) hx hb dX6_isToSteer_11 (by decide) (fun c1 => ?_) (fun c1 => ?_)
    · replace h := h.1 c1
      exact b28 z H locs hw ls (lv_sub hl [] rfl) h
    · replace h := h.2 c1
      refine lv_iload_n hx hb dX6_isToSteer_14 rfl (lv_at hl 2 rfl) ?_
      refine va_mabs hx hb (hml.trans hl.1.symm) hown (h0 _ qm_6_22) (h0 _ qs_ib_Math_abs_name) (h0 _ qn_Math) (h0 _ qc_Math_abs) (Nat.le_of_ble_eq_true rfl) (Nat.le_of_ble_eq_true rfl) (Nat.le_of_ble_eq_true rfl) (Nat.le_of_ble_eq_true rfl) dX6_isToSteer_15 ?_
      refine lv_bipush (v := 100) hx hb dX6_isToSteer_18 (by decide) ?_
      refine lv_aload_n hx hb dX6_isToSteer_20 rfl (lv_at hl 0 rfl) ?_
      obtain ⟨hm, h⟩ := h
      refine xgF E hw hm (k := 1) (ref := "TenYards$Holding") (by decide) qf_6_28 (Or.inr qg_6_figure) dX6_isToSteer_21 ?_
      refine lv_imul hx hb dX6_isToSteer_24 ?_
      refine lv_icmp_le (tgt := 32) hx hb dX6_isToSteer_25 (by decide) (fun c2 => ?_) (fun c2 => ?_)
      · replace h := h.1 c2
        refine lv_iconst (v := 0) hx hb dX6_isToSteer_32 (by decide) ?_
        exact hret (0 : Int32) z H locs 33 ls hw rfl h dX6_isToSteer_33
      · replace h := h.2 c2
        exact b28 z H locs hw ls (lv_sub hl [] rfl) h
  exact b00 s.heap [] hw
def V_X8_isToSteer (z : ZS) (a0 : Nat) (p1 : Int32) (p2 : Int32) (post : Int32 → ZS → Prop) : Prop := post (0 : Int32) z
set_option maxHeartbeats 4000000 in
set_option maxRecDepth 100000 in
theorem c_X8_isToSteer (l : Launch) (D : va_G) (ad : Nat → Nat → Nat) (cs : Nat → ClassId) (sk : (Nat → Nat) × (Nat → Nat)) (z : ZS) (a0 : Nat) (p1 : Int32) (p2 : Int32) (post : Int32 → ZS → Prop) (h : V_X8_isToSteer z a0 p1 p2 post) : MI l D ad cs sk yX8_isToSteer cX8_isToSteer 3 .boolean (rmq 0 0 0) [.ref a0, .int p1, .int p2] z post := by
  refine MI.of RX8 rfl (by decide) (Nat.le_of_ble_eq_true rfl) ?_
  intro p e s m args below meth c A Q E hw hA hret ls hl
  have hx := E.1.1
  have hb := E.1.2.1
  have hml := E.1.2.2.1
  have hown := E.1.2.2.2.1
  have h0 := E.1.2.2.2.2
  have hl : lv_has ls 3 [(0, .ref a0), (1, .int p1), (2, .int p2)] := hl
  unfold V_X8_isToSteer at h
  have b00 : ∀ (H : Heap) (locs : List Loc), OW D ad cs A s.heap z H locs → W p l e (rmq 0 0 0) s m args below meth c H locs 0 0 Q (F0 m 0 ls []) := by
    intro H locs hw
    refine lv_iconst (v := 0) hx hb dX8_isToSteer_0 (by decide) ?_
    exact hret (0 : Int32) z H locs 1 ls hw rfl h dX8_isToSteer_1
  exact b00 s.heap [] hw
def Vd_isToSteer (z : ZS) (a : Nat) (p1 p2 : Int32) (post : Int32 → ZS → Prop) : Prop := match zK z a with
  | 1 => V_X8_isToSteer z a p1 p2 post
  | 4 => V_X6_isToSteer z a p1 p2 post
  | 5 => V_X6_isToSteer z a p1 p2 post
  | 7 => V_X10_isToSteer z a p1 p2 post
  | _ => V_X4_isToSteer z a p1 p2 post
theorem dv_4_68 {p : Program} {l : Launch} {e : Env} {R : Room} {s : State} {m : MethodId} {args : Array Value} {below : List Frame} {meth : Method} {c : Code} {H : Heap} {locs : List Loc} {cells slots : Nat} {Q : State → Prop} {cc : ByteArray} {nL pc : Nat} {ls : Array Slot} {rest : List Value} {D : va_G} {ad : Nat → Nat → Nat} {cs : Nat → ClassId} {A : Nat → Prop} {sk : (Nat → Nat) × (Nat → Nat)} {z : ZS} (E : EN p m c cc nL s args RX4 D cs A sk) (hw : OW D ad cs A s.heap z H locs) (hA : ∀ q, s.heap.size ≤ q → A q) {a : Nat} {p1 p2 : Int32} {post : Int32 → ZS → Prop} (ha : a ∈ zP z) (h : Vd_isToSteer z a p1 p2 post) (hR : 1 + 1 ≤ R.frames ∧ 40 * (1 + 1) ≤ R.locals) (hsz : ls.size = nL) (h8 : (rest.map fun v => v.category).sum ≤ 8) (hdg : decode cc pc = .ok (.invokevirtual 68, 3)) (hf : cells ≤ R.cells ∧ slots ≤ R.slots) (kk : ∀ (r : Int32) (z1 : ZS) (H1 : Heap) (locs1 : List Loc), post r z1 → OW D ad cs A s.heap z1 H1 locs1 → W p l e R s m args below meth c H1 locs1 cells slots Q (F0 m (pc + 3) ls (.int r :: rest))) : W p l e R s m args below meth c H locs cells slots Q (F0 m pc ls (.int p2 :: .int p1 :: .ref a :: rest)) := by
  obtain ⟨k, hk⟩ : ∃ k, zK z a = k := ⟨_, rfl⟩
  unfold Vd_isToSteer at h
  rw [hk] at h
  match k, hk, h with
  | 0, hk, h => exact xcVI (As := [.int p1, .int p2]) (rest := rest) E hw hA (c_X4_isToSteer l D ad cs sk z a p1 p2 _ h) kc_4_68 yo_X4_isToSteer ⟨by simp only [rmq]; omega, by simp only [rmq]; omega⟩ (xrF E hw ha hk (C := RX4) (T := TX4) (n := 8) rfl) rfl hsz rfl h8 hdg hf kk
  | 1, hk, h => exact xcUI (As := [.int p1, .int p2]) (rest := rest) E hw hA (c_X8_isToSteer l D ad cs sk z a p1 p2 _ h) (xwU E ku_4_68_8 (Or.inr ⟨_, _, _, qi_X4_isToSteer, qc_X4_isToSteer⟩) xo_X4_isToSteer ⟨by simp only [rmq]; omega, by simp only [rmq]; omega⟩) (xrF E hw ha hk (C := RX8) (T := TX8) (n := 8) rfl) rfl hsz rfl h8 hdg hf kk
  | 2, hk, h => exact xcUI (As := [.int p1, .int p2]) (rest := rest) E hw hA (c_X4_isToSteer l D ad cs sk z a p1 p2 _ h) (xwU E ku_4_68_7 (Or.inl rfl) xo_X4_isToSteer ⟨by simp only [rmq]; omega, by simp only [rmq]; omega⟩) (xrF E hw ha hk (C := RX7) (T := TX7) (n := 8) rfl) rfl hsz rfl h8 hdg hf kk
  | 3, hk, h => exact xcUI (As := [.int p1, .int p2]) (rest := rest) E hw hA (c_X4_isToSteer l D ad cs sk z a p1 p2 _ h) (xwU E ku_4_68_5 (Or.inl rfl) xo_X4_isToSteer ⟨by simp only [rmq]; omega, by simp only [rmq]; omega⟩) (xrF E hw ha hk (C := RX5) (T := TX5) (n := 8) rfl) rfl hsz rfl h8 hdg hf kk
  | 4, hk, h => exact xcUI (As := [.int p1, .int p2]) (rest := rest) E hw hA (c_X6_isToSteer l D ad cs sk z a p1 p2 _ h) (xwU E ku_4_68_6 (Or.inr ⟨_, _, _, qi_X4_isToSteer, qc_X4_isToSteer⟩) xo_X4_isToSteer ⟨by simp only [rmq]; omega, by simp only [rmq]; omega⟩) (xrF E hw ha hk (C := RX6) (T := TX6) (n := 8) rfl) rfl hsz rfl h8 hdg hf kk
  | 5, hk, h => exact xcUI (As := [.int p1, .int p2]) (rest := rest) E hw hA (c_X6_isToSteer l D ad cs sk z a p1 p2 _ h) (xwU E ku_4_68_1 (Or.inr ⟨_, _, _, qi_X4_isToSteer, qc_X4_isToSteer⟩) xo_X4_isToSteer ⟨by simp only [rmq]; omega, by simp only [rmq]; omega⟩) (xrF E hw ha hk (C := RX1) (T := TX1) (n := 8) rfl) rfl hsz rfl h8 hdg hf kk
  | 6, hk, h => exact xcUI (As := [.int p1, .int p2]) (rest := rest) E hw hA (c_X4_isToSteer l D ad cs sk z a p1 p2 _ h) (xwU E ku_4_68_2 (Or.inl rfl) xo_X4_isToSteer ⟨by simp only [rmq]; omega, by simp only [rmq]; omega⟩) (xrF E hw ha hk (C := RX2) (T := TX2) (n := 8) rfl) rfl hsz rfl h8 hdg hf kk
  | 7, hk, h => exact xcUI (As := [.int p1, .int p2]) (rest := rest) E hw hA (c_X10_isToSteer l D ad cs sk z a p1 p2 _ h) (xwU E ku_4_68_10 (Or.inr ⟨_, _, _, qi_X4_isToSteer, qc_X4_isToSteer⟩) xo_X4_isToSteer ⟨by simp only [rmq]; omega, by simp only [rmq]; omega⟩) (xrF E hw ha hk (C := RX10) (T := TX10) (n := 8) rfl) rfl hsz rfl h8 hdg hf kk
  | (_ + 8), hk, h => exact xcVI (As := [.int p1, .int p2]) (rest := rest) E hw hA (c_X4_isToSteer l D ad cs sk z a p1 p2 _ h) kc_4_68 yo_X4_isToSteer ⟨by simp only [rmq]; omega, by simp only [rmq]; omega⟩ (xrF E hw ha hk (C := RX4) (T := TX4) (n := 8) rfl) rfl hsz rfl h8 hdg hf kk
def Vd_steersAlongX (z : ZS) (a : Nat) (p1 p2 p3 p4 : Int32) (post : Int32 → ZS → Prop) : Prop := match zK z a with
  | 5 => V_X1_steersAlongX z a p1 p2 p3 p4 post
  | 6 => V_X2_steersAlongX z a p1 p2 p3 p4 post
  | _ => V_X4_steersAlongX z a p1 p2 p3 p4 post
theorem dv_4_72 {p : Program} {l : Launch} {e : Env} {R : Room} {s : State} {m : MethodId} {args : Array Value} {below : List Frame} {meth : Method} {c : Code} {H : Heap} {locs : List Loc} {cells slots : Nat} {Q : State → Prop} {cc : ByteArray} {nL pc : Nat} {ls : Array Slot} {rest : List Value} {D : va_G} {ad : Nat → Nat → Nat} {cs : Nat → ClassId} {A : Nat → Prop} {sk : (Nat → Nat) × (Nat → Nat)} {z : ZS} (E : EN p m c cc nL s args RX4 D cs A sk) (hw : OW D ad cs A s.heap z H locs) (hA : ∀ q, s.heap.size ≤ q → A q) {a : Nat} {p1 p2 p3 p4 : Int32} {post : Int32 → ZS → Prop} (ha : a ∈ zP z) (h : Vd_steersAlongX z a p1 p2 p3 p4 post) (hR : 1 + 1 ≤ R.frames ∧ 40 * (1 + 1) ≤ R.locals) (hsz : ls.size = nL) (h8 : (rest.map fun v => v.category).sum ≤ 8) (hdg : decode cc pc = .ok (.invokevirtual 72, 3)) (hf : cells ≤ R.cells ∧ slots ≤ R.slots) (kk : ∀ (r : Int32) (z1 : ZS) (H1 : Heap) (locs1 : List Loc), post r z1 → OW D ad cs A s.heap z1 H1 locs1 → W p l e R s m args below meth c H1 locs1 cells slots Q (F0 m (pc + 3) ls (.int r :: rest))) : W p l e R s m args below meth c H locs cells slots Q (F0 m pc ls (.int p4 :: .int p3 :: .int p2 :: .int p1 :: .ref a :: rest)) := by
  obtain ⟨k, hk⟩ : ∃ k, zK z a = k := ⟨_, rfl⟩
  unfold Vd_steersAlongX at h
  rw [hk] at h
  match k, hk, h with
  | 0, hk, h => exact xcVI (As := [.int p1, .int p2, .int p3, .int p4]) (rest := rest) E hw hA (c_X4_steersAlongX l D ad cs sk z a p1 p2 p3 p4 _ h) kc_4_72 yo_X4_steersAlongX ⟨by simp only [rmq]; omega, by simp only [rmq]; omega⟩ (xrF E hw ha hk (C := RX4) (T := TX4) (n := 8) rfl) rfl hsz rfl h8 hdg hf kk
  | 1, hk, h => exact xcUI (As := [.int p1, .int p2, .int p3, .int p4]) (rest := rest) E hw hA (c_X4_steersAlongX l D ad cs sk z a p1 p2 p3 p4 _ h) (xwU E ku_4_72_8 (Or.inl rfl) xo_X4_steersAlongX ⟨by simp only [rmq]; omega, by simp only [rmq]; omega⟩) (xrF E hw ha hk (C := RX8) (T := TX8) (n := 8) rfl) rfl hsz rfl h8 hdg hf kk
  | 2, hk, h => exact xcUI (As := [.int p1, .int p2, .int p3, .int p4]) (rest := rest) E hw hA (c_X4_steersAlongX l D ad cs sk z a p1 p2 p3 p4 _ h) (xwU E ku_4_72_7 (Or.inl rfl) xo_X4_steersAlongX ⟨by simp only [rmq]; omega, by simp only [rmq]; omega⟩) (xrF E hw ha hk (C := RX7) (T := TX7) (n := 8) rfl) rfl hsz rfl h8 hdg hf kk
  | 3, hk, h => exact xcUI (As := [.int p1, .int p2, .int p3, .int p4]) (rest := rest) E hw hA (c_X4_steersAlongX l D ad cs sk z a p1 p2 p3 p4 _ h) (xwU E ku_4_72_5 (Or.inl rfl) xo_X4_steersAlongX ⟨by simp only [rmq]; omega, by simp only [rmq]; omega⟩) (xrF E hw ha hk (C := RX5) (T := TX5) (n := 8) rfl) rfl hsz rfl h8 hdg hf kk
  | 4, hk, h => exact xcUI (As := [.int p1, .int p2, .int p3, .int p4]) (rest := rest) E hw hA (c_X4_steersAlongX l D ad cs sk z a p1 p2 p3 p4 _ h) (xwU E ku_4_72_6 (Or.inl rfl) xo_X4_steersAlongX ⟨by simp only [rmq]; omega, by simp only [rmq]; omega⟩) (xrF E hw ha hk (C := RX6) (T := TX6) (n := 8) rfl) rfl hsz rfl h8 hdg hf kk
  | 5, hk, h => exact xcUI (As := [.int p1, .int p2, .int p3, .int p4]) (rest := rest) E hw hA (c_X1_steersAlongX l D ad cs sk z a p1 p2 p3 p4 _ h) (xwU E ku_4_72_1 (Or.inr ⟨_, _, _, qi_X4_steersAlongX, qc_X4_steersAlongX⟩) xo_X4_steersAlongX ⟨by simp only [rmq]; omega, by simp only [rmq]; omega⟩) (xrF E hw ha hk (C := RX1) (T := TX1) (n := 8) rfl) rfl hsz rfl h8 hdg hf kk
  | 6, hk, h => exact xcUI (As := [.int p1, .int p2, .int p3, .int p4]) (rest := rest) E hw hA (c_X2_steersAlongX l D ad cs sk z a p1 p2 p3 p4 _ h) (xwU E ku_4_72_2 (Or.inr ⟨_, _, _, qi_X4_steersAlongX, qc_X4_steersAlongX⟩) xo_X4_steersAlongX ⟨by simp only [rmq]; omega, by simp only [rmq]; omega⟩) (xrF E hw ha hk (C := RX2) (T := TX2) (n := 8) rfl) rfl hsz rfl h8 hdg hf kk
  | 7, hk, h => exact xcUI (As := [.int p1, .int p2, .int p3, .int p4]) (rest := rest) E hw hA (c_X4_steersAlongX l D ad cs sk z a p1 p2 p3 p4 _ h) (xwU E ku_4_72_10 (Or.inl rfl) xo_X4_steersAlongX ⟨by simp only [rmq]; omega, by simp only [rmq]; omega⟩) (xrF E hw ha hk (C := RX10) (T := TX10) (n := 8) rfl) rfl hsz rfl h8 hdg hf kk
  | (_ + 8), hk, h => exact xcVI (As := [.int p1, .int p2, .int p3, .int p4]) (rest := rest) E hw hA (c_X4_steersAlongX l D ad cs sk z a p1 p2 p3 p4 _ h) kc_4_72 yo_X4_steersAlongX ⟨by simp only [rmq]; omega, by simp only [rmq]; omega⟩ (xrF E hw ha hk (C := RX4) (T := TX4) (n := 8) rfl) rfl hsz rfl h8 hdg hf kk
def Vd_stepAlong (z : ZS) (a : Nat) (p1 p2 : Int32) (post : Int32 → ZS → Prop) : Prop := match zK z a with
  | 6 => V_X2_stepAlong z a p1 p2 post
  | _ => V_X4_stepAlong z a p1 p2 post
theorem dv_4_76 {p : Program} {l : Launch} {e : Env} {R : Room} {s : State} {m : MethodId} {args : Array Value} {below : List Frame} {meth : Method} {c : Code} {H : Heap} {locs : List Loc} {cells slots : Nat} {Q : State → Prop} {cc : ByteArray} {nL pc : Nat} {ls : Array Slot} {rest : List Value} {D : va_G} {ad : Nat → Nat → Nat} {cs : Nat → ClassId} {A : Nat → Prop} {sk : (Nat → Nat) × (Nat → Nat)} {z : ZS} (E : EN p m c cc nL s args RX4 D cs A sk) (hw : OW D ad cs A s.heap z H locs) (hA : ∀ q, s.heap.size ≤ q → A q) {a : Nat} {p1 p2 : Int32} {post : Int32 → ZS → Prop} (ha : a ∈ zP z) (h : Vd_stepAlong z a p1 p2 post) (hR : 1 + 1 ≤ R.frames ∧ 40 * (1 + 1) ≤ R.locals) (hsz : ls.size = nL) (h8 : (rest.map fun v => v.category).sum ≤ 8) (hdg : decode cc pc = .ok (.invokevirtual 76, 3)) (hf : cells ≤ R.cells ∧ slots ≤ R.slots) (kk : ∀ (r : Int32) (z1 : ZS) (H1 : Heap) (locs1 : List Loc), post r z1 → OW D ad cs A s.heap z1 H1 locs1 → W p l e R s m args below meth c H1 locs1 cells slots Q (F0 m (pc + 3) ls (.int r :: rest))) : W p l e R s m args below meth c H locs cells slots Q (F0 m pc ls (.int p2 :: .int p1 :: .ref a :: rest)) := by
  obtain ⟨k, hk⟩ : ∃ k, zK z a = k := ⟨_, rfl⟩
  unfold Vd_stepAlong at h
  rw [hk] at h
  match k, hk, h with
  | 0, hk, h => exact xcVI (As := [.int p1, .int p2]) (rest := rest) E hw hA (c_X4_stepAlong l D ad cs sk z a p1 p2 _ h) kc_4_76 yo_X4_stepAlong ⟨by simp only [rmq]; omega, by simp only [rmq]; omega⟩ (xrF E hw ha hk (C := RX4) (T := TX4) (n := 8) rfl) rfl hsz rfl h8 hdg hf kk
  | 1, hk, h => exact xcUI (As := [.int p1, .int p2]) (rest := rest) E hw hA (c_X4_stepAlong l D ad cs sk z a p1 p2 _ h) (xwU E ku_4_76_8 (Or.inl rfl) xo_X4_stepAlong ⟨by simp only [rmq]; omega, by simp only [rmq]; omega⟩) (xrF E hw ha hk (C := RX8) (T := TX8) (n := 8) rfl) rfl hsz rfl h8 hdg hf kk
  | 2, hk, h => exact xcUI (As := [.int p1, .int p2]) (rest := rest) E hw hA (c_X4_stepAlong l D ad cs sk z a p1 p2 _ h) (xwU E ku_4_76_7 (Or.inl rfl) xo_X4_stepAlong ⟨by simp only [rmq]; omega, by simp only [rmq]; omega⟩) (xrF E hw ha hk (C := RX7) (T := TX7) (n := 8) rfl) rfl hsz rfl h8 hdg hf kk
  | 3, hk, h => exact xcUI (As := [.int p1, .int p2]) (rest := rest) E hw hA (c_X4_stepAlong l D ad cs sk z a p1 p2 _ h) (xwU E ku_4_76_5 (Or.inl rfl) xo_X4_stepAlong ⟨by simp only [rmq]; omega, by simp only [rmq]; omega⟩) (xrF E hw ha hk (C := RX5) (T := TX5) (n := 8) rfl) rfl hsz rfl h8 hdg hf kk
  | 4, hk, h => exact xcUI (As := [.int p1, .int p2]) (rest := rest) E hw hA (c_X4_stepAlong l D ad cs sk z a p1 p2 _ h) (xwU E ku_4_76_6 (Or.inl rfl) xo_X4_stepAlong ⟨by simp only [rmq]; omega, by simp only [rmq]; omega⟩) (xrF E hw ha hk (C := RX6) (T := TX6) (n := 8) rfl) rfl hsz rfl h8 hdg hf kk
  | 5, hk, h => exact xcUI (As := [.int p1, .int p2]) (rest := rest) E hw hA (c_X4_stepAlong l D ad cs sk z a p1 p2 _ h) (xwU E ku_4_76_1 (Or.inl rfl) xo_X4_stepAlong ⟨by simp only [rmq]; omega, by simp only [rmq]; omega⟩) (xrF E hw ha hk (C := RX1) (T := TX1) (n := 8) rfl) rfl hsz rfl h8 hdg hf kk
  | 6, hk, h => exact xcUI (As := [.int p1, .int p2]) (rest := rest) E hw hA (c_X2_stepAlong l D ad cs sk z a p1 p2 _ h) (xwU E ku_4_76_2 (Or.inr ⟨_, _, _, qi_X4_stepAlong, qc_X4_stepAlong⟩) xo_X4_stepAlong ⟨by simp only [rmq]; omega, by simp only [rmq]; omega⟩) (xrF E hw ha hk (C := RX2) (T := TX2) (n := 8) rfl) rfl hsz rfl h8 hdg hf kk
  | 7, hk, h => exact xcUI (As := [.int p1, .int p2]) (rest := rest) E hw hA (c_X4_stepAlong l D ad cs sk z a p1 p2 _ h) (xwU E ku_4_76_10 (Or.inl rfl) xo_X4_stepAlong ⟨by simp only [rmq]; omega, by simp only [rmq]; omega⟩) (xrF E hw ha hk (C := RX10) (T := TX10) (n := 8) rfl) rfl hsz rfl h8 hdg hf kk
  | (_ + 8), hk, h => exact xcVI (As := [.int p1, .int p2]) (rest := rest) E hw hA (c_X4_stepAlong l D ad cs sk z a p1 p2 _ h) kc_4_76 yo_X4_stepAlong ⟨by simp only [rmq]; omega, by simp only [rmq]; omega⟩ (xrF E hw ha hk (C := RX4) (T := TX4) (n := 8) rfl) rfl hsz rfl h8 hdg hf kk
def V_X4_steerEast (z : ZS) (a0 : Nat) (p1 : Int32) (p2 : Int32) (p3 : Int32) (p4 : Int32) (post : Int32 → ZS → Prop) : Prop := (a0 ∈ zP z ∧ Vd_isToSteer z a0 p1 p2 (fun r1 z2 => ((r1 = 0 → post (0 : Int32) z2) ∧ (¬ r1 = 0 → (a0 ∈ zP z2 ∧ Vd_steersAlongX z2 a0 p1 p2 p3 p4 (fun r4 z5 => ((r4 = 0 → post (0 : Int32) z5) ∧ (¬ r4 = 0 → (a0 ∈ zP z5 ∧ Vd_stepAlong z5 a0 p1 p3 (fun r7 z8 => post r7 z8))))))))))
set_option maxHeartbeats 4000000 in
set_option maxRecDepth 100000 in
theorem c_X4_steerEast (l : Launch) (D : va_G) (ad : Nat → Nat → Nat) (cs : Nat → ClassId) (sk : (Nat → Nat) × (Nat → Nat)) (z : ZS) (a0 : Nat) (p1 : Int32) (p2 : Int32) (p3 : Int32) (p4 : Int32) (post : Int32 → ZS → Prop) (h : V_X4_steerEast z a0 p1 p2 p3 p4 post) : MI l D ad cs sk yX4_steerEast cX4_steerEast 5 .int (rmq 2 0 0) [.ref a0, .int p1, .int p2, .int p3, .int p4] z post := by
  refine MI.of RX4 rfl (by decide) (Nat.le_of_ble_eq_true rfl) ?_
  intro p e s m args below meth c A Q E hw hA hret ls hl
  have hx := E.1.1
  have hb := E.1.2.1
  have hml := E.1.2.2.1
  have hown := E.1.2.2.2.1
  have h0 := E.1.2.2.2.2
  have hl : lv_has ls 5 [(0, .ref a0), (1, .int p1), (2, .int p2), (3, .int p3), (4, .int p4)] := hl
  unfold V_X4_steerEast at h
  have b00 : ∀ (H : Heap) (locs : List Loc), OW D ad cs A s.heap z H locs → W p l e (rmq 2 0 0) s m args below meth c H locs 0 0 Q (F0 m 0 ls []) := by
    intro H locs hw
    refine lv_aload_n hx hb dX4_steerEast_0 rfl (lv_at hl 0 rfl) ?_
    refine lv_iload_n hx hb dX4_steerEast_1 rfl (lv_at hl 1 rfl) ?_
    refine lv_iload_n hx hb dX4_steerEast_2 rfl (lv_at hl 2 rfl) ?_
    obtain ⟨hm, hq⟩ := h
    refine dv_4_68 (rest := []) E hw hA hm hq ⟨Nat.le_of_ble_eq_true rfl, Nat.le_of_ble_eq_true rfl⟩ hl.1 (Nat.le_of_ble_eq_true rfl) dX4_steerEast_3 ⟨Nat.le_of_ble_eq_true rfl, Nat.le_of_ble_eq_true rfl⟩ (fun r1 z2 H locs h hw => ?_)
    refine lv_if_eq (tgt := 30) hx hb dX4_steerEast_6 (by decide) (fun c3 => ?_) (fun c3 => ?_)
    · replace h := h.1 c3
      refine lv_iconst (v := 0) hx hb dX4_steerEast_30 (by decide) ?_
      exact hret (0 : Int32) z2 H locs 31 ls hw rfl h dX4_steerEast_31
    · replace h := h.2 c3
      refine lv_aload_n hx hb dX4_steerEast_9 rfl (lv_at hl 0 rfl) ?_
      refine lv_iload_n hx hb dX4_steerEast_10 rfl (lv_at hl 1 rfl) ?_
      refine lv_iload_n hx hb dX4_steerEast_11 rfl (lv_at hl 2 rfl) ?_
      refine lv_iload_n hx hb dX4_steerEast_12 rfl (lv_at hl 3 rfl) ?_
      refine lv_iload hx hb dX4_steerEast_13 (lv_at hl 4 rfl) ?_
      obtain ⟨hm, hq⟩ := h
      refine dv_4_72 (rest := []) E hw hA hm hq ⟨Nat.le_of_ble_eq_true rfl, Nat.le_of_ble_eq_true rfl⟩ hl.1 (Nat.le_of_ble_eq_true rfl) dX4_steerEast_15 ⟨Nat.le_of_ble_eq_true rfl, Nat.le_of_ble_eq_true rfl⟩ (fun r4 z5 H locs h hw => ?_)
      refine lv_if_eq (tgt := 30) hx hb dX4_steerEast_18 (by decide) (fun c6 => ?_) (fun c6 => ?_)
      · replace h := h.1 c6
        refine lv_iconst (v := 0) hx hb dX4_steerEast_30 (by decide) ?_
        exact hret (0 : Int32) z5 H locs 31 ls hw rfl h dX4_steerEast_31
      · replace h := h.2 c6
        refine lv_aload_n hx hb dX4_steerEast_21 rfl (lv_at hl 0 rfl) ?_
        refine lv_iload_n hx hb dX4_steerEast_22 rfl (lv_at hl 1 rfl) ?_
        refine lv_iload_n hx hb dX4_steerEast_23 rfl (lv_at hl 3 rfl) ?_
        obtain ⟨hm, hq⟩ := h
        refine dv_4_76 (rest := []) E hw hA hm hq ⟨Nat.le_of_ble_eq_true rfl, Nat.le_of_ble_eq_true rfl⟩ hl.1 (Nat.le_of_ble_eq_true rfl) dX4_steerEast_24 ⟨Nat.le_of_ble_eq_true rfl, Nat.le_of_ble_eq_true rfl⟩ (fun r7 z8 H locs h hw => ?_)
        refine lv_goto (tgt := 31) hx hb dX4_steerEast_27 (by decide) ?_
        exact hret r7 z8 H locs 31 ls hw rfl h dX4_steerEast_31
  exact b00 s.heap [] hw
