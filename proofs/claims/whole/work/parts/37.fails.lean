theorem qf2_4 : Cond.fieldLink RX4 28 "TenYards$Faller" (TX4 1).2.1 (TX4 1).2.2.1 ∈ W0 := w0_m (a := tables_1_1) 101 rfl tb_1 rfl
set_option maxHeartbeats 4000000 in
theorem c_X4_fail (l : Launch) (hst : l.stackTraces = false) (D : va_G) (ad : Nat → Nat → Nat) (cs : Nat → ClassId) (sk : (Nat → Nat) × (Nat → Nat)) (z : ZS) (a : Nat) (ha : a ∈ zP z) : MVX l D ad cs sk yX4_fail cX4_fail 1 (rmq 6 1 6) [.ref a] z (fun u => u = z ∧ zF z a 1 = 0) (fun E u => E = EXI ∧ u = z ∧ ¬ zF z a 1 = 0) := by
  refine MVX.of RX4 rfl (by decide) (Nat.le_of_ble_eq_true rfl) ?_
  intro p e s m args below meth c A E hw hA hr hlk htab ls hl
  have hx := E.1.1
  have hb := E.1.2.1
  have hl : lv_has ls 1 [(0, .ref a)] := hl
  refine lv_aload_n hx hb dX4_fail_0 rfl (lv_at hl 0 rfl) ?_
  refine xgF E hw ha (k := 1) (ref := "TenYards$Faller") (by decide) qf2_4 (Or.inl rfl) dX4_fail_1 ?_
  refine lv_if_eq (tgt := 17) hx hb dX4_fail_4 (by decide) (fun c1 => ?_) (fun c1 => ?_)
  · exact W.widen (by decide) (by decide) (vx_ret (xrV hx hb hr hlk hw ⟨rfl, c1⟩ dX4_fail_17))
  · exact xth (i := 8) E hw hst tw_4_83 (by decide) rfl ⟨rfl, rfl, c1⟩ hl.1 hlk dX4_fail_7 dX4_fail_10 dX4_fail_11 dX4_fail_13 dX4_fail_16 htab ⟨by decide, by decide, by decide, by decide⟩ (by decide) (by decide)
theorem qf2_1 : Cond.fieldLink RX1 28 "TenYards$Crabbing" (TX4 1).2.1 (TX4 1).2.2.1 ∈ W0 := w0_m (a := tables_1_1) 104 rfl tb_1 rfl
theorem qg2_1 : Cond.sameField "TenYards$Crabbing" (TX4 1).1 (TX4 1).2.1 (TX4 1).2.2.1 ∈ W0 := w0_m (a := tables_1_1) 105 rfl tb_1 rfl
set_option maxHeartbeats 4000000 in
theorem c_X1_fail (l : Launch) (hst : l.stackTraces = false) (D : va_G) (ad : Nat → Nat → Nat) (cs : Nat → ClassId) (sk : (Nat → Nat) × (Nat → Nat)) (z : ZS) (a : Nat) (ha : a ∈ zP z) : MVX l D ad cs sk yX1_fail cX1_fail 1 (rmq 6 1 6) [.ref a] z (fun u => u = z ∧ zF z a 1 = 0) (fun E u => E = EXU ∧ u = z ∧ ¬ zF z a 1 = 0) := by
  refine MVX.of RX1 rfl (by decide) (Nat.le_of_ble_eq_true rfl) ?_
  intro p e s m args below meth c A E hw hA hr hlk htab ls hl
  have hx := E.1.1
  have hb := E.1.2.1
  have hl : lv_has ls 1 [(0, .ref a)] := hl
  refine lv_aload_n hx hb dX1_fail_0 rfl (lv_at hl 0 rfl) ?_
  refine xgF E hw ha (k := 1) (ref := "TenYards$Crabbing") (by decide) qf2_1 (Or.inr qg2_1) dX1_fail_1 ?_
  refine lv_if_eq (tgt := 17) hx hb dX1_fail_4 (by decide) (fun c1 => ?_) (fun c1 => ?_)
  · exact W.widen (by decide) (by decide) (vx_ret (xrV hx hb hr hlk hw ⟨rfl, c1⟩ dX1_fail_17))
  · exact xth (i := 6) E hw hst tw_1_35 (by decide) rfl ⟨rfl, rfl, c1⟩ hl.1 hlk dX1_fail_7 dX1_fail_10 dX1_fail_11 dX1_fail_13 dX1_fail_16 htab ⟨by decide, by decide, by decide, by decide⟩ (by decide) (by decide)
theorem qf2_10 : Cond.fieldLink RX10 26 "TenYards$Stalled" (TX4 1).2.1 (TX4 1).2.2.1 ∈ W0 := w0_m (a := tables_1_1) 106 rfl tb_1 rfl
theorem qg2_10 : Cond.sameField "TenYards$Stalled" (TX4 1).1 (TX4 1).2.1 (TX4 1).2.2.1 ∈ W0 := w0_m (a := tables_1_1) 107 rfl tb_1 rfl
set_option maxHeartbeats 4000000 in
theorem c_X10_fail (l : Launch) (hst : l.stackTraces = false) (D : va_G) (ad : Nat → Nat → Nat) (cs : Nat → ClassId) (sk : (Nat → Nat) × (Nat → Nat)) (z : ZS) (a : Nat) (ha : a ∈ zP z) : MVX l D ad cs sk yX10_fail cX10_fail 1 (rmq 6 1 6) [.ref a] z (fun u => u = z ∧ zF z a 1 = 0) (fun E u => E = EXA ∧ u = z ∧ ¬ zF z a 1 = 0) := by
  refine MVX.of RX10 rfl (by decide) (Nat.le_of_ble_eq_true rfl) ?_
  intro p e s m args below meth c A E hw hA hr hlk htab ls hl
  have hx := E.1.1
  have hb := E.1.2.1
  have hl : lv_has ls 1 [(0, .ref a)] := hl
  refine lv_aload_n hx hb dX10_fail_0 rfl (lv_at hl 0 rfl) ?_
  refine xgF E hw ha (k := 1) (ref := "TenYards$Stalled") (by decide) qf2_10 (Or.inr qg2_10) dX10_fail_1 ?_
  refine lv_if_eq (tgt := 17) hx hb dX10_fail_4 (by decide) (fun c1 => ?_) (fun c1 => ?_)
  · exact W.widen (by decide) (by decide) (vx_ret (xrV hx hb hr hlk hw ⟨rfl, c1⟩ dX10_fail_17))
  · exact xth (i := 7) E hw hst tw_10_33 (by decide) rfl ⟨rfl, rfl, c1⟩ hl.1 hlk dX10_fail_7 dX10_fail_10 dX10_fail_11 dX10_fail_13 dX10_fail_16 htab ⟨by decide, by decide, by decide, by decide⟩ (by decide) (by decide)
theorem c_X8_fail (l : Launch) (D : va_G) (ad : Nat → Nat → Nat) (cs : Nat → ClassId) (sk : (Nat → Nat) × (Nat → Nat)) (z : ZS) (a : Nat) : MVX l D ad cs sk yX8_fail cX8_fail 1 (rmq 6 1 6) [.ref a] z (fun u => u = z) (fun _ _ => False) := by
  refine MVX.of RX8 rfl (by decide) (Nat.le_of_ble_eq_true rfl) ?_
  intro p e s m args below meth c A E hw hA hr hlk htab ls hl
  exact W.widen (by decide) (by decide) (vx_ret (xrV E.1.1 E.1.2.1 hr hlk hw rfl dX8_fail_0))
/-- element: what it answers, what it throws -/
def V_X11_element (z : ZS) (p1 p2 : Int32) (post : Int64 → ZS → Prop) (px : String → ZS → Prop) : Prop := V_X11_shelfAt z p1 (fun r z1 => (r = none → px EXA z1) ∧ (∀ o, r = some o → isS o ∧ ((zI z1 o 1 = 0 → px EXI z1) ∧ (¬ zI z1 o 1 = 0 → V_X9_hasPlaces z1 o p2 1 (fun r2 z2 => (r2 = 0 → px EXI z2) ∧ (¬ r2 = 0 → V_X9_valueAt z2 o p2 (fun r3 z3 => post (Int32.toInt64 r3) z3)))))))
set_option maxHeartbeats 4000000 in
theorem c_X11_element (l : Launch) (hst : l.stackTraces = false) (D : va_G) (ad : Nat → Nat → Nat) (cs : Nat → ClassId) (sk : (Nat → Nat) × (Nat → Nat)) (z : ZS) (p1 p2 : Int32) (post : Int64 → ZS → Prop) (px : String → ZS → Prop) (h : V_X11_element z p1 p2 post px) : MLX l D ad cs sk yX11_element cX11_element 4 (rmq 7 1 6) [.ref (ad 0 100), .int p1, .int p2] z post px := by
  refine MLX.of RX11 rfl (by decide) (Nat.le_of_ble_eq_true rfl) ?_
  intro p e s m args below meth c A E hw hA hr hlk htab ls hl
  have hx := E.1.1
  have hb := E.1.2.1
  have hl : lv_has ls 4 [(0, .ref (ad 0 100)), (1, .int p1), (2, .int p2)] := hl
  unfold V_X11_element at h
  refine lv_aload_n hx hb dX11_element_0 rfl (lv_at hl 0 rfl) ?_
  refine lv_iload_n hx hb dX11_element_1 rfl (lv_at hl 1 rfl) ?_
  refine xcVA (As := [.int p1]) (rest := []) E hw hA (c_X11_shelfAt l D ad cs sk z p1 _ h) kc_11_58 yo_X11_shelfAt ⟨Nat.le_of_ble_eq_true rfl, Nat.le_of_ble_eq_true rfl⟩ (xrc E hw ky_0_100 rfl) rfl hl.1 rfl (Nat.le_of_ble_eq_true rfl) dX11_element_2 ⟨Nat.le_of_ble_eq_true rfl, Nat.le_of_ble_eq_true rfl⟩ (fun r z1 H locs hp hw => ?_)
  obtain ⟨ro, rfl, hp⟩ := hp
  clear h
  refine xsqastore_n (lv' := [(3, va_rf (Option.map (fun o => ad o 100) ro)), (0, .ref (ad 0 100)), (1, .int p1), (2, .int p2)]) hx hb dX11_element_5 rfl hl (by decide) rfl (fun ls hl => ?_)
  refine xlqaload_n hx hb dX11_element_6 rfl (lv_at hl 0 rfl) ?_
  refine xnnlo (tgt := 21) hx hb dX11_element_7 (by decide) (fun e1 => ?_) (fun o e1 => ?_)
  · exact xthW (i := 9) E hw hst tw_11_293 (by decide) rfl (hp.1 e1) hl.1 hlk dX11_element_10 dX11_element_13 dX11_element_14 dX11_element_17 dX11_element_20 htab ⟨by decide, by decide, by decide, by decide⟩ (by decide) (by decide)
  replace hp := hp.2 o e1
  obtain ⟨ho, hp⟩ := hp
  subst e1
  have hl : lv_has ls 4 [(3, .ref (ad o 100)), (0, .ref (ad 0 100)), (1, .int p1), (2, .int p2)] := hl
  refine lv_aload_n hx hb dX11_element_21 rfl (lv_at hl 0 rfl) ?_
  refine xgI E hw (c1 := 9) (ciisS ho) (kyisS_100 ho) fo_9_1 qf_11_296 dX11_element_22 ?_
  refine lv_if_ne (tgt := 39) hx hb dX11_element_25 (by decide) (fun c1 => ?_) (fun c1 => ?_)
  · replace hp := hp.2 c1
    refine lv_aload_n hx hb dX11_element_39 rfl (lv_at hl 0 rfl) ?_
    refine lv_iload_n hx hb dX11_element_40 rfl (lv_at hl 3 rfl) ?_
    refine lv_iconst (v := 1) hx hb dX11_element_41 (by decide) ?_
    refine xcVI (As := [.int p2, .int (1 : Int32)]) (rest := []) E hw hA (c_X9_hasPlaces l D ad cs sk z1 o p2 (1 : Int32) _ ho hp) kc_11_283 yo_X9_hasPlaces ⟨Nat.le_of_ble_eq_true rfl, Nat.le_of_ble_eq_true rfl⟩ (xrc E hw (kyisS_100 ho) (ciisS ho)) rfl hl.1 rfl (Nat.le_of_ble_eq_true rfl) dX11_element_42 ⟨Nat.le_of_ble_eq_true rfl, Nat.le_of_ble_eq_true rfl⟩ (fun r2 z2 H locs hp hw => ?_)
    refine lv_if_ne (tgt := 59) hx hb dX11_element_45 (by decide) (fun c2 => ?_) (fun c2 => ?_)
    · replace hp := hp.2 c2
      refine lv_aload_n hx hb dX11_element_59 rfl (lv_at hl 0 rfl) ?_
      refine lv_iload_n hx hb dX11_element_60 rfl (lv_at hl 3 rfl) ?_
      refine xcVI (As := [.int p2]) (rest := []) E hw hA (c_X9_valueAt l D ad cs sk z2 o p2 _ ho hp) kc_11_258 yo_X9_valueAt ⟨Nat.le_of_ble_eq_true rfl, Nat.le_of_ble_eq_true rfl⟩ (xrc E hw (kyisS_100 ho) (ciisS ho)) rfl hl.1 rfl (Nat.le_of_ble_eq_true rfl) dX11_element_61 ⟨Nat.le_of_ble_eq_true rfl, Nat.le_of_ble_eq_true rfl⟩ (fun r3 z3 H locs hp hw => ?_)
      refine lv_i2l hx hb dX11_element_64 rfl ?_
      exact W.widen (by decide) (by decide) (vx_ret (xrL hx hb hr hlk hw hp dX11_element_65))
    · exact xthW (i := 11) E hw hst tw_11_303 (by decide) rfl (hp.1 c2) hl.1 hlk dX11_element_48 dX11_element_51 dX11_element_52 dX11_element_55 dX11_element_58 htab ⟨by decide, by decide, by decide, by decide⟩ (by decide) (by decide)
  · exact xthW (i := 10) E hw hst tw_11_303 (by decide) rfl (hp.1 c1) hl.1 hlk dX11_element_28 dX11_element_31 dX11_element_32 dX11_element_35 dX11_element_38 htab ⟨by decide, by decide, by decide, by decide⟩ (by decide) (by decide)
