def V_X4_steerNorth (z : ZS) (a0 : Nat) (p1 : Int32) (p2 : Int32) (p3 : Int32) (p4 : Int32) (post : Int32 → ZS → Prop) : Prop := (a0 ∈ zP z ∧ Vd_isToSteer z a0 p1 p2 (fun r1 z2 => ((r1 = 0 → post (0 : Int32) z2) ∧ (¬ r1 = 0 → (a0 ∈ zP z2 ∧ Vd_steersAlongX z2 a0 p1 p2 p3 p4 (fun r4 z5 => ((¬ r4 = 0 → post (0 : Int32) z5) ∧ (r4 = 0 → (a0 ∈ zP z5 ∧ Vd_stepAlong z5 a0 p2 p4 (fun r7 z8 => post r7 z8))))))))))
set_option maxHeartbeats 4000000 in
set_option maxRecDepth 100000 in
theorem c_X4_steerNorth (l : Launch) (D : va_G) (ad : Nat → Nat → Nat) (cs : Nat → ClassId) (sk : (Nat → Nat) × (Nat → Nat)) (z : ZS) (a0 : Nat) (p1 : Int32) (p2 : Int32) (p3 : Int32) (p4 : Int32) (post : Int32 → ZS → Prop) (h : V_X4_steerNorth z a0 p1 p2 p3 p4 post) : MI l D ad cs sk yX4_steerNorth cX4_steerNorth 5 .int (rmq 2 0 0) [.ref a0, .int p1, .int p2, .int p3, .int p4] z post := by
  refine MI.of RX4 rfl (by decide) (Nat.le_of_ble_eq_true rfl) ?_
  intro p e s m args below meth c A Q E hw hA hret ls hl
  have hx := E.1.1
  have hb := E.1.2.1
  have hml := E.1.2.2.1
  have hown := E.1.2.2.2.1
  have h0 := E.1.2.2.2.2
  have hl : lv_has ls 5 [(0, .ref a0), (1, .int p1), (2, .int p2), (3, .int p3), (4, .int p4)] := hl
  unfold V_X4_steerNorth at h
  have b00 : ∀ (H : Heap) (locs : List Loc), OW D ad cs A s.heap z H locs → W p l e (rmq 2 0 0) s m args below meth c H locs 0 0 Q (F0 m 0 ls []) := by
    intro H locs hw
    refine lv_aload_n hx hb dX4_steerNorth_0 rfl (lv_at hl 0 rfl) ?_
    refine lv_iload_n hx hb dX4_steerNorth_1 rfl (lv_at hl 1 rfl) ?_
    refine lv_iload_n hx hb dX4_steerNorth_2 rfl (lv_at hl 2 rfl) ?_
    obtain ⟨hm, hq⟩ := h
    refine dv_4_68 (rest := []) E hw hA hm hq ⟨Nat.le_of_ble_eq_true rfl, Nat.le_of_ble_eq_true rfl⟩ hl.1 (Nat.le_of_ble_eq_true rfl) dX4_steerNorth_3 ⟨Nat.le_of_ble_eq_true rfl, Nat.le_of_ble_eq_true rfl⟩ (fun r1 z2 H locs h hw => ?_)
    refine lv_if_eq (tgt := 31) hx hb dX4_steerNorth_6 (by decide) (fun c3 => ?_) (fun c3 => ?_)
    · replace h := h.1 c3
      refine lv_iconst (v := 0) hx hb dX4_steerNorth_31 (by decide) ?_
      exact hret (0 : Int32) z2 H locs 32 ls hw rfl h dX4_steerNorth_32
    · replace h := h.2 c3
      refine lv_aload_n hx hb dX4_steerNorth_9 rfl (lv_at hl 0 rfl) ?_
      refine lv_iload_n hx hb dX4_steerNorth_10 rfl (lv_at hl 1 rfl) ?_
      refine lv_iload_n hx hb dX4_steerNorth_11 rfl (lv_at hl 2 rfl) ?_
      refine lv_iload_n hx hb dX4_steerNorth_12 rfl (lv_at hl 3 rfl) ?_
      refine lv_iload hx hb dX4_steerNorth_13 (lv_at hl 4 rfl) ?_
      obtain ⟨hm, hq⟩ := h
      refine dv_4_72 (rest := []) E hw hA hm hq ⟨Nat.le_of_ble_eq_true rfl, Nat.le_of_ble_eq_true rfl⟩ hl.1 (Nat.le_of_ble_eq_true rfl) dX4_steerNorth_15 ⟨Nat.le_of_ble_eq_true rfl, Nat.le_of_ble_eq_true rfl⟩ (fun r4 z5 H locs h hw => ?_)
      refine lv_if_ne (tgt := 31) hx hb dX4_steerNorth_18 (by decide) (fun c6 => ?_) (fun c6 => ?_)
      · replace h := h.1 c6
        refine lv_iconst (v := 0) hx hb dX4_steerNorth_31 (by decide) ?_
        exact hret (0 : Int32) z5 H locs 32 ls hw rfl h dX4_steerNorth_32
      · replace h := h.2 c6
        refine lv_aload_n hx hb dX4_steerNorth_21 rfl (lv_at hl 0 rfl) ?_
        refine lv_iload_n hx hb dX4_steerNorth_22 rfl (lv_at hl 2 rfl) ?_
        refine lv_iload hx hb dX4_steerNorth_23 (lv_at hl 4 rfl) ?_
        obtain ⟨hm, hq⟩ := h
        refine dv_4_76 (rest := []) E hw hA hm hq ⟨Nat.le_of_ble_eq_true rfl, Nat.le_of_ble_eq_true rfl⟩ hl.1 (Nat.le_of_ble_eq_true rfl) dX4_steerNorth_25 ⟨Nat.le_of_ble_eq_true rfl, Nat.le_of_ble_eq_true rfl⟩ (fun r7 z8 H locs h hw => ?_)
        refine lv_goto (tgt := 32) hx hb dX4_steerNorth_28 (by decide) ?_
        exact hret r7 z8 H locs 32 ls hw rfl h dX4_steerNorth_32
  exact b00 s.heap [] hw
def Vd_steerNorth (z : ZS) (a : Nat) (p1 p2 p3 p4 : Int32) (post : Int32 → ZS → Prop) : Prop := V_X4_steerNorth z a p1 p2 p3 p4 post
theorem dv_3_118 {p : Program} {l : Launch} {e : Env} {R : Room} {s : State} {m : MethodId} {args : Array Value} {below : List Frame} {meth : Method} {c : Code} {H : Heap} {locs : List Loc} {cells slots : Nat} {Q : State → Prop} {cc : ByteArray} {nL pc : Nat} {ls : Array Slot} {rest : List Value} {D : va_G} {ad : Nat → Nat → Nat} {cs : Nat → ClassId} {A : Nat → Prop} {sk : (Nat → Nat) × (Nat → Nat)} {z : ZS} (E : EN p m c cc nL s args RX3 D cs A sk) (hw : OW D ad cs A s.heap z H locs) (hA : ∀ q, s.heap.size ≤ q → A q) {a : Nat} {p1 p2 p3 p4 : Int32} {post : Int32 → ZS → Prop} (ha : a ∈ zP z) (h : Vd_steerNorth z a p1 p2 p3 p4 post) (hR : 2 + 1 ≤ R.frames ∧ 40 * (2 + 1) ≤ R.locals) (hsz : ls.size = nL) (h8 : (rest.map fun v => v.category).sum ≤ 8) (hdg : decode cc pc = .ok (.invokevirtual 118, 3)) (hf : cells ≤ R.cells ∧ slots ≤ R.slots) (kk : ∀ (r : Int32) (z1 : ZS) (H1 : Heap) (locs1 : List Loc), post r z1 → OW D ad cs A s.heap z1 H1 locs1 → W p l e R s m args below meth c H1 locs1 cells slots Q (F0 m (pc + 3) ls (.int r :: rest))) : W p l e R s m args below meth c H locs cells slots Q (F0 m pc ls (.int p4 :: .int p3 :: .int p2 :: .int p1 :: .ref a :: rest)) := by
  obtain ⟨k, hk⟩ : ∃ k, zK z a = k := ⟨_, rfl⟩
  unfold Vd_steerNorth at h
  match k, hk, h with
  | 0, hk, h => exact xcVI (As := [.int p1, .int p2, .int p3, .int p4]) (rest := rest) E hw hA (c_X4_steerNorth l D ad cs sk z a p1 p2 p3 p4 _ h) kc_3_118 yo_X4_steerNorth ⟨by simp only [rmq]; omega, by simp only [rmq]; omega⟩ (xrF E hw ha hk (C := RX4) (T := TX4) (n := 8) rfl) rfl hsz rfl h8 hdg hf kk
  | 1, hk, h => exact xcUI (As := [.int p1, .int p2, .int p3, .int p4]) (rest := rest) E hw hA (c_X4_steerNorth l D ad cs sk z a p1 p2 p3 p4 _ h) (xwU E ku_3_118_8 (Or.inl rfl) xo_X4_steerNorth ⟨by simp only [rmq]; omega, by simp only [rmq]; omega⟩) (xrF E hw ha hk (C := RX8) (T := TX8) (n := 8) rfl) rfl hsz rfl h8 hdg hf kk
  | 2, hk, h => exact xcUI (As := [.int p1, .int p2, .int p3, .int p4]) (rest := rest) E hw hA (c_X4_steerNorth l D ad cs sk z a p1 p2 p3 p4 _ h) (xwU E ku_3_118_7 (Or.inl rfl) xo_X4_steerNorth ⟨by simp only [rmq]; omega, by simp only [rmq]; omega⟩) (xrF E hw ha hk (C := RX7) (T := TX7) (n := 8) rfl) rfl hsz rfl h8 hdg hf kk
  | 3, hk, h => exact xcUI (As := [.int p1, .int p2, .int p3, .int p4]) (rest := rest) E hw hA (c_X4_steerNorth l D ad cs sk z a p1 p2 p3 p4 _ h) (xwU E ku_3_118_5 (Or.inl rfl) xo_X4_steerNorth ⟨by simp only [rmq]; omega, by simp only [rmq]; omega⟩) (xrF E hw ha hk (C := RX5) (T := TX5) (n := 8) rfl) rfl hsz rfl h8 hdg hf kk
  | 4, hk, h => exact xcUI (As := [.int p1, .int p2, .int p3, .int p4]) (rest := rest) E hw hA (c_X4_steerNorth l D ad cs sk z a p1 p2 p3 p4 _ h) (xwU E ku_3_118_6 (Or.inl rfl) xo_X4_steerNorth ⟨by simp only [rmq]; omega, by simp only [rmq]; omega⟩) (xrF E hw ha hk (C := RX6) (T := TX6) (n := 8) rfl) rfl hsz rfl h8 hdg hf kk
  | 5, hk, h => exact xcUI (As := [.int p1, .int p2, .int p3, .int p4]) (rest := rest) E hw hA (c_X4_steerNorth l D ad cs sk z a p1 p2 p3 p4 _ h) (xwU E ku_3_118_1 (Or.inl rfl) xo_X4_steerNorth ⟨by simp only [rmq]; omega, by simp only [rmq]; omega⟩) (xrF E hw ha hk (C := RX1) (T := TX1) (n := 8) rfl) rfl hsz rfl h8 hdg hf kk
  | 6, hk, h => exact xcUI (As := [.int p1, .int p2, .int p3, .int p4]) (rest := rest) E hw hA (c_X4_steerNorth l D ad cs sk z a p1 p2 p3 p4 _ h) (xwU E ku_3_118_2 (Or.inl rfl) xo_X4_steerNorth ⟨by simp only [rmq]; omega, by simp only [rmq]; omega⟩) (xrF E hw ha hk (C := RX2) (T := TX2) (n := 8) rfl) rfl hsz rfl h8 hdg hf kk
  | 7, hk, h => exact xcUI (As := [.int p1, .int p2, .int p3, .int p4]) (rest := rest) E hw hA (c_X4_steerNorth l D ad cs sk z a p1 p2 p3 p4 _ h) (xwU E ku_3_118_10 (Or.inl rfl) xo_X4_steerNorth ⟨by simp only [rmq]; omega, by simp only [rmq]; omega⟩) (xrF E hw ha hk (C := RX10) (T := TX10) (n := 8) rfl) rfl hsz rfl h8 hdg hf kk
  | (_ + 8), hk, h => exact xcVI (As := [.int p1, .int p2, .int p3, .int p4]) (rest := rest) E hw hA (c_X4_steerNorth l D ad cs sk z a p1 p2 p3 p4 _ h) kc_3_118 yo_X4_steerNorth ⟨by simp only [rmq]; omega, by simp only [rmq]; omega⟩ (xrF E hw ha hk (C := RX4) (T := TX4) (n := 8) rfl) rfl hsz rfl h8 hdg hf kk
def Vd_steerEast (z : ZS) (a : Nat) (p1 p2 p3 p4 : Int32) (post : Int32 → ZS → Prop) : Prop := V_X4_steerEast z a p1 p2 p3 p4 post
theorem dv_3_114 {p : Program} {l : Launch} {e : Env} {R : Room} {s : State} {m : MethodId} {args : Array Value} {below : List Frame} {meth : Method} {c : Code} {H : Heap} {locs : List Loc} {cells slots : Nat} {Q : State → Prop} {cc : ByteArray} {nL pc : Nat} {ls : Array Slot} {rest : List Value} {D : va_G} {ad : Nat → Nat → Nat} {cs : Nat → ClassId} {A : Nat → Prop} {sk : (Nat → Nat) × (Nat → Nat)} {z : ZS} (E : EN p m c cc nL s args RX3 D cs A sk) (hw : OW D ad cs A s.heap z H locs) (hA : ∀ q, s.heap.size ≤ q → A q) {a : Nat} {p1 p2 p3 p4 : Int32} {post : Int32 → ZS → Prop} (ha : a ∈ zP z) (h : Vd_steerEast z a p1 p2 p3 p4 post) (hR : 2 + 1 ≤ R.frames ∧ 40 * (2 + 1) ≤ R.locals) (hsz : ls.size = nL) (h8 : (rest.map fun v => v.category).sum ≤ 8) (hdg : decode cc pc = .ok (.invokevirtual 114, 3)) (hf : cells ≤ R.cells ∧ slots ≤ R.slots) (kk : ∀ (r : Int32) (z1 : ZS) (H1 : Heap) (locs1 : List Loc), post r z1 → OW D ad cs A s.heap z1 H1 locs1 → W p l e R s m args below meth c H1 locs1 cells slots Q (F0 m (pc + 3) ls (.int r :: rest))) : W p l e R s m args below meth c H locs cells slots Q (F0 m pc ls (.int p4 :: .int p3 :: .int p2 :: .int p1 :: .ref a :: rest)) := by
  obtain ⟨k, hk⟩ : ∃ k, zK z a = k := ⟨_, rfl⟩
  unfold Vd_steerEast at h
  match k, hk, h with
  | 0, hk, h => exact xcVI (As := [.int p1, .int p2, .int p3, .int p4]) (rest := rest) E hw hA (c_X4_steerEast l D ad cs sk z a p1 p2 p3 p4 _ h) kc_3_114 yo_X4_steerEast ⟨by simp only [rmq]; omega, by simp only [rmq]; omega⟩ (xrF E hw ha hk (C := RX4) (T := TX4) (n := 8) rfl) rfl hsz rfl h8 hdg hf kk
  | 1, hk, h => exact xcUI (As := [.int p1, .int p2, .int p3, .int p4]) (rest := rest) E hw hA (c_X4_steerEast l D ad cs sk z a p1 p2 p3 p4 _ h) (xwU E ku_3_114_8 (Or.inl rfl) xo_X4_steerEast ⟨by simp only [rmq]; omega, by simp only [rmq]; omega⟩) (xrF E hw ha hk (C := RX8) (T := TX8) (n := 8) rfl) rfl hsz rfl h8 hdg hf kk
  | 2, hk, h => exact xcUI (As := [.int p1, .int p2, .int p3, .int p4]) (rest := rest) E hw hA (c_X4_steerEast l D ad cs sk z a p1 p2 p3 p4 _ h) (xwU E ku_3_114_7 (Or.inl rfl) xo_X4_steerEast ⟨by simp only [rmq]; omega, by simp only [rmq]; omega⟩) (xrF E hw ha hk (C := RX7) (T := TX7) (n := 8) rfl) rfl hsz rfl h8 hdg hf kk
  | 3, hk, h => exact xcUI (As := [.int p1, .int p2, .int p3, .int p4]) (rest := rest) E hw hA (c_X4_steerEast l D ad cs sk z a p1 p2 p3 p4 _ h) (xwU E ku_3_114_5 (Or.inl rfl) xo_X4_steerEast ⟨by simp only [rmq]; omega, by simp only [rmq]; omega⟩) (xrF E hw ha hk (C := RX5) (T := TX5) (n := 8) rfl) rfl hsz rfl h8 hdg hf kk
  | 4, hk, h => exact xcUI (As := [.int p1, .int p2, .int p3, .int p4]) (rest := rest) E hw hA (c_X4_steerEast l D ad cs sk z a p1 p2 p3 p4 _ h) (xwU E ku_3_114_6 (Or.inl rfl) xo_X4_steerEast ⟨by simp only [rmq]; omega, by simp only [rmq]; omega⟩) (xrF E hw ha hk (C := RX6) (T := TX6) (n := 8) rfl) rfl hsz rfl h8 hdg hf kk
  | 5, hk, h => exact xcUI (As := [.int p1, .int p2, .int p3, .int p4]) (rest := rest) E hw hA (c_X4_steerEast l D ad cs sk z a p1 p2 p3 p4 _ h) (xwU E ku_3_114_1 (Or.inl rfl) xo_X4_steerEast ⟨by simp only [rmq]; omega, by simp only [rmq]; omega⟩) (xrF E hw ha hk (C := RX1) (T := TX1) (n := 8) rfl) rfl hsz rfl h8 hdg hf kk
  | 6, hk, h => exact xcUI (As := [.int p1, .int p2, .int p3, .int p4]) (rest := rest) E hw hA (c_X4_steerEast l D ad cs sk z a p1 p2 p3 p4 _ h) (xwU E ku_3_114_2 (Or.inl rfl) xo_X4_steerEast ⟨by simp only [rmq]; omega, by simp only [rmq]; omega⟩) (xrF E hw ha hk (C := RX2) (T := TX2) (n := 8) rfl) rfl hsz rfl h8 hdg hf kk
  | 7, hk, h => exact xcUI (As := [.int p1, .int p2, .int p3, .int p4]) (rest := rest) E hw hA (c_X4_steerEast l D ad cs sk z a p1 p2 p3 p4 _ h) (xwU E ku_3_114_10 (Or.inl rfl) xo_X4_steerEast ⟨by simp only [rmq]; omega, by simp only [rmq]; omega⟩) (xrF E hw ha hk (C := RX10) (T := TX10) (n := 8) rfl) rfl hsz rfl h8 hdg hf kk
  | (_ + 8), hk, h => exact xcVI (As := [.int p1, .int p2, .int p3, .int p4]) (rest := rest) E hw hA (c_X4_steerEast l D ad cs sk z a p1 p2 p3 p4 _ h) kc_3_114 yo_X4_steerEast ⟨by simp only [rmq]; omega, by simp only [rmq]; omega⟩ (xrF E hw ha hk (C := RX4) (T := TX4) (n := 8) rfl) rfl hsz rfl h8 hdg hf kk
def V_X3_sink_63 (o0 : Nat) (post : ZS → Prop) (z : ZS) (v1 : Int32) (v2 : Int32) (v3 : Int32) (s0 : Int32) : Prop := (∃ a9 : Nat, zG z o0 1 = some a9 ∧ (a9 ∈ zP z ∧ Vd_driftOf z a9 v1 (fun r10 z11 => (∀ z12 : ZS, z12 = wI z11 o0 2 ((zI z o0 2) + (v3 + r10)) → (∃ a13 : Nat, zG z12 o0 1 = some a13 ∧ (a13 ∈ zP z12 ∧ Vd_driftOf z12 a13 v2 (fun r14 z15 => (∀ z16 : ZS, z16 = wI z15 o0 3 ((zI z12 o0 3) + (s0 + r14)) → (∃ a17 : Nat, zG z16 o0 1 = some a17 ∧ (a17 ∈ zP z16 ∧ (∀ z18 : ZS, z18 = wI z16 o0 4 ((zI z16 o0 4) - (zF z16 a17 5)) → post z18)))))))))))
def V_X3_sink_31 (o0 : Nat) (post : ZS → Prop) (z : ZS) (v1 : Int32) (v2 : Int32) (s0 : Int32) : Prop := (((zI z o0 9) = 0 → (∃ a6 : Nat, zG z o0 1 = some a6 ∧ (a6 ∈ zP z ∧ Vd_steerNorth z a6 (zI z o0 2) (zI z o0 3) v1 v2 (fun r7 z8 => V_X3_sink_63 o0 post z8 v1 v2 s0 r7)))) ∧ (¬ (zI z o0 9) = 0 → V_X3_sink_63 o0 post z v1 v2 s0 (zI z o0 11)))
def V_X3_sink (z : ZS) (o0 : Nat) (p1 : Int32) (p2 : Int32) (post : ZS → Prop) : Prop := (((zI z o0 9) = 0 → (∃ a2 : Nat, zG z o0 1 = some a2 ∧ (a2 ∈ zP z ∧ Vd_steerEast z a2 (zI z o0 2) (zI z o0 3) p1 p2 (fun r3 z4 => V_X3_sink_31 o0 post z4 p1 p2 r3)))) ∧ (¬ (zI z o0 9) = 0 → V_X3_sink_31 o0 post z p1 p2 (zI z o0 10)))
set_option maxHeartbeats 4000000 in
set_option maxRecDepth 100000 in
theorem c_X3_sink (l : Launch) (D : va_G) (ad : Nat → Nat → Nat) (cs : Nat → ClassId) (sk : (Nat → Nat) × (Nat → Nat)) (z : ZS) (o0 : Nat) (p1 : Int32) (p2 : Int32) (post : ZS → Prop) (ho0 : isL o0) (h : V_X3_sink z o0 p1 p2 post) : MV l D ad cs sk yX3_sink cX3_sink 5 (rmq 3 0 0) [.ref (ad o0 100), .int p1, .int p2] z post := by
  refine MV.of RX3 rfl (by decide) (Nat.le_of_ble_eq_true rfl) ?_
  intro p e s m args below meth c A Q E hw hA hret ls hl
  have hx := E.1.1
  have hb := E.1.2.1
  have hml := E.1.2.2.1
  have hown := E.1.2.2.2.1
  have h0 := E.1.2.2.2.2
  have hl : lv_has ls 5 [(0, .ref (ad o0 100)), (1, .int p1), (2, .int p2)] := hl
  unfold V_X3_sink at h
  have b63 : ∀ (z : ZS) (v1 : Int32) (v2 : Int32) (v3 : Int32) (s0 : Int32), ∀ (H : Heap) (locs : List Loc), OW D ad cs A s.heap z H locs → ∀ ls : Array Slot, lv_has ls 5 [(0, .ref (ad o0 100)), (1, .int v1), (2, .int v2), (3, .int v3)] → V_X3_sink_63 o0 post z v1 v2 v3 s0 → W p l e (rmq 3 0 0) s m args below meth c H locs 0 0 Q (F0 m 63 ls [.int s0]) := by
    intro z v1 v2 v3 s0 H locs hw ls hl h
    unfold V_X3_sink_63 at h
    refine lv_istore (lv' := [(4, .int s0), (0, .ref (ad o0 100)), (1, .int v1), (2, .int v2), (3, .int v3)]) hx hb dX3_sink_63 hl (by decide) rfl (fun ls hl => ?_)
    refine lv_aload_n hx hb dX3_sink_65 rfl (lv_at hl 1 rfl) ?_
    refine lv_dup hx hb dX3_sink_66 rfl ?_
    refine xgI E hw (c1 := 3) (ciisL ho0) (kyisL_100 ho0) fo_3_2 qf_3_20 dX3_sink_67 ?_
    refine lv_iload_n hx hb dX3_sink_70 rfl (lv_at hl 4 rfl) ?_
    refine lv_aload_n hx hb dX3_sink_71 rfl (lv_at hl 1 rfl) ?_
    obtain ⟨a9, ea9, h⟩ := h
    refine xgS E hw (c1 := 3) (ciisL ho0) (kyisL_100 ho0) fo_3_1 ea9 qf_3_14 dX3_sink_72 ?_
    refine lv_iload_n hx hb dX3_sink_75 rfl (lv_at hl 2 rfl) ?_
    obtain ⟨hm, hq⟩ := h
    refine dv_3_108 (rest := [.int v3, .int (zI z o0 2), .ref (ad o0 100)]) E hw hA hm hq ⟨Nat.le_of_ble_eq_true rfl, Nat.le_of_ble_eq_true rfl⟩ hl.1 (Nat.le_of_ble_eq_true rfl) dX3_sink_76 ⟨Nat.le_of_ble_eq_true rfl, Nat.le_of_ble_eq_true rfl⟩ (fun r10 z11 H locs h hw => ?_)
    refine lv_iadd hx hb dX3_sink_79 ?_
    refine lv_iadd hx hb dX3_sink_80 ?_
    refine xpI E hw (c1 := 3) (ciisL ho0) (kyisL_100 ho0) fp_3_2 rfl rfl qf_3_20 dX3_sink_81 (fun z12 ez12 H locs hw => ?_)
    replace h := h z12 ez12
    refine lv_aload_n hx hb dX3_sink_84 rfl (lv_at hl 1 rfl) ?_
    refine lv_dup hx hb dX3_sink_85 rfl ?_
    refine xgI E hw (c1 := 3) (ciisL ho0) (kyisL_100 ho0) fo_3_3 qf_3_24 dX3_sink_86 ?_
    refine lv_iload hx hb dX3_sink_89 (lv_at hl 0 rfl) ?_
    refine lv_aload_n hx hb dX3_sink_91 rfl (lv_at hl 1 rfl) ?_
    obtain ⟨a13, ea13, h⟩ := h
    refine xgS E hw (c1 := 3) (ciisL ho0) (kyisL_100 ho0) fo_3_1 ea13 qf_3_14 dX3_sink_92 ?_
    refine lv_iload_n hx hb dX3_sink_95 rfl (lv_at hl 3 rfl) ?_
    obtain ⟨hm, hq⟩ := h
    refine dv_3_108 (rest := [.int s0, .int (zI z12 o0 3), .ref (ad o0 100)]) E hw hA hm hq ⟨Nat.le_of_ble_eq_true rfl, Nat.le_of_ble_eq_true rfl⟩ hl.1 (Nat.le_of_ble_eq_true rfl) dX3_sink_96 ⟨Nat.le_of_ble_eq_true rfl, Nat.le_of_ble_eq_true rfl⟩ (fun r14 z15 H locs h hw => ?_)
    refine lv_iadd hx hb dX3_sink_99 ?_
    refine lv_iadd hx hb dX3_sink_100 ?_
    refine xpI E hw (c1 := 3) (ciisL ho0) (kyisL_100 ho0) fp_3_3 rfl rfl qf_3_24 dX3_sink_101 (fun z16 ez16 H locs hw => ?_)
    replace h := h z16 ez16
    refine lv_aload_n hx hb dX3_sink_104 rfl (lv_at hl 1 rfl) ?_
    refine lv_dup hx hb dX3_sink_105 rfl ?_
    refine xgI E hw (c1 := 3) (ciisL ho0) (kyisL_100 ho0) fo_3_4 qf_3_27 dX3_sink_106 ?_
    refine lv_aload_n hx hb dX3_sink_109 rfl (lv_at hl 1 rfl) ?_
    obtain ⟨a17, ea17, h⟩ := h
    refine xgS E hw (c1 := 3) (ciisL ho0) (kyisL_100 ho0) fo_3_1 ea17 qf_3_14 dX3_sink_110 ?_
    obtain ⟨hm, h⟩ := h
    refine xgF E hw hm (k := 5) (ref := "TenYards$Faller") (by decide) qf_3_121 (Or.inl rfl) dX3_sink_113 ?_
    refine lv_isub hx hb dX3_sink_116 ?_
    refine xpI E hw (c1 := 3) (ciisL ho0) (kyisL_100 ho0) fp_3_4 rfl rfl qf_3_27 dX3_sink_117 (fun z18 ez18 H locs hw => ?_)
    replace h := h z18 ez18
    exact hret z18 H locs 120 ls hw h dX3_sink_120
  have b31 : ∀ (z : ZS) (v1 : Int32) (v2 : Int32) (s0 : Int32), ∀ (H : Heap) (locs : List Loc), OW D ad cs A s.heap z H locs → ∀ ls : Array Slot, lv_has ls 5 [(0, .ref (ad o0 100)), (1, .int v1), (2, .int v2)] → V_X3_sink_31 o0 post z v1 v2 s0 → W p l e (rmq 3 0 0) s m args below meth c H locs 0 0 Q (F0 m 31 ls [.int s0]) := by
    intro z v1 v2 s0 H locs hw ls hl h
    unfold V_X3_sink_31 at h
    refine lv_istore_n (lv' := [(3, .int s0), (0, .ref (ad o0 100)), (1, .int v1), (2, .int v2)]) hx hb dX3_sink_31 rfl hl (by decide) rfl (fun ls hl => ?_)
    refine lv_aload_n hx hb dX3_sink_32 rfl (lv_at hl 1 rfl) ?_
    refine xgI E hw (c1 := 3) (ciisL ho0) (kyisL_100 ho0) fo_3_9 qf_3_42 dX3_sink_33 ?_
    refine lv_if_eq (tgt := 46) hx hb dX3_sink_36 (by decide) (fun c5 => ?_) (fun c5 => ?_)
    · replace h := h.1 c5
      refine lv_aload_n hx hb dX3_sink_46 rfl (lv_at hl 1 rfl) ?_
      obtain ⟨a6, ea6, h⟩ := h
      refine xgS E hw (c1 := 3) (ciisL ho0) (kyisL_100 ho0) fo_3_1 ea6 qf_3_14 dX3_sink_47 ?_
      refine lv_aload_n hx hb dX3_sink_50 rfl (lv_at hl 1 rfl) ?_
      refine xgI E hw (c1 := 3) (ciisL ho0) (kyisL_100 ho0) fo_3_2 qf_3_20 dX3_sink_51 ?_
      refine lv_aload_n hx hb dX3_sink_54 rfl (lv_at hl 1 rfl) ?_
      refine xgI E hw (c1 := 3) (ciisL ho0) (kyisL_100 ho0) fo_3_3 qf_3_24 dX3_sink_55 ?_
      refine lv_iload_n hx hb dX3_sink_58 rfl (lv_at hl 2 rfl) ?_
      refine lv_iload_n hx hb dX3_sink_59 rfl (lv_at hl 3 rfl) ?_
      obtain ⟨hm, hq⟩ := h
      refine dv_3_118 (rest := []) E hw hA hm hq ⟨Nat.le_of_ble_eq_true rfl, Nat.le_of_ble_eq_true rfl⟩ hl.1 (Nat.le_of_ble_eq_true rfl) dX3_sink_60 ⟨Nat.le_of_ble_eq_true rfl, Nat.le_of_ble_eq_true rfl⟩ (fun r7 z8 H locs h hw => ?_)
      exact b63 z8 v1 v2 s0 r7 H locs hw ls (lv_sub hl [1, 2, 3, 0] rfl) h
    · replace h := h.2 c5
      refine lv_aload_n hx hb dX3_sink_39 rfl (lv_at hl 1 rfl) ?_
      refine xgI E hw (c1 := 3) (ciisL ho0) (kyisL_100 ho0) fo_3_11 qf_3_49 dX3_sink_40 ?_
      refine lv_goto (tgt := 63) hx hb dX3_sink_43 (by decide) ?_
      exact b63 z v1 v2 s0 (zI z o0 11) H locs hw ls (lv_sub hl [1, 2, 3, 0] rfl) h
  have b00 : ∀ (H : Heap) (locs : List Loc), OW D ad cs A s.heap z H locs → W p l e (rmq 3 0 0) s m args below meth c H locs 0 0 Q (F0 m 0 ls []) := by
    intro H locs hw
    refine lv_aload_n hx hb dX3_sink_0 rfl (lv_at hl 0 rfl) ?_
    refine xgI E hw (c1 := 3) (ciisL ho0) (kyisL_100 ho0) fo_3_9 qf_3_42 dX3_sink_1 ?_
    refine lv_if_eq (tgt := 14) hx hb dX3_sink_4 (by decide) (fun c1 => ?_) (fun c1 => ?_)
    · replace h := h.1 c1
      refine lv_aload_n hx hb dX3_sink_14 rfl (lv_at hl 0 rfl) ?_
      obtain ⟨a2, ea2, h⟩ := h
      refine xgS E hw (c1 := 3) (ciisL ho0) (kyisL_100 ho0) fo_3_1 ea2 qf_3_14 dX3_sink_15 ?_
      refine lv_aload_n hx hb dX3_sink_18 rfl (lv_at hl 0 rfl) ?_
      refine xgI E hw (c1 := 3) (ciisL ho0) (kyisL_100 ho0) fo_3_2 qf_3_20 dX3_sink_19 ?_
      refine lv_aload_n hx hb dX3_sink_22 rfl (lv_at hl 0 rfl) ?_
      refine xgI E hw (c1 := 3) (ciisL ho0) (kyisL_100 ho0) fo_3_3 qf_3_24 dX3_sink_23 ?_
      refine lv_iload_n hx hb dX3_sink_26 rfl (lv_at hl 1 rfl) ?_
      refine lv_iload_n hx hb dX3_sink_27 rfl (lv_at hl 2 rfl) ?_
      obtain ⟨hm, hq⟩ := h
      refine dv_3_114 (rest := []) E hw hA hm hq ⟨Nat.le_of_ble_eq_true rfl, Nat.le_of_ble_eq_true rfl⟩ hl.1 (Nat.le_of_ble_eq_true rfl) dX3_sink_28 ⟨Nat.le_of_ble_eq_true rfl, Nat.le_of_ble_eq_true rfl⟩ (fun r3 z4 H locs h hw => ?_)
      exact b31 z4 p1 p2 r3 H locs hw ls (lv_sub hl [0, 1, 2] rfl) h
    · replace h := h.2 c1
      refine lv_aload_n hx hb dX3_sink_7 rfl (lv_at hl 0 rfl) ?_
      refine xgI E hw (c1 := 3) (ciisL ho0) (kyisL_100 ho0) fo_3_10 qf_3_46 dX3_sink_8 ?_
      refine lv_goto (tgt := 31) hx hb dX3_sink_11 (by decide) ?_
      exact b31 z p1 p2 (zI z o0 10) H locs hw ls (lv_sub hl [0, 1, 2] rfl) h
  exact b00 s.heap [] hw
def V_X3_goOn_103 (o0 : Nat) (post : ZS → Prop) (rr2 : ZS → Int32 → Int32 → Prop) (z : ZS) (v1 : Int32) (v2 : Int32) : Prop := (∀ z8 : ZS, z8 = wI z o0 5 ((zI z o0 5) + (1 : Int32)) → V_X3_held z8 (zI z8 o0 2) (fun r10 z9 => (∀ z11 : ZS, z11 = wI z9 o0 2 r10 → V_X3_held z11 (zI z11 o0 3) (fun r13 z12 => (∀ z14 : ZS, z14 = wI z12 o0 3 r13 → (∀ z15 : ZS, z15 = wI z14 o0 4 (if (0 : Int32) < (zI z14 o0 4) then (zI z14 o0 4) else (0 : Int32)) → (∀ t16 : Int32, t16 = v2 + (1 : Int32) → rr2 z15 v1 t16)))))))
def V_X3_goOn_90 (o0 : Nat) (post : ZS → Prop) (rr2 : ZS → Int32 → Int32 → Prop) (z : ZS) (v1 : Int32) (v2 : Int32) (v3 : Int32) (s1 : Int32) (s2 : Int32) : Prop := (vp_in v3 10 ∧ V_X3_sink z o0 (s1 + s2) (zR z 1 1 (Int32.toNatClampNeg v3)) (fun z6 => V_X3_goOn_103 o0 post rr2 z6 v1 v2))
def V_X3_goOn_2 (o0 : Nat) (post : ZS → Prop) : Nat → ZS → Int32 → Int32 → Prop
  | 0, _, _, _ => False
  | (n + 1), z, v1, v2 => ((v1 ≤ v2 → post z) ∧ (¬ v1 ≤ v2 → (((zI z o0 4) ≤ 0 → post z) ∧ (¬ (zI z o0 4) ≤ 0 → (∀ t3 : Int32, t3 = (if (0 : Int32) < (if (9 : Int32) < ((zI z o0 4) / (300 : Int32)) then (9 : Int32) else ((zI z o0 4) / (300 : Int32))) then (if (9 : Int32) < ((zI z o0 4) / (300 : Int32)) then (9 : Int32) else ((zI z o0 4) / (300 : Int32))) else (0 : Int32)) → (((zI z o0 7) ≤ (zI z o0 5) → (vp_in t3 10 ∧ ((¬ t3 = 0 → V_X3_goOn_90 o0 post (V_X3_goOn_2 o0 post n) z v1 v2 t3 (zR z 1 0 (Int32.toNatClampNeg t3)) (0 : Int32)) ∧ (t3 = 0 → V_X3_puff z o0 (fun r18 z17 => V_X3_goOn_90 o0 post (V_X3_goOn_2 o0 post n) z17 v1 v2 t3 (zR z 1 0 (Int32.toNatClampNeg t3)) r18))))) ∧ (¬ (zI z o0 7) ≤ (zI z o0 5) → (vp_in t3 10 ∧ (vp_in t3 10 ∧ V_X3_plunge z o0 (zR z 1 0 (Int32.toNatClampNeg t3)) (zR z 1 1 (Int32.toNatClampNeg t3)) (fun z19 => V_X3_goOn_103 o0 post (V_X3_goOn_2 o0 post n) z19 v1 v2))))))))))
def V_X3_goOn (z : ZS) (o0 : Nat) (p1 : Int32) (post : ZS → Prop) : Prop := (∃ n21 : Nat, V_X3_goOn_2 o0 post n21 z p1 (0 : Int32))
set_option maxHeartbeats 4000000 in
set_option maxRecDepth 100000 in
theorem c_X3_goOn (l : Launch) (D : va_G) (ad : Nat → Nat → Nat) (cs : Nat → ClassId) (sk : (Nat → Nat) × (Nat → Nat)) (z : ZS) (o0 : Nat) (p1 : Int32) (post : ZS → Prop) (ho0 : isL o0) (h : V_X3_goOn z o0 p1 post) : MV l D ad cs sk yX3_goOn cX3_goOn 4 (rmq 4 0 0) [.ref (ad o0 100), .int p1] z post := by
  refine MV.of RX3 rfl (by decide) (Nat.le_of_ble_eq_true rfl) ?_
  intro p e s m args below meth c A Q E hw hA hret ls hl
  have hx := E.1.1
  have hb := E.1.2.1
  have hml := E.1.2.2.1
  have hown := E.1.2.2.2.1
  have h0 := E.1.2.2.2.2
  have hl : lv_has ls 4 [(0, .ref (ad o0 100)), (1, .int p1)] := hl
  unfold V_X3_goOn at h
  have b2 : ∀ (n : Nat) (z : ZS) (v1 : Int32) (v2 : Int32), ∀ (H : Heap) (locs : List Loc), OW D ad cs A s.heap z H locs → ∀ ls : Array Slot, lv_has ls 4 [(0, .ref (ad o0 100)), (1, .int v1), (2, .int v2)] → V_X3_goOn_2 o0 post n z v1 v2 → W p l e (rmq 4 0 0) s m args below meth c H locs 0 0 Q (F0 m 2 ls []) := by
    intro n
    induction n with
    | zero =>
      intro z v1 v2 H locs hw ls hl h
      exact h.elim
    | succ n2x ih2 =>
      have b103 : ∀ (z : ZS) (v1 : Int32) (v2 : Int32), ∀ (H : Heap) (locs : List Loc), OW D ad cs A s.heap z H locs → ∀ ls : Array Slot, lv_has ls 4 [(0, .ref (ad o0 100)), (1, .int v1), (2, .int v2)] → V_X3_goOn_103 o0 post (V_X3_goOn_2 o0 post n2x) z v1 v2 → W p l e (rmq 4 0 0) s m args below meth c H locs 0 0 Q (F0 m 103 ls []) := by
        intro z v1 v2 H locs hw ls hl h
        unfold V_X3_goOn_103 at h
        refine lv_aload_n hx hb dX3_goOn_103 rfl (lv_at hl 0 rfl) ?_
        refine lv_dup hx hb dX3_goOn_104 rfl ?_
        refine xgI E hw (c1 := 3) (ciisL ho0) (kyisL_100 ho0) fo_3_5 qf_3_30 dX3_goOn_105 ?_
        refine lv_iconst (v := 1) hx hb dX3_goOn_108 (by decide) ?_
        refine lv_iadd hx hb dX3_goOn_109 ?_
        refine xpI E hw (c1 := 3) (ciisL ho0) (kyisL_100 ho0) fp_3_5 rfl rfl qf_3_30 dX3_goOn_110 (fun z8 ez8 H locs hw => ?_)
        replace h := h z8 ez8
        refine lv_aload_n hx hb dX3_goOn_113 rfl (lv_at hl 0 rfl) ?_
        refine lv_aload_n hx hb dX3_goOn_114 rfl (lv_at hl 0 rfl) ?_
        refine xgI E hw (c1 := 3) (ciisL ho0) (kyisL_100 ho0) fo_3_2 qf_3_20 dX3_goOn_115 ?_
        have hq := h
        clear h
        refine xcSI (As := [.int (zI z8 o0 2)]) (rest := [.ref (ad o0 100)]) E hw hA (c_X3_held l D ad cs sk z8 (zI z8 o0 2) _ hq) kc_3_101 yo_X3_held ⟨Nat.le_of_ble_eq_true rfl, Nat.le_of_ble_eq_true rfl⟩ rfl hl.1 rfl (Nat.le_of_ble_eq_true rfl) dX3_goOn_118 ⟨Nat.le_of_ble_eq_true rfl, Nat.le_of_ble_eq_true rfl⟩ (fun r10 z9 H locs h hw => ?_)
        refine xpI E hw (c1 := 3) (ciisL ho0) (kyisL_100 ho0) fp_3_2 rfl rfl qf_3_20 dX3_goOn_121 (fun z11 ez11 H locs hw => ?_)
        replace h := h z11 ez11
        refine lv_aload_n hx hb dX3_goOn_124 rfl (lv_at hl 0 rfl) ?_
        refine lv_aload_n hx hb dX3_goOn_125 rfl (lv_at hl 0 rfl) ?_
        refine xgI E hw (c1 := 3) (ciisL ho0) (kyisL_100 ho0) fo_3_3 qf_3_24 dX3_goOn_126 ?_
        have hq := h
        clear h
        refine xcSI (As := [.int (zI z11 o0 3)]) (rest := [.ref (ad o0 100)]) E hw hA (c_X3_held l D ad cs sk z11 (zI z11 o0 3) _ hq) kc_3_101 yo_X3_held ⟨Nat.le_of_ble_eq_true rfl, Nat.le_of_ble_eq_true rfl⟩ rfl hl.1 rfl (Nat.le_of_ble_eq_true rfl) dX3_goOn_129 ⟨Nat.le_of_ble_eq_true rfl, Nat.le_of_ble_eq_true rfl⟩ (fun r13 z12 H locs h hw => ?_)
        refine xpI E hw (c1 := 3) (ciisL ho0) (kyisL_100 ho0) fp_3_3 rfl rfl qf_3_24 dX3_goOn_132 (fun z14 ez14 H locs hw => ?_)
        replace h := h z14 ez14
        refine lv_aload_n hx hb dX3_goOn_135 rfl (lv_at hl 0 rfl) ?_
        refine lv_iconst (v := 0) hx hb dX3_goOn_136 (by decide) ?_
        refine lv_aload_n hx hb dX3_goOn_137 rfl (lv_at hl 0 rfl) ?_
        refine xgI E hw (c1 := 3) (ciisL ho0) (kyisL_100 ho0) fo_3_4 qf_3_27 dX3_goOn_138 ?_
        refine va_mmax hx hb (hml.trans hl.1.symm) hown (h0 _ qm_3_62) (h0 _ qs_ib_Math_max_name) (h0 _ qn_Math) (h0 _ qc_Math_max) (Nat.le_of_ble_eq_true rfl) (Nat.le_of_ble_eq_true rfl) (Nat.le_of_ble_eq_true rfl) (Nat.le_of_ble_eq_true rfl) dX3_goOn_141 ?_
        refine xpI E hw (c1 := 3) (ciisL ho0) (kyisL_100 ho0) fp_3_4 rfl rfl qf_3_27 dX3_goOn_144 (fun z15 ez15 H locs hw => ?_)
        replace h := h z15 ez15
        obtain ⟨t16, et16⟩ : ∃ y : Int32, y = v2 + (1 : Int32) := ⟨_, rfl⟩
        replace h := h t16 et16
        refine lv_iinc (v := t16) (lv' := [(2, .int t16), (0, .ref (ad o0 100)), (1, .int v1)]) hx hb dX3_goOn_147 hl (k := 2) rfl (by rw [et16]; rfl) (by decide) rfl (fun ls hl => ?_)
        refine lv_goto (tgt := 2) hx hb dX3_goOn_150 (by decide) ?_
        exact ih2 z15 v1 t16 H locs hw ls (lv_sub hl [1, 2, 0] rfl) h
      have b90 : ∀ (z : ZS) (v1 : Int32) (v2 : Int32) (v3 : Int32) (s1 : Int32) (s2 : Int32), ∀ (H : Heap) (locs : List Loc), OW D ad cs A s.heap z H locs → ∀ ls : Array Slot, lv_has ls 4 [(0, .ref (ad o0 100)), (1, .int v1), (2, .int v2), (3, .int v3)] → V_X3_goOn_90 o0 post (V_X3_goOn_2 o0 post n2x) z v1 v2 v3 s1 s2 → W p l e (rmq 4 0 0) s m args below meth c H locs 0 0 Q (F0 m 90 ls [.int s2, .int s1, .ref (ad o0 100)]) := by
        intro z v1 v2 v3 s1 s2 H locs hw ls hl h
        unfold V_X3_goOn_90 at h
        refine lv_iadd hx hb dX3_goOn_90 ?_
        refine lv_aload_n hx hb dX3_goOn_91 rfl (lv_at hl 0 rfl) ?_
        refine xgC E hw (c1 := 3) (t := (1, 100)) (ciisL ho0) (kyisL_100 ho0) fo_3_0 rfl qf_3_52 dX3_goOn_92 ?_
        refine xgC E hw (c1 := 0) (t := (1, 1)) rfl ky_1_100 fo_0_1 rfl qf_3_88 dX3_goOn_95 ?_
        refine lv_iload_n hx hb dX3_goOn_98 rfl (lv_at hl 3 rfl) ?_
        obtain ⟨hi, h⟩ := h
        refine xal E hw ky_1_1 ka_1_1 hi dX3_goOn_99 ?_
        have hq := h
        clear h
        refine xcVV (As := [.int (s1 + s2), .int (zR z 1 1 (Int32.toNatClampNeg v3))]) (rest := []) E hw hA (c_X3_sink l D ad cs sk z o0 (s1 + s2) (zR z 1 1 (Int32.toNatClampNeg v3)) _ ho0 hq) kc_3_98 yo_X3_sink ⟨Nat.le_of_ble_eq_true rfl, Nat.le_of_ble_eq_true rfl⟩ (xrc E hw (kyisL_100 ho0) (ciisL ho0)) rfl hl.1 rfl (Nat.le_of_ble_eq_true rfl) dX3_goOn_100 ⟨Nat.le_of_ble_eq_true rfl, Nat.le_of_ble_eq_true rfl⟩ (fun z6 H locs h hw => ?_)
        exact b103 z6 v1 v2 H locs hw ls (lv_sub hl [0, 1, 2] rfl) h
      intro z v1 v2 H locs hw ls hl h
      unfold V_X3_goOn_2 at h
      refine lv_iload_n hx hb dX3_goOn_2 rfl (lv_at hl 2 rfl) ?_
      refine lv_iload_n hx hb dX3_goOn_3 rfl (lv_at hl 1 rfl) ?_
      refine lv_icmp_ge (tgt := 153) hx hb dX3_goOn_4 (by decide) (fun c1 => ?_) (fun c1 => ?_)
      · replace h := h.1 c1
        exact hret z H locs 153 ls hw h dX3_goOn_153
      · replace h := h.2 c1
        refine lv_aload_n hx hb dX3_goOn_7 rfl (lv_at hl 0 rfl) ?_
        refine xgI E hw (c1 := 3) (ciisL ho0) (kyisL_100 ho0) fo_3_4 qf_3_27 dX3_goOn_8 ?_
        refine lv_if_le (tgt := 153) hx hb dX3_goOn_11 (by decide) (fun c2 => ?_) (fun c2 => ?_)
        · replace h := h.1 c2
          exact hret z H locs 153 ls hw h dX3_goOn_153
        · replace h := h.2 c2
          refine lv_iconst (v := 0) hx hb dX3_goOn_14 (by decide) ?_
          refine lv_aload_n hx hb dX3_goOn_15 rfl (lv_at hl 0 rfl) ?_
          refine xgI E hw (c1 := 3) (ciisL ho0) (kyisL_100 ho0) fo_3_4 qf_3_27 dX3_goOn_16 ?_
          refine lv_sipush (v := 300) hx hb dX3_goOn_19 (by decide) ?_
          refine lv_idiv hx hb dX3_goOn_22 (by decide) ?_
          refine lv_bipush (v := 9) hx hb dX3_goOn_23 (by decide) ?_
          refine va_mmin hx hb (hml.trans hl.1.symm) hown (h0 _ qm_3_56) (h0 _ qs_ib_Math_min_name) (h0 _ qn_Math) (h0 _ qc_Math_min) (Nat.le_of_ble_eq_true rfl) (Nat.le_of_ble_eq_true rfl) (Nat.le_of_ble_eq_true rfl) (Nat.le_of_ble_eq_true rfl) dX3_goOn_25 ?_
          refine va_mmax hx hb (hml.trans hl.1.symm) hown (h0 _ qm_3_62) (h0 _ qs_ib_Math_max_name) (h0 _ qn_Math) (h0 _ qc_Math_max) (Nat.le_of_ble_eq_true rfl) (Nat.le_of_ble_eq_true rfl) (Nat.le_of_ble_eq_true rfl) (Nat.le_of_ble_eq_true rfl) dX3_goOn_28 ?_
          refine lv_topi (fun t3 et3 => ?_)
          replace h := h t3 et3
          refine lv_istore_n (lv' := [(3, .int t3), (0, .ref (ad o0 100)), (1, .int v1), (2, .int v2)]) hx hb dX3_goOn_31 rfl hl (by decide) rfl (fun ls hl => ?_)
          refine lv_aload_n hx hb dX3_goOn_32 rfl (lv_at hl 1 rfl) ?_
          refine xgI E hw (c1 := 3) (ciisL ho0) (kyisL_100 ho0) fo_3_5 qf_3_30 dX3_goOn_33 ?_
          refine lv_aload_n hx hb dX3_goOn_36 rfl (lv_at hl 1 rfl) ?_
          refine xgI E hw (c1 := 3) (ciisL ho0) (kyisL_100 ho0) fo_3_7 qf_3_36 dX3_goOn_37 ?_
          refine lv_icmp_ge (tgt := 68) hx hb dX3_goOn_40 (by decide) (fun c4 => ?_) (fun c4 => ?_)
          · replace h := h.1 c4
            refine lv_aload_n hx hb dX3_goOn_68 rfl (lv_at hl 1 rfl) ?_
            refine lv_aload_n hx hb dX3_goOn_69 rfl (lv_at hl 1 rfl) ?_
            refine xgC E hw (c1 := 3) (t := (1, 100)) (ciisL ho0) (kyisL_100 ho0) fo_3_0 rfl qf_3_52 dX3_goOn_70 ?_
            refine xgC E hw (c1 := 0) (t := (1, 0)) rfl ky_1_100 fo_0_0 rfl qf_3_84 dX3_goOn_73 ?_
            refine lv_iload_n hx hb dX3_goOn_76 rfl (lv_at hl 0 rfl) ?_
            obtain ⟨hi, h⟩ := h
            refine xal E hw ky_1_0 ka_1_0 hi dX3_goOn_77 ?_
            refine lv_iload_n hx hb dX3_goOn_78 rfl (lv_at hl 0 rfl) ?_
            refine lv_if_ne (tgt := 89) hx hb dX3_goOn_79 (by decide) (fun c5 => ?_) (fun c5 => ?_)
            · replace h := h.1 c5
              refine lv_iconst (v := 0) hx hb dX3_goOn_89 (by decide) ?_
              exact b90 z v1 v2 t3 (zR z 1 0 (Int32.toNatClampNeg t3)) (0 : Int32) H locs hw ls (lv_sub hl [1, 2, 3, 0] rfl) h
            · replace h := h.2 c5
              refine lv_aload_n hx hb dX3_goOn_82 rfl (lv_at hl 1 rfl) ?_
              have hq := h
              clear h
              refine xcVI (As := []) (rest := [.int (zR z 1 0 (Int32.toNatClampNeg t3)), .ref (ad o0 100)]) E hw hA (c_X3_puff l D ad cs sk z o0 _ ho0 hq) kc_3_95 yo_X3_puff ⟨Nat.le_of_ble_eq_true rfl, Nat.le_of_ble_eq_true rfl⟩ (xrc E hw (kyisL_100 ho0) (ciisL ho0)) rfl hl.1 rfl (Nat.le_of_ble_eq_true rfl) dX3_goOn_83 ⟨Nat.le_of_ble_eq_true rfl, Nat.le_of_ble_eq_true rfl⟩ (fun r18 z17 H locs h hw => ?_)
              refine lv_goto (tgt := 90) hx hb dX3_goOn_86 (by decide) ?_
              exact b90 z17 v1 v2 t3 (zR z 1 0 (Int32.toNatClampNeg t3)) r18 H locs hw ls (lv_sub hl [1, 2, 3, 0] rfl) h
          · replace h := h.2 c4
            refine lv_aload_n hx hb dX3_goOn_43 rfl (lv_at hl 1 rfl) ?_
            refine lv_aload_n hx hb dX3_goOn_44 rfl (lv_at hl 1 rfl) ?_
            refine xgC E hw (c1 := 3) (t := (1, 100)) (ciisL ho0) (kyisL_100 ho0) fo_3_0 rfl qf_3_52 dX3_goOn_45 ?_
            refine xgC E hw (c1 := 0) (t := (1, 0)) rfl ky_1_100 fo_0_0 rfl qf_3_84 dX3_goOn_48 ?_
            refine lv_iload_n hx hb dX3_goOn_51 rfl (lv_at hl 0 rfl) ?_
            obtain ⟨hi, h⟩ := h
            refine xal E hw ky_1_0 ka_1_0 hi dX3_goOn_52 ?_
            refine lv_aload_n hx hb dX3_goOn_53 rfl (lv_at hl 1 rfl) ?_
            refine xgC E hw (c1 := 3) (t := (1, 100)) (ciisL ho0) (kyisL_100 ho0) fo_3_0 rfl qf_3_52 dX3_goOn_54 ?_
            refine xgC E hw (c1 := 0) (t := (1, 1)) rfl ky_1_100 fo_0_1 rfl qf_3_88 dX3_goOn_57 ?_
            refine lv_iload_n hx hb dX3_goOn_60 rfl (lv_at hl 0 rfl) ?_
            obtain ⟨hi, h⟩ := h
            refine xal E hw ky_1_1 ka_1_1 hi dX3_goOn_61 ?_
            have hq := h
            clear h
            refine xcVV (As := [.int (zR z 1 0 (Int32.toNatClampNeg t3)), .int (zR z 1 1 (Int32.toNatClampNeg t3))]) (rest := []) E hw hA (c_X3_plunge l D ad cs sk z o0 (zR z 1 0 (Int32.toNatClampNeg t3)) (zR z 1 1 (Int32.toNatClampNeg t3)) _ ho0 hq) kc_3_91 yo_X3_plunge ⟨Nat.le_of_ble_eq_true rfl, Nat.le_of_ble_eq_true rfl⟩ (xrc E hw (kyisL_100 ho0) (ciisL ho0)) rfl hl.1 rfl (Nat.le_of_ble_eq_true rfl) dX3_goOn_62 ⟨Nat.le_of_ble_eq_true rfl, Nat.le_of_ble_eq_true rfl⟩ (fun z19 H locs h hw => ?_)
            refine lv_goto (tgt := 103) hx hb dX3_goOn_65 (by decide) ?_
            exact b103 z19 v1 v2 H locs hw ls (lv_sub hl [1, 2, 3] rfl) h
  have b00 : ∀ (H : Heap) (locs : List Loc), OW D ad cs A s.heap z H locs → W p l e (rmq 4 0 0) s m args below meth c H locs 0 0 Q (F0 m 0 ls []) := by
    intro H locs hw
    refine lv_iconst (v := 0) hx hb dX3_goOn_0 (by decide) ?_
    refine lv_istore_n (lv' := [(2, .int (0 : Int32)), (0, .ref (ad o0 100)), (1, .int p1)]) hx hb dX3_goOn_1 rfl hl (by decide) rfl (fun ls hl => ?_)
    obtain ⟨n21, h⟩ := h
    exact b2 n21 z p1 (0 : Int32) H locs hw ls (lv_sub hl [1, 2, 0] rfl) h
  exact b00 s.heap [] hw
def V_X3_land (z : ZS) (o0 : Nat) (post : ZS → Prop) : Prop := V_X3_goOn z o0 (400 : Int32) (fun z1 => post z1)
set_option maxHeartbeats 4000000 in
set_option maxRecDepth 100000 in
theorem c_X3_land (l : Launch) (D : va_G) (ad : Nat → Nat → Nat) (cs : Nat → ClassId) (sk : (Nat → Nat) × (Nat → Nat)) (z : ZS) (o0 : Nat) (post : ZS → Prop) (ho0 : isL o0) (h : V_X3_land z o0 post) : MV l D ad cs sk yX3_land cX3_land 1 (rmq 5 0 0) [.ref (ad o0 100)] z post := by
  refine MV.of RX3 rfl (by decide) (Nat.le_of_ble_eq_true rfl) ?_
  intro p e s m args below meth c A Q E hw hA hret ls hl
  have hx := E.1.1
  have hb := E.1.2.1
  have hml := E.1.2.2.1
  have hown := E.1.2.2.2.1
  have h0 := E.1.2.2.2.2
  have hl : lv_has ls 1 [(0, .ref (ad o0 100))] := hl
  unfold V_X3_land at h
  have b00 : ∀ (H : Heap) (locs : List Loc), OW D ad cs A s.heap z H locs → W p l e (rmq 5 0 0) s m args below meth c H locs 0 0 Q (F0 m 0 ls []) := by
    intro H locs hw
    refine lv_aload_n hx hb dX3_land_0 rfl (lv_at hl 0 rfl) ?_
    refine lv_sipush (v := 400) hx hb dX3_land_1 (by decide) ?_
    have hq := h
    clear h
    refine xcVV (As := [.int (400 : Int32)]) (rest := []) E hw hA (c_X3_goOn l D ad cs sk z o0 (400 : Int32) _ ho0 hq) kc_3_72 yo_X3_goOn ⟨Nat.le_of_ble_eq_true rfl, Nat.le_of_ble_eq_true rfl⟩ (xrc E hw (kyisL_100 ho0) (ciisL ho0)) rfl hl.1 rfl (Nat.le_of_ble_eq_true rfl) dX3_land_4 ⟨Nat.le_of_ble_eq_true rfl, Nat.le_of_ble_eq_true rfl⟩ (fun z1 H locs h hw => ?_)
    exact hret z1 H locs 7 ls hw h dX3_land_7
  exact b00 s.heap [] hw
def V_X3_off (z : ZS) (o0 : Nat) (post : Int32 → ZS → Prop) : Prop := post ((if 0 ≤ (zI z o0 2) then (zI z o0 2) else 0 - (zI z o0 2)) + (if 0 ≤ (zI z o0 3) then (zI z o0 3) else 0 - (zI z o0 3))) z
set_option maxHeartbeats 4000000 in
set_option maxRecDepth 100000 in
theorem c_X3_off (l : Launch) (D : va_G) (ad : Nat → Nat → Nat) (cs : Nat → ClassId) (sk : (Nat → Nat) × (Nat → Nat)) (z : ZS) (o0 : Nat) (post : Int32 → ZS → Prop) (ho0 : isL o0) (h : V_X3_off z o0 post) : MI l D ad cs sk yX3_off cX3_off 1 .int (rmq 1 0 0) [.ref (ad o0 100)] z post := by
  refine MI.of RX3 rfl (by decide) (Nat.le_of_ble_eq_true rfl) ?_
  intro p e s m args below meth c A Q E hw hA hret ls hl
  have hx := E.1.1
  have hb := E.1.2.1
  have hml := E.1.2.2.1
  have hown := E.1.2.2.2.1
  have h0 := E.1.2.2.2.2
  have hl : lv_has ls 1 [(0, .ref (ad o0 100))] := hl
  unfold V_X3_off at h
  have b00 : ∀ (H : Heap) (locs : List Loc), OW D ad cs A s.heap z H locs → W p l e (rmq 1 0 0) s m args below meth c H locs 0 0 Q (F0 m 0 ls []) := by
    intro H locs hw
    refine lv_aload_n hx hb dX3_off_0 rfl (lv_at hl 0 rfl) ?_
    refine xgI E hw (c1 := 3) (ciisL ho0) (kyisL_100 ho0) fo_3_2 qf_3_20 dX3_off_1 ?_
    refine va_mabs hx hb (hml.trans hl.1.symm) hown (h0 _ qm_3_129) (h0 _ qs_ib_Math_abs_name) (h0 _ qn_Math) (h0 _ qc_Math_abs) (Nat.le_of_ble_eq_true rfl) (Nat.le_of_ble_eq_true rfl) (Nat.le_of_ble_eq_true rfl) (Nat.le_of_ble_eq_true rfl) dX3_off_4 ?_
    refine lv_aload_n hx hb dX3_off_7 rfl (lv_at hl 0 rfl) ?_
    refine xgI E hw (c1 := 3) (ciisL ho0) (kyisL_100 ho0) fo_3_3 qf_3_24 dX3_off_8 ?_
    refine va_mabs hx hb (hml.trans hl.1.symm) hown (h0 _ qm_3_129) (h0 _ qs_ib_Math_abs_name) (h0 _ qn_Math) (h0 _ qc_Math_abs) (Nat.le_of_ble_eq_true rfl) (Nat.le_of_ble_eq_true rfl) (Nat.le_of_ble_eq_true rfl) (Nat.le_of_ble_eq_true rfl) dX3_off_11 ?_
    refine lv_iadd hx hb dX3_off_14 ?_
    exact hret ((if 0 ≤ (zI z o0 2) then (zI z o0 2) else 0 - (zI z o0 2)) + (if 0 ≤ (zI z o0 3) then (zI z o0 3) else 0 - (zI z o0 3))) z H locs 15 ls hw rfl h dX3_off_15
  exact b00 s.heap [] hw
def V_X3_offFrom (z : ZS) (o0 : Nat) (p1 : Nat) (p2 : Int32) (p3 : Int32) (post : Int32 → ZS → Prop) : Prop := V_X3_begin z o0 p1 p2 p3 (1 : Int32) (fun z1 => V_X3_goOn z1 o0 (400 : Int32) (fun z3 => V_X3_off z3 o0 (fun r6 z5 => post r6 z5)))
set_option maxHeartbeats 4000000 in
set_option maxRecDepth 100000 in
theorem c_X3_offFrom (l : Launch) (D : va_G) (ad : Nat → Nat → Nat) (cs : Nat → ClassId) (sk : (Nat → Nat) × (Nat → Nat)) (z : ZS) (o0 : Nat) (p1 : Nat) (p2 : Int32) (p3 : Int32) (post : Int32 → ZS → Prop) (ho0 : isL o0) (h : V_X3_offFrom z o0 p1 p2 p3 post) : MI l D ad cs sk yX3_offFrom cX3_offFrom 4 .int (rmq 5 0 0) [.ref (ad o0 100), .ref p1, .int p2, .int p3] z post := by
  refine MI.of RX3 rfl (by decide) (Nat.le_of_ble_eq_true rfl) ?_
  intro p e s m args below meth c A Q E hw hA hret ls hl
  have hx := E.1.1
  have hb := E.1.2.1
  have hml := E.1.2.2.1
  have hown := E.1.2.2.2.1
  have h0 := E.1.2.2.2.2
  have hl : lv_has ls 4 [(0, .ref (ad o0 100)), (1, .ref p1), (2, .int p2), (3, .int p3)] := hl
  unfold V_X3_offFrom at h
  have b00 : ∀ (H : Heap) (locs : List Loc), OW D ad cs A s.heap z H locs → W p l e (rmq 5 0 0) s m args below meth c H locs 0 0 Q (F0 m 0 ls []) := by
    intro H locs hw
    refine lv_aload_n hx hb dX3_offFrom_0 rfl (lv_at hl 0 rfl) ?_
    refine lv_aload_n hx hb dX3_offFrom_1 rfl (lv_at hl 1 rfl) ?_
    refine lv_iload_n hx hb dX3_offFrom_2 rfl (lv_at hl 2 rfl) ?_
    refine lv_iload_n hx hb dX3_offFrom_3 rfl (lv_at hl 3 rfl) ?_
    refine lv_iconst (v := 1) hx hb dX3_offFrom_4 (by decide) ?_
    have hq := h
    clear h
    refine xcVV (As := [.ref p1, .int p2, .int p3, .int (1 : Int32)]) (rest := []) E hw hA (c_X3_begin l D ad cs sk z o0 p1 p2 p3 (1 : Int32) _ ho0 hq) kc_3_76 yo_X3_begin ⟨Nat.le_of_ble_eq_true rfl, Nat.le_of_ble_eq_true rfl⟩ (xrc E hw (kyisL_100 ho0) (ciisL ho0)) rfl hl.1 rfl (Nat.le_of_ble_eq_true rfl) dX3_offFrom_5 ⟨Nat.le_of_ble_eq_true rfl, Nat.le_of_ble_eq_true rfl⟩ (fun z1 H locs h hw => ?_)
    refine lv_aload_n hx hb dX3_offFrom_8 rfl (lv_at hl 0 rfl) ?_
    refine lv_sipush (v := 400) hx hb dX3_offFrom_9 (by decide) ?_
    have hq := h
    clear h
    refine xcVV (As := [.int (400 : Int32)]) (rest := []) E hw hA (c_X3_goOn l D ad cs sk z1 o0 (400 : Int32) _ ho0 hq) kc_3_72 yo_X3_goOn ⟨Nat.le_of_ble_eq_true rfl, Nat.le_of_ble_eq_true rfl⟩ (xrc E hw (kyisL_100 ho0) (ciisL ho0)) rfl hl.1 rfl (Nat.le_of_ble_eq_true rfl) dX3_offFrom_12 ⟨Nat.le_of_ble_eq_true rfl, Nat.le_of_ble_eq_true rfl⟩ (fun z3 H locs h hw => ?_)
    refine lv_aload_n hx hb dX3_offFrom_15 rfl (lv_at hl 0 rfl) ?_
    have hq := h
    clear h
    refine xcVI (As := []) (rest := []) E hw hA (c_X3_off l D ad cs sk z3 o0 _ ho0 hq) kc_3_80 yo_X3_off ⟨Nat.le_of_ble_eq_true rfl, Nat.le_of_ble_eq_true rfl⟩ (xrc E hw (kyisL_100 ho0) (ciisL ho0)) rfl hl.1 rfl (Nat.le_of_ble_eq_true rfl) dX3_offFrom_16 ⟨Nat.le_of_ble_eq_true rfl, Nat.le_of_ble_eq_true rfl⟩ (fun r6 z5 H locs h hw => ?_)
    exact hret r6 z5 H locs 19 ls hw rfl h dX3_offFrom_19
  exact b00 s.heap [] hw
def V_X3_apartFrom (z : ZS) (o0 : Nat) (p1 : Nat) (post : Int32 → ZS → Prop) : Prop := post (((if 0 ≤ ((zI z o0 2) - (zI z p1 2)) then ((zI z o0 2) - (zI z p1 2)) else 0 - ((zI z o0 2) - (zI z p1 2))) + (if 0 ≤ ((zI z o0 3) - (zI z p1 3)) then ((zI z o0 3) - (zI z p1 3)) else 0 - ((zI z o0 3) - (zI z p1 3)))) + (if 0 ≤ ((zI z o0 4) - (zI z p1 4)) then ((zI z o0 4) - (zI z p1 4)) else 0 - ((zI z o0 4) - (zI z p1 4)))) z
set_option maxHeartbeats 4000000 in
set_option maxRecDepth 100000 in
theorem c_X3_apartFrom (l : Launch) (D : va_G) (ad : Nat → Nat → Nat) (cs : Nat → ClassId) (sk : (Nat → Nat) × (Nat → Nat)) (z : ZS) (o0 : Nat) (p1 : Nat) (post : Int32 → ZS → Prop) (ho0 : isL o0) (hp1 : isL p1) (h : V_X3_apartFrom z o0 p1 post) : MI l D ad cs sk yX3_apartFrom cX3_apartFrom 2 .int (rmq 1 0 0) [.ref (ad o0 100), .ref (ad p1 100)] z post := by
  refine MI.of RX3 rfl (by decide) (Nat.le_of_ble_eq_true rfl) ?_
  intro p e s m args below meth c A Q E hw hA hret ls hl
  have hx := E.1.1
  have hb := E.1.2.1
  have hml := E.1.2.2.1
  have hown := E.1.2.2.2.1
  have h0 := E.1.2.2.2.2
  have hl : lv_has ls 2 [(0, .ref (ad o0 100)), (1, .ref (ad p1 100))] := hl
  unfold V_X3_apartFrom at h
  have b00 : ∀ (H : Heap) (locs : List Loc), OW D ad cs A s.heap z H locs → W p l e (rmq 1 0 0) s m args below meth c H locs 0 0 Q (F0 m 0 ls []) := by
    intro H locs hw
    refine lv_aload_n hx hb dX3_apartFrom_0 rfl (lv_at hl 0 rfl) ?_
    refine xgI E hw (c1 := 3) (ciisL ho0) (kyisL_100 ho0) fo_3_2 qf_3_20 dX3_apartFrom_1 ?_
    refine lv_aload_n hx hb dX3_apartFrom_4 rfl (lv_at hl 1 rfl) ?_
    refine xgI E hw (c1 := 3) (ciisL hp1) (kyisL_100 hp1) fo_3_2 qf_3_20 dX3_apartFrom_5 ?_
    refine lv_isub hx hb dX3_apartFrom_8 ?_
    refine va_mabs hx hb (hml.trans hl.1.symm) hown (h0 _ qm_3_129) (h0 _ qs_ib_Math_abs_name) (h0 _ qn_Math) (h0 _ qc_Math_abs) (Nat.le_of_ble_eq_true rfl) (Nat.le_of_ble_eq_true rfl) (Nat.le_of_ble_eq_true rfl) (Nat.le_of_ble_eq_true rfl) dX3_apartFrom_9 ?_
    refine lv_aload_n hx hb dX3_apartFrom_12 rfl (lv_at hl 0 rfl) ?_
    refine xgI E hw (c1 := 3) (ciisL ho0) (kyisL_100 ho0) fo_3_3 qf_3_24 dX3_apartFrom_13 ?_
    refine lv_aload_n hx hb dX3_apartFrom_16 rfl (lv_at hl 1 rfl) ?_
    refine xgI E hw (c1 := 3) (ciisL hp1) (kyisL_100 hp1) fo_3_3 qf_3_24 dX3_apartFrom_17 ?_
    refine lv_isub hx hb dX3_apartFrom_20 ?_
    refine va_mabs hx hb (hml.trans hl.1.symm) hown (h0 _ qm_3_129) (h0 _ qs_ib_Math_abs_name) (h0 _ qn_Math) (h0 _ qc_Math_abs) (Nat.le_of_ble_eq_true rfl) (Nat.le_of_ble_eq_true rfl) (Nat.le_of_ble_eq_true rfl) (Nat.le_of_ble_eq_true rfl) dX3_apartFrom_21 ?_
    refine lv_iadd hx hb dX3_apartFrom_24 ?_
    refine lv_aload_n hx hb dX3_apartFrom_25 rfl (lv_at hl 0 rfl) ?_
    refine xgI E hw (c1 := 3) (ciisL ho0) (kyisL_100 ho0) fo_3_4 qf_3_27 dX3_apartFrom_26 ?_
    refine lv_aload_n hx hb dX3_apartFrom_29 rfl (lv_at hl 1 rfl) ?_
    refine xgI E hw (c1 := 3) (ciisL hp1) (kyisL_100 hp1) fo_3_4 qf_3_27 dX3_apartFrom_30 ?_
    refine lv_isub hx hb dX3_apartFrom_33 ?_
    refine va_mabs hx hb (hml.trans hl.1.symm) hown (h0 _ qm_3_129) (h0 _ qs_ib_Math_abs_name) (h0 _ qn_Math) (h0 _ qc_Math_abs) (Nat.le_of_ble_eq_true rfl) (Nat.le_of_ble_eq_true rfl) (Nat.le_of_ble_eq_true rfl) (Nat.le_of_ble_eq_true rfl) dX3_apartFrom_34 ?_
    refine lv_iadd hx hb dX3_apartFrom_37 ?_
    exact hret (((if 0 ≤ ((zI z o0 2) - (zI z p1 2)) then ((zI z o0 2) - (zI z p1 2)) else 0 - ((zI z o0 2) - (zI z p1 2))) + (if 0 ≤ ((zI z o0 3) - (zI z p1 3)) then ((zI z o0 3) - (zI z p1 3)) else 0 - ((zI z o0 3) - (zI z p1 3)))) + (if 0 ≤ ((zI z o0 4) - (zI z p1 4)) then ((zI z o0 4) - (zI z p1 4)) else 0 - ((zI z o0 4) - (zI z p1 4)))) z H locs 38 ls hw rfl h dX3_apartFrom_38
  exact b00 s.heap [] hw
def V_X9_isEmpty (z : ZS) (o0 : Nat) (post : Int32 → ZS → Prop) : Prop := (∀ t1 : Option Nat, t1 = (zG z o0 0) → ((t1 = none → ((¬ (zI z o0 1) = 0 → post (0 : Int32) z) ∧ ((zI z o0 1) = 0 → post (1 : Int32) z))) ∧ (∀ a2 : Nat, t1 = some a2 → post (0 : Int32) z)))
set_option maxHeartbeats 4000000 in
set_option maxRecDepth 100000 in
theorem c_X9_isEmpty (l : Launch) (D : va_G) (ad : Nat → Nat → Nat) (cs : Nat → ClassId) (sk : (Nat → Nat) × (Nat → Nat)) (z : ZS) (o0 : Nat) (post : Int32 → ZS → Prop) (ho0 : isS o0) (h : V_X9_isEmpty z o0 post) : MI l D ad cs sk yX9_isEmpty cX9_isEmpty 1 .boolean (rmq 0 0 0) [.ref (ad o0 100)] z post := by
  refine MI.of RX9 rfl (by decide) (Nat.le_of_ble_eq_true rfl) ?_
  intro p e s m args below meth c A Q E hw hA hret ls hl
  have hx := E.1.1
  have hb := E.1.2.1
  have hml := E.1.2.2.1
  have hown := E.1.2.2.2.1
  have h0 := E.1.2.2.2.2
  have hl : lv_has ls 1 [(0, .ref (ad o0 100))] := hl
  unfold V_X9_isEmpty at h
  have b00 : ∀ (H : Heap) (locs : List Loc), OW D ad cs A s.heap z H locs → W p l e (rmq 0 0 0) s m args below meth c H locs 0 0 Q (F0 m 0 ls []) := by
    intro H locs hw
    refine lv_aload_n hx hb dX9_isEmpty_0 rfl (lv_at hl 0 rfl) ?_
    refine xgG E hw (c1 := 9) (ciisS ho0) (kyisS_100 ho0) fo_9_0 qf_9_9 dX9_isEmpty_1 ?_
    refine xtopq (fun t1 et1 => ?_)
    replace h := h t1 et1
    refine xnnl (tgt := 18) hx hb dX9_isEmpty_4 (by decide) (fun ea2 => ?_) (fun a2 ea2 => ?_)
    · replace h := h.1 ea2
      subst ea2
      have hl : lv_has ls 1 [(0, .ref (ad o0 100))] := hl
      refine lv_aload_n hx hb dX9_isEmpty_7 rfl (lv_at hl 0 rfl) ?_
      refine xgI E hw (c1 := 9) (ciisS ho0) (kyisS_100 ho0) fo_9_1 qf_9_15 dX9_isEmpty_8 ?_
      refine lv_if_ne (tgt := 18) hx hb dX9_isEmpty_11 (by decide) (fun c3 => ?_) (fun c3 => ?_)
      · replace h := h.1 c3
        refine lv_iconst (v := 0) hx hb dX9_isEmpty_18 (by decide) ?_
        exact hret (0 : Int32) z H locs 19 ls hw rfl h dX9_isEmpty_19
      · replace h := h.2 c3
        refine lv_iconst (v := 1) hx hb dX9_isEmpty_14 (by decide) ?_
        refine lv_goto (tgt := 19) hx hb dX9_isEmpty_15 (by decide) ?_
        exact hret (1 : Int32) z H locs 19 ls hw rfl h dX9_isEmpty_19
    · replace h := h.2 a2 ea2
      subst ea2
      have hl : lv_has ls 1 [(0, .ref (ad o0 100))] := hl
      refine lv_iconst (v := 0) hx hb dX9_isEmpty_18 (by decide) ?_
      exact hret (0 : Int32) z H locs 19 ls hw rfl h dX9_isEmpty_19
  exact b00 s.heap [] hw
def V_X9_empty (z : ZS) (o0 : Nat) (post : ZS → Prop) : Prop := (∀ z1 : ZS, z1 = wG z o0 0 none → (∀ z2 : ZS, z2 = wI z1 o0 1 (0 : Int32) → (∀ z3 : ZS, z3 = wI z2 o0 3 (0 : Int32) → post z3)))
set_option maxHeartbeats 4000000 in
set_option maxRecDepth 100000 in
theorem c_X9_empty (l : Launch) (D : va_G) (ad : Nat → Nat → Nat) (cs : Nat → ClassId) (sk : (Nat → Nat) × (Nat → Nat)) (z : ZS) (o0 : Nat) (post : ZS → Prop) (ho0 : isS o0) (h : V_X9_empty z o0 post) : MV l D ad cs sk yX9_empty cX9_empty 1 (rmq 0 0 0) [.ref (ad o0 100)] z post := by
  refine MV.of RX9 rfl (by decide) (Nat.le_of_ble_eq_true rfl) ?_
  intro p e s m args below meth c A Q E hw hA hret ls hl
  have hx := E.1.1
  have hb := E.1.2.1
  have hml := E.1.2.2.1
  have hown := E.1.2.2.2.1
  have h0 := E.1.2.2.2.2
  have hl : lv_has ls 1 [(0, .ref (ad o0 100))] := hl
  unfold V_X9_empty at h
  have b00 : ∀ (H : Heap) (locs : List Loc), OW D ad cs A s.heap z H locs → W p l e (rmq 0 0 0) s m args below meth c H locs 0 0 Q (F0 m 0 ls []) := by
    intro H locs hw
    refine lv_aload_n hx hb dX9_empty_0 rfl (lv_at hl 0 rfl) ?_
    refine lv_null hx hb dX9_empty_1 ?_
    refine xpG E hw (c1 := 9) (r := none) (ciisS ho0) (kyisS_100 ho0) fp_9_0 qf_9_9 dX9_empty_2 (fun z1 ez1 H locs hw => ?_)
    replace h := h z1 ez1
    refine lv_aload_n hx hb dX9_empty_5 rfl (lv_at hl 0 rfl) ?_
    refine lv_iconst (v := 0) hx hb dX9_empty_6 (by decide) ?_
    refine xpI E hw (c1 := 9) (ciisS ho0) (kyisS_100 ho0) fp_9_1 rfl rfl qf_9_15 dX9_empty_7 (fun z2 ez2 H locs hw => ?_)
    replace h := h z2 ez2
    refine lv_aload_n hx hb dX9_empty_10 rfl (lv_at hl 0 rfl) ?_
    refine lv_iconst (v := 0) hx hb dX9_empty_11 (by decide) ?_
    refine xpI E hw (c1 := 9) (ciisS ho0) (kyisS_100 ho0) fp_9_3 rfl rfl qf_9_23 dX9_empty_12 (fun z3 ez3 H locs hw => ?_)
    replace h := h z3 ez3
    exact hret z3 H locs 15 ls hw h dX9_empty_15
  exact b00 s.heap [] hw
def V_X9_hold (z : ZS) (o0 : Nat) (p1 : Nat) (post : ZS → Prop) : Prop := V_X9_empty z o0 (fun z1 => (∀ z3 : ZS, z3 = wG z1 o0 0 (some p1) → post z3))
set_option maxHeartbeats 4000000 in
set_option maxRecDepth 100000 in
theorem c_X9_hold (l : Launch) (D : va_G) (ad : Nat → Nat → Nat) (cs : Nat → ClassId) (sk : (Nat → Nat) × (Nat → Nat)) (z : ZS) (o0 : Nat) (p1 : Nat) (post : ZS → Prop) (ho0 : isS o0) (h : V_X9_hold z o0 p1 post) : MV l D ad cs sk yX9_hold cX9_hold 2 (rmq 1 0 0) [.ref (ad o0 100), .ref p1] z post := by
  refine MV.of RX9 rfl (by decide) (Nat.le_of_ble_eq_true rfl) ?_
  intro p e s m args below meth c A Q E hw hA hret ls hl
  have hx := E.1.1
  have hb := E.1.2.1
  have hml := E.1.2.2.1
  have hown := E.1.2.2.2.1
  have h0 := E.1.2.2.2.2
  have hl : lv_has ls 2 [(0, .ref (ad o0 100)), (1, .ref p1)] := hl
  unfold V_X9_hold at h
  have b00 : ∀ (H : Heap) (locs : List Loc), OW D ad cs A s.heap z H locs → W p l e (rmq 1 0 0) s m args below meth c H locs 0 0 Q (F0 m 0 ls []) := by
    intro H locs hw
    refine lv_aload_n hx hb dX9_hold_0 rfl (lv_at hl 0 rfl) ?_
    have hq := h
    clear h
    refine xcVV (As := []) (rest := []) E hw hA (c_X9_empty l D ad cs sk z o0 _ ho0 hq) kc_9_30 yo_X9_empty ⟨Nat.le_of_ble_eq_true rfl, Nat.le_of_ble_eq_true rfl⟩ (xrc E hw (kyisS_100 ho0) (ciisS ho0)) rfl hl.1 rfl (Nat.le_of_ble_eq_true rfl) dX9_hold_1 ⟨Nat.le_of_ble_eq_true rfl, Nat.le_of_ble_eq_true rfl⟩ (fun z1 H locs h hw => ?_)
    refine lv_aload_n hx hb dX9_hold_4 rfl (lv_at hl 0 rfl) ?_
    refine lv_aload_n hx hb dX9_hold_5 rfl (lv_at hl 1 rfl) ?_
    refine xpG E hw (c1 := 9) (r := (some p1)) (ciisS ho0) (kyisS_100 ho0) fp_9_0 qf_9_9 dX9_hold_6 (fun z3 ez3 H locs hw => ?_)
    replace h := h z3 ez3
    exact hret z3 H locs 9 ls hw h dX9_hold_9
  exact b00 s.heap [] hw
def V_X9_holdRow_30 (o0 : Nat) (post : ZS → Prop) : Nat → ZS → Int32 → Prop
  | 0, _, _ => False
  | (n + 1), z, v3 => (((zI z o0 3) ≤ v3 → post z) ∧ (¬ (zI z o0 3) ≤ v3 → (vp_in v3 100 ∧ ∀ z7 : ZS, z7 = wR z o0 4 (Int32.toNatClampNeg v3) (0 : Int32) → (∀ t8 : Int32, t8 = v3 + (1 : Int32) → (V_X9_holdRow_30 o0 post n) z7 t8))))
def V_X9_holdRow (z : ZS) (o0 : Nat) (p1 : Int32) (p2 : Int32) (post : ZS → Prop) : Prop := V_X9_empty z o0 (fun z1 => (∀ z3 : ZS, z3 = wI z1 o0 1 (1 : Int32) → (∀ z4 : ZS, z4 = wI z3 o0 2 p1 → (∀ z5 : ZS, z5 = wI z4 o0 3 (if (0 : Int32) < (if (100 : Int32) < p2 then (100 : Int32) else p2) then (if (100 : Int32) < p2 then (100 : Int32) else p2) else (0 : Int32)) → (∃ n9 : Nat, V_X9_holdRow_30 o0 post n9 z5 (0 : Int32))))))
set_option maxHeartbeats 4000000 in
set_option maxRecDepth 100000 in
theorem c_X9_holdRow (l : Launch) (D : va_G) (ad : Nat → Nat → Nat) (cs : Nat → ClassId) (sk : (Nat → Nat) × (Nat → Nat)) (z : ZS) (o0 : Nat) (p1 : Int32) (p2 : Int32) (post : ZS → Prop) (ho0 : isS o0) (h : V_X9_holdRow z o0 p1 p2 post) : MV l D ad cs sk yX9_holdRow cX9_holdRow 4 (rmq 1 0 0) [.ref (ad o0 100), .int p1, .int p2] z post := by
  refine MV.of RX9 rfl (by decide) (Nat.le_of_ble_eq_true rfl) ?_
  intro p e s m args below meth c A Q E hw hA hret ls hl
  have hx := E.1.1
  have hb := E.1.2.1
  have hml := E.1.2.2.1
  have hown := E.1.2.2.2.1
  have h0 := E.1.2.2.2.2
  have hl : lv_has ls 4 [(0, .ref (ad o0 100)), (1, .int p1), (2, .int p2)] := hl
  unfold V_X9_holdRow at h
  have b30 : ∀ (n : Nat) (z : ZS) (v3 : Int32), ∀ (H : Heap) (locs : List Loc), OW D ad cs A s.heap z H locs → ∀ ls : Array Slot, lv_has ls 4 [(0, .ref (ad o0 100)), (3, .int v3)] → V_X9_holdRow_30 o0 post n z v3 → W p l e (rmq 1 0 0) s m args below meth c H locs 0 0 Q (F0 m 30 ls []) := by
    intro n
    induction n with
    | zero =>
      intro z v3 H locs hw ls hl h
      exact h.elim
    | succ n30x ih30 =>
      intro z v3 H locs hw ls hl h
      unfold V_X9_holdRow_30 at h
      refine lv_iload_n hx hb dX9_holdRow_30 rfl (lv_at hl 1 rfl) ?_
      refine lv_aload_n hx hb dX9_holdRow_31 rfl (lv_at hl 0 rfl) ?_
      refine xgI E hw (c1 := 9) (ciisS ho0) (kyisS_100 ho0) fo_9_3 qf_9_23 dX9_holdRow_32 ?_
      refine lv_icmp_ge (tgt := 51) hx hb dX9_holdRow_35 (by decide) (fun c6 => ?_) (fun c6 => ?_)
      · replace h := h.1 c6
        exact hret z H locs 51 ls hw h dX9_holdRow_51
      · replace h := h.2 c6
        refine lv_aload_n hx hb dX9_holdRow_38 rfl (lv_at hl 0 rfl) ?_
        refine xgC E hw (c1 := 9) (t := (o0, 4)) (ciisS ho0) (kyisS_100 ho0) fo_9_4 rfl qf_9_26 dX9_holdRow_39 ?_
        refine lv_iload_n hx hb dX9_holdRow_42 rfl (lv_at hl 1 rfl) ?_
        refine lv_iconst (v := 0) hx hb dX9_holdRow_43 (by decide) ?_
        obtain ⟨hi, h⟩ := h
        refine xas E hw (kyisS_4 ho0) (kaisS_4 ho0) hi dX9_holdRow_44 (fun z7 ez7 H locs hw => ?_)
        replace h := h z7 ez7
        obtain ⟨t8, et8⟩ : ∃ y : Int32, y = v3 + (1 : Int32) := ⟨_, rfl⟩
        replace h := h t8 et8
        refine lv_iinc (v := t8) (lv' := [(3, .int t8), (0, .ref (ad o0 100))]) hx hb dX9_holdRow_45 hl (k := 1) rfl (by rw [et8]; rfl) (by decide) rfl (fun ls hl => ?_)
        refine lv_goto (tgt := 30) hx hb dX9_holdRow_48 (by decide) ?_
        exact ih30 z7 t8 H locs hw ls (lv_sub hl [1, 0] rfl) h
  have b00 : ∀ (H : Heap) (locs : List Loc), OW D ad cs A s.heap z H locs → W p l e (rmq 1 0 0) s m args below meth c H locs 0 0 Q (F0 m 0 ls []) := by
    intro H locs hw
    refine lv_aload_n hx hb dX9_holdRow_0 rfl (lv_at hl 0 rfl) ?_
    have hq := h
    clear h
    refine xcVV (As := []) (rest := []) E hw hA (c_X9_empty l D ad cs sk z o0 _ ho0 hq) kc_9_30 yo_X9_empty ⟨Nat.le_of_ble_eq_true rfl, Nat.le_of_ble_eq_true rfl⟩ (xrc E hw (kyisS_100 ho0) (ciisS ho0)) rfl hl.1 rfl (Nat.le_of_ble_eq_true rfl) dX9_holdRow_1 ⟨Nat.le_of_ble_eq_true rfl, Nat.le_of_ble_eq_true rfl⟩ (fun z1 H locs h hw => ?_)
    refine lv_aload_n hx hb dX9_holdRow_4 rfl (lv_at hl 0 rfl) ?_
    refine lv_iconst (v := 1) hx hb dX9_holdRow_5 (by decide) ?_
    refine xpI E hw (c1 := 9) (ciisS ho0) (kyisS_100 ho0) fp_9_1 rfl rfl qf_9_15 dX9_holdRow_6 (fun z3 ez3 H locs hw => ?_)
    replace h := h z3 ez3
    refine lv_aload_n hx hb dX9_holdRow_9 rfl (lv_at hl 0 rfl) ?_
    refine lv_iload_n hx hb dX9_holdRow_10 rfl (lv_at hl 1 rfl) ?_
    refine xpI E hw (c1 := 9) (ciisS ho0) (kyisS_100 ho0) fp_9_2 rfl rfl qf_9_19 dX9_holdRow_11 (fun z4 ez4 H locs hw => ?_)
    replace h := h z4 ez4
    refine lv_aload_n hx hb dX9_holdRow_14 rfl (lv_at hl 0 rfl) ?_
    refine lv_iconst (v := 0) hx hb dX9_holdRow_15 (by decide) ?_
    refine lv_iload_n hx hb dX9_holdRow_16 rfl (lv_at hl 2 rfl) ?_
    refine lv_bipush (v := 100) hx hb dX9_holdRow_17 (by decide) ?_
    refine va_mmin hx hb (hml.trans hl.1.symm) hown (h0 _ qm_9_33) (h0 _ qs_ib_Math_min_name) (h0 _ qn_Math) (h0 _ qc_Math_min) (Nat.le_of_ble_eq_true rfl) (Nat.le_of_ble_eq_true rfl) (Nat.le_of_ble_eq_true rfl) (Nat.le_of_ble_eq_true rfl) dX9_holdRow_19 ?_
    refine va_mmax hx hb (hml.trans hl.1.symm) hown (h0 _ qm_9_39) (h0 _ qs_ib_Math_max_name) (h0 _ qn_Math) (h0 _ qc_Math_max) (Nat.le_of_ble_eq_true rfl) (Nat.le_of_ble_eq_true rfl) (Nat.le_of_ble_eq_true rfl) (Nat.le_of_ble_eq_true rfl) dX9_holdRow_22 ?_
    refine xpI E hw (c1 := 9) (ciisS ho0) (kyisS_100 ho0) fp_9_3 rfl rfl qf_9_23 dX9_holdRow_25 (fun z5 ez5 H locs hw => ?_)
    replace h := h z5 ez5
    refine lv_iconst (v := 0) hx hb dX9_holdRow_28 (by decide) ?_
    refine lv_istore_n (lv' := [(3, .int (0 : Int32)), (0, .ref (ad o0 100)), (1, .int p1), (2, .int p2)]) hx hb dX9_holdRow_29 rfl hl (by decide) rfl (fun ls hl => ?_)
    obtain ⟨n9, h⟩ := h
    exact b30 n9 z5 (0 : Int32) H locs hw ls (lv_sub hl [1, 0] rfl) h
  exact b00 s.heap [] hw
def V_X9_store_40 (o0 : Nat) (post : ZS → Prop) (z : ZS) (s1 : Int32) (s2 : Int32) : Prop := (vp_in s1 100 ∧ ∀ z6 : ZS, z6 = wR z o0 4 (Int32.toNatClampNeg s1) s2 → post z6)
def V_X9_store (z : ZS) (o0 : Nat) (p1 : Int32) (p2 : Int32) (post : ZS → Prop) : Prop := V_X9_hasPlaces z o0 p1 (1 : Int32) (fun r2 z1 => ((r2 = 0 → post z1) ∧ (¬ r2 = 0 → ((¬ (zI z1 o0 2) = 0 → ((¬ (zI z1 o0 2) = (1 : Int32) → V_X9_store_40 o0 post z1 p1 p2) ∧ ((zI z1 o0 2) = (1 : Int32) → V_X9_store_40 o0 post z1 p1 (Int16.toInt32 (Int32.toInt16 p2))))) ∧ ((zI z1 o0 2) = 0 → V_X9_store_40 o0 post z1 p1 (Int8.toInt32 (Int32.toInt8 p2)))))))
set_option maxHeartbeats 4000000 in
set_option maxRecDepth 100000 in
theorem c_X9_store (l : Launch) (D : va_G) (ad : Nat → Nat → Nat) (cs : Nat → ClassId) (sk : (Nat → Nat) × (Nat → Nat)) (z : ZS) (o0 : Nat) (p1 : Int32) (p2 : Int32) (post : ZS → Prop) (ho0 : isS o0) (h : V_X9_store z o0 p1 p2 post) : MV l D ad cs sk yX9_store cX9_store 3 (rmq 1 0 0) [.ref (ad o0 100), .int p1, .int p2] z post := by
  refine MV.of RX9 rfl (by decide) (Nat.le_of_ble_eq_true rfl) ?_
  intro p e s m args below meth c A Q E hw hA hret ls hl
  have hx := E.1.1
  have hb := E.1.2.1
  have hml := E.1.2.2.1
  have hown := E.1.2.2.2.1
  have h0 := E.1.2.2.2.2
  have hl : lv_has ls 3 [(0, .ref (ad o0 100)), (1, .int p1), (2, .int p2)] := hl
  unfold V_X9_store at h
  have b40 : ∀ (z : ZS) (s1 : Int32) (s2 : Int32), ∀ (H : Heap) (locs : List Loc), OW D ad cs A s.heap z H locs → ∀ ls : Array Slot, lv_has ls 3 [] → V_X9_store_40 o0 post z s1 s2 → W p l e (rmq 1 0 0) s m args below meth c H locs 0 0 Q (F0 m 40 ls [.int s2, .int s1, .ref (ad o0 4)]) := by
    intro z s1 s2 H locs hw ls hl h
    unfold V_X9_store_40 at h
    obtain ⟨hi, h⟩ := h
    refine xas E hw (kyisS_4 ho0) (kaisS_4 ho0) hi dX9_store_40 (fun z6 ez6 H locs hw => ?_)
    replace h := h z6 ez6
    exact hret z6 H locs 41 ls hw h dX9_store_41
  have b00 : ∀ (H : Heap) (locs : List Loc), OW D ad cs A s.heap z H locs → W p l e (rmq 1 0 0) s m args below meth c H locs 0 0 Q (F0 m 0 ls []) := by
    intro H locs hw
    refine lv_aload_n hx hb dX9_store_0 rfl (lv_at hl 0 rfl) ?_
    refine lv_iload_n hx hb dX9_store_1 rfl (lv_at hl 1 rfl) ?_
    refine lv_iconst (v := 1) hx hb dX9_store_2 (by decide) ?_
    have hq := h
    clear h
    refine xcVI (As := [.int p1, .int (1 : Int32)]) (rest := []) E hw hA (c_X9_hasPlaces l D ad cs sk z o0 p1 (1 : Int32) _ ho0 hq) kc_9_42 yo_X9_hasPlaces ⟨Nat.le_of_ble_eq_true rfl, Nat.le_of_ble_eq_true rfl⟩ (xrc E hw (kyisS_100 ho0) (ciisS ho0)) rfl hl.1 rfl (Nat.le_of_ble_eq_true rfl) dX9_store_3 ⟨Nat.le_of_ble_eq_true rfl, Nat.le_of_ble_eq_true rfl⟩ (fun r2 z1 H locs h hw => ?_)
    refine lv_if_eq (tgt := 41) hx hb dX9_store_6 (by decide) (fun c3 => ?_) (fun c3 => ?_)
    · replace h := h.1 c3
      exact hret z1 H locs 41 ls hw h dX9_store_41
    · replace h := h.2 c3
      refine lv_aload_n hx hb dX9_store_9 rfl (lv_at hl 0 rfl) ?_
      refine xgC E hw (c1 := 9) (t := (o0, 4)) (ciisS ho0) (kyisS_100 ho0) fo_9_4 rfl qf_9_26 dX9_store_10 ?_
      refine lv_iload_n hx hb dX9_store_13 rfl (lv_at hl 1 rfl) ?_
      refine lv_aload_n hx hb dX9_store_14 rfl (lv_at hl 0 rfl) ?_
      refine xgI E hw (c1 := 9) (ciisS ho0) (kyisS_100 ho0) fo_9_2 qf_9_19 dX9_store_15 ?_
      refine lv_if_ne (tgt := 26) hx hb dX9_store_18 (by decide) (fun c4 => ?_) (fun c4 => ?_)
      · replace h := h.1 c4
        refine lv_aload_n hx hb dX9_store_26 rfl (lv_at hl 0 rfl) ?_
        refine xgI E hw (c1 := 9) (ciisS ho0) (kyisS_100 ho0) fo_9_2 qf_9_19 dX9_store_27 ?_
        refine lv_iconst (v := 1) hx hb dX9_store_30 (by decide) ?_
        refine lv_icmp_ne (tgt := 39) hx hb dX9_store_31 (by decide) (fun c5 => ?_) (fun c5 => ?_)
        · replace h := h.1 c5
          refine lv_iload_n hx hb dX9_store_39 rfl (lv_at hl 2 rfl) ?_
          exact b40 z1 p1 p2 H locs hw ls (lv_sub hl [] rfl) h
        · replace h := h.2 c5
          refine lv_iload_n hx hb dX9_store_34 rfl (lv_at hl 2 rfl) ?_
          refine lv_i2s hx hb dX9_store_35 rfl ?_
          refine lv_goto (tgt := 40) hx hb dX9_store_36 (by decide) ?_
          exact b40 z1 p1 (Int16.toInt32 (Int32.toInt16 p2)) H locs hw ls (lv_sub hl [] rfl) h
      · replace h := h.2 c4
        refine lv_iload_n hx hb dX9_store_21 rfl (lv_at hl 2 rfl) ?_
        refine lv_i2b hx hb dX9_store_22 rfl ?_
        refine lv_goto (tgt := 40) hx hb dX9_store_23 (by decide) ?_
        exact b40 z1 p1 (Int8.toInt32 (Int32.toInt8 p2)) H locs hw ls (lv_sub hl [] rfl) h
  exact b00 s.heap [] hw
