def V_X9_hasPlaces (z : ZS) (o0 : Nat) (p1 : Int32) (p2 : Int32) (post : Int32 → ZS → Prop) : Prop := ((p1 < 0 → post (0 : Int32) z) ∧ (¬ p1 < 0 → ((p2 < 0 → post (0 : Int32) z) ∧ (¬ p2 < 0 → (((zI z o0 3) < p2 → post (0 : Int32) z) ∧ (¬ (zI z o0 3) < p2 → ((((zI z o0 3) - p2) < p1 → post (0 : Int32) z) ∧ (¬ ((zI z o0 3) - p2) < p1 → post (1 : Int32) z))))))))
set_option maxHeartbeats 4000000 in
set_option maxRecDepth 100000 in
theorem c_X9_hasPlaces (l : Launch) (D : va_G) (ad : Nat → Nat → Nat) (cs : Nat → ClassId) (sk : (Nat → Nat) × (Nat → Nat)) (z : ZS) (o0 : Nat) (p1 : Int32) (p2 : Int32) (post : Int32 → ZS → Prop) (ho0 : isS o0) (h : V_X9_hasPlaces z o0 p1 p2 post) : MI l D ad cs sk yX9_hasPlaces cX9_hasPlaces 3 .boolean (rmq 0 0 0) [.ref (ad o0 100), .int p1, .int p2] z post := by
  refine MI.of RX9 rfl (by decide) (Nat.le_of_ble_eq_true rfl) ?_
  intro p e s m args below meth c A Q E hw hA hret ls hl
  have hx := E.1.1
  have hb := E.1.2.1
  have hml := E.1.2.2.1
  have hown := E.1.2.2.2.1
  have h0 := E.1.2.2.2.2
  have hl : lv_has ls 3 [(0, .ref (ad o0 100)), (1, .int p1), (2, .int p2)] := hl
  unfold V_X9_hasPlaces at h
  have b00 : ∀ (H : Heap) (locs : List Loc), OW D ad cs A s.heap z H locs → W p l e (rmq 0 0 0) s m args below meth c H locs 0 0 Q (F0 m 0 ls []) := by
    intro H locs hw
    refine lv_iload_n hx hb dX9_hasPlaces_0 rfl (lv_at hl 1 rfl) ?_
    refine lv_if_lt (tgt := 30) hx hb dX9_hasPlaces_1 (by decide) (fun c1 => ?_) (fun c1 => ?_)
    · replace h := h.1 c1
      refine lv_iconst (v := 0) hx hb dX9_hasPlaces_30 (by decide) ?_
      exact hret (0 : Int32) z H locs 31 ls hw rfl h dX9_hasPlaces_31
    · replace h := h.2 c1
      refine lv_iload_n hx hb dX9_hasPlaces_4 rfl (lv_at hl 2 rfl) ?_
      refine lv_if_lt (tgt := 30) hx hb dX9_hasPlaces_5 (by decide) (fun c2 => ?_) (fun c2 => ?_)
      · replace h := h.1 c2
        refine lv_iconst (v := 0) hx hb dX9_hasPlaces_30 (by decide) ?_
        exact hret (0 : Int32) z H locs 31 ls hw rfl h dX9_hasPlaces_31
      · replace h := h.2 c2
        refine lv_iload_n hx hb dX9_hasPlaces_8 rfl (lv_at hl 2 rfl) ?_
        refine lv_aload_n hx hb dX9_hasPlaces_9 rfl (lv_at hl 0 rfl) ?_
        refine xgI E hw (c1 := 9) (ciisS ho0) (kyisS_100 ho0) fo_9_3 qf_9_23 dX9_hasPlaces_10 ?_
        refine lv_icmp_gt (tgt := 30) hx hb dX9_hasPlaces_13 (by decide) (fun c3 => ?_) (fun c3 => ?_)
        · replace h := h.1 c3
          refine lv_iconst (v := 0) hx hb dX9_hasPlaces_30 (by decide) ?_
          exact hret (0 : Int32) z H locs 31 ls hw rfl h dX9_hasPlaces_31
        · replace h := h.2 c3
          refine lv_iload_n hx hb dX9_hasPlaces_16 rfl (lv_at hl 1 rfl) ?_
          refine lv_aload_n hx hb dX9_hasPlaces_17 rfl (lv_at hl 0 rfl) ?_
          refine xgI E hw (c1 := 9) (ciisS ho0) (kyisS_100 ho0) fo_9_3 qf_9_23 dX9_hasPlaces_18 ?_
          refine lv_iload_n hx hb dX9_hasPlaces_21 rfl (lv_at hl 2 rfl) ?_
          refine lv_isub hx hb dX9_hasPlaces_22 ?_
          refine lv_icmp_gt (tgt := 30) hx hb dX9_hasPlaces_23 (by decide) (fun c4 => ?_) (fun c4 => ?_)
          · replace h := h.1 c4
            refine lv_iconst (v := 0) hx hb dX9_hasPlaces_30 (by decide) ?_
            exact hret (0 : Int32) z H locs 31 ls hw rfl h dX9_hasPlaces_31
          · replace h := h.2 c4
            refine lv_iconst (v := 1) hx hb dX9_hasPlaces_26 (by decide) ?_
            refine lv_goto (tgt := 31) hx hb dX9_hasPlaces_27 (by decide) ?_
            exact hret (1 : Int32) z H locs 31 ls hw rfl h dX9_hasPlaces_31
  exact b00 s.heap [] hw
def V_X9_valueAt (z : ZS) (o0 : Nat) (p1 : Int32) (post : Int32 → ZS → Prop) : Prop := V_X9_hasPlaces z o0 p1 (1 : Int32) (fun r2 z1 => ((r2 = 0 → post (-1 : Int32) z1) ∧ (¬ r2 = 0 → (vp_in p1 100 ∧ post (zR z1 o0 4 (Int32.toNatClampNeg p1)) z1))))
set_option maxHeartbeats 4000000 in
set_option maxRecDepth 100000 in
theorem c_X9_valueAt (l : Launch) (D : va_G) (ad : Nat → Nat → Nat) (cs : Nat → ClassId) (sk : (Nat → Nat) × (Nat → Nat)) (z : ZS) (o0 : Nat) (p1 : Int32) (post : Int32 → ZS → Prop) (ho0 : isS o0) (h : V_X9_valueAt z o0 p1 post) : MI l D ad cs sk yX9_valueAt cX9_valueAt 2 .int (rmq 1 0 0) [.ref (ad o0 100), .int p1] z post := by
  refine MI.of RX9 rfl (by decide) (Nat.le_of_ble_eq_true rfl) ?_
  intro p e s m args below meth c A Q E hw hA hret ls hl
  have hx := E.1.1
  have hb := E.1.2.1
  have hml := E.1.2.2.1
  have hown := E.1.2.2.2.1
  have h0 := E.1.2.2.2.2
  have hl : lv_has ls 2 [(0, .ref (ad o0 100)), (1, .int p1)] := hl
  unfold V_X9_valueAt at h
  have b00 : ∀ (H : Heap) (locs : List Loc), OW D ad cs A s.heap z H locs → W p l e (rmq 1 0 0) s m args below meth c H locs 0 0 Q (F0 m 0 ls []) := by
    intro H locs hw
    refine lv_aload_n hx hb dX9_valueAt_0 rfl (lv_at hl 0 rfl) ?_
    refine lv_iload_n hx hb dX9_valueAt_1 rfl (lv_at hl 1 rfl) ?_
    refine lv_iconst (v := 1) hx hb dX9_valueAt_2 (by decide) ?_
    have hq := h
    clear h
    refine xcVI (As := [.int p1, .int (1 : Int32)]) (rest := []) E hw hA (c_X9_hasPlaces l D ad cs sk z o0 p1 (1 : Int32) _ ho0 hq) kc_9_42 yo_X9_hasPlaces ⟨Nat.le_of_ble_eq_true rfl, Nat.le_of_ble_eq_true rfl⟩ (xrc E hw (kyisS_100 ho0) (ciisS ho0)) rfl hl.1 rfl (Nat.le_of_ble_eq_true rfl) dX9_valueAt_3 ⟨Nat.le_of_ble_eq_true rfl, Nat.le_of_ble_eq_true rfl⟩ (fun r2 z1 H locs h hw => ?_)
    refine lv_if_eq (tgt := 18) hx hb dX9_valueAt_6 (by decide) (fun c3 => ?_) (fun c3 => ?_)
    · replace h := h.1 c3
      refine lv_iconst (v := -1) hx hb dX9_valueAt_18 (by decide) ?_
      exact hret (-1 : Int32) z1 H locs 19 ls hw rfl h dX9_valueAt_19
    · replace h := h.2 c3
      refine lv_aload_n hx hb dX9_valueAt_9 rfl (lv_at hl 0 rfl) ?_
      refine xgC E hw (c1 := 9) (t := (o0, 4)) (ciisS ho0) (kyisS_100 ho0) fo_9_4 rfl qf_9_26 dX9_valueAt_10 ?_
      refine lv_iload_n hx hb dX9_valueAt_13 rfl (lv_at hl 1 rfl) ?_
      obtain ⟨hi, h⟩ := h
      refine xal E hw (kyisS_4 ho0) (kaisS_4 ho0) hi dX9_valueAt_14 ?_
      refine lv_goto (tgt := 19) hx hb dX9_valueAt_15 (by decide) ?_
      exact hret (zR z1 o0 4 (Int32.toNatClampNeg p1)) z1 H locs 19 ls hw rfl h dX9_valueAt_19
  exact b00 s.heap [] hw
def V_X0_behindNumber_18 (p0 : Nat) (post : Int32 → ZS → Prop) : Nat → ZS → Int32 → Int32 → Int32 → Prop
  | 0, _, _, _, _ => False
  | (n + 1), z, v1, v2, v3 => ((v2 ≤ v3 → post (v1 + v3) z) ∧ (¬ v2 ≤ v3 → V_X9_valueAt z p0 (v1 + v3) (fun r6 z5 => V_X0_isDigit z5 r6 (fun r8 z7 => ((r8 = 0 → post (v1 + v3) z7) ∧ (¬ r8 = 0 → (∀ t10 : Int32, t10 = v3 + (1 : Int32) → (V_X0_behindNumber_18 p0 post n) z7 v1 v2 t10)))))))
def V_X0_behindNumber_15 (p0 : Nat) (post : Int32 → ZS → Prop) (z : ZS) (v1 : Int32) (s0 : Int32) : Prop := (∃ n11 : Nat, V_X0_behindNumber_18 p0 post n11 z v1 s0 (0 : Int32))
def V_X0_behindNumber (z : ZS) (p0 : Nat) (p1 : Int32) (post : Int32 → ZS → Prop) : Prop := V_X9_valueAt z p0 p1 (fun r2 z1 => ((¬ r2 = (48 : Int32) → V_X0_behindNumber_15 p0 post z1 p1 (4 : Int32)) ∧ (r2 = (48 : Int32) → V_X0_behindNumber_15 p0 post z1 p1 (1 : Int32))))
set_option maxHeartbeats 4000000 in
set_option maxRecDepth 100000 in
theorem c_X0_behindNumber (l : Launch) (D : va_G) (ad : Nat → Nat → Nat) (cs : Nat → ClassId) (sk : (Nat → Nat) × (Nat → Nat)) (z : ZS) (p0 : Nat) (p1 : Int32) (post : Int32 → ZS → Prop) (hp0 : isS p0) (h : V_X0_behindNumber z p0 p1 post) : MI l D ad cs sk yX0_behindNumber cX0_behindNumber 4 .int (rmq 2 0 0) [.ref (ad p0 100), .int p1] z post := by
  refine MI.of RX0 rfl (by decide) (Nat.le_of_ble_eq_true rfl) ?_
  intro p e s m args below meth c A Q E hw hA hret ls hl
  have hx := E.1.1
  have hb := E.1.2.1
  have hml := E.1.2.2.1
  have hown := E.1.2.2.2.1
  have h0 := E.1.2.2.2.2
  have hl : lv_has ls 4 [(0, .ref (ad p0 100)), (1, .int p1)] := hl
  unfold V_X0_behindNumber at h
  have b18 : ∀ (n : Nat) (z : ZS) (v1 : Int32) (v2 : Int32) (v3 : Int32), ∀ (H : Heap) (locs : List Loc), OW D ad cs A s.heap z H locs → ∀ ls : Array Slot, lv_has ls 4 [(0, .ref (ad p0 100)), (1, .int v1), (2, .int v2), (3, .int v3)] → V_X0_behindNumber_18 p0 post n z v1 v2 v3 → W p l e (rmq 2 0 0) s m args below meth c H locs 0 0 Q (F0 m 18 ls []) := by
    intro n
    induction n with
    | zero =>
      intro z v1 v2 v3 H locs hw ls hl h
      exact h.elim
    | succ n18x ih18 =>
      intro z v1 v2 v3 H locs hw ls hl h
      unfold V_X0_behindNumber_18 at h
      refine lv_iload_n hx hb dX0_behindNumber_18 rfl (lv_at hl 3 rfl) ?_
      refine lv_iload_n hx hb dX0_behindNumber_19 rfl (lv_at hl 2 rfl) ?_
      refine lv_icmp_ge (tgt := 42) hx hb dX0_behindNumber_20 (by decide) (fun c4 => ?_) (fun c4 => ?_)
      · replace h := h.1 c4
        refine lv_iload_n hx hb dX0_behindNumber_42 rfl (lv_at hl 1 rfl) ?_
        refine lv_iload_n hx hb dX0_behindNumber_43 rfl (lv_at hl 3 rfl) ?_
        refine lv_iadd hx hb dX0_behindNumber_44 ?_
        exact hret (v1 + v3) z H locs 45 ls hw rfl h dX0_behindNumber_45
      · replace h := h.2 c4
        refine lv_aload_n hx hb dX0_behindNumber_23 rfl (lv_at hl 0 rfl) ?_
        refine lv_iload_n hx hb dX0_behindNumber_24 rfl (lv_at hl 1 rfl) ?_
        refine lv_iload_n hx hb dX0_behindNumber_25 rfl (lv_at hl 3 rfl) ?_
        refine lv_iadd hx hb dX0_behindNumber_26 ?_
        have hq := h
        clear h
        refine xcVI (As := [.int (v1 + v3)]) (rest := []) E hw hA (c_X9_valueAt l D ad cs sk z p0 (v1 + v3) _ hp0 hq) kc_0_65 yo_X9_valueAt ⟨Nat.le_of_ble_eq_true rfl, Nat.le_of_ble_eq_true rfl⟩ (xrc E hw (kyisS_100 hp0) (ciisS hp0)) rfl hl.1 rfl (Nat.le_of_ble_eq_true rfl) dX0_behindNumber_27 ⟨Nat.le_of_ble_eq_true rfl, Nat.le_of_ble_eq_true rfl⟩ (fun r6 z5 H locs h hw => ?_)
        have hq := h
        clear h
        refine xcSI (As := [.int r6]) (rest := []) E hw hA (c_X0_isDigit l D ad cs sk z5 r6 _ hq) kc_0_118 yo_X0_isDigit ⟨Nat.le_of_ble_eq_true rfl, Nat.le_of_ble_eq_true rfl⟩ rfl hl.1 rfl (Nat.le_of_ble_eq_true rfl) dX0_behindNumber_30 ⟨Nat.le_of_ble_eq_true rfl, Nat.le_of_ble_eq_true rfl⟩ (fun r8 z7 H locs h hw => ?_)
        refine lv_if_eq (tgt := 42) hx hb dX0_behindNumber_33 (by decide) (fun c9 => ?_) (fun c9 => ?_)
        · replace h := h.1 c9
          refine lv_iload_n hx hb dX0_behindNumber_42 rfl (lv_at hl 1 rfl) ?_
          refine lv_iload_n hx hb dX0_behindNumber_43 rfl (lv_at hl 3 rfl) ?_
          refine lv_iadd hx hb dX0_behindNumber_44 ?_
          exact hret (v1 + v3) z7 H locs 45 ls hw rfl h dX0_behindNumber_45
        · replace h := h.2 c9
          obtain ⟨t10, et10⟩ : ∃ y : Int32, y = v3 + (1 : Int32) := ⟨_, rfl⟩
          replace h := h t10 et10
          refine lv_iinc (v := t10) (lv' := [(3, .int t10), (0, .ref (ad p0 100)), (1, .int v1), (2, .int v2)]) hx hb dX0_behindNumber_36 hl (k := 3) rfl (by rw [et10]; rfl) (by decide) rfl (fun ls hl => ?_)
          refine lv_goto (tgt := 18) hx hb dX0_behindNumber_39 (by decide) ?_
          exact ih18 z7 v1 v2 t10 H locs hw ls (lv_sub hl [1, 2, 3, 0] rfl) h
  have b15 : ∀ (z : ZS) (v1 : Int32) (s0 : Int32), ∀ (H : Heap) (locs : List Loc), OW D ad cs A s.heap z H locs → ∀ ls : Array Slot, lv_has ls 4 [(0, .ref (ad p0 100)), (1, .int v1)] → V_X0_behindNumber_15 p0 post z v1 s0 → W p l e (rmq 2 0 0) s m args below meth c H locs 0 0 Q (F0 m 15 ls [.int s0]) := by
    intro z v1 s0 H locs hw ls hl h
    unfold V_X0_behindNumber_15 at h
    refine lv_istore_n (lv' := [(2, .int s0), (0, .ref (ad p0 100)), (1, .int v1)]) hx hb dX0_behindNumber_15 rfl hl (by decide) rfl (fun ls hl => ?_)
    refine lv_iconst (v := 0) hx hb dX0_behindNumber_16 (by decide) ?_
    refine lv_istore_n (lv' := [(3, .int (0 : Int32)), (2, .int s0), (0, .ref (ad p0 100)), (1, .int v1)]) hx hb dX0_behindNumber_17 rfl hl (by decide) rfl (fun ls hl => ?_)
    obtain ⟨n11, h⟩ := h
    exact b18 n11 z v1 s0 (0 : Int32) H locs hw ls (lv_sub hl [2, 3, 1, 0] rfl) h
  have b00 : ∀ (H : Heap) (locs : List Loc), OW D ad cs A s.heap z H locs → W p l e (rmq 2 0 0) s m args below meth c H locs 0 0 Q (F0 m 0 ls []) := by
    intro H locs hw
    refine lv_aload_n hx hb dX0_behindNumber_0 rfl (lv_at hl 0 rfl) ?_
    refine lv_iload_n hx hb dX0_behindNumber_1 rfl (lv_at hl 1 rfl) ?_
    have hq := h
    clear h
    refine xcVI (As := [.int p1]) (rest := []) E hw hA (c_X9_valueAt l D ad cs sk z p0 p1 _ hp0 hq) kc_0_65 yo_X9_valueAt ⟨Nat.le_of_ble_eq_true rfl, Nat.le_of_ble_eq_true rfl⟩ (xrc E hw (kyisS_100 hp0) (ciisS hp0)) rfl hl.1 rfl (Nat.le_of_ble_eq_true rfl) dX0_behindNumber_2 ⟨Nat.le_of_ble_eq_true rfl, Nat.le_of_ble_eq_true rfl⟩ (fun r2 z1 H locs h hw => ?_)
    refine lv_bipush (v := 48) hx hb dX0_behindNumber_5 (by decide) ?_
    refine lv_icmp_ne (tgt := 14) hx hb dX0_behindNumber_7 (by decide) (fun c3 => ?_) (fun c3 => ?_)
    · replace h := h.1 c3
      refine lv_iconst (v := 4) hx hb dX0_behindNumber_14 (by decide) ?_
      exact b15 z1 p1 (4 : Int32) H locs hw ls (lv_sub hl [0, 1] rfl) h
    · replace h := h.2 c3
      refine lv_iconst (v := 1) hx hb dX0_behindNumber_10 (by decide) ?_
      refine lv_goto (tgt := 15) hx hb dX0_behindNumber_11 (by decide) ?_
      exact b15 z1 p1 (1 : Int32) H locs hw ls (lv_sub hl [0, 1] rfl) h
  exact b00 s.heap [] hw
def V_X0_isAsFormed_53 (post : Int32 → ZS → Prop) (z : ZS) : Prop := post (1 : Int32) z
def V_X0_isAsFormed (z : ZS) (p0 : Int32) (p1 : Int32) (post : Int32 → ZS → Prop) : Prop := ((p0 = (100 : Int32) → V_X0_isDigit z p1 (fun r11 z10 => (narrow .boolean (.int r11) = .int r11 ∧ post r11 z10))) ∧ (¬ p0 = (100 : Int32) → ((p0 = (110 : Int32) → V_X0_isDigit z p1 (fun r9 z8 => (narrow .boolean (.int r9) = .int r9 ∧ post r9 z8))) ∧ (¬ p0 = (110 : Int32) → ((p0 = (115 : Int32) → ((p1 = (43 : Int32) → V_X0_isAsFormed_53 post z) ∧ (¬ p1 = (43 : Int32) → ((¬ p1 = (45 : Int32) → post (0 : Int32) z) ∧ (p1 = (45 : Int32) → V_X0_isAsFormed_53 post z))))) ∧ (¬ p0 = (115 : Int32) → ((¬ p1 = p0 → post (0 : Int32) z) ∧ (p1 = p0 → post (1 : Int32) z))))))))
set_option maxHeartbeats 4000000 in
set_option maxRecDepth 100000 in
theorem c_X0_isAsFormed (l : Launch) (D : va_G) (ad : Nat → Nat → Nat) (cs : Nat → ClassId) (sk : (Nat → Nat) × (Nat → Nat)) (z : ZS) (p0 : Int32) (p1 : Int32) (post : Int32 → ZS → Prop) (h : V_X0_isAsFormed z p0 p1 post) : MI l D ad cs sk yX0_isAsFormed cX0_isAsFormed 2 .boolean (rmq 2 0 0) [.int p0, .int p1] z post := by
  refine MI.of RX0 rfl (by decide) (Nat.le_of_ble_eq_true rfl) ?_
  intro p e s m args below meth c A Q E hw hA hret ls hl
  have hx := E.1.1
  have hb := E.1.2.1
  have hml := E.1.2.2.1
  have hown := E.1.2.2.2.1
  have h0 := E.1.2.2.2.2
  have hl : lv_has ls 2 [(0, .int p0), (1, .int p1)] := hl
  unfold V_X0_isAsFormed at h
  have b53 : ∀ (z : ZS), ∀ (H : Heap) (locs : List Loc), OW D ad cs A s.heap z H locs → ∀ ls : Array Slot, lv_has ls 2 [] → V_X0_isAsFormed_53 post z → W p l e (rmq 2 0 0) s m args below meth c H locs 0 0 Q (F0 m 53 ls []) := by
    intro z H locs hw ls hl h
    unfold V_X0_isAsFormed_53 at h
    refine lv_iconst (v := 1) hx hb dX0_isAsFormed_53 (by decide) ?_
    refine lv_goto (tgt := 58) hx hb dX0_isAsFormed_54 (by decide) ?_
    exact hret (1 : Int32) z H locs 58 ls hw rfl h dX0_isAsFormed_58
  have b00 : ∀ (H : Heap) (locs : List Loc), OW D ad cs A s.heap z H locs → W p l e (rmq 2 0 0) s m args below meth c H locs 0 0 Q (F0 m 0 ls []) := by
    intro H locs hw
    refine lv_iload_n hx hb dX0_isAsFormed_0 rfl (lv_at hl 0 rfl) ?_
    by_cases c2 : p0 = (100 : Int32)
    · replace h := h.1 c2
      refine lv_lookup (tgt := 36) (off := 35) hx hb dX0_isAsFormed_1 (by decide) (by rw [c2]; rfl) (by decide) ?_
      refine lv_iload_n hx hb dX0_isAsFormed_36 rfl (lv_at hl 1 rfl) ?_
      have hq := h
      clear h
      refine xcSI (As := [.int p1]) (rest := []) E hw hA (c_X0_isDigit l D ad cs sk z p1 _ hq) kc_0_118 yo_X0_isDigit ⟨Nat.le_of_ble_eq_true rfl, Nat.le_of_ble_eq_true rfl⟩ rfl hl.1 rfl (Nat.le_of_ble_eq_true rfl) dX0_isAsFormed_37 ⟨Nat.le_of_ble_eq_true rfl, Nat.le_of_ble_eq_true rfl⟩ (fun r11 z10 H locs h hw => ?_)
      exact hret r11 z10 H locs 40 ls hw h.1 h.2 dX0_isAsFormed_40
    · replace h := h.2 c2
      by_cases c3 : p0 = (110 : Int32)
      · replace h := h.1 c3
        refine lv_lookup (tgt := 36) (off := 35) hx hb dX0_isAsFormed_1 (by decide) (by rw [c3]; rfl) (by decide) ?_
        refine lv_iload_n hx hb dX0_isAsFormed_36 rfl (lv_at hl 1 rfl) ?_
        have hq := h
        clear h
        refine xcSI (As := [.int p1]) (rest := []) E hw hA (c_X0_isDigit l D ad cs sk z p1 _ hq) kc_0_118 yo_X0_isDigit ⟨Nat.le_of_ble_eq_true rfl, Nat.le_of_ble_eq_true rfl⟩ rfl hl.1 rfl (Nat.le_of_ble_eq_true rfl) dX0_isAsFormed_37 ⟨Nat.le_of_ble_eq_true rfl, Nat.le_of_ble_eq_true rfl⟩ (fun r9 z8 H locs h hw => ?_)
        exact hret r9 z8 H locs 40 ls hw h.1 h.2 dX0_isAsFormed_40
      · replace h := h.2 c3
        by_cases c4 : p0 = (115 : Int32)
        · replace h := h.1 c4
          refine lv_lookup (tgt := 41) (off := 40) hx hb dX0_isAsFormed_1 (by decide) (by rw [c4]; rfl) (by decide) ?_
          refine lv_iload_n hx hb dX0_isAsFormed_41 rfl (lv_at hl 1 rfl) ?_
          refine lv_bipush (v := 43) hx hb dX0_isAsFormed_42 (by decide) ?_
          refine lv_icmp_eq (tgt := 53) hx hb dX0_isAsFormed_44 (by decide) (fun c6 => ?_) (fun c6 => ?_)
          · replace h := h.1 c6
            exact b53 z H locs hw ls (lv_sub hl [] rfl) h
          · replace h := h.2 c6
            refine lv_iload_n hx hb dX0_isAsFormed_47 rfl (lv_at hl 1 rfl) ?_
            refine lv_bipush (v := 45) hx hb dX0_isAsFormed_48 (by decide) ?_
            refine lv_icmp_ne (tgt := 57) hx hb dX0_isAsFormed_50 (by decide) (fun c7 => ?_) (fun c7 => ?_)
            · replace h := h.1 c7
              refine lv_iconst (v := 0) hx hb dX0_isAsFormed_57 (by decide) ?_
              exact hret (0 : Int32) z H locs 58 ls hw rfl h dX0_isAsFormed_58
            · replace h := h.2 c7
              exact b53 z H locs hw ls (lv_sub hl [] rfl) h
        · replace h := h.2 c4
          refine lv_lookup (tgt := 59) (off := 58) hx hb dX0_isAsFormed_1 (by decide) (by rw [lv_osw c2 (by decide), lv_osw c3 (by decide), lv_osw c4 (by decide)]; rfl) (by decide) ?_
          refine lv_iload_n hx hb dX0_isAsFormed_59 rfl (lv_at hl 1 rfl) ?_
          refine lv_iload_n hx hb dX0_isAsFormed_60 rfl (lv_at hl 0 rfl) ?_
          refine lv_icmp_ne (tgt := 68) hx hb dX0_isAsFormed_61 (by decide) (fun c1 => ?_) (fun c1 => ?_)
          · replace h := h.1 c1
            refine lv_iconst (v := 0) hx hb dX0_isAsFormed_68 (by decide) ?_
            exact hret (0 : Int32) z H locs 69 ls hw rfl h dX0_isAsFormed_69
          · replace h := h.2 c1
            refine lv_iconst (v := 1) hx hb dX0_isAsFormed_64 (by decide) ?_
            refine lv_goto (tgt := 69) hx hb dX0_isAsFormed_65 (by decide) ?_
            exact hret (1 : Int32) z H locs 69 ls hw rfl h dX0_isAsFormed_69
  exact b00 s.heap [] hw
def V_X0_numberBetween_5 (p0 : Nat) (post : Int32 → ZS → Prop) : Nat → ZS → Int32 → Int32 → Int32 → Prop
  | 0, _, _, _, _ => False
  | (n + 1), z, v2, v3, v4 => ((v2 ≤ v4 → post v3 z) ∧ (¬ v2 ≤ v4 → V_X9_valueAt z p0 v4 (fun r3 z2 => (∀ t4 : Int32, t4 = (((v3 * (10 : Int32)) + r3) - (48 : Int32)) → (∀ t5 : Int32, t5 = v4 + (1 : Int32) → (V_X0_numberBetween_5 p0 post n) z2 v2 t4 t5)))))
def V_X0_numberBetween (z : ZS) (p0 : Nat) (p1 : Int32) (p2 : Int32) (post : Int32 → ZS → Prop) : Prop := (∃ n6 : Nat, V_X0_numberBetween_5 p0 post n6 z p2 (0 : Int32) p1)
set_option maxHeartbeats 4000000 in
set_option maxRecDepth 100000 in
theorem c_X0_numberBetween (l : Launch) (D : va_G) (ad : Nat → Nat → Nat) (cs : Nat → ClassId) (sk : (Nat → Nat) × (Nat → Nat)) (z : ZS) (p0 : Nat) (p1 : Int32) (p2 : Int32) (post : Int32 → ZS → Prop) (hp0 : isS p0) (h : V_X0_numberBetween z p0 p1 p2 post) : MI l D ad cs sk yX0_numberBetween cX0_numberBetween 5 .int (rmq 2 0 0) [.ref (ad p0 100), .int p1, .int p2] z post := by
  refine MI.of RX0 rfl (by decide) (Nat.le_of_ble_eq_true rfl) ?_
  intro p e s m args below meth c A Q E hw hA hret ls hl
  have hx := E.1.1
  have hb := E.1.2.1
  have hml := E.1.2.2.1
  have hown := E.1.2.2.2.1
  have h0 := E.1.2.2.2.2
  have hl : lv_has ls 5 [(0, .ref (ad p0 100)), (1, .int p1), (2, .int p2)] := hl
  unfold V_X0_numberBetween at h
  have b5 : ∀ (n : Nat) (z : ZS) (v2 : Int32) (v3 : Int32) (v4 : Int32), ∀ (H : Heap) (locs : List Loc), OW D ad cs A s.heap z H locs → ∀ ls : Array Slot, lv_has ls 5 [(0, .ref (ad p0 100)), (2, .int v2), (3, .int v3), (4, .int v4)] → V_X0_numberBetween_5 p0 post n z v2 v3 v4 → W p l e (rmq 2 0 0) s m args below meth c H locs 0 0 Q (F0 m 5 ls []) := by
    intro n
    induction n with
    | zero =>
      intro z v2 v3 v4 H locs hw ls hl h
      exact h.elim
    | succ n5x ih5 =>
      intro z v2 v3 v4 H locs hw ls hl h
      unfold V_X0_numberBetween_5 at h
      refine lv_iload hx hb dX0_numberBetween_5 (lv_at hl 3 rfl) ?_
      refine lv_iload_n hx hb dX0_numberBetween_7 rfl (lv_at hl 1 rfl) ?_
      refine lv_icmp_ge (tgt := 32) hx hb dX0_numberBetween_8 (by decide) (fun c1 => ?_) (fun c1 => ?_)
      · replace h := h.1 c1
        refine lv_iload_n hx hb dX0_numberBetween_32 rfl (lv_at hl 2 rfl) ?_
        exact hret v3 z H locs 33 ls hw rfl h dX0_numberBetween_33
      · replace h := h.2 c1
        refine lv_iload_n hx hb dX0_numberBetween_11 rfl (lv_at hl 2 rfl) ?_
        refine lv_bipush (v := 10) hx hb dX0_numberBetween_12 (by decide) ?_
        refine lv_imul hx hb dX0_numberBetween_14 ?_
        refine lv_aload_n hx hb dX0_numberBetween_15 rfl (lv_at hl 0 rfl) ?_
        refine lv_iload hx hb dX0_numberBetween_16 (lv_at hl 3 rfl) ?_
        have hq := h
        clear h
        refine xcVI (As := [.int v4]) (rest := [.int (v3 * (10 : Int32))]) E hw hA (c_X9_valueAt l D ad cs sk z p0 v4 _ hp0 hq) kc_0_65 yo_X9_valueAt ⟨Nat.le_of_ble_eq_true rfl, Nat.le_of_ble_eq_true rfl⟩ (xrc E hw (kyisS_100 hp0) (ciisS hp0)) rfl hl.1 rfl (Nat.le_of_ble_eq_true rfl) dX0_numberBetween_18 ⟨Nat.le_of_ble_eq_true rfl, Nat.le_of_ble_eq_true rfl⟩ (fun r3 z2 H locs h hw => ?_)
        refine lv_iadd hx hb dX0_numberBetween_21 ?_
        refine lv_bipush (v := 48) hx hb dX0_numberBetween_22 (by decide) ?_
        refine lv_isub hx hb dX0_numberBetween_24 ?_
        refine lv_topi (fun t4 et4 => ?_)
        replace h := h t4 et4
        refine lv_istore_n (lv' := [(3, .int t4), (0, .ref (ad p0 100)), (2, .int v2), (4, .int v4)]) hx hb dX0_numberBetween_25 rfl hl (by decide) rfl (fun ls hl => ?_)
        obtain ⟨t5, et5⟩ : ∃ y : Int32, y = v4 + (1 : Int32) := ⟨_, rfl⟩
        replace h := h t5 et5
        refine lv_iinc (v := t5) (lv' := [(4, .int t5), (3, .int t4), (0, .ref (ad p0 100)), (2, .int v2)]) hx hb dX0_numberBetween_26 hl (k := 3) rfl (by rw [et5]; rfl) (by decide) rfl (fun ls hl => ?_)
        refine lv_goto (tgt := 5) hx hb dX0_numberBetween_29 (by decide) ?_
        exact ih5 z2 v2 t4 t5 H locs hw ls (lv_sub hl [2, 3, 1, 0] rfl) h
  have b00 : ∀ (H : Heap) (locs : List Loc), OW D ad cs A s.heap z H locs → W p l e (rmq 2 0 0) s m args below meth c H locs 0 0 Q (F0 m 0 ls []) := by
    intro H locs hw
    refine lv_iconst (v := 0) hx hb dX0_numberBetween_0 (by decide) ?_
    refine lv_istore_n (lv' := [(3, .int (0 : Int32)), (0, .ref (ad p0 100)), (1, .int p1), (2, .int p2)]) hx hb dX0_numberBetween_1 rfl hl (by decide) rfl (fun ls hl => ?_)
    refine lv_iload_n hx hb dX0_numberBetween_2 rfl (lv_at hl 2 rfl) ?_
    refine lv_istore (lv' := [(4, .int p1), (3, .int (0 : Int32)), (0, .ref (ad p0 100)), (1, .int p1), (2, .int p2)]) hx hb dX0_numberBetween_3 hl (by decide) rfl (fun ls hl => ?_)
    obtain ⟨n6, h⟩ := h
    exact b5 n6 z p2 (0 : Int32) p1 H locs hw ls (lv_sub hl [2, 4, 1, 0] rfl) h
  exact b00 s.heap [] hw
def V_X4_ofKind (z : ZS) (p0 : Int32) (p1 : Int32) (p2 : Int32) (p3 : Int32) (post : Nat → ZS → Prop) : Prop := ((p0 = (1 : Int32) → (∀ q23 : Nat, q23 ∉ zP z → (∀ z24 : ZS, z24 = wP z q23 1 (fdat_1 p1 p2 p3) → post q23 z24))) ∧ (¬ p0 = (1 : Int32) → ((p0 = (2 : Int32) → (∀ q21 : Nat, q21 ∉ zP z → (∀ z22 : ZS, z22 = wP z q21 2 (fdat_2 p1 p2 p3) → post q21 z22))) ∧ (¬ p0 = (2 : Int32) → ((p0 = (3 : Int32) → (∀ q19 : Nat, q19 ∉ zP z → (∀ z20 : ZS, z20 = wP z q19 3 (fdat_3 p1 p2 p3) → post q19 z20))) ∧ (¬ p0 = (3 : Int32) → ((p0 = (4 : Int32) → (∀ q17 : Nat, q17 ∉ zP z → (∀ z18 : ZS, z18 = wP z q17 4 (fdat_4 p1 p2 p3) → post q17 z18))) ∧ (¬ p0 = (4 : Int32) → ((p0 = (5 : Int32) → (∀ q15 : Nat, q15 ∉ zP z → (∀ z16 : ZS, z16 = wP z q15 5 (fdat_5 p1 p2 p3) → post q15 z16))) ∧ (¬ p0 = (5 : Int32) → ((p0 = (6 : Int32) → (∀ q13 : Nat, q13 ∉ zP z → (∀ z14 : ZS, z14 = wP z q13 6 (fdat_6 p1 p2 p3) → post q13 z14))) ∧ (¬ p0 = (6 : Int32) → ((p0 = (7 : Int32) → (∀ q11 : Nat, q11 ∉ zP z → (∀ z12 : ZS, z12 = wP z q11 7 (fdat_7 p1 p2 p3) → post q11 z12))) ∧ (¬ p0 = (7 : Int32) → (∀ q1 : Nat, q1 ∉ zP z → (∀ z2 : ZS, z2 = wP z q1 0 (fdat_0 p1 p2 p3) → post q1 z2))))))))))))))))
set_option maxHeartbeats 4000000 in
set_option maxRecDepth 100000 in
theorem c_X4_ofKind (l : Launch) (D : va_G) (ad : Nat → Nat → Nat) (cs : Nat → ClassId) (sk : (Nat → Nat) × (Nat → Nat)) (z : ZS) (p0 : Int32) (p1 : Int32) (p2 : Int32) (p3 : Int32) (post : Nat → ZS → Prop) (h : V_X4_ofKind z p0 p1 p2 p3 post) : MA l D ad cs sk yX4_ofKind cX4_ofKind 4 "TenYards$Faller" (rmq 4 1 8) [.int p0, .int p1, .int p2, .int p3] z (fun r z1 => ∃ q : Nat, r = some q ∧ post q z1) := by
  refine MA.of RX4 rfl (by decide) (Nat.le_of_ble_eq_true rfl) ?_
  intro p e s m args below meth c A Q E hw hA hret ls hl
  have hx := E.1.1
  have hb := E.1.2.1
  have hml := E.1.2.2.1
  have hown := E.1.2.2.2.1
  have h0 := E.1.2.2.2.2
  have hl : lv_has ls 4 [(0, .int p0), (1, .int p1), (2, .int p2), (3, .int p3)] := hl
  unfold V_X4_ofKind at h
  have b00 : ∀ (H : Heap) (locs : List Loc), OW D ad cs A s.heap z H locs → W p l e (rmq 4 1 8) s m args below meth c H locs 0 0 Q (F0 m 0 ls []) := by
    intro H locs hw
    refine lv_iload_n hx hb dX4_ofKind_0 rfl (lv_at hl 0 rfl) ?_
    by_cases c3 : p0 = (1 : Int32)
    · replace h := h.1 c3
      refine lv_tableIn (tgt := 44) hx hb dX4_ofKind_1 (by rw [c3]; decide) (by rw [c3]; decide) (by rw [c3]; rfl) (by decide) ?_
      refine xqn (c1 := 8) E hw hA cF_8 (C := RX8) (T := TX8) rfl rfl kw_4_34 (Nat.le_of_ble_eq_true rfl) (Nat.le_of_ble_eq_true rfl) dX4_ofKind_44 (fun q23 H hnq23 hw => ?_)
      replace h := h q23 hnq23
      refine lv_dup hx hb dX4_ofKind_47 rfl ?_
      refine lv_iload_n hx hb dX4_ofKind_48 rfl (lv_at hl 1 rfl) ?_
      refine lv_iload_n hx hb dX4_ofKind_49 rfl (lv_at hl 2 rfl) ?_
      refine lv_iload_n hx hb dX4_ofKind_50 rfl (lv_at hl 3 rfl) ?_
      refine xqc (As := [.int p1, .int p2, .int p3]) (rest := [.ref q23]) E hw hA (c_X8_init l D ad cs sk z q23 p1 p2 p3 8 cF_8) kq_4_36 rfl yo_X8_init ⟨Nat.le_of_ble_eq_true rfl, Nat.le_of_ble_eq_true rfl⟩ rfl hl.1 rfl (Nat.le_of_ble_eq_true rfl) dX4_ofKind_51 ⟨Nat.le_of_ble_eq_true rfl, Nat.le_of_ble_eq_true rfl⟩ (fun H locs hw => ?_)
      replace hw := xqw (k := 1) (f := (fdat_1 p1 p2 p3)) hnq23 hw rfl rfl
      obtain ⟨z24, ez24⟩ : ∃ y : ZS, y = wP z q23 1 (fdat_1 p1 p2 p3) := ⟨_, rfl⟩
      rw [← ez24] at hw
      replace h := h z24 ez24
      exact W.widen (by decide) (by decide) (hret _ z24 H locs 54 ls hw ⟨q23, rfl, h⟩ dX4_ofKind_54)
    · replace h := h.2 c3
      by_cases c4 : p0 = (2 : Int32)
      · replace h := h.1 c4
        refine lv_tableIn (tgt := 55) hx hb dX4_ofKind_1 (by rw [c4]; decide) (by rw [c4]; decide) (by rw [c4]; rfl) (by decide) ?_
        refine xqn (c1 := 7) E hw hA cF_7 (C := RX7) (T := TX7) rfl rfl kw_4_39 (Nat.le_of_ble_eq_true rfl) (Nat.le_of_ble_eq_true rfl) dX4_ofKind_55 (fun q21 H hnq21 hw => ?_)
        replace h := h q21 hnq21
        refine lv_dup hx hb dX4_ofKind_58 rfl ?_
        refine lv_iload_n hx hb dX4_ofKind_59 rfl (lv_at hl 1 rfl) ?_
        refine lv_iload_n hx hb dX4_ofKind_60 rfl (lv_at hl 2 rfl) ?_
        refine lv_iload_n hx hb dX4_ofKind_61 rfl (lv_at hl 3 rfl) ?_
        refine xqc (As := [.int p1, .int p2, .int p3]) (rest := [.ref q21]) E hw hA (c_X7_init l D ad cs sk z q21 p1 p2 p3 7 cF_7) kq_4_41 rfl yo_X7_init ⟨Nat.le_of_ble_eq_true rfl, Nat.le_of_ble_eq_true rfl⟩ rfl hl.1 rfl (Nat.le_of_ble_eq_true rfl) dX4_ofKind_62 ⟨Nat.le_of_ble_eq_true rfl, Nat.le_of_ble_eq_true rfl⟩ (fun H locs hw => ?_)
        replace hw := xqw (k := 2) (f := (fdat_2 p1 p2 p3)) hnq21 hw rfl rfl
        obtain ⟨z22, ez22⟩ : ∃ y : ZS, y = wP z q21 2 (fdat_2 p1 p2 p3) := ⟨_, rfl⟩
        rw [← ez22] at hw
        replace h := h z22 ez22
        exact W.widen (by decide) (by decide) (hret _ z22 H locs 65 ls hw ⟨q21, rfl, h⟩ dX4_ofKind_65)
      · replace h := h.2 c4
        by_cases c5 : p0 = (3 : Int32)
        · replace h := h.1 c5
          refine lv_tableIn (tgt := 66) hx hb dX4_ofKind_1 (by rw [c5]; decide) (by rw [c5]; decide) (by rw [c5]; rfl) (by decide) ?_
          refine xqn (c1 := 5) E hw hA cF_5 (C := RX5) (T := TX5) rfl rfl kw_4_42 (Nat.le_of_ble_eq_true rfl) (Nat.le_of_ble_eq_true rfl) dX4_ofKind_66 (fun q19 H hnq19 hw => ?_)
          replace h := h q19 hnq19
          refine lv_dup hx hb dX4_ofKind_69 rfl ?_
          refine lv_iload_n hx hb dX4_ofKind_70 rfl (lv_at hl 1 rfl) ?_
          refine lv_iload_n hx hb dX4_ofKind_71 rfl (lv_at hl 2 rfl) ?_
          refine lv_iload_n hx hb dX4_ofKind_72 rfl (lv_at hl 3 rfl) ?_
          refine xqc (As := [.int p1, .int p2, .int p3]) (rest := [.ref q19]) E hw hA (c_X5_init l D ad cs sk z q19 p1 p2 p3 5 cF_5) kq_4_44 rfl yo_X5_init ⟨Nat.le_of_ble_eq_true rfl, Nat.le_of_ble_eq_true rfl⟩ rfl hl.1 rfl (Nat.le_of_ble_eq_true rfl) dX4_ofKind_73 ⟨Nat.le_of_ble_eq_true rfl, Nat.le_of_ble_eq_true rfl⟩ (fun H locs hw => ?_)
          replace hw := xqw (k := 3) (f := (fdat_3 p1 p2 p3)) hnq19 hw rfl rfl
          obtain ⟨z20, ez20⟩ : ∃ y : ZS, y = wP z q19 3 (fdat_3 p1 p2 p3) := ⟨_, rfl⟩
          rw [← ez20] at hw
          replace h := h z20 ez20
          exact W.widen (by decide) (by decide) (hret _ z20 H locs 76 ls hw ⟨q19, rfl, h⟩ dX4_ofKind_76)
        · replace h := h.2 c5
          by_cases c6 : p0 = (4 : Int32)
          · replace h := h.1 c6
            refine lv_tableIn (tgt := 77) hx hb dX4_ofKind_1 (by rw [c6]; decide) (by rw [c6]; decide) (by rw [c6]; rfl) (by decide) ?_
            refine xqn (c1 := 6) E hw hA cF_6 (C := RX6) (T := TX6) rfl rfl kw_4_45 (Nat.le_of_ble_eq_true rfl) (Nat.le_of_ble_eq_true rfl) dX4_ofKind_77 (fun q17 H hnq17 hw => ?_)
            replace h := h q17 hnq17
            refine lv_dup hx hb dX4_ofKind_80 rfl ?_
            refine lv_iload_n hx hb dX4_ofKind_81 rfl (lv_at hl 1 rfl) ?_
            refine lv_iload_n hx hb dX4_ofKind_82 rfl (lv_at hl 2 rfl) ?_
            refine lv_iload_n hx hb dX4_ofKind_83 rfl (lv_at hl 3 rfl) ?_
            refine xqc (As := [.int p1, .int p2, .int p3]) (rest := [.ref q17]) E hw hA (c_X6_init l D ad cs sk z q17 p1 p2 p3 6 cF_6) kq_4_47 rfl yo_X6_init ⟨Nat.le_of_ble_eq_true rfl, Nat.le_of_ble_eq_true rfl⟩ rfl hl.1 rfl (Nat.le_of_ble_eq_true rfl) dX4_ofKind_84 ⟨Nat.le_of_ble_eq_true rfl, Nat.le_of_ble_eq_true rfl⟩ (fun H locs hw => ?_)
            replace hw := xqw (k := 4) (f := (fdat_4 p1 p2 p3)) hnq17 hw rfl rfl
            obtain ⟨z18, ez18⟩ : ∃ y : ZS, y = wP z q17 4 (fdat_4 p1 p2 p3) := ⟨_, rfl⟩
            rw [← ez18] at hw
            replace h := h z18 ez18
            exact W.widen (by decide) (by decide) (hret _ z18 H locs 87 ls hw ⟨q17, rfl, h⟩ dX4_ofKind_87)
          · replace h := h.2 c6
            by_cases c7 : p0 = (5 : Int32)
            · replace h := h.1 c7
              refine lv_tableIn (tgt := 88) hx hb dX4_ofKind_1 (by rw [c7]; decide) (by rw [c7]; decide) (by rw [c7]; rfl) (by decide) ?_
              refine xqn (c1 := 1) E hw hA cF_1 (C := RX1) (T := TX1) rfl rfl kw_4_48 (Nat.le_of_ble_eq_true rfl) (Nat.le_of_ble_eq_true rfl) dX4_ofKind_88 (fun q15 H hnq15 hw => ?_)
              replace h := h q15 hnq15
              refine lv_dup hx hb dX4_ofKind_91 rfl ?_
              refine lv_iload_n hx hb dX4_ofKind_92 rfl (lv_at hl 1 rfl) ?_
              refine lv_iload_n hx hb dX4_ofKind_93 rfl (lv_at hl 2 rfl) ?_
              refine lv_iload_n hx hb dX4_ofKind_94 rfl (lv_at hl 3 rfl) ?_
              refine xqc (As := [.int p1, .int p2, .int p3]) (rest := [.ref q15]) E hw hA (c_X1_init l D ad cs sk z q15 p1 p2 p3 1 cF_1) kq_4_50 rfl yo_X1_init ⟨Nat.le_of_ble_eq_true rfl, Nat.le_of_ble_eq_true rfl⟩ rfl hl.1 rfl (Nat.le_of_ble_eq_true rfl) dX4_ofKind_95 ⟨Nat.le_of_ble_eq_true rfl, Nat.le_of_ble_eq_true rfl⟩ (fun H locs hw => ?_)
              replace hw := xqw (k := 5) (f := (fdat_5 p1 p2 p3)) hnq15 hw rfl rfl
              obtain ⟨z16, ez16⟩ : ∃ y : ZS, y = wP z q15 5 (fdat_5 p1 p2 p3) := ⟨_, rfl⟩
              rw [← ez16] at hw
              replace h := h z16 ez16
              exact W.widen (by decide) (by decide) (hret _ z16 H locs 98 ls hw ⟨q15, rfl, h⟩ dX4_ofKind_98)
            · replace h := h.2 c7
              by_cases c8 : p0 = (6 : Int32)
              · replace h := h.1 c8
                refine lv_tableIn (tgt := 99) hx hb dX4_ofKind_1 (by rw [c8]; decide) (by rw [c8]; decide) (by rw [c8]; rfl) (by decide) ?_
                refine xqn (c1 := 2) E hw hA cF_2 (C := RX2) (T := TX2) rfl rfl kw_4_51 (Nat.le_of_ble_eq_true rfl) (Nat.le_of_ble_eq_true rfl) dX4_ofKind_99 (fun q13 H hnq13 hw => ?_)
                replace h := h q13 hnq13
                refine lv_dup hx hb dX4_ofKind_102 rfl ?_
                refine lv_iload_n hx hb dX4_ofKind_103 rfl (lv_at hl 1 rfl) ?_
                refine lv_iload_n hx hb dX4_ofKind_104 rfl (lv_at hl 2 rfl) ?_
                refine lv_iload_n hx hb dX4_ofKind_105 rfl (lv_at hl 3 rfl) ?_
                refine xqc (As := [.int p1, .int p2, .int p3]) (rest := [.ref q13]) E hw hA (c_X2_init l D ad cs sk z q13 p1 p2 p3 2 cF_2) kq_4_53 rfl yo_X2_init ⟨Nat.le_of_ble_eq_true rfl, Nat.le_of_ble_eq_true rfl⟩ rfl hl.1 rfl (Nat.le_of_ble_eq_true rfl) dX4_ofKind_106 ⟨Nat.le_of_ble_eq_true rfl, Nat.le_of_ble_eq_true rfl⟩ (fun H locs hw => ?_)
                replace hw := xqw (k := 6) (f := (fdat_6 p1 p2 p3)) hnq13 hw rfl rfl
                obtain ⟨z14, ez14⟩ : ∃ y : ZS, y = wP z q13 6 (fdat_6 p1 p2 p3) := ⟨_, rfl⟩
                rw [← ez14] at hw
                replace h := h z14 ez14
                exact W.widen (by decide) (by decide) (hret _ z14 H locs 109 ls hw ⟨q13, rfl, h⟩ dX4_ofKind_109)
              · replace h := h.2 c8
                by_cases c9 : p0 = (7 : Int32)
                · replace h := h.1 c9
                  refine lv_tableIn (tgt := 110) hx hb dX4_ofKind_1 (by rw [c9]; decide) (by rw [c9]; decide) (by rw [c9]; rfl) (by decide) ?_
                  refine xqn (c1 := 10) E hw hA cF_10 (C := RX10) (T := TX10) rfl rfl kw_4_54 (Nat.le_of_ble_eq_true rfl) (Nat.le_of_ble_eq_true rfl) dX4_ofKind_110 (fun q11 H hnq11 hw => ?_)
                  replace h := h q11 hnq11
                  refine lv_dup hx hb dX4_ofKind_113 rfl ?_
                  refine lv_iload_n hx hb dX4_ofKind_114 rfl (lv_at hl 1 rfl) ?_
                  refine lv_iload_n hx hb dX4_ofKind_115 rfl (lv_at hl 2 rfl) ?_
                  refine lv_iload_n hx hb dX4_ofKind_116 rfl (lv_at hl 3 rfl) ?_
                  refine xqc (As := [.int p1, .int p2, .int p3]) (rest := [.ref q11]) E hw hA (c_X10_init l D ad cs sk z q11 p1 p2 p3 10 cF_10) kq_4_56 rfl yo_X10_init ⟨Nat.le_of_ble_eq_true rfl, Nat.le_of_ble_eq_true rfl⟩ rfl hl.1 rfl (Nat.le_of_ble_eq_true rfl) dX4_ofKind_117 ⟨Nat.le_of_ble_eq_true rfl, Nat.le_of_ble_eq_true rfl⟩ (fun H locs hw => ?_)
                  replace hw := xqw (k := 7) (f := (fdat_7 p1 p2 p3)) hnq11 hw rfl rfl
                  obtain ⟨z12, ez12⟩ : ∃ y : ZS, y = wP z q11 7 (fdat_7 p1 p2 p3) := ⟨_, rfl⟩
                  rw [← ez12] at hw
                  replace h := h z12 ez12
                  exact W.widen (by decide) (by decide) (hret _ z12 H locs 120 ls hw ⟨q11, rfl, h⟩ dX4_ofKind_120)
                · replace h := h.2 c9
                  refine lv_tableOut (tgt := 121) hx hb dX4_ofKind_1 (by have n0 := lv_neT c3 (by decide : ((1 : Int32) : Int32).toInt = 1); have n1 := lv_neT c4 (by decide : ((2 : Int32) : Int32).toInt = 2); have n2 := lv_neT c5 (by decide : ((3 : Int32) : Int32).toInt = 3); have n3 := lv_neT c6 (by decide : ((4 : Int32) : Int32).toInt = 4); have n4 := lv_neT c7 (by decide : ((5 : Int32) : Int32).toInt = 5); have n5 := lv_neT c8 (by decide : ((6 : Int32) : Int32).toInt = 6); have n6 := lv_neT c9 (by decide : ((7 : Int32) : Int32).toInt = 7); omega) (by decide) ?_
                  refine xqn (c1 := 4) E hw hA cF_4 (C := RX4) (T := TX4) rfl rfl kw_4_8 (Nat.le_of_ble_eq_true rfl) (Nat.le_of_ble_eq_true rfl) dX4_ofKind_121 (fun q1 H hnq1 hw => ?_)
                  replace h := h q1 hnq1
                  refine lv_dup hx hb dX4_ofKind_124 rfl ?_
                  refine lv_iload_n hx hb dX4_ofKind_125 rfl (lv_at hl 1 rfl) ?_
                  refine lv_iload_n hx hb dX4_ofKind_126 rfl (lv_at hl 2 rfl) ?_
                  refine lv_iload_n hx hb dX4_ofKind_127 rfl (lv_at hl 3 rfl) ?_
                  refine xqc (As := [.int p1, .int p2, .int p3]) (rest := [.ref q1]) E hw hA (c_X4_init l D ad cs sk z q1 p1 p2 p3 4 cF_4) kq_4_57 rfl yo_X4_init ⟨Nat.le_of_ble_eq_true rfl, Nat.le_of_ble_eq_true rfl⟩ rfl hl.1 rfl (Nat.le_of_ble_eq_true rfl) dX4_ofKind_128 ⟨Nat.le_of_ble_eq_true rfl, Nat.le_of_ble_eq_true rfl⟩ (fun H locs hw => ?_)
                  replace hw := xqw (k := 0) (f := (fdat_0 p1 p2 p3)) hnq1 hw rfl rfl
                  obtain ⟨z2, ez2⟩ : ∃ y : ZS, y = wP z q1 0 (fdat_0 p1 p2 p3) := ⟨_, rfl⟩
                  rw [← ez2] at hw
                  replace h := h z2 ez2
                  exact W.widen (by decide) (by decide) (hret _ z2 H locs 131 ls hw ⟨q1, rfl, h⟩ dX4_ofKind_131)
  exact b00 s.heap [] hw
def V_X0_takeUp (z : ZS) (o0 : Nat) (p1 : Int32) (post : ZS → Prop) : Prop := ((p1 = (97 : Int32) → (∀ z18 : ZS, z18 = wI z o0 3 (zR z o0 9 0) → (∀ z19 : ZS, z19 = wI z18 o0 4 (zR z18 o0 9 1) → post z19))) ∧ (¬ p1 = (97 : Int32) → ((p1 = (102 : Int32) → V_X4_ofKind z (zR z o0 9 0) (zI z o0 6) (zR z o0 9 1) (zR z o0 9 2) (fun q14 z15 => (vp_in (zI z o0 6) 8 ∧ (∀ v, (some q14) = some v → v ∈ zP z15) ∧ ∀ z16 : ZS, z16 = wQ z15 o0 (Int32.toNatClampNeg (zI z o0 6)) (some q14) → (∀ z17 : ZS, z17 = wI z16 o0 6 ((zI z16 o0 6) + (1 : Int32)) → post z17)))) ∧ (¬ p1 = (102 : Int32) → ((p1 = (103 : Int32) → (∀ z13 : ZS, z13 = wI z o0 2 (zR z o0 9 0) → post z13)) ∧ (¬ p1 = (103 : Int32) → ((p1 = (108 : Int32) → (vp_in (zR z o0 9 0) 10 ∧ ∀ z11 : ZS, z11 = wR z o0 0 (Int32.toNatClampNeg (zR z o0 9 0)) (zR z o0 9 1) → (vp_in (zR z11 o0 9 0) 10 ∧ ∀ z12 : ZS, z12 = wR z11 o0 1 (Int32.toNatClampNeg (zR z11 o0 9 0)) (zR z11 o0 9 2) → post z12))) ∧ (¬ p1 = (108 : Int32) → (vp_in ((4 : Int32) * (zI z o0 8)) 24 ∧ ∀ z1 : ZS, z1 = wR z o0 7 (Int32.toNatClampNeg ((4 : Int32) * (zI z o0 8))) ((10 : Int32) * (if (zR z o0 9 2) < (zR z o0 9 0) then (zR z o0 9 2) else (zR z o0 9 0))) → (vp_in (((4 : Int32) * (zI z1 o0 8)) + (1 : Int32)) 24 ∧ ∀ z2 : ZS, z2 = wR z1 o0 7 (Int32.toNatClampNeg (((4 : Int32) * (zI z1 o0 8)) + (1 : Int32))) ((10 : Int32) * (if (zR z1 o0 9 3) < (zR z1 o0 9 1) then (zR z1 o0 9 3) else (zR z1 o0 9 1))) → (vp_in (((4 : Int32) * (zI z2 o0 8)) + (2 : Int32)) 24 ∧ ∀ z3 : ZS, z3 = wR z2 o0 7 (Int32.toNatClampNeg (((4 : Int32) * (zI z2 o0 8)) + (2 : Int32))) ((10 : Int32) * (if (zR z2 o0 9 0) < (zR z2 o0 9 2) then (zR z2 o0 9 2) else (zR z2 o0 9 0))) → (vp_in (((4 : Int32) * (zI z3 o0 8)) + (3 : Int32)) 24 ∧ ∀ z4 : ZS, z4 = wR z3 o0 7 (Int32.toNatClampNeg (((4 : Int32) * (zI z3 o0 8)) + (3 : Int32))) ((10 : Int32) * (if (zR z3 o0 9 1) < (zR z3 o0 9 3) then (zR z3 o0 9 3) else (zR z3 o0 9 1))) → (∀ z5 : ZS, z5 = wI z4 o0 8 ((zI z4 o0 8) + (1 : Int32)) → post z5)))))))))))))
set_option maxHeartbeats 4000000 in
set_option maxRecDepth 100000 in
theorem c_X0_takeUp (l : Launch) (D : va_G) (ad : Nat → Nat → Nat) (cs : Nat → ClassId) (sk : (Nat → Nat) × (Nat → Nat)) (z : ZS) (o0 : Nat) (p1 : Int32) (post : ZS → Prop) (ho0 : isA o0) (h : V_X0_takeUp z o0 p1 post) : MV l D ad cs sk yX0_takeUp cX0_takeUp 2 (rmq 5 1 8) [.ref (ad o0 100), .int p1] z post := by
  refine MV.of RX0 rfl (by decide) (Nat.le_of_ble_eq_true rfl) ?_
  intro p e s m args below meth c A Q E hw hA hret ls hl
  have hx := E.1.1
  have hb := E.1.2.1
  have hml := E.1.2.2.1
  have hown := E.1.2.2.2.1
  have h0 := E.1.2.2.2.2
  have hl : lv_has ls 2 [(0, .ref (ad o0 100)), (1, .int p1)] := hl
  unfold V_X0_takeUp at h
  have b00 : ∀ (H : Heap) (locs : List Loc), OW D ad cs A s.heap z H locs → W p l e (rmq 5 1 8) s m args below meth c H locs 0 0 Q (F0 m 0 ls []) := by
    intro H locs hw
    refine lv_iload_n hx hb dX0_takeUp_0 rfl (lv_at hl 1 rfl) ?_
    by_cases c6 : p1 = (97 : Int32)
    · replace h := h.1 c6
      refine lv_lookup (tgt := 94) (off := 93) hx hb dX0_takeUp_1 (by decide) (by rw [c6]; rfl) (by decide) ?_
      refine lv_aload_n hx hb dX0_takeUp_94 rfl (lv_at hl 0 rfl) ?_
      refine lv_aload_n hx hb dX0_takeUp_95 rfl (lv_at hl 0 rfl) ?_
      refine xgC E hw (c1 := 0) (t := (o0, 9)) (ciisA ho0) (kyisA_100 ho0) fo_0_9 rfl qf_0_43 dX0_takeUp_96 ?_
      refine lv_iconst (v := 0) hx hb dX0_takeUp_99 (by decide) ?_
      refine xalL (j := 0) E hw (kyisA_9 ho0) (kaisA_9 ho0) (by decide) (by decide) dX0_takeUp_100 ?_
      refine xpI E hw (c1 := 0) (ciisA ho0) (kyisA_100 ho0) fp_0_3 rfl rfl qf_0_22 dX0_takeUp_101 (fun z18 ez18 H locs hw => ?_)
      replace h := h z18 ez18
      refine lv_aload_n hx hb dX0_takeUp_104 rfl (lv_at hl 0 rfl) ?_
      refine lv_aload_n hx hb dX0_takeUp_105 rfl (lv_at hl 0 rfl) ?_
      refine xgC E hw (c1 := 0) (t := (o0, 9)) (ciisA ho0) (kyisA_100 ho0) fo_0_9 rfl qf_0_43 dX0_takeUp_106 ?_
      refine lv_iconst (v := 1) hx hb dX0_takeUp_109 (by decide) ?_
      refine xalL (j := 1) E hw (kyisA_9 ho0) (kaisA_9 ho0) (by decide) (by decide) dX0_takeUp_110 ?_
      refine xpI E hw (c1 := 0) (ciisA ho0) (kyisA_100 ho0) fp_0_4 rfl rfl qf_0_25 dX0_takeUp_111 (fun z19 ez19 H locs hw => ?_)
      replace h := h z19 ez19
      refine lv_goto (tgt := 296) hx hb dX0_takeUp_114 (by decide) ?_
      exact W.widen (by decide) (by decide) (hret z19 H locs 296 ls hw h dX0_takeUp_296)
    · replace h := h.2 c6
      by_cases c7 : p1 = (102 : Int32)
      · replace h := h.1 c7
        refine lv_lookup (tgt := 117) (off := 116) hx hb dX0_takeUp_1 (by decide) (by rw [c7]; rfl) (by decide) ?_
        refine lv_aload_n hx hb dX0_takeUp_117 rfl (lv_at hl 0 rfl) ?_
        refine xgC E hw (c1 := 0) (t := (o0, 5)) (ciisA ho0) (kyisA_100 ho0) fo_0_5 rfl qf_0_30 dX0_takeUp_118 ?_
        refine lv_aload_n hx hb dX0_takeUp_121 rfl (lv_at hl 0 rfl) ?_
        refine xgI E hw (c1 := 0) (ciisA ho0) (kyisA_100 ho0) fo_0_6 qf_0_34 dX0_takeUp_122 ?_
        refine lv_aload_n hx hb dX0_takeUp_125 rfl (lv_at hl 0 rfl) ?_
        refine xgC E hw (c1 := 0) (t := (o0, 9)) (ciisA ho0) (kyisA_100 ho0) fo_0_9 rfl qf_0_43 dX0_takeUp_126 ?_
        refine lv_iconst (v := 0) hx hb dX0_takeUp_129 (by decide) ?_
        refine xalL (j := 0) E hw (kyisA_9 ho0) (kaisA_9 ho0) (by decide) (by decide) dX0_takeUp_130 ?_
        refine lv_aload_n hx hb dX0_takeUp_131 rfl (lv_at hl 0 rfl) ?_
        refine xgI E hw (c1 := 0) (ciisA ho0) (kyisA_100 ho0) fo_0_6 qf_0_34 dX0_takeUp_132 ?_
        refine lv_aload_n hx hb dX0_takeUp_135 rfl (lv_at hl 0 rfl) ?_
        refine xgC E hw (c1 := 0) (t := (o0, 9)) (ciisA ho0) (kyisA_100 ho0) fo_0_9 rfl qf_0_43 dX0_takeUp_136 ?_
        refine lv_iconst (v := 1) hx hb dX0_takeUp_139 (by decide) ?_
        refine xalL (j := 1) E hw (kyisA_9 ho0) (kaisA_9 ho0) (by decide) (by decide) dX0_takeUp_140 ?_
        refine lv_aload_n hx hb dX0_takeUp_141 rfl (lv_at hl 0 rfl) ?_
        refine xgC E hw (c1 := 0) (t := (o0, 9)) (ciisA ho0) (kyisA_100 ho0) fo_0_9 rfl qf_0_43 dX0_takeUp_142 ?_
        refine lv_iconst (v := 2) hx hb dX0_takeUp_145 (by decide) ?_
        refine xalL (j := 2) E hw (kyisA_9 ho0) (kaisA_9 ho0) (by decide) (by decide) dX0_takeUp_146 ?_
        have hq := h
        clear h
        refine xcSA (As := [.int (zR z o0 9 0), .int (zI z o0 6), .int (zR z o0 9 1), .int (zR z o0 9 2)]) (rest := [.int (zI z o0 6), .ref (ad o0 5)]) E hw hA (c_X4_ofKind l D ad cs sk z (zR z o0 9 0) (zI z o0 6) (zR z o0 9 1) (zR z o0 9 2) _ hq) kc_0_130 yo_X4_ofKind ⟨Nat.le_of_ble_eq_true rfl, Nat.le_of_ble_eq_true rfl⟩ rfl hl.1 rfl (Nat.le_of_ble_eq_true rfl) dX0_takeUp_147 ⟨Nat.le_of_ble_eq_true rfl, Nat.le_of_ble_eq_true rfl⟩ (fun r z15 H locs h hw => ?_)
        obtain ⟨q14, rfl, h⟩ := h
        obtain ⟨hi, hr, h⟩ := h
        refine xfs (r := (some q14)) E hw (kyisA_5 ho0) (ciisA ho0) (isA_n15 ho0) (isA_n0 ho0) hr hi dX0_takeUp_150 (fun z16 ez16 H locs hw => ?_)
        replace h := h z16 ez16
        refine lv_aload_n hx hb dX0_takeUp_151 rfl (lv_at hl 0 rfl) ?_
        refine lv_dup hx hb dX0_takeUp_152 rfl ?_
        refine xgI E hw (c1 := 0) (ciisA ho0) (kyisA_100 ho0) fo_0_6 qf_0_34 dX0_takeUp_153 ?_
        refine lv_iconst (v := 1) hx hb dX0_takeUp_156 (by decide) ?_
        refine lv_iadd hx hb dX0_takeUp_157 ?_
        refine xpI E hw (c1 := 0) (ciisA ho0) (kyisA_100 ho0) fp_0_6 rfl rfl qf_0_34 dX0_takeUp_158 (fun z17 ez17 H locs hw => ?_)
        replace h := h z17 ez17
        refine lv_goto (tgt := 296) hx hb dX0_takeUp_161 (by decide) ?_
        exact W.widen (by decide) (by decide) (hret z17 H locs 296 ls hw h dX0_takeUp_296)
      · replace h := h.2 c7
        by_cases c8 : p1 = (103 : Int32)
        · replace h := h.1 c8
          refine lv_lookup (tgt := 81) (off := 80) hx hb dX0_takeUp_1 (by decide) (by rw [c8]; rfl) (by decide) ?_
          refine lv_aload_n hx hb dX0_takeUp_81 rfl (lv_at hl 0 rfl) ?_
          refine lv_aload_n hx hb dX0_takeUp_82 rfl (lv_at hl 0 rfl) ?_
          refine xgC E hw (c1 := 0) (t := (o0, 9)) (ciisA ho0) (kyisA_100 ho0) fo_0_9 rfl qf_0_43 dX0_takeUp_83 ?_
          refine lv_iconst (v := 0) hx hb dX0_takeUp_86 (by decide) ?_
          refine xalL (j := 0) E hw (kyisA_9 ho0) (kaisA_9 ho0) (by decide) (by decide) dX0_takeUp_87 ?_
          refine xpI E hw (c1 := 0) (ciisA ho0) (kyisA_100 ho0) fp_0_2 rfl rfl qf_0_18 dX0_takeUp_88 (fun z13 ez13 H locs hw => ?_)
          replace h := h z13 ez13
          refine lv_goto (tgt := 296) hx hb dX0_takeUp_91 (by decide) ?_
          exact W.widen (by decide) (by decide) (hret z13 H locs 296 ls hw h dX0_takeUp_296)
        · replace h := h.2 c8
          by_cases c9 : p1 = (108 : Int32)
          · replace h := h.1 c9
            refine lv_lookup (tgt := 44) (off := 43) hx hb dX0_takeUp_1 (by decide) (by rw [c9]; rfl) (by decide) ?_
            refine lv_aload_n hx hb dX0_takeUp_44 rfl (lv_at hl 0 rfl) ?_
            refine xgC E hw (c1 := 0) (t := (o0, 0)) (ciisA ho0) (kyisA_100 ho0) fo_0_0 rfl qf_0_9 dX0_takeUp_45 ?_
            refine lv_aload_n hx hb dX0_takeUp_48 rfl (lv_at hl 0 rfl) ?_
            refine xgC E hw (c1 := 0) (t := (o0, 9)) (ciisA ho0) (kyisA_100 ho0) fo_0_9 rfl qf_0_43 dX0_takeUp_49 ?_
            refine lv_iconst (v := 0) hx hb dX0_takeUp_52 (by decide) ?_
            refine xalL (j := 0) E hw (kyisA_9 ho0) (kaisA_9 ho0) (by decide) (by decide) dX0_takeUp_53 ?_
            refine lv_aload_n hx hb dX0_takeUp_54 rfl (lv_at hl 0 rfl) ?_
            refine xgC E hw (c1 := 0) (t := (o0, 9)) (ciisA ho0) (kyisA_100 ho0) fo_0_9 rfl qf_0_43 dX0_takeUp_55 ?_
            refine lv_iconst (v := 1) hx hb dX0_takeUp_58 (by decide) ?_
            refine xalL (j := 1) E hw (kyisA_9 ho0) (kaisA_9 ho0) (by decide) (by decide) dX0_takeUp_59 ?_
            obtain ⟨hi, h⟩ := h
            refine xas E hw (kyisA_0 ho0) (kaisA_0 ho0) hi dX0_takeUp_60 (fun z11 ez11 H locs hw => ?_)
            replace h := h z11 ez11
            refine lv_aload_n hx hb dX0_takeUp_61 rfl (lv_at hl 0 rfl) ?_
            refine xgC E hw (c1 := 0) (t := (o0, 1)) (ciisA ho0) (kyisA_100 ho0) fo_0_1 rfl qf_0_15 dX0_takeUp_62 ?_
            refine lv_aload_n hx hb dX0_takeUp_65 rfl (lv_at hl 0 rfl) ?_
            refine xgC E hw (c1 := 0) (t := (o0, 9)) (ciisA ho0) (kyisA_100 ho0) fo_0_9 rfl qf_0_43 dX0_takeUp_66 ?_
            refine lv_iconst (v := 0) hx hb dX0_takeUp_69 (by decide) ?_
            refine xalL (j := 0) E hw (kyisA_9 ho0) (kaisA_9 ho0) (by decide) (by decide) dX0_takeUp_70 ?_
            refine lv_aload_n hx hb dX0_takeUp_71 rfl (lv_at hl 0 rfl) ?_
            refine xgC E hw (c1 := 0) (t := (o0, 9)) (ciisA ho0) (kyisA_100 ho0) fo_0_9 rfl qf_0_43 dX0_takeUp_72 ?_
            refine lv_iconst (v := 2) hx hb dX0_takeUp_75 (by decide) ?_
            refine xalL (j := 2) E hw (kyisA_9 ho0) (kaisA_9 ho0) (by decide) (by decide) dX0_takeUp_76 ?_
            obtain ⟨hi, h⟩ := h
            refine xas E hw (kyisA_1 ho0) (kaisA_1 ho0) hi dX0_takeUp_77 (fun z12 ez12 H locs hw => ?_)
            replace h := h z12 ez12
            refine lv_goto (tgt := 296) hx hb dX0_takeUp_78 (by decide) ?_
            exact W.widen (by decide) (by decide) (hret z12 H locs 296 ls hw h dX0_takeUp_296)
          · replace h := h.2 c9
            refine lv_lookup (tgt := 164) (off := 163) hx hb dX0_takeUp_1 (by decide) (by rw [lv_osw c6 (by decide), lv_osw c7 (by decide), lv_osw c8 (by decide), lv_osw c9 (by decide)]; rfl) (by decide) ?_
            refine lv_aload_n hx hb dX0_takeUp_164 rfl (lv_at hl 0 rfl) ?_
            refine xgC E hw (c1 := 0) (t := (o0, 7)) (ciisA ho0) (kyisA_100 ho0) fo_0_7 rfl qf_0_37 dX0_takeUp_165 ?_
            refine lv_iconst (v := 4) hx hb dX0_takeUp_168 (by decide) ?_
            refine lv_aload_n hx hb dX0_takeUp_169 rfl (lv_at hl 0 rfl) ?_
            refine xgI E hw (c1 := 0) (ciisA ho0) (kyisA_100 ho0) fo_0_8 qf_0_40 dX0_takeUp_170 ?_
            refine lv_imul hx hb dX0_takeUp_173 ?_
            refine lv_bipush (v := 10) hx hb dX0_takeUp_174 (by decide) ?_
            refine lv_aload_n hx hb dX0_takeUp_176 rfl (lv_at hl 0 rfl) ?_
            refine xgC E hw (c1 := 0) (t := (o0, 9)) (ciisA ho0) (kyisA_100 ho0) fo_0_9 rfl qf_0_43 dX0_takeUp_177 ?_
            refine lv_iconst (v := 0) hx hb dX0_takeUp_180 (by decide) ?_
            refine xalL (j := 0) E hw (kyisA_9 ho0) (kaisA_9 ho0) (by decide) (by decide) dX0_takeUp_181 ?_
            refine lv_aload_n hx hb dX0_takeUp_182 rfl (lv_at hl 0 rfl) ?_
            refine xgC E hw (c1 := 0) (t := (o0, 9)) (ciisA ho0) (kyisA_100 ho0) fo_0_9 rfl qf_0_43 dX0_takeUp_183 ?_
            refine lv_iconst (v := 2) hx hb dX0_takeUp_186 (by decide) ?_
            refine xalL (j := 2) E hw (kyisA_9 ho0) (kaisA_9 ho0) (by decide) (by decide) dX0_takeUp_187 ?_
            refine va_mmin hx hb (hml.trans hl.1.symm) hown (h0 _ qm_0_134) (h0 _ qs_ib_Math_min_name) (h0 _ qn_Math) (h0 _ qc_Math_min) (Nat.le_of_ble_eq_true rfl) (Nat.le_of_ble_eq_true rfl) (Nat.le_of_ble_eq_true rfl) (Nat.le_of_ble_eq_true rfl) dX0_takeUp_188 ?_
            refine lv_imul hx hb dX0_takeUp_191 ?_
            obtain ⟨hi, h⟩ := h
            refine xas E hw (kyisA_7 ho0) (kaisA_7 ho0) hi dX0_takeUp_192 (fun z1 ez1 H locs hw => ?_)
            replace h := h z1 ez1
            refine lv_aload_n hx hb dX0_takeUp_193 rfl (lv_at hl 0 rfl) ?_
            refine xgC E hw (c1 := 0) (t := (o0, 7)) (ciisA ho0) (kyisA_100 ho0) fo_0_7 rfl qf_0_37 dX0_takeUp_194 ?_
            refine lv_iconst (v := 4) hx hb dX0_takeUp_197 (by decide) ?_
            refine lv_aload_n hx hb dX0_takeUp_198 rfl (lv_at hl 0 rfl) ?_
            refine xgI E hw (c1 := 0) (ciisA ho0) (kyisA_100 ho0) fo_0_8 qf_0_40 dX0_takeUp_199 ?_
            refine lv_imul hx hb dX0_takeUp_202 ?_
            refine lv_iconst (v := 1) hx hb dX0_takeUp_203 (by decide) ?_
            refine lv_iadd hx hb dX0_takeUp_204 ?_
            refine lv_bipush (v := 10) hx hb dX0_takeUp_205 (by decide) ?_
            refine lv_aload_n hx hb dX0_takeUp_207 rfl (lv_at hl 0 rfl) ?_
            refine xgC E hw (c1 := 0) (t := (o0, 9)) (ciisA ho0) (kyisA_100 ho0) fo_0_9 rfl qf_0_43 dX0_takeUp_208 ?_
            refine lv_iconst (v := 1) hx hb dX0_takeUp_211 (by decide) ?_
            refine xalL (j := 1) E hw (kyisA_9 ho0) (kaisA_9 ho0) (by decide) (by decide) dX0_takeUp_212 ?_
            refine lv_aload_n hx hb dX0_takeUp_213 rfl (lv_at hl 0 rfl) ?_
            refine xgC E hw (c1 := 0) (t := (o0, 9)) (ciisA ho0) (kyisA_100 ho0) fo_0_9 rfl qf_0_43 dX0_takeUp_214 ?_
            refine lv_iconst (v := 3) hx hb dX0_takeUp_217 (by decide) ?_
            refine xalL (j := 3) E hw (kyisA_9 ho0) (kaisA_9 ho0) (by decide) (by decide) dX0_takeUp_218 ?_
            refine va_mmin hx hb (hml.trans hl.1.symm) hown (h0 _ qm_0_134) (h0 _ qs_ib_Math_min_name) (h0 _ qn_Math) (h0 _ qc_Math_min) (Nat.le_of_ble_eq_true rfl) (Nat.le_of_ble_eq_true rfl) (Nat.le_of_ble_eq_true rfl) (Nat.le_of_ble_eq_true rfl) dX0_takeUp_219 ?_
            refine lv_imul hx hb dX0_takeUp_222 ?_
            obtain ⟨hi, h⟩ := h
            refine xas E hw (kyisA_7 ho0) (kaisA_7 ho0) hi dX0_takeUp_223 (fun z2 ez2 H locs hw => ?_)
            replace h := h z2 ez2
            refine lv_aload_n hx hb dX0_takeUp_224 rfl (lv_at hl 0 rfl) ?_
            refine xgC E hw (c1 := 0) (t := (o0, 7)) (ciisA ho0) (kyisA_100 ho0) fo_0_7 rfl qf_0_37 dX0_takeUp_225 ?_
            refine lv_iconst (v := 4) hx hb dX0_takeUp_228 (by decide) ?_
            refine lv_aload_n hx hb dX0_takeUp_229 rfl (lv_at hl 0 rfl) ?_
            refine xgI E hw (c1 := 0) (ciisA ho0) (kyisA_100 ho0) fo_0_8 qf_0_40 dX0_takeUp_230 ?_
            refine lv_imul hx hb dX0_takeUp_233 ?_
            refine lv_iconst (v := 2) hx hb dX0_takeUp_234 (by decide) ?_
            refine lv_iadd hx hb dX0_takeUp_235 ?_
            refine lv_bipush (v := 10) hx hb dX0_takeUp_236 (by decide) ?_
            refine lv_aload_n hx hb dX0_takeUp_238 rfl (lv_at hl 0 rfl) ?_
            refine xgC E hw (c1 := 0) (t := (o0, 9)) (ciisA ho0) (kyisA_100 ho0) fo_0_9 rfl qf_0_43 dX0_takeUp_239 ?_
            refine lv_iconst (v := 0) hx hb dX0_takeUp_242 (by decide) ?_
            refine xalL (j := 0) E hw (kyisA_9 ho0) (kaisA_9 ho0) (by decide) (by decide) dX0_takeUp_243 ?_
            refine lv_aload_n hx hb dX0_takeUp_244 rfl (lv_at hl 0 rfl) ?_
            refine xgC E hw (c1 := 0) (t := (o0, 9)) (ciisA ho0) (kyisA_100 ho0) fo_0_9 rfl qf_0_43 dX0_takeUp_245 ?_
            refine lv_iconst (v := 2) hx hb dX0_takeUp_248 (by decide) ?_
            refine xalL (j := 2) E hw (kyisA_9 ho0) (kaisA_9 ho0) (by decide) (by decide) dX0_takeUp_249 ?_
            refine va_mmax hx hb (hml.trans hl.1.symm) hown (h0 _ qm_0_140) (h0 _ qs_ib_Math_max_name) (h0 _ qn_Math) (h0 _ qc_Math_max) (Nat.le_of_ble_eq_true rfl) (Nat.le_of_ble_eq_true rfl) (Nat.le_of_ble_eq_true rfl) (Nat.le_of_ble_eq_true rfl) dX0_takeUp_250 ?_
            refine lv_imul hx hb dX0_takeUp_253 ?_
            obtain ⟨hi, h⟩ := h
            refine xas E hw (kyisA_7 ho0) (kaisA_7 ho0) hi dX0_takeUp_254 (fun z3 ez3 H locs hw => ?_)
            replace h := h z3 ez3
            refine lv_aload_n hx hb dX0_takeUp_255 rfl (lv_at hl 0 rfl) ?_
            refine xgC E hw (c1 := 0) (t := (o0, 7)) (ciisA ho0) (kyisA_100 ho0) fo_0_7 rfl qf_0_37 dX0_takeUp_256 ?_
            refine lv_iconst (v := 4) hx hb dX0_takeUp_259 (by decide) ?_
            refine lv_aload_n hx hb dX0_takeUp_260 rfl (lv_at hl 0 rfl) ?_
            refine xgI E hw (c1 := 0) (ciisA ho0) (kyisA_100 ho0) fo_0_8 qf_0_40 dX0_takeUp_261 ?_
            refine lv_imul hx hb dX0_takeUp_264 ?_
            refine lv_iconst (v := 3) hx hb dX0_takeUp_265 (by decide) ?_
            refine lv_iadd hx hb dX0_takeUp_266 ?_
            refine lv_bipush (v := 10) hx hb dX0_takeUp_267 (by decide) ?_
            refine lv_aload_n hx hb dX0_takeUp_269 rfl (lv_at hl 0 rfl) ?_
            refine xgC E hw (c1 := 0) (t := (o0, 9)) (ciisA ho0) (kyisA_100 ho0) fo_0_9 rfl qf_0_43 dX0_takeUp_270 ?_
            refine lv_iconst (v := 1) hx hb dX0_takeUp_273 (by decide) ?_
            refine xalL (j := 1) E hw (kyisA_9 ho0) (kaisA_9 ho0) (by decide) (by decide) dX0_takeUp_274 ?_
            refine lv_aload_n hx hb dX0_takeUp_275 rfl (lv_at hl 0 rfl) ?_
            refine xgC E hw (c1 := 0) (t := (o0, 9)) (ciisA ho0) (kyisA_100 ho0) fo_0_9 rfl qf_0_43 dX0_takeUp_276 ?_
            refine lv_iconst (v := 3) hx hb dX0_takeUp_279 (by decide) ?_
            refine xalL (j := 3) E hw (kyisA_9 ho0) (kaisA_9 ho0) (by decide) (by decide) dX0_takeUp_280 ?_
            refine va_mmax hx hb (hml.trans hl.1.symm) hown (h0 _ qm_0_140) (h0 _ qs_ib_Math_max_name) (h0 _ qn_Math) (h0 _ qc_Math_max) (Nat.le_of_ble_eq_true rfl) (Nat.le_of_ble_eq_true rfl) (Nat.le_of_ble_eq_true rfl) (Nat.le_of_ble_eq_true rfl) dX0_takeUp_281 ?_
            refine lv_imul hx hb dX0_takeUp_284 ?_
            obtain ⟨hi, h⟩ := h
            refine xas E hw (kyisA_7 ho0) (kaisA_7 ho0) hi dX0_takeUp_285 (fun z4 ez4 H locs hw => ?_)
            replace h := h z4 ez4
            refine lv_aload_n hx hb dX0_takeUp_286 rfl (lv_at hl 0 rfl) ?_
            refine lv_dup hx hb dX0_takeUp_287 rfl ?_
            refine xgI E hw (c1 := 0) (ciisA ho0) (kyisA_100 ho0) fo_0_8 qf_0_40 dX0_takeUp_288 ?_
            refine lv_iconst (v := 1) hx hb dX0_takeUp_291 (by decide) ?_
            refine lv_iadd hx hb dX0_takeUp_292 ?_
            refine xpI E hw (c1 := 0) (ciisA ho0) (kyisA_100 ho0) fp_0_8 rfl rfl qf_0_40 dX0_takeUp_293 (fun z5 ez5 H locs hw => ?_)
            replace h := h z5 ez5
            exact W.widen (by decide) (by decide) (hret z5 H locs 296 ls hw h dX0_takeUp_296)
  exact b00 s.heap [] hw
def V_X1_steersAlongX (z : ZS) (a0 : Nat) (p1 : Int32) (p2 : Int32) (p3 : Int32) (p4 : Int32) (post : Int32 → ZS → Prop) : Prop := (((if 0 ≤ p4 then p4 else 0 - p4) ≤ (if 0 ≤ p3 then p3 else 0 - p3) → post (0 : Int32) z) ∧ (¬ (if 0 ≤ p4 then p4 else 0 - p4) ≤ (if 0 ≤ p3 then p3 else 0 - p3) → post (1 : Int32) z))
set_option maxHeartbeats 4000000 in
set_option maxRecDepth 100000 in
theorem c_X1_steersAlongX (l : Launch) (D : va_G) (ad : Nat → Nat → Nat) (cs : Nat → ClassId) (sk : (Nat → Nat) × (Nat → Nat)) (z : ZS) (a0 : Nat) (p1 : Int32) (p2 : Int32) (p3 : Int32) (p4 : Int32) (post : Int32 → ZS → Prop) (h : V_X1_steersAlongX z a0 p1 p2 p3 p4 post) : MI l D ad cs sk yX1_steersAlongX cX1_steersAlongX 5 .boolean (rmq 1 0 0) [.ref a0, .int p1, .int p2, .int p3, .int p4] z post := by
  refine MI.of RX1 rfl (by decide) (Nat.le_of_ble_eq_true rfl) ?_
  intro p e s m args below meth c A Q E hw hA hret ls hl
  have hx := E.1.1
  have hb := E.1.2.1
  have hml := E.1.2.2.1
  have hown := E.1.2.2.2.1
  have h0 := E.1.2.2.2.2
  have hl : lv_has ls 5 [(0, .ref a0), (1, .int p1), (2, .int p2), (3, .int p3), (4, .int p4)] := hl
  unfold V_X1_steersAlongX at h
  have b00 : ∀ (H : Heap) (locs : List Loc), OW D ad cs A s.heap z H locs → W p l e (rmq 1 0 0) s m args below meth c H locs 0 0 Q (F0 m 0 ls []) := by
    intro H locs hw
    refine lv_iload hx hb dX1_steersAlongX_0 (lv_at hl 4 rfl) ?_
    refine va_mabs hx hb (hml.trans hl.1.symm) hown (h0 _ qm_1_22) (h0 _ qs_ib_Math_abs_name) (h0 _ qn_Math) (h0 _ qc_Math_abs) (Nat.le_of_ble_eq_true rfl) (Nat.le_of_ble_eq_true rfl) (Nat.le_of_ble_eq_true rfl) (Nat.le_of_ble_eq_true rfl) dX1_steersAlongX_2 ?_
    refine lv_iload_n hx hb dX1_steersAlongX_5 rfl (lv_at hl 3 rfl) ?_
    refine va_mabs hx hb (hml.trans hl.1.symm) hown (h0 _ qm_1_22) (h0 _ qs_ib_Math_abs_name) (h0 _ qn_Math) (h0 _ qc_Math_abs) (Nat.le_of_ble_eq_true rfl) (Nat.le_of_ble_eq_true rfl) (Nat.le_of_ble_eq_true rfl) (Nat.le_of_ble_eq_true rfl) dX1_steersAlongX_6 ?_
    refine lv_icmp_le (tgt := 16) hx hb dX1_steersAlongX_9 (by decide) (fun c1 => ?_) (fun c1 => ?_)
    · replace h := h.1 c1
      refine lv_iconst (v := 0) hx hb dX1_steersAlongX_16 (by decide) ?_
      exact hret (0 : Int32) z H locs 17 ls hw rfl h dX1_steersAlongX_17
    · replace h := h.2 c1
      refine lv_iconst (v := 1) hx hb dX1_steersAlongX_12 (by decide) ?_
      refine lv_goto (tgt := 17) hx hb dX1_steersAlongX_13 (by decide) ?_
      exact hret (1 : Int32) z H locs 17 ls hw rfl h dX1_steersAlongX_17
  exact b00 s.heap [] hw
def V_X2_steersAlongX (z : ZS) (a0 : Nat) (p1 : Int32) (p2 : Int32) (p3 : Int32) (p4 : Int32) (post : Int32 → ZS → Prop) : Prop := (((if 0 ≤ p3 then p3 else 0 - p3) < (if 0 ≤ p4 then p4 else 0 - p4) → post (0 : Int32) z) ∧ (¬ (if 0 ≤ p3 then p3 else 0 - p3) < (if 0 ≤ p4 then p4 else 0 - p4) → post (1 : Int32) z))
set_option maxHeartbeats 4000000 in
set_option maxRecDepth 100000 in
theorem c_X2_steersAlongX (l : Launch) (D : va_G) (ad : Nat → Nat → Nat) (cs : Nat → ClassId) (sk : (Nat → Nat) × (Nat → Nat)) (z : ZS) (a0 : Nat) (p1 : Int32) (p2 : Int32) (p3 : Int32) (p4 : Int32) (post : Int32 → ZS → Prop) (h : V_X2_steersAlongX z a0 p1 p2 p3 p4 post) : MI l D ad cs sk yX2_steersAlongX cX2_steersAlongX 5 .boolean (rmq 1 0 0) [.ref a0, .int p1, .int p2, .int p3, .int p4] z post := by
  refine MI.of RX2 rfl (by decide) (Nat.le_of_ble_eq_true rfl) ?_
  intro p e s m args below meth c A Q E hw hA hret ls hl
  have hx := E.1.1
  have hb := E.1.2.1
  have hml := E.1.2.2.1
  have hown := E.1.2.2.2.1
  have h0 := E.1.2.2.2.2
  have hl : lv_has ls 5 [(0, .ref a0), (1, .int p1), (2, .int p2), (3, .int p3), (4, .int p4)] := hl
  unfold V_X2_steersAlongX at h
  have b00 : ∀ (H : Heap) (locs : List Loc), OW D ad cs A s.heap z H locs → W p l e (rmq 1 0 0) s m args below meth c H locs 0 0 Q (F0 m 0 ls []) := by
    intro H locs hw
    refine lv_iload_n hx hb dX2_steersAlongX_0 rfl (lv_at hl 3 rfl) ?_
    refine va_mabs hx hb (hml.trans hl.1.symm) hown (h0 _ qm_2_22) (h0 _ qs_ib_Math_abs_name) (h0 _ qn_Math) (h0 _ qc_Math_abs) (Nat.le_of_ble_eq_true rfl) (Nat.le_of_ble_eq_true rfl) (Nat.le_of_ble_eq_true rfl) (Nat.le_of_ble_eq_true rfl) dX2_steersAlongX_1 ?_
    refine lv_iload hx hb dX2_steersAlongX_4 (lv_at hl 4 rfl) ?_
    refine va_mabs hx hb (hml.trans hl.1.symm) hown (h0 _ qm_2_22) (h0 _ qs_ib_Math_abs_name) (h0 _ qn_Math) (h0 _ qc_Math_abs) (Nat.le_of_ble_eq_true rfl) (Nat.le_of_ble_eq_true rfl) (Nat.le_of_ble_eq_true rfl) (Nat.le_of_ble_eq_true rfl) dX2_steersAlongX_6 ?_
    refine lv_icmp_lt (tgt := 16) hx hb dX2_steersAlongX_9 (by decide) (fun c1 => ?_) (fun c1 => ?_)
    · replace h := h.1 c1
      refine lv_iconst (v := 0) hx hb dX2_steersAlongX_16 (by decide) ?_
      exact hret (0 : Int32) z H locs 17 ls hw rfl h dX2_steersAlongX_17
    · replace h := h.2 c1
      refine lv_iconst (v := 1) hx hb dX2_steersAlongX_12 (by decide) ?_
      refine lv_goto (tgt := 17) hx hb dX2_steersAlongX_13 (by decide) ?_
      exact hret (1 : Int32) z H locs 17 ls hw rfl h dX2_steersAlongX_17
  exact b00 s.heap [] hw
