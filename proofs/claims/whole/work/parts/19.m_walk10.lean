def V_X12_put_77 (post : Int32 → ZS → Prop) (z : ZS) (s1 : Int32) (s2 : Int32) : Prop := (vp_in s1 800 ∧ ∀ z9 : ZS, z9 = wR z 14 6 (Int32.toNatClampNeg s1) s2 → post (0 : Int32) z9)
def V_X12_put (z : ZS) (p1 : Int32) (p2 : Int32) (p3 : Int32) (post : Int32 → ZS → Prop) : Prop := V_X12_wrongRow z p1 (-1 : Int32) (fun r2 z1 => ((r2 = 0 → (vp_in p1 8 ∧ V_X12_isIn z1 (Int32.toInt64 p2) (0 : Int64) (Int32.toInt64 ((zR z1 14 5 (Int32.toNatClampNeg p1)) - (1 : Int32))) (fun r5 z4 => ((¬ r5 = 0 → (vp_in p1 8 ∧ ((¬ (zR z4 14 4 (Int32.toNatClampNeg p1)) = 0 → (vp_in p1 8 ∧ ((¬ (zR z4 14 4 (Int32.toNatClampNeg p1)) = (1 : Int32) → V_X12_put_77 post z4 (((100 : Int32) * p1) + p2) p3) ∧ ((zR z4 14 4 (Int32.toNatClampNeg p1)) = (1 : Int32) → V_X12_put_77 post z4 (((100 : Int32) * p1) + p2) (Int16.toInt32 (Int32.toInt16 p3)))))) ∧ ((zR z4 14 4 (Int32.toNatClampNeg p1)) = 0 → V_X12_put_77 post z4 (((100 : Int32) * p1) + p2) (Int8.toInt32 (Int32.toInt8 p3)))))) ∧ (r5 = 0 → post (-13 : Int32) z4))))) ∧ (¬ r2 = 0 → post r2 z1)))
set_option maxHeartbeats 4000000 in
set_option maxRecDepth 100000 in
theorem c_X12_put (l : Launch) (D : va_G) (ad : Nat → Nat → Nat) (cs : Nat → ClassId) (sk : (Nat → Nat) × (Nat → Nat)) (z : ZS) (p1 : Int32) (p2 : Int32) (p3 : Int32) (post : Int32 → ZS → Prop) (h : V_X12_put z p1 p2 p3 post) : MI l D ad cs sk yX12_put cX12_put 5 .int (rmq 3 0 0) [.ref (ad 14 100), .int p1, .int p2, .int p3] z post := by
  refine MI.of RX12 rfl (by decide) (Nat.le_of_ble_eq_true rfl) ?_
  intro p e s m args below meth c A Q E hw hA hret ls hl
  have hx := E.1.1
  have hb := E.1.2.1
  have hml := E.1.2.2.1
  have hown := E.1.2.2.2.1
  have h0 := E.1.2.2.2.2
  have hl : lv_has ls 5 [(0, .ref (ad 14 100)), (1, .int p1), (2, .int p2), (3, .int p3)] := hl
  unfold V_X12_put at h
  have b77 : ∀ (z : ZS) (s1 : Int32) (s2 : Int32), ∀ (H : Heap) (locs : List Loc), OW D ad cs A s.heap z H locs → ∀ ls : Array Slot, lv_has ls 5 [] → V_X12_put_77 post z s1 s2 → W p l e (rmq 3 0 0) s m args below meth c H locs 0 0 Q (F0 m 77 ls [.int s2, .int s1, .ref (ad 14 6)]) := by
    intro z s1 s2 H locs hw ls hl h
    unfold V_X12_put_77 at h
    obtain ⟨hi, h⟩ := h
    refine xas E hw ky_14_6 ka_14_6 hi dX12_put_77 (fun z9 ez9 H locs hw => ?_)
    replace h := h z9 ez9
    refine lv_iconst (v := 0) hx hb dX12_put_78 (by decide) ?_
    exact hret (0 : Int32) z9 H locs 79 ls hw rfl h dX12_put_79
  have b00 : ∀ (H : Heap) (locs : List Loc), OW D ad cs A s.heap z H locs → W p l e (rmq 3 0 0) s m args below meth c H locs 0 0 Q (F0 m 0 ls []) := by
    intro H locs hw
    refine lv_aload_n hx hb dX12_put_0 rfl (lv_at hl 0 rfl) ?_
    refine lv_iload_n hx hb dX12_put_1 rfl (lv_at hl 1 rfl) ?_
    refine lv_iconst (v := -1) hx hb dX12_put_2 (by decide) ?_
    have hq := h
    clear h
    refine xcVI (As := [.int p1, .int (-1 : Int32)]) (rest := []) E hw hA (c_X12_wrongRow l D ad cs sk z p1 (-1 : Int32) _ hq) kc_12_128 yo_X12_wrongRow ⟨Nat.le_of_ble_eq_true rfl, Nat.le_of_ble_eq_true rfl⟩ (xrc E hw ky_14_100 rfl) rfl hl.1 rfl (Nat.le_of_ble_eq_true rfl) dX12_put_3 ⟨Nat.le_of_ble_eq_true rfl, Nat.le_of_ble_eq_true rfl⟩ (fun r2 z1 H locs h hw => ?_)
    refine lv_istore (lv' := [(4, .int r2), (0, .ref (ad 14 100)), (1, .int p1), (2, .int p2), (3, .int p3)]) hx hb dX12_put_6 hl (by decide) rfl (fun ls hl => ?_)
    refine lv_iload hx hb dX12_put_8 (lv_at hl 0 rfl) ?_
    refine lv_if_eq (tgt := 16) hx hb dX12_put_10 (by decide) (fun c3 => ?_) (fun c3 => ?_)
    · replace h := h.1 c3
      refine lv_iload_n hx hb dX12_put_16 rfl (lv_at hl 3 rfl) ?_
      refine lv_i2l hx hb dX12_put_17 rfl ?_
      refine lv_lconst (v := 0) hx hb dX12_put_18 (by decide) ?_
      refine lv_aload_n hx hb dX12_put_19 rfl (lv_at hl 1 rfl) ?_
      refine xgC E hw (c1 := 12) (t := (14, 5)) rfl ky_14_100 fo_12_5 rfl qf_12_25 dX12_put_20 ?_
      refine lv_iload_n hx hb dX12_put_23 rfl (lv_at hl 2 rfl) ?_
      obtain ⟨hi, h⟩ := h
      refine xal E hw ky_14_5 ka_14_5 hi dX12_put_24 ?_
      refine lv_iconst (v := 1) hx hb dX12_put_25 (by decide) ?_
      refine lv_isub hx hb dX12_put_26 ?_
      refine lv_i2l hx hb dX12_put_27 rfl ?_
      have hq := h
      clear h
      refine xcSI (As := [.long (Int32.toInt64 p2), .long (0 : Int64), .long (Int32.toInt64 ((zR z1 14 5 (Int32.toNatClampNeg p1)) - (1 : Int32)))]) (rest := []) E hw hA (c_X12_isIn l D ad cs sk z1 (Int32.toInt64 p2) (0 : Int64) (Int32.toInt64 ((zR z1 14 5 (Int32.toNatClampNeg p1)) - (1 : Int32))) _ hq) kc_12_56 yo_X12_isIn ⟨Nat.le_of_ble_eq_true rfl, Nat.le_of_ble_eq_true rfl⟩ rfl hl.1 rfl (Nat.le_of_ble_eq_true rfl) dX12_put_28 ⟨Nat.le_of_ble_eq_true rfl, Nat.le_of_ble_eq_true rfl⟩ (fun r5 z4 H locs h hw => ?_)
      refine lv_if_ne (tgt := 37) hx hb dX12_put_31 (by decide) (fun c6 => ?_) (fun c6 => ?_)
      · replace h := h.1 c6
        refine lv_aload_n hx hb dX12_put_37 rfl (lv_at hl 1 rfl) ?_
        refine xgC E hw (c1 := 12) (t := (14, 6)) rfl ky_14_100 fo_12_6 rfl qf_12_28 dX12_put_38 ?_
        refine lv_bipush (v := 100) hx hb dX12_put_41 (by decide) ?_
        refine lv_iload_n hx hb dX12_put_43 rfl (lv_at hl 2 rfl) ?_
        refine lv_imul hx hb dX12_put_44 ?_
        refine lv_iload_n hx hb dX12_put_45 rfl (lv_at hl 3 rfl) ?_
        refine lv_iadd hx hb dX12_put_46 ?_
        refine lv_aload_n hx hb dX12_put_47 rfl (lv_at hl 1 rfl) ?_
        refine xgC E hw (c1 := 12) (t := (14, 4)) rfl ky_14_100 fo_12_4 rfl qf_12_22 dX12_put_48 ?_
        refine lv_iload_n hx hb dX12_put_51 rfl (lv_at hl 2 rfl) ?_
        obtain ⟨hi, h⟩ := h
        refine xal E hw ky_14_4 ka_14_4 hi dX12_put_52 ?_
        refine lv_if_ne (tgt := 61) hx hb dX12_put_53 (by decide) (fun c7 => ?_) (fun c7 => ?_)
        · replace h := h.1 c7
          refine lv_aload_n hx hb dX12_put_61 rfl (lv_at hl 1 rfl) ?_
          refine xgC E hw (c1 := 12) (t := (14, 4)) rfl ky_14_100 fo_12_4 rfl qf_12_22 dX12_put_62 ?_
          refine lv_iload_n hx hb dX12_put_65 rfl (lv_at hl 2 rfl) ?_
          obtain ⟨hi, h⟩ := h
          refine xal E hw ky_14_4 ka_14_4 hi dX12_put_66 ?_
          refine lv_iconst (v := 1) hx hb dX12_put_67 (by decide) ?_
          refine lv_icmp_ne (tgt := 76) hx hb dX12_put_68 (by decide) (fun c8 => ?_) (fun c8 => ?_)
          · replace h := h.1 c8
            refine lv_iload_n hx hb dX12_put_76 rfl (lv_at hl 4 rfl) ?_
            exact b77 z4 (((100 : Int32) * p1) + p2) p3 H locs hw ls (lv_sub hl [] rfl) h
          · replace h := h.2 c8
            refine lv_iload_n hx hb dX12_put_71 rfl (lv_at hl 4 rfl) ?_
            refine lv_i2s hx hb dX12_put_72 rfl ?_
            refine lv_goto (tgt := 77) hx hb dX12_put_73 (by decide) ?_
            exact b77 z4 (((100 : Int32) * p1) + p2) (Int16.toInt32 (Int32.toInt16 p3)) H locs hw ls (lv_sub hl [] rfl) h
        · replace h := h.2 c7
          refine lv_iload_n hx hb dX12_put_56 rfl (lv_at hl 4 rfl) ?_
          refine lv_i2b hx hb dX12_put_57 rfl ?_
          refine lv_goto (tgt := 77) hx hb dX12_put_58 (by decide) ?_
          exact b77 z4 (((100 : Int32) * p1) + p2) (Int8.toInt32 (Int32.toInt8 p3)) H locs hw ls (lv_sub hl [] rfl) h
      · replace h := h.2 c6
        refine lv_bipush (v := -13) hx hb dX12_put_34 (by decide) ?_
        exact hret (-13 : Int32) z4 H locs 36 ls hw rfl h dX12_put_36
    · replace h := h.2 c3
      refine lv_iload hx hb dX12_put_13 (lv_at hl 0 rfl) ?_
      exact hret r2 z1 H locs 15 ls hw rfl h dX12_put_15
  exact b00 s.heap [] hw
def V_X12_element_71 (post : Int64 → ZS → Prop) (z : ZS) (s0 : Int64) : Prop := post s0 z
def V_X12_element_45 (post : Int64 → ZS → Prop) (z : ZS) (v1 : Int32) (v2 : Int32) (s1 : Int32) : Prop := (∀ z5 : ZS, z5 = wI z 14 10 s1 → ((¬ (zI z5 14 10) = 0 → V_X12_element_71 post z5 (0 : Int64)) ∧ ((zI z5 14 10) = 0 → (vp_in (((100 : Int32) * v1) + v2) 800 ∧ V_X12_element_71 post z5 (Int32.toInt64 (zR z5 14 6 (Int32.toNatClampNeg (((100 : Int32) * v1) + v2))))))))
def V_X12_element_40 (post : Int64 → ZS → Prop) (z : ZS) (v1 : Int32) (v2 : Int32) : Prop := V_X12_element_45 post z v1 v2 (2 : Int32)
def V_X12_element (z : ZS) (p1 : Int32) (p2 : Int32) (post : Int64 → ZS → Prop) : Prop := V_X12_isShelf z p1 (fun r2 z1 => ((¬ r2 = 0 → (vp_in p1 8 ∧ ((¬ (zR z1 14 3 (Int32.toNatClampNeg p1)) = (2 : Int32) → V_X12_element_40 post z1 p1 p2) ∧ ((zR z1 14 3 (Int32.toNatClampNeg p1)) = (2 : Int32) → (vp_in p1 8 ∧ V_X12_isIn z1 (Int32.toInt64 p2) (0 : Int64) (Int32.toInt64 ((zR z1 14 5 (Int32.toNatClampNeg p1)) - (1 : Int32))) (fun r8 z7 => ((¬ r8 = 0 → V_X12_element_45 post z7 p1 p2 (0 : Int32)) ∧ (r8 = 0 → V_X12_element_40 post z7 p1 p2)))))))) ∧ (r2 = 0 → V_X12_element_45 post z1 p1 p2 (1 : Int32))))
set_option maxHeartbeats 4000000 in
set_option maxRecDepth 100000 in
theorem c_X12_element (l : Launch) (D : va_G) (ad : Nat → Nat → Nat) (cs : Nat → ClassId) (sk : (Nat → Nat) × (Nat → Nat)) (z : ZS) (p1 : Int32) (p2 : Int32) (post : Int64 → ZS → Prop) (h : V_X12_element z p1 p2 post) : ML l D ad cs sk yX12_element cX12_element 3 (rmq 2 0 0) [.ref (ad 14 100), .int p1, .int p2] z post := by
  refine ML.of RX12 rfl (by decide) (Nat.le_of_ble_eq_true rfl) ?_
  intro p e s m args below meth c A Q E hw hA hret ls hl
  have hx := E.1.1
  have hb := E.1.2.1
  have hml := E.1.2.2.1
  have hown := E.1.2.2.2.1
  have h0 := E.1.2.2.2.2
  have hl : lv_has ls 3 [(0, .ref (ad 14 100)), (1, .int p1), (2, .int p2)] := hl
  unfold V_X12_element at h
  have b71 : ∀ (z : ZS) (s0 : Int64), ∀ (H : Heap) (locs : List Loc), OW D ad cs A s.heap z H locs → ∀ ls : Array Slot, lv_has ls 3 [] → V_X12_element_71 post z s0 → W p l e (rmq 2 0 0) s m args below meth c H locs 0 0 Q (F0 m 71 ls [.long s0]) := by
    intro z s0 H locs hw ls hl h
    unfold V_X12_element_71 at h
    exact hret s0 z H locs 71 ls hw h dX12_element_71
  have b45 : ∀ (z : ZS) (v1 : Int32) (v2 : Int32) (s1 : Int32), ∀ (H : Heap) (locs : List Loc), OW D ad cs A s.heap z H locs → ∀ ls : Array Slot, lv_has ls 3 [(0, .ref (ad 14 100)), (1, .int v1), (2, .int v2)] → V_X12_element_45 post z v1 v2 s1 → W p l e (rmq 2 0 0) s m args below meth c H locs 0 0 Q (F0 m 45 ls [.int s1, .ref (ad 14 100)]) := by
    intro z v1 v2 s1 H locs hw ls hl h
    unfold V_X12_element_45 at h
    refine xpI E hw (c1 := 12) rfl ky_14_100 fp_12_10 rfl rfl qf_12_52 dX12_element_45 (fun z5 ez5 H locs hw => ?_)
    replace h := h z5 ez5
    refine lv_aload_n hx hb dX12_element_48 rfl (lv_at hl 0 rfl) ?_
    refine xgI E hw (c1 := 12) rfl ky_14_100 fo_12_10 qf_12_52 dX12_element_49 ?_
    refine lv_if_ne (tgt := 70) hx hb dX12_element_52 (by decide) (fun c6 => ?_) (fun c6 => ?_)
    · replace h := h.1 c6
      refine lv_lconst (v := 0) hx hb dX12_element_70 (by decide) ?_
      exact b71 z5 (0 : Int64) H locs hw ls (lv_sub hl [] rfl) h
    · replace h := h.2 c6
      refine lv_aload_n hx hb dX12_element_55 rfl (lv_at hl 0 rfl) ?_
      refine xgC E hw (c1 := 12) (t := (14, 6)) rfl ky_14_100 fo_12_6 rfl qf_12_28 dX12_element_56 ?_
      refine lv_bipush (v := 100) hx hb dX12_element_59 (by decide) ?_
      refine lv_iload_n hx hb dX12_element_61 rfl (lv_at hl 1 rfl) ?_
      refine lv_imul hx hb dX12_element_62 ?_
      refine lv_iload_n hx hb dX12_element_63 rfl (lv_at hl 2 rfl) ?_
      refine lv_iadd hx hb dX12_element_64 ?_
      obtain ⟨hi, h⟩ := h
      refine xal E hw ky_14_6 ka_14_6 hi dX12_element_65 ?_
      refine lv_i2l hx hb dX12_element_66 rfl ?_
      refine lv_goto (tgt := 71) hx hb dX12_element_67 (by decide) ?_
      exact b71 z5 (Int32.toInt64 (zR z5 14 6 (Int32.toNatClampNeg (((100 : Int32) * v1) + v2)))) H locs hw ls (lv_sub hl [] rfl) h
  have b40 : ∀ (z : ZS) (v1 : Int32) (v2 : Int32), ∀ (H : Heap) (locs : List Loc), OW D ad cs A s.heap z H locs → ∀ ls : Array Slot, lv_has ls 3 [(0, .ref (ad 14 100)), (1, .int v1), (2, .int v2)] → V_X12_element_40 post z v1 v2 → W p l e (rmq 2 0 0) s m args below meth c H locs 0 0 Q (F0 m 40 ls [.ref (ad 14 100)]) := by
    intro z v1 v2 H locs hw ls hl h
    unfold V_X12_element_40 at h
    refine lv_iconst (v := 2) hx hb dX12_element_40 (by decide) ?_
    refine lv_goto (tgt := 45) hx hb dX12_element_41 (by decide) ?_
    exact b45 z v1 v2 (2 : Int32) H locs hw ls (lv_sub hl [0, 1, 2] rfl) h
  have b00 : ∀ (H : Heap) (locs : List Loc), OW D ad cs A s.heap z H locs → W p l e (rmq 2 0 0) s m args below meth c H locs 0 0 Q (F0 m 0 ls []) := by
    intro H locs hw
    refine lv_aload_n hx hb dX12_element_0 rfl (lv_at hl 0 rfl) ?_
    refine lv_iload_n hx hb dX12_element_1 rfl (lv_at hl 1 rfl) ?_
    have hq := h
    clear h
    refine xcSI (As := [.int p1]) (rest := [.ref (ad 14 100)]) E hw hA (c_X12_isShelf l D ad cs sk z p1 _ hq) kc_12_125 yo_X12_isShelf ⟨Nat.le_of_ble_eq_true rfl, Nat.le_of_ble_eq_true rfl⟩ rfl hl.1 rfl (Nat.le_of_ble_eq_true rfl) dX12_element_2 ⟨Nat.le_of_ble_eq_true rfl, Nat.le_of_ble_eq_true rfl⟩ (fun r2 z1 H locs h hw => ?_)
    refine lv_if_ne (tgt := 12) hx hb dX12_element_5 (by decide) (fun c3 => ?_) (fun c3 => ?_)
    · replace h := h.1 c3
      refine lv_aload_n hx hb dX12_element_12 rfl (lv_at hl 0 rfl) ?_
      refine xgC E hw (c1 := 12) (t := (14, 3)) rfl ky_14_100 fo_12_3 rfl qf_12_19 dX12_element_13 ?_
      refine lv_iload_n hx hb dX12_element_16 rfl (lv_at hl 1 rfl) ?_
      obtain ⟨hi, h⟩ := h
      refine xal E hw ky_14_3 ka_14_3 hi dX12_element_17 ?_
      refine lv_iconst (v := 2) hx hb dX12_element_18 (by decide) ?_
      refine lv_icmp_ne (tgt := 40) hx hb dX12_element_19 (by decide) (fun c4 => ?_) (fun c4 => ?_)
      · replace h := h.1 c4
        exact b40 z1 p1 p2 H locs hw ls (lv_sub hl [0, 1, 2] rfl) h
      · replace h := h.2 c4
        refine lv_iload_n hx hb dX12_element_22 rfl (lv_at hl 2 rfl) ?_
        refine lv_i2l hx hb dX12_element_23 rfl ?_
        refine lv_lconst (v := 0) hx hb dX12_element_24 (by decide) ?_
        refine lv_aload_n hx hb dX12_element_25 rfl (lv_at hl 0 rfl) ?_
        refine xgC E hw (c1 := 12) (t := (14, 5)) rfl ky_14_100 fo_12_5 rfl qf_12_25 dX12_element_26 ?_
        refine lv_iload_n hx hb dX12_element_29 rfl (lv_at hl 1 rfl) ?_
        obtain ⟨hi, h⟩ := h
        refine xal E hw ky_14_5 ka_14_5 hi dX12_element_30 ?_
        refine lv_iconst (v := 1) hx hb dX12_element_31 (by decide) ?_
        refine lv_isub hx hb dX12_element_32 ?_
        refine lv_i2l hx hb dX12_element_33 rfl ?_
        have hq := h
        clear h
        refine xcSI (As := [.long (Int32.toInt64 p2), .long (0 : Int64), .long (Int32.toInt64 ((zR z1 14 5 (Int32.toNatClampNeg p1)) - (1 : Int32)))]) (rest := [.ref (ad 14 100)]) E hw hA (c_X12_isIn l D ad cs sk z1 (Int32.toInt64 p2) (0 : Int64) (Int32.toInt64 ((zR z1 14 5 (Int32.toNatClampNeg p1)) - (1 : Int32))) _ hq) kc_12_56 yo_X12_isIn ⟨Nat.le_of_ble_eq_true rfl, Nat.le_of_ble_eq_true rfl⟩ rfl hl.1 rfl (Nat.le_of_ble_eq_true rfl) dX12_element_34 ⟨Nat.le_of_ble_eq_true rfl, Nat.le_of_ble_eq_true rfl⟩ (fun r8 z7 H locs h hw => ?_)
        refine lv_if_ne (tgt := 44) hx hb dX12_element_37 (by decide) (fun c9 => ?_) (fun c9 => ?_)
        · replace h := h.1 c9
          refine lv_iconst (v := 0) hx hb dX12_element_44 (by decide) ?_
          exact b45 z7 p1 p2 (0 : Int32) H locs hw ls (lv_sub hl [0, 1, 2] rfl) h
        · replace h := h.2 c9
          exact b40 z7 p1 p2 H locs hw ls (lv_sub hl [0, 1, 2] rfl) h
    · replace h := h.2 c3
      refine lv_iconst (v := 1) hx hb dX12_element_8 (by decide) ?_
      refine lv_goto (tgt := 45) hx hb dX12_element_9 (by decide) ?_
      exact b45 z1 p1 p2 (1 : Int32) H locs hw ls (lv_sub hl [0, 1, 2] rfl) h
  exact b00 s.heap [] hw
def V_X12_copy_147 (post : Int32 → ZS → Prop) (rr122 : ZS → Int32 → Int32 → Int32 → Int32 → Int32 → Int32 → Prop) (z : ZS) (v1 : Int32) (v2 : Int32) (v3 : Int32) (v4 : Int32) (v5 : Int32) (v6 : Int32) (s0 : Int32) : Prop := (vp_in ((((100 : Int32) * v1) + v2) + s0) 800 ∧ (vp_in ((((100 : Int32) * v3) + v4) + s0) 800 ∧ ∀ z19 : ZS, z19 = wR z 14 6 (Int32.toNatClampNeg ((((100 : Int32) * v3) + v4) + s0)) (zR z 14 6 (Int32.toNatClampNeg ((((100 : Int32) * v1) + v2) + s0))) → (∀ t20 : Int32, t20 = v6 + (1 : Int32) → rr122 z19 v1 v2 v3 v4 v5 t20)))
def V_X12_copy_122 (post : Int32 → ZS → Prop) : Nat → ZS → Int32 → Int32 → Int32 → Int32 → Int32 → Int32 → Prop
  | 0, _, _, _, _, _, _, _ => False
  | (n + 1), z, v1, v2, v3, v4, v5, v6 => ((v5 ≤ v6 → post v5 z) ∧ (¬ v5 ≤ v6 → ((v2 ≤ v4 → V_X12_copy_147 post (V_X12_copy_122 post n) z v1 v2 v3 v4 v5 v6 ((v5 - (1 : Int32)) - v6)) ∧ (¬ v2 ≤ v4 → V_X12_copy_147 post (V_X12_copy_122 post n) z v1 v2 v3 v4 v5 v6 v6))))
def V_X12_copy (z : ZS) (p1 : Int32) (p2 : Int32) (p3 : Int32) (p4 : Int32) (p5 : Int32) (post : Int32 → ZS → Prop) : Prop := V_X12_isShelf z p1 (fun r2 z1 => ((r2 = 0 → post (-1 : Int32) z1) ∧ (¬ r2 = 0 → V_X12_isShelf z1 p3 (fun r5 z4 => ((¬ r5 = 0 → (vp_in p1 8 ∧ (((zR z4 14 3 (Int32.toNatClampNeg p1)) = 0 → post (-11 : Int32) z4) ∧ (¬ (zR z4 14 3 (Int32.toNatClampNeg p1)) = 0 → (vp_in p3 8 ∧ ((¬ (zR z4 14 3 (Int32.toNatClampNeg p3)) = 0 → (vp_in p1 8 ∧ ((¬ (zR z4 14 3 (Int32.toNatClampNeg p1)) = (2 : Int32) → post (-12 : Int32) z4) ∧ ((zR z4 14 3 (Int32.toNatClampNeg p1)) = (2 : Int32) → (vp_in p3 8 ∧ ((¬ (zR z4 14 3 (Int32.toNatClampNeg p3)) = (2 : Int32) → post (-12 : Int32) z4) ∧ ((zR z4 14 3 (Int32.toNatClampNeg p3)) = (2 : Int32) → (vp_in p1 8 ∧ (vp_in p3 8 ∧ (((zR z4 14 4 (Int32.toNatClampNeg p1)) = (zR z4 14 4 (Int32.toNatClampNeg p3)) → ((p5 < 0 → post (-13 : Int32) z4) ∧ (¬ p5 < 0 → ((p2 < 0 → post (-13 : Int32) z4) ∧ (¬ p2 < 0 → ((p4 < 0 → post (-13 : Int32) z4) ∧ (¬ p4 < 0 → (vp_in p1 8 ∧ ((((zR z4 14 5 (Int32.toNatClampNeg p1)) - p2) < p5 → post (-13 : Int32) z4) ∧ (¬ ((zR z4 14 5 (Int32.toNatClampNeg p1)) - p2) < p5 → (vp_in p3 8 ∧ ((p5 ≤ ((zR z4 14 5 (Int32.toNatClampNeg p3)) - p4) → (∃ n21 : Nat, V_X12_copy_122 post n21 z4 p1 p2 p3 p4 p5 (0 : Int32))) ∧ (¬ p5 ≤ ((zR z4 14 5 (Int32.toNatClampNeg p3)) - p4) → post (-13 : Int32) z4))))))))))))) ∧ (¬ (zR z4 14 4 (Int32.toNatClampNeg p1)) = (zR z4 14 4 (Int32.toNatClampNeg p3)) → post (-12 : Int32) z4))))))))))) ∧ ((zR z4 14 3 (Int32.toNatClampNeg p3)) = 0 → post (-11 : Int32) z4))))))) ∧ (r5 = 0 → post (-1 : Int32) z4))))))
set_option maxHeartbeats 4000000 in
set_option maxRecDepth 100000 in
theorem c_X12_copy (l : Launch) (D : va_G) (ad : Nat → Nat → Nat) (cs : Nat → ClassId) (sk : (Nat → Nat) × (Nat → Nat)) (z : ZS) (p1 : Int32) (p2 : Int32) (p3 : Int32) (p4 : Int32) (p5 : Int32) (post : Int32 → ZS → Prop) (h : V_X12_copy z p1 p2 p3 p4 p5 post) : MI l D ad cs sk yX12_copy cX12_copy 8 .int (rmq 2 0 0) [.ref (ad 14 100), .int p1, .int p2, .int p3, .int p4, .int p5] z post := by
  refine MI.of RX12 rfl (by decide) (Nat.le_of_ble_eq_true rfl) ?_
  intro p e s m args below meth c A Q E hw hA hret ls hl
  have hx := E.1.1
  have hb := E.1.2.1
  have hml := E.1.2.2.1
  have hown := E.1.2.2.2.1
  have h0 := E.1.2.2.2.2
  have hl : lv_has ls 8 [(0, .ref (ad 14 100)), (1, .int p1), (2, .int p2), (3, .int p3), (4, .int p4), (5, .int p5)] := hl
  unfold V_X12_copy at h
  have b122 : ∀ (n : Nat) (z : ZS) (v1 : Int32) (v2 : Int32) (v3 : Int32) (v4 : Int32) (v5 : Int32) (v6 : Int32), ∀ (H : Heap) (locs : List Loc), OW D ad cs A s.heap z H locs → ∀ ls : Array Slot, lv_has ls 8 [(0, .ref (ad 14 100)), (1, .int v1), (2, .int v2), (3, .int v3), (4, .int v4), (5, .int v5), (6, .int v6)] → V_X12_copy_122 post n z v1 v2 v3 v4 v5 v6 → W p l e (rmq 2 0 0) s m args below meth c H locs 0 0 Q (F0 m 122 ls []) := by
    intro n
    induction n with
    | zero =>
      intro z v1 v2 v3 v4 v5 v6 H locs hw ls hl h
      exact h.elim
    | succ n122x ih122 =>
      have b147 : ∀ (z : ZS) (v1 : Int32) (v2 : Int32) (v3 : Int32) (v4 : Int32) (v5 : Int32) (v6 : Int32) (s0 : Int32), ∀ (H : Heap) (locs : List Loc), OW D ad cs A s.heap z H locs → ∀ ls : Array Slot, lv_has ls 8 [(0, .ref (ad 14 100)), (1, .int v1), (2, .int v2), (3, .int v3), (4, .int v4), (5, .int v5), (6, .int v6)] → V_X12_copy_147 post (V_X12_copy_122 post n122x) z v1 v2 v3 v4 v5 v6 s0 → W p l e (rmq 2 0 0) s m args below meth c H locs 0 0 Q (F0 m 147 ls [.int s0]) := by
        intro z v1 v2 v3 v4 v5 v6 s0 H locs hw ls hl h
        unfold V_X12_copy_147 at h
        refine lv_istore (lv' := [(7, .int s0), (0, .ref (ad 14 100)), (1, .int v1), (2, .int v2), (3, .int v3), (4, .int v4), (5, .int v5), (6, .int v6)]) hx hb dX12_copy_147 hl (by decide) rfl (fun ls hl => ?_)
        refine lv_aload_n hx hb dX12_copy_149 rfl (lv_at hl 1 rfl) ?_
        refine xgC E hw (c1 := 12) (t := (14, 6)) rfl ky_14_100 fo_12_6 rfl qf_12_28 dX12_copy_150 ?_
        refine lv_bipush (v := 100) hx hb dX12_copy_153 (by decide) ?_
        refine lv_iload_n hx hb dX12_copy_155 rfl (lv_at hl 4 rfl) ?_
        refine lv_imul hx hb dX12_copy_156 ?_
        refine lv_iload hx hb dX12_copy_157 (lv_at hl 5 rfl) ?_
        refine lv_iadd hx hb dX12_copy_159 ?_
        refine lv_iload hx hb dX12_copy_160 (lv_at hl 0 rfl) ?_
        refine lv_iadd hx hb dX12_copy_162 ?_
        refine lv_aload_n hx hb dX12_copy_163 rfl (lv_at hl 1 rfl) ?_
        refine xgC E hw (c1 := 12) (t := (14, 6)) rfl ky_14_100 fo_12_6 rfl qf_12_28 dX12_copy_164 ?_
        refine lv_bipush (v := 100) hx hb dX12_copy_167 (by decide) ?_
        refine lv_iload_n hx hb dX12_copy_169 rfl (lv_at hl 2 rfl) ?_
        refine lv_imul hx hb dX12_copy_170 ?_
        refine lv_iload_n hx hb dX12_copy_171 rfl (lv_at hl 3 rfl) ?_
        refine lv_iadd hx hb dX12_copy_172 ?_
        refine lv_iload hx hb dX12_copy_173 (lv_at hl 0 rfl) ?_
        refine lv_iadd hx hb dX12_copy_175 ?_
        obtain ⟨hi, h⟩ := h
        refine xal E hw ky_14_6 ka_14_6 hi dX12_copy_176 ?_
        obtain ⟨hi, h⟩ := h
        refine xas E hw ky_14_6 ka_14_6 hi dX12_copy_177 (fun z19 ez19 H locs hw => ?_)
        replace h := h z19 ez19
        obtain ⟨t20, et20⟩ : ∃ y : Int32, y = v6 + (1 : Int32) := ⟨_, rfl⟩
        replace h := h t20 et20
        refine lv_iinc (v := t20) (lv' := [(6, .int t20), (7, .int s0), (0, .ref (ad 14 100)), (1, .int v1), (2, .int v2), (3, .int v3), (4, .int v4), (5, .int v5)]) hx hb dX12_copy_178 hl (k := 7) rfl (by rw [et20]; rfl) (by decide) rfl (fun ls hl => ?_)
        refine lv_goto (tgt := 122) hx hb dX12_copy_181 (by decide) ?_
        exact ih122 z19 v1 v2 v3 v4 v5 t20 H locs hw ls (lv_sub hl [2, 3, 4, 5, 6, 7, 0] rfl) h
      intro z v1 v2 v3 v4 v5 v6 H locs hw ls hl h
      unfold V_X12_copy_122 at h
      refine lv_iload hx hb dX12_copy_122 (lv_at hl 6 rfl) ?_
      refine lv_iload hx hb dX12_copy_124 (lv_at hl 5 rfl) ?_
      refine lv_icmp_ge (tgt := 184) hx hb dX12_copy_126 (by decide) (fun c17 => ?_) (fun c17 => ?_)
      · replace h := h.1 c17
        refine lv_iload hx hb dX12_copy_184 (lv_at hl 5 rfl) ?_
        exact hret v5 z H locs 186 ls hw rfl h dX12_copy_186
      · replace h := h.2 c17
        refine lv_iload_n hx hb dX12_copy_129 rfl (lv_at hl 2 rfl) ?_
        refine lv_iload hx hb dX12_copy_130 (lv_at hl 4 rfl) ?_
        refine lv_icmp_le (tgt := 140) hx hb dX12_copy_132 (by decide) (fun c18 => ?_) (fun c18 => ?_)
        · replace h := h.1 c18
          refine lv_iload hx hb dX12_copy_140 (lv_at hl 5 rfl) ?_
          refine lv_iconst (v := 1) hx hb dX12_copy_142 (by decide) ?_
          refine lv_isub hx hb dX12_copy_143 ?_
          refine lv_iload hx hb dX12_copy_144 (lv_at hl 6 rfl) ?_
          refine lv_isub hx hb dX12_copy_146 ?_
          exact b147 z v1 v2 v3 v4 v5 v6 ((v5 - (1 : Int32)) - v6) H locs hw ls (lv_sub hl [0, 1, 2, 3, 4, 5, 6] rfl) h
        · replace h := h.2 c18
          refine lv_iload hx hb dX12_copy_135 (lv_at hl 6 rfl) ?_
          refine lv_goto (tgt := 147) hx hb dX12_copy_137 (by decide) ?_
          exact b147 z v1 v2 v3 v4 v5 v6 v6 H locs hw ls (lv_sub hl [0, 1, 2, 3, 4, 5, 6] rfl) h
  have b00 : ∀ (H : Heap) (locs : List Loc), OW D ad cs A s.heap z H locs → W p l e (rmq 2 0 0) s m args below meth c H locs 0 0 Q (F0 m 0 ls []) := by
    intro H locs hw
    refine lv_iload_n hx hb dX12_copy_0 rfl (lv_at hl 1 rfl) ?_
    have hq := h
    clear h
    refine xcSI (As := [.int p1]) (rest := []) E hw hA (c_X12_isShelf l D ad cs sk z p1 _ hq) kc_12_125 yo_X12_isShelf ⟨Nat.le_of_ble_eq_true rfl, Nat.le_of_ble_eq_true rfl⟩ rfl hl.1 rfl (Nat.le_of_ble_eq_true rfl) dX12_copy_1 ⟨Nat.le_of_ble_eq_true rfl, Nat.le_of_ble_eq_true rfl⟩ (fun r2 z1 H locs h hw => ?_)
    refine lv_if_eq (tgt := 14) hx hb dX12_copy_4 (by decide) (fun c3 => ?_) (fun c3 => ?_)
    · replace h := h.1 c3
      refine lv_iconst (v := -1) hx hb dX12_copy_14 (by decide) ?_
      exact hret (-1 : Int32) z1 H locs 15 ls hw rfl h dX12_copy_15
    · replace h := h.2 c3
      refine lv_iload_n hx hb dX12_copy_7 rfl (lv_at hl 3 rfl) ?_
      have hq := h
      clear h
      refine xcSI (As := [.int p3]) (rest := []) E hw hA (c_X12_isShelf l D ad cs sk z1 p3 _ hq) kc_12_125 yo_X12_isShelf ⟨Nat.le_of_ble_eq_true rfl, Nat.le_of_ble_eq_true rfl⟩ rfl hl.1 rfl (Nat.le_of_ble_eq_true rfl) dX12_copy_8 ⟨Nat.le_of_ble_eq_true rfl, Nat.le_of_ble_eq_true rfl⟩ (fun r5 z4 H locs h hw => ?_)
      refine lv_if_ne (tgt := 16) hx hb dX12_copy_11 (by decide) (fun c6 => ?_) (fun c6 => ?_)
      · replace h := h.1 c6
        refine lv_aload_n hx hb dX12_copy_16 rfl (lv_at hl 0 rfl) ?_
        refine xgC E hw (c1 := 12) (t := (14, 3)) rfl ky_14_100 fo_12_3 rfl qf_12_19 dX12_copy_17 ?_
        refine lv_iload_n hx hb dX12_copy_20 rfl (lv_at hl 1 rfl) ?_
        obtain ⟨hi, h⟩ := h
        refine xal E hw ky_14_3 ka_14_3 hi dX12_copy_21 ?_
        refine lv_if_eq (tgt := 34) hx hb dX12_copy_22 (by decide) (fun c7 => ?_) (fun c7 => ?_)
        · replace h := h.1 c7
          refine lv_bipush (v := -11) hx hb dX12_copy_34 (by decide) ?_
          exact hret (-11 : Int32) z4 H locs 36 ls hw rfl h dX12_copy_36
        · replace h := h.2 c7
          refine lv_aload_n hx hb dX12_copy_25 rfl (lv_at hl 0 rfl) ?_
          refine xgC E hw (c1 := 12) (t := (14, 3)) rfl ky_14_100 fo_12_3 rfl qf_12_19 dX12_copy_26 ?_
          refine lv_iload_n hx hb dX12_copy_29 rfl (lv_at hl 3 rfl) ?_
          obtain ⟨hi, h⟩ := h
          refine xal E hw ky_14_3 ka_14_3 hi dX12_copy_30 ?_
          refine lv_if_ne (tgt := 37) hx hb dX12_copy_31 (by decide) (fun c8 => ?_) (fun c8 => ?_)
          · replace h := h.1 c8
            refine lv_aload_n hx hb dX12_copy_37 rfl (lv_at hl 0 rfl) ?_
            refine xgC E hw (c1 := 12) (t := (14, 3)) rfl ky_14_100 fo_12_3 rfl qf_12_19 dX12_copy_38 ?_
            refine lv_iload_n hx hb dX12_copy_41 rfl (lv_at hl 1 rfl) ?_
            obtain ⟨hi, h⟩ := h
            refine xal E hw ky_14_3 ka_14_3 hi dX12_copy_42 ?_
            refine lv_iconst (v := 2) hx hb dX12_copy_43 (by decide) ?_
            refine lv_icmp_ne (tgt := 72) hx hb dX12_copy_44 (by decide) (fun c9 => ?_) (fun c9 => ?_)
            · replace h := h.1 c9
              refine lv_bipush (v := -12) hx hb dX12_copy_72 (by decide) ?_
              exact hret (-12 : Int32) z4 H locs 74 ls hw rfl h dX12_copy_74
            · replace h := h.2 c9
              refine lv_aload_n hx hb dX12_copy_47 rfl (lv_at hl 0 rfl) ?_
              refine xgC E hw (c1 := 12) (t := (14, 3)) rfl ky_14_100 fo_12_3 rfl qf_12_19 dX12_copy_48 ?_
              refine lv_iload_n hx hb dX12_copy_51 rfl (lv_at hl 3 rfl) ?_
              obtain ⟨hi, h⟩ := h
              refine xal E hw ky_14_3 ka_14_3 hi dX12_copy_52 ?_
              refine lv_iconst (v := 2) hx hb dX12_copy_53 (by decide) ?_
              refine lv_icmp_ne (tgt := 72) hx hb dX12_copy_54 (by decide) (fun c10 => ?_) (fun c10 => ?_)
              · replace h := h.1 c10
                refine lv_bipush (v := -12) hx hb dX12_copy_72 (by decide) ?_
                exact hret (-12 : Int32) z4 H locs 74 ls hw rfl h dX12_copy_74
              · replace h := h.2 c10
                refine lv_aload_n hx hb dX12_copy_57 rfl (lv_at hl 0 rfl) ?_
                refine xgC E hw (c1 := 12) (t := (14, 4)) rfl ky_14_100 fo_12_4 rfl qf_12_22 dX12_copy_58 ?_
                refine lv_iload_n hx hb dX12_copy_61 rfl (lv_at hl 1 rfl) ?_
                obtain ⟨hi, h⟩ := h
                refine xal E hw ky_14_4 ka_14_4 hi dX12_copy_62 ?_
                refine lv_aload_n hx hb dX12_copy_63 rfl (lv_at hl 0 rfl) ?_
                refine xgC E hw (c1 := 12) (t := (14, 4)) rfl ky_14_100 fo_12_4 rfl qf_12_22 dX12_copy_64 ?_
                refine lv_iload_n hx hb dX12_copy_67 rfl (lv_at hl 3 rfl) ?_
                obtain ⟨hi, h⟩ := h
                refine xal E hw ky_14_4 ka_14_4 hi dX12_copy_68 ?_
                refine lv_icmp_eq (tgt := 75) hx hb dX12_copy_69 (by decide) (fun c11 => ?_) (fun c11 => ?_)
                · replace h := h.1 c11
                  refine lv_iload hx hb dX12_copy_75 (lv_at hl 5 rfl) ?_
                  refine lv_if_lt (tgt := 116) hx hb dX12_copy_77 (by decide) (fun c12 => ?_) (fun c12 => ?_)
                  · replace h := h.1 c12
                    refine lv_bipush (v := -13) hx hb dX12_copy_116 (by decide) ?_
                    exact hret (-13 : Int32) z4 H locs 118 ls hw rfl h dX12_copy_118
                  · replace h := h.2 c12
                    refine lv_iload_n hx hb dX12_copy_80 rfl (lv_at hl 2 rfl) ?_
                    refine lv_if_lt (tgt := 116) hx hb dX12_copy_81 (by decide) (fun c13 => ?_) (fun c13 => ?_)
                    · replace h := h.1 c13
                      refine lv_bipush (v := -13) hx hb dX12_copy_116 (by decide) ?_
                      exact hret (-13 : Int32) z4 H locs 118 ls hw rfl h dX12_copy_118
                    · replace h := h.2 c13
                      refine lv_iload hx hb dX12_copy_84 (lv_at hl 4 rfl) ?_
                      refine lv_if_lt (tgt := 116) hx hb dX12_copy_86 (by decide) (fun c14 => ?_) (fun c14 => ?_)
                      · replace h := h.1 c14
                        refine lv_bipush (v := -13) hx hb dX12_copy_116 (by decide) ?_
                        exact hret (-13 : Int32) z4 H locs 118 ls hw rfl h dX12_copy_118
                      · replace h := h.2 c14
                        refine lv_iload hx hb dX12_copy_89 (lv_at hl 5 rfl) ?_
                        refine lv_aload_n hx hb dX12_copy_91 rfl (lv_at hl 0 rfl) ?_
                        refine xgC E hw (c1 := 12) (t := (14, 5)) rfl ky_14_100 fo_12_5 rfl qf_12_25 dX12_copy_92 ?_
                        refine lv_iload_n hx hb dX12_copy_95 rfl (lv_at hl 1 rfl) ?_
                        obtain ⟨hi, h⟩ := h
                        refine xal E hw ky_14_5 ka_14_5 hi dX12_copy_96 ?_
                        refine lv_iload_n hx hb dX12_copy_97 rfl (lv_at hl 2 rfl) ?_
                        refine lv_isub hx hb dX12_copy_98 ?_
                        refine lv_icmp_gt (tgt := 116) hx hb dX12_copy_99 (by decide) (fun c15 => ?_) (fun c15 => ?_)
                        · replace h := h.1 c15
                          refine lv_bipush (v := -13) hx hb dX12_copy_116 (by decide) ?_
                          exact hret (-13 : Int32) z4 H locs 118 ls hw rfl h dX12_copy_118
                        · replace h := h.2 c15
                          refine lv_iload hx hb dX12_copy_102 (lv_at hl 5 rfl) ?_
                          refine lv_aload_n hx hb dX12_copy_104 rfl (lv_at hl 0 rfl) ?_
                          refine xgC E hw (c1 := 12) (t := (14, 5)) rfl ky_14_100 fo_12_5 rfl qf_12_25 dX12_copy_105 ?_
                          refine lv_iload_n hx hb dX12_copy_108 rfl (lv_at hl 3 rfl) ?_
                          obtain ⟨hi, h⟩ := h
                          refine xal E hw ky_14_5 ka_14_5 hi dX12_copy_109 ?_
                          refine lv_iload hx hb dX12_copy_110 (lv_at hl 4 rfl) ?_
                          refine lv_isub hx hb dX12_copy_112 ?_
                          refine lv_icmp_le (tgt := 119) hx hb dX12_copy_113 (by decide) (fun c16 => ?_) (fun c16 => ?_)
                          · replace h := h.1 c16
                            refine lv_iconst (v := 0) hx hb dX12_copy_119 (by decide) ?_
                            refine lv_istore (lv' := [(6, .int (0 : Int32)), (0, .ref (ad 14 100)), (1, .int p1), (2, .int p2), (3, .int p3), (4, .int p4), (5, .int p5)]) hx hb dX12_copy_120 hl (by decide) rfl (fun ls hl => ?_)
                            obtain ⟨n21, h⟩ := h
                            exact b122 n21 z4 p1 p2 p3 p4 p5 (0 : Int32) H locs hw ls (lv_sub hl [1, 2, 3, 4, 5, 6, 0] rfl) h
                          · replace h := h.2 c16
                            refine lv_bipush (v := -13) hx hb dX12_copy_116 (by decide) ?_
                            exact hret (-13 : Int32) z4 H locs 118 ls hw rfl h dX12_copy_118
                · replace h := h.2 c11
                  refine lv_bipush (v := -12) hx hb dX12_copy_72 (by decide) ?_
                  exact hret (-12 : Int32) z4 H locs 74 ls hw rfl h dX12_copy_74
          · replace h := h.2 c8
            refine lv_bipush (v := -11) hx hb dX12_copy_34 (by decide) ?_
            exact hret (-11 : Int32) z4 H locs 36 ls hw rfl h dX12_copy_36
      · replace h := h.2 c6
        refine lv_iconst (v := -1) hx hb dX12_copy_14 (by decide) ?_
        exact hret (-1 : Int32) z4 H locs 15 ls hw rfl h dX12_copy_15
  exact b00 s.heap [] hw
def V_X12_wrongKept (z : ZS) (p1 : Int32) (post : Int32 → ZS → Prop) : Prop := V_X12_isShelf z p1 (fun r2 z1 => ((¬ r2 = 0 → (vp_in p1 8 ∧ ((¬ (zR z1 14 3 (Int32.toNatClampNeg p1)) = 0 → (vp_in p1 8 ∧ ((¬ (zR z1 14 3 (Int32.toNatClampNeg p1)) = (1 : Int32) → post (-12 : Int32) z1) ∧ ((zR z1 14 3 (Int32.toNatClampNeg p1)) = (1 : Int32) → post (0 : Int32) z1)))) ∧ ((zR z1 14 3 (Int32.toNatClampNeg p1)) = 0 → post (-11 : Int32) z1)))) ∧ (r2 = 0 → post (-1 : Int32) z1)))
set_option maxHeartbeats 4000000 in
set_option maxRecDepth 100000 in
theorem c_X12_wrongKept (l : Launch) (D : va_G) (ad : Nat → Nat → Nat) (cs : Nat → ClassId) (sk : (Nat → Nat) × (Nat → Nat)) (z : ZS) (p1 : Int32) (post : Int32 → ZS → Prop) (h : V_X12_wrongKept z p1 post) : MI l D ad cs sk yX12_wrongKept cX12_wrongKept 2 .int (rmq 2 0 0) [.ref (ad 14 100), .int p1] z post := by
  refine MI.of RX12 rfl (by decide) (Nat.le_of_ble_eq_true rfl) ?_
  intro p e s m args below meth c A Q E hw hA hret ls hl
  have hx := E.1.1
  have hb := E.1.2.1
  have hml := E.1.2.2.1
  have hown := E.1.2.2.2.1
  have h0 := E.1.2.2.2.2
  have hl : lv_has ls 2 [(0, .ref (ad 14 100)), (1, .int p1)] := hl
  unfold V_X12_wrongKept at h
  have b00 : ∀ (H : Heap) (locs : List Loc), OW D ad cs A s.heap z H locs → W p l e (rmq 2 0 0) s m args below meth c H locs 0 0 Q (F0 m 0 ls []) := by
    intro H locs hw
    refine lv_iload_n hx hb dX12_wrongKept_0 rfl (lv_at hl 1 rfl) ?_
    have hq := h
    clear h
    refine xcSI (As := [.int p1]) (rest := []) E hw hA (c_X12_isShelf l D ad cs sk z p1 _ hq) kc_12_125 yo_X12_isShelf ⟨Nat.le_of_ble_eq_true rfl, Nat.le_of_ble_eq_true rfl⟩ rfl hl.1 rfl (Nat.le_of_ble_eq_true rfl) dX12_wrongKept_1 ⟨Nat.le_of_ble_eq_true rfl, Nat.le_of_ble_eq_true rfl⟩ (fun r2 z1 H locs h hw => ?_)
    refine lv_if_ne (tgt := 11) hx hb dX12_wrongKept_4 (by decide) (fun c3 => ?_) (fun c3 => ?_)
    · replace h := h.1 c3
      refine lv_aload_n hx hb dX12_wrongKept_11 rfl (lv_at hl 0 rfl) ?_
      refine xgC E hw (c1 := 12) (t := (14, 3)) rfl ky_14_100 fo_12_3 rfl qf_12_19 dX12_wrongKept_12 ?_
      refine lv_iload_n hx hb dX12_wrongKept_15 rfl (lv_at hl 1 rfl) ?_
      obtain ⟨hi, h⟩ := h
      refine xal E hw ky_14_3 ka_14_3 hi dX12_wrongKept_16 ?_
      refine lv_if_ne (tgt := 25) hx hb dX12_wrongKept_17 (by decide) (fun c4 => ?_) (fun c4 => ?_)
      · replace h := h.1 c4
        refine lv_aload_n hx hb dX12_wrongKept_25 rfl (lv_at hl 0 rfl) ?_
        refine xgC E hw (c1 := 12) (t := (14, 3)) rfl ky_14_100 fo_12_3 rfl qf_12_19 dX12_wrongKept_26 ?_
        refine lv_iload_n hx hb dX12_wrongKept_29 rfl (lv_at hl 1 rfl) ?_
        obtain ⟨hi, h⟩ := h
        refine xal E hw ky_14_3 ka_14_3 hi dX12_wrongKept_30 ?_
        refine lv_iconst (v := 1) hx hb dX12_wrongKept_31 (by decide) ?_
        refine lv_icmp_ne (tgt := 39) hx hb dX12_wrongKept_32 (by decide) (fun c5 => ?_) (fun c5 => ?_)
        · replace h := h.1 c5
          refine lv_bipush (v := -12) hx hb dX12_wrongKept_39 (by decide) ?_
          exact hret (-12 : Int32) z1 H locs 41 ls hw rfl h dX12_wrongKept_41
        · replace h := h.2 c5
          refine lv_iconst (v := 0) hx hb dX12_wrongKept_35 (by decide) ?_
          refine lv_goto (tgt := 41) hx hb dX12_wrongKept_36 (by decide) ?_
          exact hret (0 : Int32) z1 H locs 41 ls hw rfl h dX12_wrongKept_41
      · replace h := h.2 c4
        refine lv_bipush (v := -11) hx hb dX12_wrongKept_20 (by decide) ?_
        refine lv_goto (tgt := 41) hx hb dX12_wrongKept_22 (by decide) ?_
        exact hret (-11 : Int32) z1 H locs 41 ls hw rfl h dX12_wrongKept_41
    · replace h := h.2 c3
      refine lv_iconst (v := -1) hx hb dX12_wrongKept_7 (by decide) ?_
      refine lv_goto (tgt := 41) hx hb dX12_wrongKept_8 (by decide) ?_
      exact hret (-1 : Int32) z1 H locs 41 ls hw rfl h dX12_wrongKept_41
  exact b00 s.heap [] hw
def V_X12_care (z : ZS) (p1 : Int32) (post : Int32 → ZS → Prop) : Prop := V_X12_wrongKept z p1 (fun r2 z1 => ((r2 = 0 → (vp_in p1 8 ∧ post (zR z1 14 7 (Int32.toNatClampNeg p1)) z1)) ∧ (¬ r2 = 0 → post r2 z1)))
set_option maxHeartbeats 4000000 in
set_option maxRecDepth 100000 in
theorem c_X12_care (l : Launch) (D : va_G) (ad : Nat → Nat → Nat) (cs : Nat → ClassId) (sk : (Nat → Nat) × (Nat → Nat)) (z : ZS) (p1 : Int32) (post : Int32 → ZS → Prop) (h : V_X12_care z p1 post) : MI l D ad cs sk yX12_care cX12_care 3 .int (rmq 3 0 0) [.ref (ad 14 100), .int p1] z post := by
  refine MI.of RX12 rfl (by decide) (Nat.le_of_ble_eq_true rfl) ?_
  intro p e s m args below meth c A Q E hw hA hret ls hl
  have hx := E.1.1
  have hb := E.1.2.1
  have hml := E.1.2.2.1
  have hown := E.1.2.2.2.1
  have h0 := E.1.2.2.2.2
  have hl : lv_has ls 3 [(0, .ref (ad 14 100)), (1, .int p1)] := hl
  unfold V_X12_care at h
  have b00 : ∀ (H : Heap) (locs : List Loc), OW D ad cs A s.heap z H locs → W p l e (rmq 3 0 0) s m args below meth c H locs 0 0 Q (F0 m 0 ls []) := by
    intro H locs hw
    refine lv_aload_n hx hb dX12_care_0 rfl (lv_at hl 0 rfl) ?_
    refine lv_iload_n hx hb dX12_care_1 rfl (lv_at hl 1 rfl) ?_
    have hq := h
    clear h
    refine xcVI (As := [.int p1]) (rest := []) E hw hA (c_X12_wrongKept l D ad cs sk z p1 _ hq) kc_12_325 yo_X12_wrongKept ⟨Nat.le_of_ble_eq_true rfl, Nat.le_of_ble_eq_true rfl⟩ (xrc E hw ky_14_100 rfl) rfl hl.1 rfl (Nat.le_of_ble_eq_true rfl) dX12_care_2 ⟨Nat.le_of_ble_eq_true rfl, Nat.le_of_ble_eq_true rfl⟩ (fun r2 z1 H locs h hw => ?_)
    refine lv_istore_n (lv' := [(2, .int r2), (0, .ref (ad 14 100)), (1, .int p1)]) hx hb dX12_care_5 rfl hl (by decide) rfl (fun ls hl => ?_)
    refine lv_iload_n hx hb dX12_care_6 rfl (lv_at hl 0 rfl) ?_
    refine lv_if_eq (tgt := 14) hx hb dX12_care_7 (by decide) (fun c3 => ?_) (fun c3 => ?_)
    · replace h := h.1 c3
      refine lv_aload_n hx hb dX12_care_14 rfl (lv_at hl 1 rfl) ?_
      refine xgC E hw (c1 := 12) (t := (14, 7)) rfl ky_14_100 fo_12_7 rfl qf_12_31 dX12_care_15 ?_
      refine lv_iload_n hx hb dX12_care_18 rfl (lv_at hl 2 rfl) ?_
      obtain ⟨hi, h⟩ := h
      refine xal E hw ky_14_7 ka_14_7 hi dX12_care_19 ?_
      exact hret (zR z1 14 7 (Int32.toNatClampNeg p1)) z1 H locs 20 ls hw rfl h dX12_care_20
    · replace h := h.2 c3
      refine lv_iload_n hx hb dX12_care_10 rfl (lv_at hl 0 rfl) ?_
      refine lv_goto (tgt := 20) hx hb dX12_care_11 (by decide) ?_
      exact hret r2 z1 H locs 20 ls hw rfl h dX12_care_20
  exact b00 s.heap [] hw
def V_X12_toss (z : ZS) (p1 : Int32) (post : Int32 → ZS → Prop) : Prop := V_X12_wrongKept z p1 (fun r2 z1 => ((r2 = 0 → (vp_in p1 8 ∧ post (zR z1 14 8 (Int32.toNatClampNeg p1)) z1)) ∧ (¬ r2 = 0 → post r2 z1)))
set_option maxHeartbeats 4000000 in
set_option maxRecDepth 100000 in
theorem c_X12_toss (l : Launch) (D : va_G) (ad : Nat → Nat → Nat) (cs : Nat → ClassId) (sk : (Nat → Nat) × (Nat → Nat)) (z : ZS) (p1 : Int32) (post : Int32 → ZS → Prop) (h : V_X12_toss z p1 post) : MI l D ad cs sk yX12_toss cX12_toss 3 .int (rmq 3 0 0) [.ref (ad 14 100), .int p1] z post := by
  refine MI.of RX12 rfl (by decide) (Nat.le_of_ble_eq_true rfl) ?_
  intro p e s m args below meth c A Q E hw hA hret ls hl
  have hx := E.1.1
  have hb := E.1.2.1
  have hml := E.1.2.2.1
  have hown := E.1.2.2.2.1
  have h0 := E.1.2.2.2.2
  have hl : lv_has ls 3 [(0, .ref (ad 14 100)), (1, .int p1)] := hl
  unfold V_X12_toss at h
  have b00 : ∀ (H : Heap) (locs : List Loc), OW D ad cs A s.heap z H locs → W p l e (rmq 3 0 0) s m args below meth c H locs 0 0 Q (F0 m 0 ls []) := by
    intro H locs hw
    refine lv_aload_n hx hb dX12_toss_0 rfl (lv_at hl 0 rfl) ?_
    refine lv_iload_n hx hb dX12_toss_1 rfl (lv_at hl 1 rfl) ?_
    have hq := h
    clear h
    refine xcVI (As := [.int p1]) (rest := []) E hw hA (c_X12_wrongKept l D ad cs sk z p1 _ hq) kc_12_325 yo_X12_wrongKept ⟨Nat.le_of_ble_eq_true rfl, Nat.le_of_ble_eq_true rfl⟩ (xrc E hw ky_14_100 rfl) rfl hl.1 rfl (Nat.le_of_ble_eq_true rfl) dX12_toss_2 ⟨Nat.le_of_ble_eq_true rfl, Nat.le_of_ble_eq_true rfl⟩ (fun r2 z1 H locs h hw => ?_)
    refine lv_istore_n (lv' := [(2, .int r2), (0, .ref (ad 14 100)), (1, .int p1)]) hx hb dX12_toss_5 rfl hl (by decide) rfl (fun ls hl => ?_)
    refine lv_iload_n hx hb dX12_toss_6 rfl (lv_at hl 0 rfl) ?_
    refine lv_if_eq (tgt := 14) hx hb dX12_toss_7 (by decide) (fun c3 => ?_) (fun c3 => ?_)
    · replace h := h.1 c3
      refine lv_aload_n hx hb dX12_toss_14 rfl (lv_at hl 1 rfl) ?_
      refine xgC E hw (c1 := 12) (t := (14, 8)) rfl ky_14_100 fo_12_8 rfl qf_12_34 dX12_toss_15 ?_
      refine lv_iload_n hx hb dX12_toss_18 rfl (lv_at hl 2 rfl) ?_
      obtain ⟨hi, h⟩ := h
      refine xal E hw ky_14_8 ka_14_8 hi dX12_toss_19 ?_
      exact hret (zR z1 14 8 (Int32.toNatClampNeg p1)) z1 H locs 20 ls hw rfl h dX12_toss_20
    · replace h := h.2 c3
      refine lv_iload_n hx hb dX12_toss_10 rfl (lv_at hl 0 rfl) ?_
      refine lv_goto (tgt := 20) hx hb dX12_toss_11 (by decide) ?_
      exact hret r2 z1 H locs 20 ls hw rfl h dX12_toss_20
  exact b00 s.heap [] hw
