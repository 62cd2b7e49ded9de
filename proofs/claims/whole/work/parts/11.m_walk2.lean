def V_X12_isValue (z : ZS) (p0 : Int32) (p1 : Int32) (post : Int32 → ZS → Prop) : Prop := ((¬ p0 = 0 → ((¬ p0 = (1 : Int32) → ((¬ p0 = (2 : Int32) → post (0 : Int32) z) ∧ (p0 = (2 : Int32) → V_X12_isIn z (Int32.toInt64 p1) (300 : Int64) (3000 : Int64) (fun r5 z4 => ((r5 = 0 → post (0 : Int32) z4) ∧ (¬ r5 = 0 → post (1 : Int32) z4)))))) ∧ (p0 = (1 : Int32) → V_X12_isIn z (Int32.toInt64 p1) (0 : Int64) (900 : Int64) (fun r8 z7 => (narrow .boolean (.int r8) = .int r8 ∧ post r8 z7))))) ∧ (p0 = 0 → V_X12_isIn z (Int32.toInt64 p1) (0 : Int64) (30 : Int64) (fun r10 z9 => (narrow .boolean (.int r10) = .int r10 ∧ post r10 z9))))
set_option maxHeartbeats 4000000 in
set_option maxRecDepth 100000 in
theorem c_X12_isValue (l : Launch) (D : va_G) (ad : Nat → Nat → Nat) (cs : Nat → ClassId) (sk : (Nat → Nat) × (Nat → Nat)) (z : ZS) (p0 : Int32) (p1 : Int32) (post : Int32 → ZS → Prop) (h : V_X12_isValue z p0 p1 post) : MI l D ad cs sk yX12_isValue cX12_isValue 2 .boolean (rmq 1 0 0) [.int p0, .int p1] z post := by
  refine MI.of RX12 rfl (by decide) (Nat.le_of_ble_eq_true rfl) ?_
  intro p e s m args below meth c A Q E hw hA hret ls hl
  have hx := E.1.1
  have hb := E.1.2.1
  have hml := E.1.2.2.1
  have hown := E.1.2.2.2.1
  have h0 := E.1.2.2.2.2
  have hl : lv_has ls 2 [(0, .int p0), (1, .int p1)] := hl
  unfold V_X12_isValue at h
  have b00 : ∀ (H : Heap) (locs : List Loc), OW D ad cs A s.heap z H locs → W p l e (rmq 1 0 0) s m args below meth c H locs 0 0 Q (F0 m 0 ls []) := by
    intro H locs hw
    refine lv_iload_n hx hb dX12_isValue_0 rfl (lv_at hl 0 rfl) ?_
    refine lv_if_ne (tgt := 16) hx hb dX12_isValue_1 (by decide) (fun c1 => ?_) (fun c1 => ?_)
    · replace h := h.1 c1
      refine lv_iload_n hx hb dX12_isValue_16 rfl (lv_at hl 0 rfl) ?_
      refine lv_iconst (v := 1) hx hb dX12_isValue_17 (by decide) ?_
      refine lv_icmp_ne (tgt := 33) hx hb dX12_isValue_18 (by decide) (fun c2 => ?_) (fun c2 => ?_)
      · replace h := h.1 c2
        refine lv_iload_n hx hb dX12_isValue_33 rfl (lv_at hl 0 rfl) ?_
        refine lv_iconst (v := 2) hx hb dX12_isValue_34 (by decide) ?_
        refine lv_icmp_ne (tgt := 56) hx hb dX12_isValue_35 (by decide) (fun c3 => ?_) (fun c3 => ?_)
        · replace h := h.1 c3
          refine lv_iconst (v := 0) hx hb dX12_isValue_56 (by decide) ?_
          exact hret (0 : Int32) z H locs 57 ls hw rfl h dX12_isValue_57
        · replace h := h.2 c3
          refine lv_iload_n hx hb dX12_isValue_38 rfl (lv_at hl 1 rfl) ?_
          refine lv_i2l hx hb dX12_isValue_39 rfl ?_
          refine lv_ldc2 (v := 300) hx hb hown (h0 _ ql_12_107) dX12_isValue_40 ?_
          refine lv_ldc2 (v := 3000) hx hb hown (h0 _ ql_12_109) dX12_isValue_43 ?_
          have hq := h
          clear h
          refine xcSI (As := [.long (Int32.toInt64 p1), .long (300 : Int64), .long (3000 : Int64)]) (rest := []) E hw hA (c_X12_isIn l D ad cs sk z (Int32.toInt64 p1) (300 : Int64) (3000 : Int64) _ hq) kc_12_56 yo_X12_isIn ⟨Nat.le_of_ble_eq_true rfl, Nat.le_of_ble_eq_true rfl⟩ rfl hl.1 rfl (Nat.le_of_ble_eq_true rfl) dX12_isValue_46 ⟨Nat.le_of_ble_eq_true rfl, Nat.le_of_ble_eq_true rfl⟩ (fun r5 z4 H locs h hw => ?_)
          refine lv_if_eq (tgt := 56) hx hb dX12_isValue_49 (by decide) (fun c6 => ?_) (fun c6 => ?_)
          · replace h := h.1 c6
            refine lv_iconst (v := 0) hx hb dX12_isValue_56 (by decide) ?_
            exact hret (0 : Int32) z4 H locs 57 ls hw rfl h dX12_isValue_57
          · replace h := h.2 c6
            refine lv_iconst (v := 1) hx hb dX12_isValue_52 (by decide) ?_
            refine lv_goto (tgt := 57) hx hb dX12_isValue_53 (by decide) ?_
            exact hret (1 : Int32) z4 H locs 57 ls hw rfl h dX12_isValue_57
      · replace h := h.2 c2
        refine lv_iload_n hx hb dX12_isValue_21 rfl (lv_at hl 1 rfl) ?_
        refine lv_i2l hx hb dX12_isValue_22 rfl ?_
        refine lv_lconst (v := 0) hx hb dX12_isValue_23 (by decide) ?_
        refine lv_ldc2 (v := 900) hx hb hown (h0 _ ql_12_105) dX12_isValue_24 ?_
        have hq := h
        clear h
        refine xcSI (As := [.long (Int32.toInt64 p1), .long (0 : Int64), .long (900 : Int64)]) (rest := []) E hw hA (c_X12_isIn l D ad cs sk z (Int32.toInt64 p1) (0 : Int64) (900 : Int64) _ hq) kc_12_56 yo_X12_isIn ⟨Nat.le_of_ble_eq_true rfl, Nat.le_of_ble_eq_true rfl⟩ rfl hl.1 rfl (Nat.le_of_ble_eq_true rfl) dX12_isValue_27 ⟨Nat.le_of_ble_eq_true rfl, Nat.le_of_ble_eq_true rfl⟩ (fun r8 z7 H locs h hw => ?_)
        refine lv_goto (tgt := 57) hx hb dX12_isValue_30 (by decide) ?_
        exact hret r8 z7 H locs 57 ls hw h.1 h.2 dX12_isValue_57
    · replace h := h.2 c1
      refine lv_iload_n hx hb dX12_isValue_4 rfl (lv_at hl 1 rfl) ?_
      refine lv_i2l hx hb dX12_isValue_5 rfl ?_
      refine lv_lconst (v := 0) hx hb dX12_isValue_6 (by decide) ?_
      refine lv_ldc2 (v := 30) hx hb hown (h0 _ ql_12_103) dX12_isValue_7 ?_
      have hq := h
      clear h
      refine xcSI (As := [.long (Int32.toInt64 p1), .long (0 : Int64), .long (30 : Int64)]) (rest := []) E hw hA (c_X12_isIn l D ad cs sk z (Int32.toInt64 p1) (0 : Int64) (30 : Int64) _ hq) kc_12_56 yo_X12_isIn ⟨Nat.le_of_ble_eq_true rfl, Nat.le_of_ble_eq_true rfl⟩ rfl hl.1 rfl (Nat.le_of_ble_eq_true rfl) dX12_isValue_10 ⟨Nat.le_of_ble_eq_true rfl, Nat.le_of_ble_eq_true rfl⟩ (fun r10 z9 H locs h hw => ?_)
      refine lv_goto (tgt := 57) hx hb dX12_isValue_13 (by decide) ?_
      exact hret r10 z9 H locs 57 ls hw h.1 h.2 dX12_isValue_57
  exact b00 s.heap [] hw
def V_X12_comes_373 (post : Int32 → ZS → Prop) : Nat → ZS → Int32 → Int32 → Prop
  | 0, _, _, _ => False
  | (n + 1), z, v3, v4 => (((2 : Int32) ≤ v4 → (∀ z6 : ZS, z6 = wR z 14 2 4 ((zR z 14 2 4) + (1 : Int32)) → post (1 : Int32) z6)) ∧ (¬ (2 : Int32) ≤ v4 → (vp_in v4 4 ∧ (∀ t7 : Int32, t7 = ((10 : Int32) * (zR z 14 15 (Int32.toNatClampNeg v4))) → (vp_in (v4 + (2 : Int32)) 4 ∧ (∀ t8 : Int32, t8 = ((10 : Int32) * (zR z 14 15 (Int32.toNatClampNeg (v4 + (2 : Int32))))) → V_X12_lesser z t7 t8 (fun r10 z9 => (vp_in (v3 + v4) 73 ∧ ∀ z11 : ZS, z11 = wR z9 14 2 (Int32.toNatClampNeg (v3 + v4)) r10 → V_X12_lesser z11 t7 t8 (fun r13 z12 => (vp_in ((v3 + (2 : Int32)) + v4) 73 ∧ ∀ z14 : ZS, z14 = wR z12 14 2 (Int32.toNatClampNeg ((v3 + (2 : Int32)) + v4)) ((t7 + t8) - r13) → (∀ t15 : Int32, t15 = v4 + (1 : Int32) → (V_X12_comes_373 post n) z14 v3 t15)))))))))))
def V_X12_comes_345 (post : Int32 → ZS → Prop) (rr312 : ZS → Int32 → Int32 → Prop) (z : ZS) (v3 : Int32) (s0 : Int32) : Prop := (∀ t18 : Int32, t18 = v3 + (1 : Int32) → rr312 z s0 t18)
def V_X12_comes_344 (post : Int32 → ZS → Prop) (rr312 : ZS → Int32 → Int32 → Prop) (z : ZS) (v3 : Int32) : Prop := V_X12_comes_345 post rr312 z v3 (0 : Int32)
def V_X12_comes_312 (post : Int32 → ZS → Prop) : Nat → ZS → Int32 → Int32 → Prop
  | 0, _, _, _ => False
  | (n + 1), z, v2, v3 => (((4 : Int32) ≤ v3 → ((¬ v2 = 0 → (∀ t4 : Int32, t4 = ((49 : Int32) + ((4 : Int32) * (zR z 14 2 4))) → (∃ n16 : Nat, V_X12_comes_373 post n16 z t4 (0 : Int32)))) ∧ (v2 = 0 → post (0 : Int32) z))) ∧ (¬ (4 : Int32) ≤ v3 → ((v2 = 0 → V_X12_comes_344 post (V_X12_comes_312 post n) z v3) ∧ (¬ v2 = 0 → (vp_in v3 4 ∧ V_X12_isIn z (Int32.toInt64 (zR z 14 15 (Int32.toNatClampNeg v3))) (-3000 : Int64) (3000 : Int64) (fun r20 z19 => ((r20 = 0 → V_X12_comes_344 post (V_X12_comes_312 post n) z19 v3) ∧ (¬ r20 = 0 → V_X12_comes_345 post (V_X12_comes_312 post n) z19 v3 (1 : Int32)))))))))
def V_X12_comes_309 (post : Int32 → ZS → Prop) (z : ZS) (s0 : Int32) : Prop := (∃ n22 : Nat, V_X12_comes_312 post n22 z s0 (0 : Int32))
def V_X12_comes_246 (post : Int32 → ZS → Prop) : Nat → ZS → Int32 → Prop
  | 0, _, _ => False
  | (n + 1), z, v2 => (((3 : Int32) ≤ v2 → (∀ z43 : ZS, z43 = wR z 14 2 3 ((zR z 14 2 3) + (1 : Int32)) → post (1 : Int32) z43)) ∧ (¬ (3 : Int32) ≤ v2 → (vp_in v2 4 ∧ (vp_in (((25 : Int32) + ((3 : Int32) * (zR z 14 2 3))) + v2) 73 ∧ ∀ z44 : ZS, z44 = wR z 14 2 (Int32.toNatClampNeg (((25 : Int32) + ((3 : Int32) * (zR z 14 2 3))) + v2)) (zR z 14 15 (Int32.toNatClampNeg v2)) → (∀ t45 : Int32, t45 = v2 + (1 : Int32) → (V_X12_comes_246 post n) z44 t45)))))
def V_X12_comes (z : ZS) (p1 : Int32) (post : Int32 → ZS → Prop) : Prop := ((p1 = (97 : Int32) → (∀ z47 : ZS, z47 = wR z 14 2 1 (zR z 14 15 0) → (∀ z48 : ZS, z48 = wR z47 14 2 2 (zR z47 14 15 1) → V_X12_isValue z48 (1 : Int32) (zR z48 14 15 0) (fun r50 z49 => ((r50 = 0 → post (0 : Int32) z49) ∧ (¬ r50 = 0 → V_X12_isValue z49 (2 : Int32) (zR z49 14 15 1) (fun r53 z52 => ((r53 = 0 → post (0 : Int32) z52) ∧ (¬ r53 = 0 → post (1 : Int32) z52))))))))) ∧ (¬ p1 = (97 : Int32) → ((p1 = (102 : Int32) → (((7 : Int32) < (zR z 14 15 0) → post (0 : Int32) z) ∧ (¬ (7 : Int32) < (zR z 14 15 0) → (((20 : Int32) < (zR z 14 15 2) → post (0 : Int32) z) ∧ (¬ (20 : Int32) < (zR z 14 15 2) → ((¬ (zR z 14 2 3) = (8 : Int32) → (∃ n46 : Nat, V_X12_comes_246 post n46 z (0 : Int32))) ∧ ((zR z 14 2 3) = (8 : Int32) → post (0 : Int32) z))))))) ∧ (¬ p1 = (102 : Int32) → ((p1 = (103 : Int32) → (∀ z36 : ZS, z36 = wR z 14 2 0 (zR z 14 15 0) → V_X12_isValue z36 (0 : Int32) (zR z36 14 15 0) (fun r38 z37 => (narrow .boolean (.int r38) = .int r38 ∧ post r38 z37)))) ∧ (¬ p1 = (103 : Int32) → ((p1 = (108 : Int32) → V_X12_isIn z (Int32.toInt64 (zR z 14 15 1)) (-90 : Int64) (90 : Int64) (fun r29 z28 => ((r29 = 0 → post (0 : Int32) z28) ∧ (¬ r29 = 0 → V_X12_isIn z28 (Int32.toInt64 (zR z28 14 15 2)) (-90 : Int64) (90 : Int64) (fun r32 z31 => ((¬ r32 = 0 → (vp_in ((5 : Int32) + ((2 : Int32) * (zR z31 14 15 0))) 73 ∧ ∀ z34 : ZS, z34 = wR z31 14 2 (Int32.toNatClampNeg ((5 : Int32) + ((2 : Int32) * (zR z31 14 15 0)))) (zR z31 14 15 1) → (vp_in (((5 : Int32) + ((2 : Int32) * (zR z34 14 15 0))) + (1 : Int32)) 73 ∧ ∀ z35 : ZS, z35 = wR z34 14 2 (Int32.toNatClampNeg (((5 : Int32) + ((2 : Int32) * (zR z34 14 15 0))) + (1 : Int32))) (zR z34 14 15 2) → post (1 : Int32) z35))) ∧ (r32 = 0 → post (0 : Int32) z31))))))) ∧ (¬ p1 = (108 : Int32) → (((6 : Int32) ≤ (zR z 14 2 4) → V_X12_comes_309 post z (0 : Int32)) ∧ (¬ (6 : Int32) ≤ (zR z 14 2 4) → V_X12_comes_309 post z (1 : Int32)))))))))))
set_option maxHeartbeats 4000000 in
set_option maxRecDepth 100000 in
theorem c_X12_comes (l : Launch) (D : va_G) (ad : Nat → Nat → Nat) (cs : Nat → ClassId) (sk : (Nat → Nat) × (Nat → Nat)) (z : ZS) (p1 : Int32) (post : Int32 → ZS → Prop) (h : V_X12_comes z p1 post) : MI l D ad cs sk yX12_comes cX12_comes 7 .boolean (rmq 2 0 0) [.ref (ad 14 100), .int p1] z post := by
  refine MI.of RX12 rfl (by decide) (Nat.le_of_ble_eq_true rfl) ?_
  intro p e s m args below meth c A Q E hw hA hret ls hl
  have hx := E.1.1
  have hb := E.1.2.1
  have hml := E.1.2.2.1
  have hown := E.1.2.2.2.1
  have h0 := E.1.2.2.2.2
  have hl : lv_has ls 7 [(0, .ref (ad 14 100)), (1, .int p1)] := hl
  unfold V_X12_comes at h
  have b373 : ∀ (n : Nat) (z : ZS) (v3 : Int32) (v4 : Int32), ∀ (H : Heap) (locs : List Loc), OW D ad cs A s.heap z H locs → ∀ ls : Array Slot, lv_has ls 7 [(0, .ref (ad 14 100)), (3, .int v3), (4, .int v4)] → V_X12_comes_373 post n z v3 v4 → W p l e (rmq 2 0 0) s m args below meth c H locs 0 0 Q (F0 m 373 ls []) := by
    intro n
    induction n with
    | zero =>
      intro z v3 v4 H locs hw ls hl h
      exact h.elim
    | succ n373x ih373 =>
      intro z v3 v4 H locs hw ls hl h
      unfold V_X12_comes_373 at h
      refine lv_iload hx hb dX12_comes_373 (lv_at hl 2 rfl) ?_
      refine lv_iconst (v := 2) hx hb dX12_comes_375 (by decide) ?_
      refine lv_icmp_ge (tgt := 451) hx hb dX12_comes_376 (by decide) (fun c5 => ?_) (fun c5 => ?_)
      · replace h := h.1 c5
        refine lv_aload_n hx hb dX12_comes_451 rfl (lv_at hl 0 rfl) ?_
        refine xgC E hw (c1 := 12) (t := (14, 2)) rfl ky_14_100 fo_12_2 rfl qf_12_16 dX12_comes_452 ?_
        refine lv_iconst (v := 4) hx hb dX12_comes_455 (by decide) ?_
        refine lv_dup2_11 hx hb dX12_comes_456 rfl rfl ?_
        refine xalL (j := 4) E hw ky_14_2 ka_14_2 (by decide) (by decide) dX12_comes_457 ?_
        refine lv_iconst (v := 1) hx hb dX12_comes_458 (by decide) ?_
        refine lv_iadd hx hb dX12_comes_459 ?_
        refine xasL (j := 4) E hw ky_14_2 ka_14_2 (by decide) (by decide) dX12_comes_460 (fun z6 ez6 H locs hw => ?_)
        replace h := h z6 ez6
        refine lv_iconst (v := 1) hx hb dX12_comes_461 (by decide) ?_
        exact hret (1 : Int32) z6 H locs 462 ls hw rfl h dX12_comes_462
      · replace h := h.2 c5
        refine lv_bipush (v := 10) hx hb dX12_comes_379 (by decide) ?_
        refine lv_aload_n hx hb dX12_comes_381 rfl (lv_at hl 0 rfl) ?_
        refine xgC E hw (c1 := 12) (t := (14, 15)) rfl ky_14_100 fo_12_15 rfl qf_12_37 dX12_comes_382 ?_
        refine lv_iload hx hb dX12_comes_385 (lv_at hl 2 rfl) ?_
        obtain ⟨hi, h⟩ := h
        refine xal E hw ky_14_15 ka_14_15 hi dX12_comes_387 ?_
        refine lv_imul hx hb dX12_comes_388 ?_
        refine lv_topi (fun t7 et7 => ?_)
        replace h := h t7 et7
        refine lv_istore (lv' := [(5, .int t7), (0, .ref (ad 14 100)), (3, .int v3), (4, .int v4)]) hx hb dX12_comes_389 hl (by decide) rfl (fun ls hl => ?_)
        refine lv_bipush (v := 10) hx hb dX12_comes_391 (by decide) ?_
        refine lv_aload_n hx hb dX12_comes_393 rfl (lv_at hl 1 rfl) ?_
        refine xgC E hw (c1 := 12) (t := (14, 15)) rfl ky_14_100 fo_12_15 rfl qf_12_37 dX12_comes_394 ?_
        refine lv_iload hx hb dX12_comes_397 (lv_at hl 3 rfl) ?_
        refine lv_iconst (v := 2) hx hb dX12_comes_399 (by decide) ?_
        refine lv_iadd hx hb dX12_comes_400 ?_
        obtain ⟨hi, h⟩ := h
        refine xal E hw ky_14_15 ka_14_15 hi dX12_comes_401 ?_
        refine lv_imul hx hb dX12_comes_402 ?_
        refine lv_topi (fun t8 et8 => ?_)
        replace h := h t8 et8
        refine lv_istore (lv' := [(6, .int t8), (5, .int t7), (0, .ref (ad 14 100)), (3, .int v3), (4, .int v4)]) hx hb dX12_comes_403 hl (by decide) rfl (fun ls hl => ?_)
        refine lv_aload_n hx hb dX12_comes_405 rfl (lv_at hl 2 rfl) ?_
        refine xgC E hw (c1 := 12) (t := (14, 2)) rfl ky_14_100 fo_12_2 rfl qf_12_16 dX12_comes_406 ?_
        refine lv_iload_n hx hb dX12_comes_409 rfl (lv_at hl 3 rfl) ?_
        refine lv_iload hx hb dX12_comes_410 (lv_at hl 4 rfl) ?_
        refine lv_iadd hx hb dX12_comes_412 ?_
        refine lv_iload hx hb dX12_comes_413 (lv_at hl 1 rfl) ?_
        refine lv_iload hx hb dX12_comes_415 (lv_at hl 0 rfl) ?_
        have hq := h
        clear h
        refine xcSI (As := [.int t7, .int t8]) (rest := [.int (v3 + v4), .ref (ad 14 2)]) E hw hA (c_X12_lesser l D ad cs sk z t7 t8 _ hq) kc_12_121 yo_X12_lesser ⟨Nat.le_of_ble_eq_true rfl, Nat.le_of_ble_eq_true rfl⟩ rfl hl.1 rfl (Nat.le_of_ble_eq_true rfl) dX12_comes_417 ⟨Nat.le_of_ble_eq_true rfl, Nat.le_of_ble_eq_true rfl⟩ (fun r10 z9 H locs h hw => ?_)
        obtain ⟨hi, h⟩ := h
        refine xas E hw ky_14_2 ka_14_2 hi dX12_comes_420 (fun z11 ez11 H locs hw => ?_)
        replace h := h z11 ez11
        refine lv_aload_n hx hb dX12_comes_421 rfl (lv_at hl 2 rfl) ?_
        refine xgC E hw (c1 := 12) (t := (14, 2)) rfl ky_14_100 fo_12_2 rfl qf_12_16 dX12_comes_422 ?_
        refine lv_iload_n hx hb dX12_comes_425 rfl (lv_at hl 3 rfl) ?_
        refine lv_iconst (v := 2) hx hb dX12_comes_426 (by decide) ?_
        refine lv_iadd hx hb dX12_comes_427 ?_
        refine lv_iload hx hb dX12_comes_428 (lv_at hl 4 rfl) ?_
        refine lv_iadd hx hb dX12_comes_430 ?_
        refine lv_iload hx hb dX12_comes_431 (lv_at hl 1 rfl) ?_
        refine lv_iload hx hb dX12_comes_433 (lv_at hl 0 rfl) ?_
        refine lv_iadd hx hb dX12_comes_435 ?_
        refine lv_iload hx hb dX12_comes_436 (lv_at hl 1 rfl) ?_
        refine lv_iload hx hb dX12_comes_438 (lv_at hl 0 rfl) ?_
        have hq := h
        clear h
        refine xcSI (As := [.int t7, .int t8]) (rest := [.int (t7 + t8), .int ((v3 + (2 : Int32)) + v4), .ref (ad 14 2)]) E hw hA (c_X12_lesser l D ad cs sk z11 t7 t8 _ hq) kc_12_121 yo_X12_lesser ⟨Nat.le_of_ble_eq_true rfl, Nat.le_of_ble_eq_true rfl⟩ rfl hl.1 rfl (Nat.le_of_ble_eq_true rfl) dX12_comes_440 ⟨Nat.le_of_ble_eq_true rfl, Nat.le_of_ble_eq_true rfl⟩ (fun r13 z12 H locs h hw => ?_)
        refine lv_isub hx hb dX12_comes_443 ?_
        obtain ⟨hi, h⟩ := h
        refine xas E hw ky_14_2 ka_14_2 hi dX12_comes_444 (fun z14 ez14 H locs hw => ?_)
        replace h := h z14 ez14
        obtain ⟨t15, et15⟩ : ∃ y : Int32, y = v4 + (1 : Int32) := ⟨_, rfl⟩
        replace h := h t15 et15
        refine lv_iinc (v := t15) (lv' := [(4, .int t15), (6, .int t8), (5, .int t7), (0, .ref (ad 14 100)), (3, .int v3)]) hx hb dX12_comes_445 hl (k := 4) rfl (by rw [et15]; rfl) (by decide) rfl (fun ls hl => ?_)
        refine lv_goto (tgt := 373) hx hb dX12_comes_448 (by decide) ?_
        exact ih373 z14 v3 t15 H locs hw ls (lv_sub hl [3, 4, 0] rfl) h
  have b312 : ∀ (n : Nat) (z : ZS) (v2 : Int32) (v3 : Int32), ∀ (H : Heap) (locs : List Loc), OW D ad cs A s.heap z H locs → ∀ ls : Array Slot, lv_has ls 7 [(0, .ref (ad 14 100)), (2, .int v2), (3, .int v3)] → V_X12_comes_312 post n z v2 v3 → W p l e (rmq 2 0 0) s m args below meth c H locs 0 0 Q (F0 m 312 ls []) := by
    intro n
    induction n with
    | zero =>
      intro z v2 v3 H locs hw ls hl h
      exact h.elim
    | succ n312x ih312 =>
      have b345 : ∀ (z : ZS) (v3 : Int32) (s0 : Int32), ∀ (H : Heap) (locs : List Loc), OW D ad cs A s.heap z H locs → ∀ ls : Array Slot, lv_has ls 7 [(0, .ref (ad 14 100)), (3, .int v3)] → V_X12_comes_345 post (V_X12_comes_312 post n312x) z v3 s0 → W p l e (rmq 2 0 0) s m args below meth c H locs 0 0 Q (F0 m 345 ls [.int s0]) := by
        intro z v3 s0 H locs hw ls hl h
        unfold V_X12_comes_345 at h
        refine lv_istore_n (lv' := [(2, .int s0), (0, .ref (ad 14 100)), (3, .int v3)]) hx hb dX12_comes_345 rfl hl (by decide) rfl (fun ls hl => ?_)
        obtain ⟨t18, et18⟩ : ∃ y : Int32, y = v3 + (1 : Int32) := ⟨_, rfl⟩
        replace h := h t18 et18
        refine lv_iinc (v := t18) (lv' := [(3, .int t18), (2, .int s0), (0, .ref (ad 14 100))]) hx hb dX12_comes_346 hl (k := 2) rfl (by rw [et18]; rfl) (by decide) rfl (fun ls hl => ?_)
        refine lv_goto (tgt := 312) hx hb dX12_comes_349 (by decide) ?_
        exact ih312 z s0 t18 H locs hw ls (lv_sub hl [2, 1, 0] rfl) h
      have b344 : ∀ (z : ZS) (v3 : Int32), ∀ (H : Heap) (locs : List Loc), OW D ad cs A s.heap z H locs → ∀ ls : Array Slot, lv_has ls 7 [(0, .ref (ad 14 100)), (3, .int v3)] → V_X12_comes_344 post (V_X12_comes_312 post n312x) z v3 → W p l e (rmq 2 0 0) s m args below meth c H locs 0 0 Q (F0 m 344 ls []) := by
        intro z v3 H locs hw ls hl h
        unfold V_X12_comes_344 at h
        refine lv_iconst (v := 0) hx hb dX12_comes_344 (by decide) ?_
        exact b345 z v3 (0 : Int32) H locs hw ls (lv_sub hl [0, 1] rfl) h
      intro z v2 v3 H locs hw ls hl h
      unfold V_X12_comes_312 at h
      refine lv_iload_n hx hb dX12_comes_312 rfl (lv_at hl 2 rfl) ?_
      refine lv_iconst (v := 4) hx hb dX12_comes_313 (by decide) ?_
      refine lv_icmp_ge (tgt := 352) hx hb dX12_comes_314 (by decide) (fun c2 => ?_) (fun c2 => ?_)
      · replace h := h.1 c2
        refine lv_iload_n hx hb dX12_comes_352 rfl (lv_at hl 1 rfl) ?_
        refine lv_if_ne (tgt := 358) hx hb dX12_comes_353 (by decide) (fun c3 => ?_) (fun c3 => ?_)
        · replace h := h.1 c3
          refine lv_bipush (v := 49) hx hb dX12_comes_358 (by decide) ?_
          refine lv_iconst (v := 4) hx hb dX12_comes_360 (by decide) ?_
          refine lv_aload_n hx hb dX12_comes_361 rfl (lv_at hl 0 rfl) ?_
          refine xgC E hw (c1 := 12) (t := (14, 2)) rfl ky_14_100 fo_12_2 rfl qf_12_16 dX12_comes_362 ?_
          refine lv_iconst (v := 4) hx hb dX12_comes_365 (by decide) ?_
          refine xalL (j := 4) E hw ky_14_2 ka_14_2 (by decide) (by decide) dX12_comes_366 ?_
          refine lv_imul hx hb dX12_comes_367 ?_
          refine lv_iadd hx hb dX12_comes_368 ?_
          refine lv_topi (fun t4 et4 => ?_)
          replace h := h t4 et4
          refine lv_istore_n (lv' := [(3, .int t4), (0, .ref (ad 14 100)), (2, .int v2)]) hx hb dX12_comes_369 rfl hl (by decide) rfl (fun ls hl => ?_)
          refine lv_iconst (v := 0) hx hb dX12_comes_370 (by decide) ?_
          refine lv_istore (lv' := [(4, .int (0 : Int32)), (3, .int t4), (0, .ref (ad 14 100)), (2, .int v2)]) hx hb dX12_comes_371 hl (by decide) rfl (fun ls hl => ?_)
          obtain ⟨n16, h⟩ := h
          exact b373 n16 z t4 (0 : Int32) H locs hw ls (lv_sub hl [2, 1, 0] rfl) h
        · replace h := h.2 c3
          refine lv_iconst (v := 0) hx hb dX12_comes_356 (by decide) ?_
          exact hret (0 : Int32) z H locs 357 ls hw rfl h dX12_comes_357
      · replace h := h.2 c2
        refine lv_iload_n hx hb dX12_comes_317 rfl (lv_at hl 1 rfl) ?_
        refine lv_if_eq (tgt := 344) hx hb dX12_comes_318 (by decide) (fun c17 => ?_) (fun c17 => ?_)
        · replace h := h.1 c17
          exact b344 z v3 H locs hw ls (lv_sub hl [0, 2] rfl) h
        · replace h := h.2 c17
          refine lv_aload_n hx hb dX12_comes_321 rfl (lv_at hl 0 rfl) ?_
          refine xgC E hw (c1 := 12) (t := (14, 15)) rfl ky_14_100 fo_12_15 rfl qf_12_37 dX12_comes_322 ?_
          refine lv_iload_n hx hb dX12_comes_325 rfl (lv_at hl 2 rfl) ?_
          obtain ⟨hi, h⟩ := h
          refine xal E hw ky_14_15 ka_14_15 hi dX12_comes_326 ?_
          refine lv_i2l hx hb dX12_comes_327 rfl ?_
          refine lv_ldc2 (v := -3000) hx hb hown (h0 _ ql_12_119) dX12_comes_328 ?_
          refine lv_ldc2 (v := 3000) hx hb hown (h0 _ ql_12_109) dX12_comes_331 ?_
          have hq := h
          clear h
          refine xcSI (As := [.long (Int32.toInt64 (zR z 14 15 (Int32.toNatClampNeg v3))), .long (-3000 : Int64), .long (3000 : Int64)]) (rest := []) E hw hA (c_X12_isIn l D ad cs sk z (Int32.toInt64 (zR z 14 15 (Int32.toNatClampNeg v3))) (-3000 : Int64) (3000 : Int64) _ hq) kc_12_56 yo_X12_isIn ⟨Nat.le_of_ble_eq_true rfl, Nat.le_of_ble_eq_true rfl⟩ rfl hl.1 rfl (Nat.le_of_ble_eq_true rfl) dX12_comes_334 ⟨Nat.le_of_ble_eq_true rfl, Nat.le_of_ble_eq_true rfl⟩ (fun r20 z19 H locs h hw => ?_)
          refine lv_if_eq (tgt := 344) hx hb dX12_comes_337 (by decide) (fun c21 => ?_) (fun c21 => ?_)
          · replace h := h.1 c21
            exact b344 z19 v3 H locs hw ls (lv_sub hl [0, 2] rfl) h
          · replace h := h.2 c21
            refine lv_iconst (v := 1) hx hb dX12_comes_340 (by decide) ?_
            refine lv_goto (tgt := 345) hx hb dX12_comes_341 (by decide) ?_
            exact b345 z19 v3 (1 : Int32) H locs hw ls (lv_sub hl [0, 2] rfl) h
  have b309 : ∀ (z : ZS) (s0 : Int32), ∀ (H : Heap) (locs : List Loc), OW D ad cs A s.heap z H locs → ∀ ls : Array Slot, lv_has ls 7 [(0, .ref (ad 14 100))] → V_X12_comes_309 post z s0 → W p l e (rmq 2 0 0) s m args below meth c H locs 0 0 Q (F0 m 309 ls [.int s0]) := by
    intro z s0 H locs hw ls hl h
    unfold V_X12_comes_309 at h
    refine lv_istore_n (lv' := [(2, .int s0), (0, .ref (ad 14 100))]) hx hb dX12_comes_309 rfl hl (by decide) rfl (fun ls hl => ?_)
    refine lv_iconst (v := 0) hx hb dX12_comes_310 (by decide) ?_
    refine lv_istore_n (lv' := [(3, .int (0 : Int32)), (2, .int s0), (0, .ref (ad 14 100))]) hx hb dX12_comes_311 rfl hl (by decide) rfl (fun ls hl => ?_)
    obtain ⟨n22, h⟩ := h
    exact b312 n22 z s0 (0 : Int32) H locs hw ls (lv_sub hl [2, 1, 0] rfl) h
  have b246 : ∀ (n : Nat) (z : ZS) (v2 : Int32), ∀ (H : Heap) (locs : List Loc), OW D ad cs A s.heap z H locs → ∀ ls : Array Slot, lv_has ls 7 [(0, .ref (ad 14 100)), (2, .int v2)] → V_X12_comes_246 post n z v2 → W p l e (rmq 2 0 0) s m args below meth c H locs 0 0 Q (F0 m 246 ls []) := by
    intro n
    induction n with
    | zero =>
      intro z v2 H locs hw ls hl h
      exact h.elim
    | succ n246x ih246 =>
      intro z v2 H locs hw ls hl h
      unfold V_X12_comes_246 at h
      refine lv_iload_n hx hb dX12_comes_246 rfl (lv_at hl 1 rfl) ?_
      refine lv_iconst (v := 3) hx hb dX12_comes_247 (by decide) ?_
      refine lv_icmp_ge (tgt := 281) hx hb dX12_comes_248 (by decide) (fun c42 => ?_) (fun c42 => ?_)
      · replace h := h.1 c42
        refine lv_aload_n hx hb dX12_comes_281 rfl (lv_at hl 0 rfl) ?_
        refine xgC E hw (c1 := 12) (t := (14, 2)) rfl ky_14_100 fo_12_2 rfl qf_12_16 dX12_comes_282 ?_
        refine lv_iconst (v := 3) hx hb dX12_comes_285 (by decide) ?_
        refine lv_dup2_11 hx hb dX12_comes_286 rfl rfl ?_
        refine xalL (j := 3) E hw ky_14_2 ka_14_2 (by decide) (by decide) dX12_comes_287 ?_
        refine lv_iconst (v := 1) hx hb dX12_comes_288 (by decide) ?_
        refine lv_iadd hx hb dX12_comes_289 ?_
        refine xasL (j := 3) E hw ky_14_2 ka_14_2 (by decide) (by decide) dX12_comes_290 (fun z43 ez43 H locs hw => ?_)
        replace h := h z43 ez43
        refine lv_iconst (v := 1) hx hb dX12_comes_291 (by decide) ?_
        exact hret (1 : Int32) z43 H locs 292 ls hw rfl h dX12_comes_292
      · replace h := h.2 c42
        refine lv_aload_n hx hb dX12_comes_251 rfl (lv_at hl 0 rfl) ?_
        refine xgC E hw (c1 := 12) (t := (14, 2)) rfl ky_14_100 fo_12_2 rfl qf_12_16 dX12_comes_252 ?_
        refine lv_bipush (v := 25) hx hb dX12_comes_255 (by decide) ?_
        refine lv_iconst (v := 3) hx hb dX12_comes_257 (by decide) ?_
        refine lv_aload_n hx hb dX12_comes_258 rfl (lv_at hl 0 rfl) ?_
        refine xgC E hw (c1 := 12) (t := (14, 2)) rfl ky_14_100 fo_12_2 rfl qf_12_16 dX12_comes_259 ?_
        refine lv_iconst (v := 3) hx hb dX12_comes_262 (by decide) ?_
        refine xalL (j := 3) E hw ky_14_2 ka_14_2 (by decide) (by decide) dX12_comes_263 ?_
        refine lv_imul hx hb dX12_comes_264 ?_
        refine lv_iadd hx hb dX12_comes_265 ?_
        refine lv_iload_n hx hb dX12_comes_266 rfl (lv_at hl 1 rfl) ?_
        refine lv_iadd hx hb dX12_comes_267 ?_
        refine lv_aload_n hx hb dX12_comes_268 rfl (lv_at hl 0 rfl) ?_
        refine xgC E hw (c1 := 12) (t := (14, 15)) rfl ky_14_100 fo_12_15 rfl qf_12_37 dX12_comes_269 ?_
        refine lv_iload_n hx hb dX12_comes_272 rfl (lv_at hl 1 rfl) ?_
        obtain ⟨hi, h⟩ := h
        refine xal E hw ky_14_15 ka_14_15 hi dX12_comes_273 ?_
        obtain ⟨hi, h⟩ := h
        refine xas E hw ky_14_2 ka_14_2 hi dX12_comes_274 (fun z44 ez44 H locs hw => ?_)
        replace h := h z44 ez44
        obtain ⟨t45, et45⟩ : ∃ y : Int32, y = v2 + (1 : Int32) := ⟨_, rfl⟩
        replace h := h t45 et45
        refine lv_iinc (v := t45) (lv' := [(2, .int t45), (0, .ref (ad 14 100))]) hx hb dX12_comes_275 hl (k := 1) rfl (by rw [et45]; rfl) (by decide) rfl (fun ls hl => ?_)
        refine lv_goto (tgt := 246) hx hb dX12_comes_278 (by decide) ?_
        exact ih246 z44 t45 H locs hw ls (lv_sub hl [1, 0] rfl) h
  have b00 : ∀ (H : Heap) (locs : List Loc), OW D ad cs A s.heap z H locs → W p l e (rmq 2 0 0) s m args below meth c H locs 0 0 Q (F0 m 0 ls []) := by
    intro H locs hw
    refine lv_iload_n hx hb dX12_comes_0 rfl (lv_at hl 1 rfl) ?_
    by_cases c23 : p1 = (97 : Int32)
    · replace h := h.1 c23
      refine lv_lookup (tgt := 153) (off := 152) hx hb dX12_comes_1 (by decide) (by rw [c23]; rfl) (by decide) ?_
      refine lv_aload_n hx hb dX12_comes_153 rfl (lv_at hl 0 rfl) ?_
      refine xgC E hw (c1 := 12) (t := (14, 2)) rfl ky_14_100 fo_12_2 rfl qf_12_16 dX12_comes_154 ?_
      refine lv_iconst (v := 1) hx hb dX12_comes_157 (by decide) ?_
      refine lv_aload_n hx hb dX12_comes_158 rfl (lv_at hl 0 rfl) ?_
      refine xgC E hw (c1 := 12) (t := (14, 15)) rfl ky_14_100 fo_12_15 rfl qf_12_37 dX12_comes_159 ?_
      refine lv_iconst (v := 0) hx hb dX12_comes_162 (by decide) ?_
      refine xalL (j := 0) E hw ky_14_15 ka_14_15 (by decide) (by decide) dX12_comes_163 ?_
      refine xasL (j := 1) E hw ky_14_2 ka_14_2 (by decide) (by decide) dX12_comes_164 (fun z47 ez47 H locs hw => ?_)
      replace h := h z47 ez47
      refine lv_aload_n hx hb dX12_comes_165 rfl (lv_at hl 0 rfl) ?_
      refine xgC E hw (c1 := 12) (t := (14, 2)) rfl ky_14_100 fo_12_2 rfl qf_12_16 dX12_comes_166 ?_
      refine lv_iconst (v := 2) hx hb dX12_comes_169 (by decide) ?_
      refine lv_aload_n hx hb dX12_comes_170 rfl (lv_at hl 0 rfl) ?_
      refine xgC E hw (c1 := 12) (t := (14, 15)) rfl ky_14_100 fo_12_15 rfl qf_12_37 dX12_comes_171 ?_
      refine lv_iconst (v := 1) hx hb dX12_comes_174 (by decide) ?_
      refine xalL (j := 1) E hw ky_14_15 ka_14_15 (by decide) (by decide) dX12_comes_175 ?_
      refine xasL (j := 2) E hw ky_14_2 ka_14_2 (by decide) (by decide) dX12_comes_176 (fun z48 ez48 H locs hw => ?_)
      replace h := h z48 ez48
      refine lv_iconst (v := 1) hx hb dX12_comes_177 (by decide) ?_
      refine lv_aload_n hx hb dX12_comes_178 rfl (lv_at hl 0 rfl) ?_
      refine xgC E hw (c1 := 12) (t := (14, 15)) rfl ky_14_100 fo_12_15 rfl qf_12_37 dX12_comes_179 ?_
      refine lv_iconst (v := 0) hx hb dX12_comes_182 (by decide) ?_
      refine xalL (j := 0) E hw ky_14_15 ka_14_15 (by decide) (by decide) dX12_comes_183 ?_
      have hq := h
      clear h
      refine xcSI (As := [.int (1 : Int32), .int (zR z48 14 15 0)]) (rest := []) E hw hA (c_X12_isValue l D ad cs sk z48 (1 : Int32) (zR z48 14 15 0) _ hq) kc_12_115 yo_X12_isValue ⟨Nat.le_of_ble_eq_true rfl, Nat.le_of_ble_eq_true rfl⟩ rfl hl.1 rfl (Nat.le_of_ble_eq_true rfl) dX12_comes_184 ⟨Nat.le_of_ble_eq_true rfl, Nat.le_of_ble_eq_true rfl⟩ (fun r50 z49 H locs h hw => ?_)
      refine lv_if_eq (tgt := 207) hx hb dX12_comes_187 (by decide) (fun c51 => ?_) (fun c51 => ?_)
      · replace h := h.1 c51
        refine lv_iconst (v := 0) hx hb dX12_comes_207 (by decide) ?_
        exact hret (0 : Int32) z49 H locs 208 ls hw rfl h dX12_comes_208
      · replace h := h.2 c51
        refine lv_iconst (v := 2) hx hb dX12_comes_190 (by decide) ?_
        refine lv_aload_n hx hb dX12_comes_191 rfl (lv_at hl 0 rfl) ?_
        refine xgC E hw (c1 := 12) (t := (14, 15)) rfl ky_14_100 fo_12_15 rfl qf_12_37 dX12_comes_192 ?_
        refine lv_iconst (v := 1) hx hb dX12_comes_195 (by decide) ?_
        refine xalL (j := 1) E hw ky_14_15 ka_14_15 (by decide) (by decide) dX12_comes_196 ?_
        have hq := h
        clear h
        refine xcSI (As := [.int (2 : Int32), .int (zR z49 14 15 1)]) (rest := []) E hw hA (c_X12_isValue l D ad cs sk z49 (2 : Int32) (zR z49 14 15 1) _ hq) kc_12_115 yo_X12_isValue ⟨Nat.le_of_ble_eq_true rfl, Nat.le_of_ble_eq_true rfl⟩ rfl hl.1 rfl (Nat.le_of_ble_eq_true rfl) dX12_comes_197 ⟨Nat.le_of_ble_eq_true rfl, Nat.le_of_ble_eq_true rfl⟩ (fun r53 z52 H locs h hw => ?_)
        refine lv_if_eq (tgt := 207) hx hb dX12_comes_200 (by decide) (fun c54 => ?_) (fun c54 => ?_)
        · replace h := h.1 c54
          refine lv_iconst (v := 0) hx hb dX12_comes_207 (by decide) ?_
          exact hret (0 : Int32) z52 H locs 208 ls hw rfl h dX12_comes_208
        · replace h := h.2 c54
          refine lv_iconst (v := 1) hx hb dX12_comes_203 (by decide) ?_
          refine lv_goto (tgt := 208) hx hb dX12_comes_204 (by decide) ?_
          exact hret (1 : Int32) z52 H locs 208 ls hw rfl h dX12_comes_208
    · replace h := h.2 c23
      by_cases c24 : p1 = (102 : Int32)
      · replace h := h.1 c24
        refine lv_lookup (tgt := 209) (off := 208) hx hb dX12_comes_1 (by decide) (by rw [c24]; rfl) (by decide) ?_
        refine lv_aload_n hx hb dX12_comes_209 rfl (lv_at hl 0 rfl) ?_
        refine xgC E hw (c1 := 12) (t := (14, 15)) rfl ky_14_100 fo_12_15 rfl qf_12_37 dX12_comes_210 ?_
        refine lv_iconst (v := 0) hx hb dX12_comes_213 (by decide) ?_
        refine xalL (j := 0) E hw ky_14_15 ka_14_15 (by decide) (by decide) dX12_comes_214 ?_
        refine lv_bipush (v := 7) hx hb dX12_comes_215 (by decide) ?_
        refine lv_icmp_gt (tgt := 242) hx hb dX12_comes_217 (by decide) (fun c39 => ?_) (fun c39 => ?_)
        · replace h := h.1 c39
          refine lv_iconst (v := 0) hx hb dX12_comes_242 (by decide) ?_
          exact hret (0 : Int32) z H locs 243 ls hw rfl h dX12_comes_243
        · replace h := h.2 c39
          refine lv_aload_n hx hb dX12_comes_220 rfl (lv_at hl 0 rfl) ?_
          refine xgC E hw (c1 := 12) (t := (14, 15)) rfl ky_14_100 fo_12_15 rfl qf_12_37 dX12_comes_221 ?_
          refine lv_iconst (v := 2) hx hb dX12_comes_224 (by decide) ?_
          refine xalL (j := 2) E hw ky_14_15 ka_14_15 (by decide) (by decide) dX12_comes_225 ?_
          refine lv_bipush (v := 20) hx hb dX12_comes_226 (by decide) ?_
          refine lv_icmp_gt (tgt := 242) hx hb dX12_comes_228 (by decide) (fun c40 => ?_) (fun c40 => ?_)
          · replace h := h.1 c40
            refine lv_iconst (v := 0) hx hb dX12_comes_242 (by decide) ?_
            exact hret (0 : Int32) z H locs 243 ls hw rfl h dX12_comes_243
          · replace h := h.2 c40
            refine lv_aload_n hx hb dX12_comes_231 rfl (lv_at hl 0 rfl) ?_
            refine xgC E hw (c1 := 12) (t := (14, 2)) rfl ky_14_100 fo_12_2 rfl qf_12_16 dX12_comes_232 ?_
            refine lv_iconst (v := 3) hx hb dX12_comes_235 (by decide) ?_
            refine xalL (j := 3) E hw ky_14_2 ka_14_2 (by decide) (by decide) dX12_comes_236 ?_
            refine lv_bipush (v := 8) hx hb dX12_comes_237 (by decide) ?_
            refine lv_icmp_ne (tgt := 244) hx hb dX12_comes_239 (by decide) (fun c41 => ?_) (fun c41 => ?_)
            · replace h := h.1 c41
              refine lv_iconst (v := 0) hx hb dX12_comes_244 (by decide) ?_
              refine lv_istore_n (lv' := [(2, .int (0 : Int32)), (0, .ref (ad 14 100)), (1, .int p1)]) hx hb dX12_comes_245 rfl hl (by decide) rfl (fun ls hl => ?_)
              obtain ⟨n46, h⟩ := h
              exact b246 n46 z (0 : Int32) H locs hw ls (lv_sub hl [1, 0] rfl) h
            · replace h := h.2 c41
              refine lv_iconst (v := 0) hx hb dX12_comes_242 (by decide) ?_
              exact hret (0 : Int32) z H locs 243 ls hw rfl h dX12_comes_243
      · replace h := h.2 c24
        by_cases c25 : p1 = (103 : Int32)
        · replace h := h.1 c25
          refine lv_lookup (tgt := 130) (off := 129) hx hb dX12_comes_1 (by decide) (by rw [c25]; rfl) (by decide) ?_
          refine lv_aload_n hx hb dX12_comes_130 rfl (lv_at hl 0 rfl) ?_
          refine xgC E hw (c1 := 12) (t := (14, 2)) rfl ky_14_100 fo_12_2 rfl qf_12_16 dX12_comes_131 ?_
          refine lv_iconst (v := 0) hx hb dX12_comes_134 (by decide) ?_
          refine lv_aload_n hx hb dX12_comes_135 rfl (lv_at hl 0 rfl) ?_
          refine xgC E hw (c1 := 12) (t := (14, 15)) rfl ky_14_100 fo_12_15 rfl qf_12_37 dX12_comes_136 ?_
          refine lv_iconst (v := 0) hx hb dX12_comes_139 (by decide) ?_
          refine xalL (j := 0) E hw ky_14_15 ka_14_15 (by decide) (by decide) dX12_comes_140 ?_
          refine xasL (j := 0) E hw ky_14_2 ka_14_2 (by decide) (by decide) dX12_comes_141 (fun z36 ez36 H locs hw => ?_)
          replace h := h z36 ez36
          refine lv_iconst (v := 0) hx hb dX12_comes_142 (by decide) ?_
          refine lv_aload_n hx hb dX12_comes_143 rfl (lv_at hl 0 rfl) ?_
          refine xgC E hw (c1 := 12) (t := (14, 15)) rfl ky_14_100 fo_12_15 rfl qf_12_37 dX12_comes_144 ?_
          refine lv_iconst (v := 0) hx hb dX12_comes_147 (by decide) ?_
          refine xalL (j := 0) E hw ky_14_15 ka_14_15 (by decide) (by decide) dX12_comes_148 ?_
          have hq := h
          clear h
          refine xcSI (As := [.int (0 : Int32), .int (zR z36 14 15 0)]) (rest := []) E hw hA (c_X12_isValue l D ad cs sk z36 (0 : Int32) (zR z36 14 15 0) _ hq) kc_12_115 yo_X12_isValue ⟨Nat.le_of_ble_eq_true rfl, Nat.le_of_ble_eq_true rfl⟩ rfl hl.1 rfl (Nat.le_of_ble_eq_true rfl) dX12_comes_149 ⟨Nat.le_of_ble_eq_true rfl, Nat.le_of_ble_eq_true rfl⟩ (fun r38 z37 H locs h hw => ?_)
          exact hret r38 z37 H locs 152 ls hw h.1 h.2 dX12_comes_152
        · replace h := h.2 c25
          by_cases c26 : p1 = (108 : Int32)
          · replace h := h.1 c26
            refine lv_lookup (tgt := 44) (off := 43) hx hb dX12_comes_1 (by decide) (by rw [c26]; rfl) (by decide) ?_
            refine lv_aload_n hx hb dX12_comes_44 rfl (lv_at hl 0 rfl) ?_
            refine xgC E hw (c1 := 12) (t := (14, 15)) rfl ky_14_100 fo_12_15 rfl qf_12_37 dX12_comes_45 ?_
            refine lv_iconst (v := 1) hx hb dX12_comes_48 (by decide) ?_
            refine xalL (j := 1) E hw ky_14_15 ka_14_15 (by decide) (by decide) dX12_comes_49 ?_
            refine lv_i2l hx hb dX12_comes_50 rfl ?_
            refine lv_ldc2 (v := -90) hx hb hown (h0 _ ql_12_111) dX12_comes_51 ?_
            refine lv_ldc2 (v := 90) hx hb hown (h0 _ ql_12_113) dX12_comes_54 ?_
            have hq := h
            clear h
            refine xcSI (As := [.long (Int32.toInt64 (zR z 14 15 1)), .long (-90 : Int64), .long (90 : Int64)]) (rest := []) E hw hA (c_X12_isIn l D ad cs sk z (Int32.toInt64 (zR z 14 15 1)) (-90 : Int64) (90 : Int64) _ hq) kc_12_56 yo_X12_isIn ⟨Nat.le_of_ble_eq_true rfl, Nat.le_of_ble_eq_true rfl⟩ rfl hl.1 rfl (Nat.le_of_ble_eq_true rfl) dX12_comes_57 ⟨Nat.le_of_ble_eq_true rfl, Nat.le_of_ble_eq_true rfl⟩ (fun r29 z28 H locs h hw => ?_)
            refine lv_if_eq (tgt := 82) hx hb dX12_comes_60 (by decide) (fun c30 => ?_) (fun c30 => ?_)
            · replace h := h.1 c30
              refine lv_iconst (v := 0) hx hb dX12_comes_82 (by decide) ?_
              exact hret (0 : Int32) z28 H locs 83 ls hw rfl h dX12_comes_83
            · replace h := h.2 c30
              refine lv_aload_n hx hb dX12_comes_63 rfl (lv_at hl 0 rfl) ?_
              refine xgC E hw (c1 := 12) (t := (14, 15)) rfl ky_14_100 fo_12_15 rfl qf_12_37 dX12_comes_64 ?_
              refine lv_iconst (v := 2) hx hb dX12_comes_67 (by decide) ?_
              refine xalL (j := 2) E hw ky_14_15 ka_14_15 (by decide) (by decide) dX12_comes_68 ?_
              refine lv_i2l hx hb dX12_comes_69 rfl ?_
              refine lv_ldc2 (v := -90) hx hb hown (h0 _ ql_12_111) dX12_comes_70 ?_
              refine lv_ldc2 (v := 90) hx hb hown (h0 _ ql_12_113) dX12_comes_73 ?_
              have hq := h
              clear h
              refine xcSI (As := [.long (Int32.toInt64 (zR z28 14 15 2)), .long (-90 : Int64), .long (90 : Int64)]) (rest := []) E hw hA (c_X12_isIn l D ad cs sk z28 (Int32.toInt64 (zR z28 14 15 2)) (-90 : Int64) (90 : Int64) _ hq) kc_12_56 yo_X12_isIn ⟨Nat.le_of_ble_eq_true rfl, Nat.le_of_ble_eq_true rfl⟩ rfl hl.1 rfl (Nat.le_of_ble_eq_true rfl) dX12_comes_76 ⟨Nat.le_of_ble_eq_true rfl, Nat.le_of_ble_eq_true rfl⟩ (fun r32 z31 H locs h hw => ?_)
              refine lv_if_ne (tgt := 84) hx hb dX12_comes_79 (by decide) (fun c33 => ?_) (fun c33 => ?_)
              · replace h := h.1 c33
                refine lv_aload_n hx hb dX12_comes_84 rfl (lv_at hl 0 rfl) ?_
                refine xgC E hw (c1 := 12) (t := (14, 2)) rfl ky_14_100 fo_12_2 rfl qf_12_16 dX12_comes_85 ?_
                refine lv_iconst (v := 5) hx hb dX12_comes_88 (by decide) ?_
                refine lv_iconst (v := 2) hx hb dX12_comes_89 (by decide) ?_
                refine lv_aload_n hx hb dX12_comes_90 rfl (lv_at hl 0 rfl) ?_
                refine xgC E hw (c1 := 12) (t := (14, 15)) rfl ky_14_100 fo_12_15 rfl qf_12_37 dX12_comes_91 ?_
                refine lv_iconst (v := 0) hx hb dX12_comes_94 (by decide) ?_
                refine xalL (j := 0) E hw ky_14_15 ka_14_15 (by decide) (by decide) dX12_comes_95 ?_
                refine lv_imul hx hb dX12_comes_96 ?_
                refine lv_iadd hx hb dX12_comes_97 ?_
                refine lv_aload_n hx hb dX12_comes_98 rfl (lv_at hl 0 rfl) ?_
                refine xgC E hw (c1 := 12) (t := (14, 15)) rfl ky_14_100 fo_12_15 rfl qf_12_37 dX12_comes_99 ?_
                refine lv_iconst (v := 1) hx hb dX12_comes_102 (by decide) ?_
                refine xalL (j := 1) E hw ky_14_15 ka_14_15 (by decide) (by decide) dX12_comes_103 ?_
                obtain ⟨hi, h⟩ := h
                refine xas E hw ky_14_2 ka_14_2 hi dX12_comes_104 (fun z34 ez34 H locs hw => ?_)
                replace h := h z34 ez34
                refine lv_aload_n hx hb dX12_comes_105 rfl (lv_at hl 0 rfl) ?_
                refine xgC E hw (c1 := 12) (t := (14, 2)) rfl ky_14_100 fo_12_2 rfl qf_12_16 dX12_comes_106 ?_
                refine lv_iconst (v := 5) hx hb dX12_comes_109 (by decide) ?_
                refine lv_iconst (v := 2) hx hb dX12_comes_110 (by decide) ?_
                refine lv_aload_n hx hb dX12_comes_111 rfl (lv_at hl 0 rfl) ?_
                refine xgC E hw (c1 := 12) (t := (14, 15)) rfl ky_14_100 fo_12_15 rfl qf_12_37 dX12_comes_112 ?_
                refine lv_iconst (v := 0) hx hb dX12_comes_115 (by decide) ?_
                refine xalL (j := 0) E hw ky_14_15 ka_14_15 (by decide) (by decide) dX12_comes_116 ?_
                refine lv_imul hx hb dX12_comes_117 ?_
                refine lv_iadd hx hb dX12_comes_118 ?_
                refine lv_iconst (v := 1) hx hb dX12_comes_119 (by decide) ?_
                refine lv_iadd hx hb dX12_comes_120 ?_
                refine lv_aload_n hx hb dX12_comes_121 rfl (lv_at hl 0 rfl) ?_
                refine xgC E hw (c1 := 12) (t := (14, 15)) rfl ky_14_100 fo_12_15 rfl qf_12_37 dX12_comes_122 ?_
                refine lv_iconst (v := 2) hx hb dX12_comes_125 (by decide) ?_
                refine xalL (j := 2) E hw ky_14_15 ka_14_15 (by decide) (by decide) dX12_comes_126 ?_
                obtain ⟨hi, h⟩ := h
                refine xas E hw ky_14_2 ka_14_2 hi dX12_comes_127 (fun z35 ez35 H locs hw => ?_)
                replace h := h z35 ez35
                refine lv_iconst (v := 1) hx hb dX12_comes_128 (by decide) ?_
                exact hret (1 : Int32) z35 H locs 129 ls hw rfl h dX12_comes_129
              · replace h := h.2 c33
                refine lv_iconst (v := 0) hx hb dX12_comes_82 (by decide) ?_
                exact hret (0 : Int32) z31 H locs 83 ls hw rfl h dX12_comes_83
          · replace h := h.2 c26
            refine lv_lookup (tgt := 293) (off := 292) hx hb dX12_comes_1 (by decide) (by rw [lv_osw c23 (by decide), lv_osw c24 (by decide), lv_osw c25 (by decide), lv_osw c26 (by decide)]; rfl) (by decide) ?_
            refine lv_aload_n hx hb dX12_comes_293 rfl (lv_at hl 0 rfl) ?_
            refine xgC E hw (c1 := 12) (t := (14, 2)) rfl ky_14_100 fo_12_2 rfl qf_12_16 dX12_comes_294 ?_
            refine lv_iconst (v := 4) hx hb dX12_comes_297 (by decide) ?_
            refine xalL (j := 4) E hw ky_14_2 ka_14_2 (by decide) (by decide) dX12_comes_298 ?_
            refine lv_bipush (v := 6) hx hb dX12_comes_299 (by decide) ?_
            refine lv_icmp_ge (tgt := 308) hx hb dX12_comes_301 (by decide) (fun c1 => ?_) (fun c1 => ?_)
            · replace h := h.1 c1
              refine lv_iconst (v := 0) hx hb dX12_comes_308 (by decide) ?_
              exact b309 z (0 : Int32) H locs hw ls (lv_sub hl [0] rfl) h
            · replace h := h.2 c1
              refine lv_iconst (v := 1) hx hb dX12_comes_304 (by decide) ?_
              refine lv_goto (tgt := 309) hx hb dX12_comes_305 (by decide) ?_
              exact b309 z (1 : Int32) H locs hw ls (lv_sub hl [0] rfl) h
  exact b00 s.heap [] hw
def V_X12_wrongRow_49 (post : Int32 → ZS → Prop) (z : ZS) : Prop := post (-12 : Int32) z
def V_X12_wrongRow (z : ZS) (p1 : Int32) (p2 : Int32) (post : Int32 → ZS → Prop) : Prop := V_X12_isShelf z p1 (fun r2 z1 => ((¬ r2 = 0 → (vp_in p1 8 ∧ ((¬ (zR z1 14 3 (Int32.toNatClampNeg p1)) = 0 → (vp_in p1 8 ∧ ((¬ (zR z1 14 3 (Int32.toNatClampNeg p1)) = (2 : Int32) → V_X12_wrongRow_49 post z1) ∧ ((zR z1 14 3 (Int32.toNatClampNeg p1)) = (2 : Int32) → ((p2 < 0 → post (0 : Int32) z1) ∧ (¬ p2 < 0 → (vp_in p1 8 ∧ (((zR z1 14 4 (Int32.toNatClampNeg p1)) = p2 → post (0 : Int32) z1) ∧ (¬ (zR z1 14 4 (Int32.toNatClampNeg p1)) = p2 → V_X12_wrongRow_49 post z1))))))))) ∧ ((zR z1 14 3 (Int32.toNatClampNeg p1)) = 0 → post (-11 : Int32) z1)))) ∧ (r2 = 0 → post (-1 : Int32) z1)))
set_option maxHeartbeats 4000000 in
set_option maxRecDepth 100000 in
theorem c_X12_wrongRow (l : Launch) (D : va_G) (ad : Nat → Nat → Nat) (cs : Nat → ClassId) (sk : (Nat → Nat) × (Nat → Nat)) (z : ZS) (p1 : Int32) (p2 : Int32) (post : Int32 → ZS → Prop) (h : V_X12_wrongRow z p1 p2 post) : MI l D ad cs sk yX12_wrongRow cX12_wrongRow 3 .int (rmq 2 0 0) [.ref (ad 14 100), .int p1, .int p2] z post := by
  refine MI.of RX12 rfl (by decide) (Nat.le_of_ble_eq_true rfl) ?_
  intro p e s m args below meth c A Q E hw hA hret ls hl
  have hx := E.1.1
  have hb := E.1.2.1
  have hml := E.1.2.2.1
  have hown := E.1.2.2.2.1
  have h0 := E.1.2.2.2.2
  have hl : lv_has ls 3 [(0, .ref (ad 14 100)), (1, .int p1), (2, .int p2)] := hl
  unfold V_X12_wrongRow at h
  have b49 : ∀ (z : ZS), ∀ (H : Heap) (locs : List Loc), OW D ad cs A s.heap z H locs → ∀ ls : Array Slot, lv_has ls 3 [] → V_X12_wrongRow_49 post z → W p l e (rmq 2 0 0) s m args below meth c H locs 0 0 Q (F0 m 49 ls []) := by
    intro z H locs hw ls hl h
    unfold V_X12_wrongRow_49 at h
    refine lv_bipush (v := -12) hx hb dX12_wrongRow_49 (by decide) ?_
    refine lv_goto (tgt := 55) hx hb dX12_wrongRow_51 (by decide) ?_
    exact hret (-12 : Int32) z H locs 55 ls hw rfl h dX12_wrongRow_55
  have b00 : ∀ (H : Heap) (locs : List Loc), OW D ad cs A s.heap z H locs → W p l e (rmq 2 0 0) s m args below meth c H locs 0 0 Q (F0 m 0 ls []) := by
    intro H locs hw
    refine lv_iload_n hx hb dX12_wrongRow_0 rfl (lv_at hl 1 rfl) ?_
    have hq := h
    clear h
    refine xcSI (As := [.int p1]) (rest := []) E hw hA (c_X12_isShelf l D ad cs sk z p1 _ hq) kc_12_125 yo_X12_isShelf ⟨Nat.le_of_ble_eq_true rfl, Nat.le_of_ble_eq_true rfl⟩ rfl hl.1 rfl (Nat.le_of_ble_eq_true rfl) dX12_wrongRow_1 ⟨Nat.le_of_ble_eq_true rfl, Nat.le_of_ble_eq_true rfl⟩ (fun r2 z1 H locs h hw => ?_)
    refine lv_if_ne (tgt := 11) hx hb dX12_wrongRow_4 (by decide) (fun c3 => ?_) (fun c3 => ?_)
    · replace h := h.1 c3
      refine lv_aload_n hx hb dX12_wrongRow_11 rfl (lv_at hl 0 rfl) ?_
      refine xgC E hw (c1 := 12) (t := (14, 3)) rfl ky_14_100 fo_12_3 rfl qf_12_19 dX12_wrongRow_12 ?_
      refine lv_iload_n hx hb dX12_wrongRow_15 rfl (lv_at hl 1 rfl) ?_
      obtain ⟨hi, h⟩ := h
      refine xal E hw ky_14_3 ka_14_3 hi dX12_wrongRow_16 ?_
      refine lv_if_ne (tgt := 25) hx hb dX12_wrongRow_17 (by decide) (fun c4 => ?_) (fun c4 => ?_)
      · replace h := h.1 c4
        refine lv_aload_n hx hb dX12_wrongRow_25 rfl (lv_at hl 0 rfl) ?_
        refine xgC E hw (c1 := 12) (t := (14, 3)) rfl ky_14_100 fo_12_3 rfl qf_12_19 dX12_wrongRow_26 ?_
        refine lv_iload_n hx hb dX12_wrongRow_29 rfl (lv_at hl 1 rfl) ?_
        obtain ⟨hi, h⟩ := h
        refine xal E hw ky_14_3 ka_14_3 hi dX12_wrongRow_30 ?_
        refine lv_iconst (v := 2) hx hb dX12_wrongRow_31 (by decide) ?_
        refine lv_icmp_ne (tgt := 49) hx hb dX12_wrongRow_32 (by decide) (fun c5 => ?_) (fun c5 => ?_)
        · replace h := h.1 c5
          exact b49 z1 H locs hw ls (lv_sub hl [] rfl) h
        · replace h := h.2 c5
          refine lv_iload_n hx hb dX12_wrongRow_35 rfl (lv_at hl 2 rfl) ?_
          refine lv_if_lt (tgt := 54) hx hb dX12_wrongRow_36 (by decide) (fun c6 => ?_) (fun c6 => ?_)
          · replace h := h.1 c6
            refine lv_iconst (v := 0) hx hb dX12_wrongRow_54 (by decide) ?_
            exact hret (0 : Int32) z1 H locs 55 ls hw rfl h dX12_wrongRow_55
          · replace h := h.2 c6
            refine lv_aload_n hx hb dX12_wrongRow_39 rfl (lv_at hl 0 rfl) ?_
            refine xgC E hw (c1 := 12) (t := (14, 4)) rfl ky_14_100 fo_12_4 rfl qf_12_22 dX12_wrongRow_40 ?_
            refine lv_iload_n hx hb dX12_wrongRow_43 rfl (lv_at hl 1 rfl) ?_
            obtain ⟨hi, h⟩ := h
            refine xal E hw ky_14_4 ka_14_4 hi dX12_wrongRow_44 ?_
            refine lv_iload_n hx hb dX12_wrongRow_45 rfl (lv_at hl 2 rfl) ?_
            refine lv_icmp_eq (tgt := 54) hx hb dX12_wrongRow_46 (by decide) (fun c7 => ?_) (fun c7 => ?_)
            · replace h := h.1 c7
              refine lv_iconst (v := 0) hx hb dX12_wrongRow_54 (by decide) ?_
              exact hret (0 : Int32) z1 H locs 55 ls hw rfl h dX12_wrongRow_55
            · replace h := h.2 c7
              exact b49 z1 H locs hw ls (lv_sub hl [] rfl) h
      · replace h := h.2 c4
        refine lv_bipush (v := -11) hx hb dX12_wrongRow_20 (by decide) ?_
        refine lv_goto (tgt := 55) hx hb dX12_wrongRow_22 (by decide) ?_
        exact hret (-11 : Int32) z1 H locs 55 ls hw rfl h dX12_wrongRow_55
    · replace h := h.2 c3
      refine lv_iconst (v := -1) hx hb dX12_wrongRow_7 (by decide) ?_
      refine lv_goto (tgt := 55) hx hb dX12_wrongRow_8 (by decide) ?_
      exact hret (-1 : Int32) z1 H locs 55 ls hw rfl h dX12_wrongRow_55
  exact b00 s.heap [] hw
def V_X12_air_154 (post : Int32 → ZS → Prop) : Nat → ZS → Int32 → Int32 → Prop
  | 0, _, _, _ => False
  | (n + 1), z, v3, v4 => (((73 : Int32) ≤ v4 → post v3 z) ∧ (¬ (73 : Int32) ≤ v4 → (vp_in v4 73 ∧ (vp_in v4 73 ∧ ∀ z16 : ZS, z16 = wR z 14 0 (Int32.toNatClampNeg v4) (zR z 14 2 (Int32.toNatClampNeg v4)) → (∀ t17 : Int32, t17 = v4 + (1 : Int32) → (V_X12_air_154 post n) z16 v3 t17)))))
def V_X12_air_103 (post : Int32 → ZS → Prop) : Nat → ZS → Int32 → Prop
  | 0, _, _ => False
  | (n + 1), z, v3 => (((zI z 14 13) ≤ (zI z 14 11) → (∃ n18 : Nat, V_X12_air_154 post n18 z v3 (0 : Int32))) ∧ (¬ (zI z 14 13) ≤ (zI z 14 11) → (∀ t19 : Int32, t19 = (zI z 14 11) → V_X12_here z (fun r21 z20 => V_X12_readsStatement z20 (fun r23 z22 => V_X12_comes z22 r21 (fun r25 z24 => ((¬ r25 = 0 → (V_X12_air_103 post n) z24 v3) ∧ (r25 = 0 → post ((-2000 : Int32) - t19) z24))))))))
def V_X12_air_71 (post : Int32 → ZS → Prop) : Nat → ZS → Int32 → Int32 → Prop
  | 0, _, _, _ => False
  | (n + 1), z, v3, v4 => (((73 : Int32) ≤ v4 → (∀ z13 : ZS, z13 = wI z 14 11 (0 : Int32) → (∃ n27 : Nat, V_X12_air_103 post n27 z13 v3))) ∧ (¬ (73 : Int32) ≤ v4 → (vp_in v4 73 ∧ (vp_in v4 73 ∧ ∀ z28 : ZS, z28 = wR z 14 2 (Int32.toNatClampNeg v4) (zR z 14 0 (Int32.toNatClampNeg v4)) → (∀ t29 : Int32, t29 = v4 + (1 : Int32) → (V_X12_air_71 post n) z28 v3 t29)))))
def V_X12_air_38 (post : Int32 → ZS → Prop) : Nat → ZS → Int32 → Prop
  | 0, _, _ => False
  | (n + 1), z, v3 => V_X12_readsStatement z (fun r8 z7 => ((¬ r8 = 0 → (∀ t10 : Int32, t10 = v3 + (1 : Int32) → (((zI z7 14 11) < (zI z7 14 13) → (V_X12_air_38 post n) z7 t10) ∧ (¬ (zI z7 14 11) < (zI z7 14 13) → (∃ n30 : Nat, V_X12_air_71 post n30 z7 t10 (0 : Int32)))))) ∧ (r8 = 0 → post ((-1000 : Int32) - (zI z7 14 11)) z7)))
def V_X12_air (z : ZS) (p1 : Int32) (post : Int32 → ZS → Prop) : Prop := V_X12_wrongRow z p1 (0 : Int32) (fun r2 z1 => ((r2 = 0 → (∀ z4 : ZS, z4 = wI z1 14 12 ((100 : Int32) * p1) → (vp_in p1 8 ∧ (∀ z5 : ZS, z5 = wI z4 14 13 (zR z4 14 5 (Int32.toNatClampNeg p1)) → (∀ z6 : ZS, z6 = wI z5 14 11 (0 : Int32) → (∃ n31 : Nat, V_X12_air_38 post n31 z6 (0 : Int32))))))) ∧ (¬ r2 = 0 → post r2 z1)))
set_option maxHeartbeats 4000000 in
set_option maxRecDepth 100000 in
theorem c_X12_air (l : Launch) (D : va_G) (ad : Nat → Nat → Nat) (cs : Nat → ClassId) (sk : (Nat → Nat) × (Nat → Nat)) (z : ZS) (p1 : Int32) (post : Int32 → ZS → Prop) (h : V_X12_air z p1 post) : MI l D ad cs sk yX12_air cX12_air 7 .int (rmq 6 0 0) [.ref (ad 14 100), .int p1] z post := by
  refine MI.of RX12 rfl (by decide) (Nat.le_of_ble_eq_true rfl) ?_
  intro p e s m args below meth c A Q E hw hA hret ls hl
  have hx := E.1.1
  have hb := E.1.2.1
  have hml := E.1.2.2.1
  have hown := E.1.2.2.2.1
  have h0 := E.1.2.2.2.2
  have hl : lv_has ls 7 [(0, .ref (ad 14 100)), (1, .int p1)] := hl
  unfold V_X12_air at h
  have b154 : ∀ (n : Nat) (z : ZS) (v3 : Int32) (v4 : Int32), ∀ (H : Heap) (locs : List Loc), OW D ad cs A s.heap z H locs → ∀ ls : Array Slot, lv_has ls 7 [(0, .ref (ad 14 100)), (3, .int v3), (4, .int v4)] → V_X12_air_154 post n z v3 v4 → W p l e (rmq 6 0 0) s m args below meth c H locs 0 0 Q (F0 m 154 ls []) := by
    intro n
    induction n with
    | zero =>
      intro z v3 v4 H locs hw ls hl h
      exact h.elim
    | succ n154x ih154 =>
      intro z v3 v4 H locs hw ls hl h
      unfold V_X12_air_154 at h
      refine lv_iload hx hb dX12_air_154 (lv_at hl 2 rfl) ?_
      refine lv_bipush (v := 73) hx hb dX12_air_156 (by decide) ?_
      refine lv_icmp_ge (tgt := 181) hx hb dX12_air_158 (by decide) (fun c15 => ?_) (fun c15 => ?_)
      · replace h := h.1 c15
        refine lv_iload_n hx hb dX12_air_181 rfl (lv_at hl 1 rfl) ?_
        exact hret v3 z H locs 182 ls hw rfl h dX12_air_182
      · replace h := h.2 c15
        refine lv_aload_n hx hb dX12_air_161 rfl (lv_at hl 0 rfl) ?_
        refine xgC E hw (c1 := 12) (t := (14, 0)) rfl ky_14_100 fo_12_0 rfl qf_12_9 dX12_air_162 ?_
        refine lv_iload hx hb dX12_air_165 (lv_at hl 2 rfl) ?_
        refine lv_aload_n hx hb dX12_air_167 rfl (lv_at hl 0 rfl) ?_
        refine xgC E hw (c1 := 12) (t := (14, 2)) rfl ky_14_100 fo_12_2 rfl qf_12_16 dX12_air_168 ?_
        refine lv_iload hx hb dX12_air_171 (lv_at hl 2 rfl) ?_
        obtain ⟨hi, h⟩ := h
        refine xal E hw ky_14_2 ka_14_2 hi dX12_air_173 ?_
        obtain ⟨hi, h⟩ := h
        refine xas E hw ky_14_0 ka_14_0 hi dX12_air_174 (fun z16 ez16 H locs hw => ?_)
        replace h := h z16 ez16
        obtain ⟨t17, et17⟩ : ∃ y : Int32, y = v4 + (1 : Int32) := ⟨_, rfl⟩
        replace h := h t17 et17
        refine lv_iinc (v := t17) (lv' := [(4, .int t17), (0, .ref (ad 14 100)), (3, .int v3)]) hx hb dX12_air_175 hl (k := 2) rfl (by rw [et17]; rfl) (by decide) rfl (fun ls hl => ?_)
        refine lv_goto (tgt := 154) hx hb dX12_air_178 (by decide) ?_
        exact ih154 z16 v3 t17 H locs hw ls (lv_sub hl [1, 2, 0] rfl) h
  have b103 : ∀ (n : Nat) (z : ZS) (v3 : Int32), ∀ (H : Heap) (locs : List Loc), OW D ad cs A s.heap z H locs → ∀ ls : Array Slot, lv_has ls 7 [(0, .ref (ad 14 100)), (3, .int v3)] → V_X12_air_103 post n z v3 → W p l e (rmq 6 0 0) s m args below meth c H locs 0 0 Q (F0 m 103 ls []) := by
    intro n
    induction n with
    | zero =>
      intro z v3 H locs hw ls hl h
      exact h.elim
    | succ n103x ih103 =>
      intro z v3 H locs hw ls hl h
      unfold V_X12_air_103 at h
      refine lv_aload_n hx hb dX12_air_103 rfl (lv_at hl 0 rfl) ?_
      refine xgI E hw (c1 := 12) rfl ky_14_100 fo_12_11 qf_12_66 dX12_air_104 ?_
      refine lv_aload_n hx hb dX12_air_107 rfl (lv_at hl 0 rfl) ?_
      refine xgI E hw (c1 := 12) rfl ky_14_100 fo_12_13 qf_12_69 dX12_air_108 ?_
      refine lv_icmp_ge (tgt := 151) hx hb dX12_air_111 (by decide) (fun c14 => ?_) (fun c14 => ?_)
      · replace h := h.1 c14
        refine lv_iconst (v := 0) hx hb dX12_air_151 (by decide) ?_
        refine lv_istore (lv' := [(4, .int (0 : Int32)), (0, .ref (ad 14 100)), (3, .int v3)]) hx hb dX12_air_152 hl (by decide) rfl (fun ls hl => ?_)
        obtain ⟨n18, h⟩ := h
        exact b154 n18 z v3 (0 : Int32) H locs hw ls (lv_sub hl [1, 2, 0] rfl) h
      · replace h := h.2 c14
        refine lv_aload_n hx hb dX12_air_114 rfl (lv_at hl 0 rfl) ?_
        refine xgI E hw (c1 := 12) rfl ky_14_100 fo_12_11 qf_12_66 dX12_air_115 ?_
        refine lv_topi (fun t19 et19 => ?_)
        replace h := h t19 et19
        refine lv_istore (lv' := [(4, .int t19), (0, .ref (ad 14 100)), (3, .int v3)]) hx hb dX12_air_118 hl (by decide) rfl (fun ls hl => ?_)
        refine lv_aload_n hx hb dX12_air_120 rfl (lv_at hl 1 rfl) ?_
        have hq := h
        clear h
        refine xcVI (As := []) (rest := []) E hw hA (c_X12_here l D ad cs sk z _ hq) kc_12_75 yo_X12_here ⟨Nat.le_of_ble_eq_true rfl, Nat.le_of_ble_eq_true rfl⟩ (xrc E hw ky_14_100 rfl) rfl hl.1 rfl (Nat.le_of_ble_eq_true rfl) dX12_air_121 ⟨Nat.le_of_ble_eq_true rfl, Nat.le_of_ble_eq_true rfl⟩ (fun r21 z20 H locs h hw => ?_)
        refine lv_istore (lv' := [(5, .int r21), (4, .int t19), (0, .ref (ad 14 100)), (3, .int v3)]) hx hb dX12_air_124 hl (by decide) rfl (fun ls hl => ?_)
        refine lv_aload_n hx hb dX12_air_126 rfl (lv_at hl 2 rfl) ?_
        have hq := h
        clear h
        refine xcVI (As := []) (rest := []) E hw hA (c_X12_readsStatement l D ad cs sk z20 _ hq) kc_12_131 yo_X12_readsStatement ⟨Nat.le_of_ble_eq_true rfl, Nat.le_of_ble_eq_true rfl⟩ (xrc E hw ky_14_100 rfl) rfl hl.1 rfl (Nat.le_of_ble_eq_true rfl) dX12_air_127 ⟨Nat.le_of_ble_eq_true rfl, Nat.le_of_ble_eq_true rfl⟩ (fun r23 z22 H locs h hw => ?_)
        refine lv_istore (lv' := [(6, .int r23), (5, .int r21), (4, .int t19), (0, .ref (ad 14 100)), (3, .int v3)]) hx hb dX12_air_130 hl (by decide) rfl (fun ls hl => ?_)
        refine lv_aload_n hx hb dX12_air_132 rfl (lv_at hl 3 rfl) ?_
        refine lv_iload hx hb dX12_air_133 (lv_at hl 1 rfl) ?_
        have hq := h
        clear h
        refine xcVI (As := [.int r21]) (rest := []) E hw hA (c_X12_comes l D ad cs sk z22 r21 _ hq) kc_12_134 yo_X12_comes ⟨Nat.le_of_ble_eq_true rfl, Nat.le_of_ble_eq_true rfl⟩ (xrc E hw ky_14_100 rfl) rfl hl.1 rfl (Nat.le_of_ble_eq_true rfl) dX12_air_135 ⟨Nat.le_of_ble_eq_true rfl, Nat.le_of_ble_eq_true rfl⟩ (fun r25 z24 H locs h hw => ?_)
        refine lv_if_ne (tgt := 148) hx hb dX12_air_138 (by decide) (fun c26 => ?_) (fun c26 => ?_)
        · replace h := h.1 c26
          refine lv_goto (tgt := 103) hx hb dX12_air_148 (by decide) ?_
          exact ih103 z24 v3 H locs hw ls (lv_sub hl [3, 4] rfl) h
        · replace h := h.2 c26
          refine lv_sipush (v := -2000) hx hb dX12_air_141 (by decide) ?_
          refine lv_iload hx hb dX12_air_144 (lv_at hl 2 rfl) ?_
          refine lv_isub hx hb dX12_air_146 ?_
          exact hret ((-2000 : Int32) - t19) z24 H locs 147 ls hw rfl h dX12_air_147
  have b71 : ∀ (n : Nat) (z : ZS) (v3 : Int32) (v4 : Int32), ∀ (H : Heap) (locs : List Loc), OW D ad cs A s.heap z H locs → ∀ ls : Array Slot, lv_has ls 7 [(0, .ref (ad 14 100)), (3, .int v3), (4, .int v4)] → V_X12_air_71 post n z v3 v4 → W p l e (rmq 6 0 0) s m args below meth c H locs 0 0 Q (F0 m 71 ls []) := by
    intro n
    induction n with
    | zero =>
      intro z v3 v4 H locs hw ls hl h
      exact h.elim
    | succ n71x ih71 =>
      intro z v3 v4 H locs hw ls hl h
      unfold V_X12_air_71 at h
      refine lv_iload hx hb dX12_air_71 (lv_at hl 2 rfl) ?_
      refine lv_bipush (v := 73) hx hb dX12_air_73 (by decide) ?_
      refine lv_icmp_ge (tgt := 98) hx hb dX12_air_75 (by decide) (fun c12 => ?_) (fun c12 => ?_)
      · replace h := h.1 c12
        refine lv_aload_n hx hb dX12_air_98 rfl (lv_at hl 0 rfl) ?_
        refine lv_iconst (v := 0) hx hb dX12_air_99 (by decide) ?_
        refine xpI E hw (c1 := 12) rfl ky_14_100 fp_12_11 rfl rfl qf_12_66 dX12_air_100 (fun z13 ez13 H locs hw => ?_)
        replace h := h z13 ez13
        obtain ⟨n27, h⟩ := h
        exact b103 n27 z13 v3 H locs hw ls (lv_sub hl [0, 1] rfl) h
      · replace h := h.2 c12
        refine lv_aload_n hx hb dX12_air_78 rfl (lv_at hl 0 rfl) ?_
        refine xgC E hw (c1 := 12) (t := (14, 2)) rfl ky_14_100 fo_12_2 rfl qf_12_16 dX12_air_79 ?_
        refine lv_iload hx hb dX12_air_82 (lv_at hl 2 rfl) ?_
        refine lv_aload_n hx hb dX12_air_84 rfl (lv_at hl 0 rfl) ?_
        refine xgC E hw (c1 := 12) (t := (14, 0)) rfl ky_14_100 fo_12_0 rfl qf_12_9 dX12_air_85 ?_
        refine lv_iload hx hb dX12_air_88 (lv_at hl 2 rfl) ?_
        obtain ⟨hi, h⟩ := h
        refine xal E hw ky_14_0 ka_14_0 hi dX12_air_90 ?_
        obtain ⟨hi, h⟩ := h
        refine xas E hw ky_14_2 ka_14_2 hi dX12_air_91 (fun z28 ez28 H locs hw => ?_)
        replace h := h z28 ez28
        obtain ⟨t29, et29⟩ : ∃ y : Int32, y = v4 + (1 : Int32) := ⟨_, rfl⟩
        replace h := h t29 et29
        refine lv_iinc (v := t29) (lv' := [(4, .int t29), (0, .ref (ad 14 100)), (3, .int v3)]) hx hb dX12_air_92 hl (k := 2) rfl (by rw [et29]; rfl) (by decide) rfl (fun ls hl => ?_)
        refine lv_goto (tgt := 71) hx hb dX12_air_95 (by decide) ?_
        exact ih71 z28 v3 t29 H locs hw ls (lv_sub hl [1, 2, 0] rfl) h
  have b38 : ∀ (n : Nat) (z : ZS) (v3 : Int32), ∀ (H : Heap) (locs : List Loc), OW D ad cs A s.heap z H locs → ∀ ls : Array Slot, lv_has ls 7 [(0, .ref (ad 14 100)), (3, .int v3)] → V_X12_air_38 post n z v3 → W p l e (rmq 6 0 0) s m args below meth c H locs 0 0 Q (F0 m 38 ls []) := by
    intro n
    induction n with
    | zero =>
      intro z v3 H locs hw ls hl h
      exact h.elim
    | succ n38x ih38 =>
      intro z v3 H locs hw ls hl h
      unfold V_X12_air_38 at h
      refine lv_aload_n hx hb dX12_air_38 rfl (lv_at hl 0 rfl) ?_
      have hq := h
      clear h
      refine xcVI (As := []) (rest := []) E hw hA (c_X12_readsStatement l D ad cs sk z _ hq) kc_12_131 yo_X12_readsStatement ⟨Nat.le_of_ble_eq_true rfl, Nat.le_of_ble_eq_true rfl⟩ (xrc E hw ky_14_100 rfl) rfl hl.1 rfl (Nat.le_of_ble_eq_true rfl) dX12_air_39 ⟨Nat.le_of_ble_eq_true rfl, Nat.le_of_ble_eq_true rfl⟩ (fun r8 z7 H locs h hw => ?_)
      refine lv_if_ne (tgt := 54) hx hb dX12_air_42 (by decide) (fun c9 => ?_) (fun c9 => ?_)
      · replace h := h.1 c9
        obtain ⟨t10, et10⟩ : ∃ y : Int32, y = v3 + (1 : Int32) := ⟨_, rfl⟩
        replace h := h t10 et10
        refine lv_iinc (v := t10) (lv' := [(3, .int t10), (0, .ref (ad 14 100))]) hx hb dX12_air_54 hl (k := 1) rfl (by rw [et10]; rfl) (by decide) rfl (fun ls hl => ?_)
        refine lv_aload_n hx hb dX12_air_57 rfl (lv_at hl 1 rfl) ?_
        refine xgI E hw (c1 := 12) rfl ky_14_100 fo_12_11 qf_12_66 dX12_air_58 ?_
        refine lv_aload_n hx hb dX12_air_61 rfl (lv_at hl 1 rfl) ?_
        refine xgI E hw (c1 := 12) rfl ky_14_100 fo_12_13 qf_12_69 dX12_air_62 ?_
        refine lv_icmp_lt (tgt := 38) hx hb dX12_air_65 (by decide) (fun c11 => ?_) (fun c11 => ?_)
        · replace h := h.1 c11
          exact ih38 z7 t10 H locs hw ls (lv_sub hl [1, 0] rfl) h
        · replace h := h.2 c11
          refine lv_iconst (v := 0) hx hb dX12_air_68 (by decide) ?_
          refine lv_istore (lv' := [(4, .int (0 : Int32)), (3, .int t10), (0, .ref (ad 14 100))]) hx hb dX12_air_69 hl (by decide) rfl (fun ls hl => ?_)
          obtain ⟨n30, h⟩ := h
          exact b71 n30 z7 t10 (0 : Int32) H locs hw ls (lv_sub hl [2, 1, 0] rfl) h
      · replace h := h.2 c9
        refine lv_sipush (v := -1000) hx hb dX12_air_45 (by decide) ?_
        refine lv_aload_n hx hb dX12_air_48 rfl (lv_at hl 0 rfl) ?_
        refine xgI E hw (c1 := 12) rfl ky_14_100 fo_12_11 qf_12_66 dX12_air_49 ?_
        refine lv_isub hx hb dX12_air_52 ?_
        exact hret ((-1000 : Int32) - (zI z7 14 11)) z7 H locs 53 ls hw rfl h dX12_air_53
  have b00 : ∀ (H : Heap) (locs : List Loc), OW D ad cs A s.heap z H locs → W p l e (rmq 6 0 0) s m args below meth c H locs 0 0 Q (F0 m 0 ls []) := by
    intro H locs hw
    refine lv_aload_n hx hb dX12_air_0 rfl (lv_at hl 0 rfl) ?_
    refine lv_iload_n hx hb dX12_air_1 rfl (lv_at hl 1 rfl) ?_
    refine lv_iconst (v := 0) hx hb dX12_air_2 (by decide) ?_
    have hq := h
    clear h
    refine xcVI (As := [.int p1, .int (0 : Int32)]) (rest := []) E hw hA (c_X12_wrongRow l D ad cs sk z p1 (0 : Int32) _ hq) kc_12_128 yo_X12_wrongRow ⟨Nat.le_of_ble_eq_true rfl, Nat.le_of_ble_eq_true rfl⟩ (xrc E hw ky_14_100 rfl) rfl hl.1 rfl (Nat.le_of_ble_eq_true rfl) dX12_air_3 ⟨Nat.le_of_ble_eq_true rfl, Nat.le_of_ble_eq_true rfl⟩ (fun r2 z1 H locs h hw => ?_)
    refine lv_istore_n (lv' := [(2, .int r2), (0, .ref (ad 14 100)), (1, .int p1)]) hx hb dX12_air_6 rfl hl (by decide) rfl (fun ls hl => ?_)
    refine lv_iload_n hx hb dX12_air_7 rfl (lv_at hl 0 rfl) ?_
    refine lv_if_eq (tgt := 13) hx hb dX12_air_8 (by decide) (fun c3 => ?_) (fun c3 => ?_)
    · replace h := h.1 c3
      refine lv_aload_n hx hb dX12_air_13 rfl (lv_at hl 1 rfl) ?_
      refine lv_bipush (v := 100) hx hb dX12_air_14 (by decide) ?_
      refine lv_iload_n hx hb dX12_air_16 rfl (lv_at hl 2 rfl) ?_
      refine lv_imul hx hb dX12_air_17 ?_
      refine xpI E hw (c1 := 12) rfl ky_14_100 fp_12_12 rfl rfl qf_12_72 dX12_air_18 (fun z4 ez4 H locs hw => ?_)
      replace h := h z4 ez4
      refine lv_aload_n hx hb dX12_air_21 rfl (lv_at hl 1 rfl) ?_
      refine lv_aload_n hx hb dX12_air_22 rfl (lv_at hl 1 rfl) ?_
      refine xgC E hw (c1 := 12) (t := (14, 5)) rfl ky_14_100 fo_12_5 rfl qf_12_25 dX12_air_23 ?_
      refine lv_iload_n hx hb dX12_air_26 rfl (lv_at hl 2 rfl) ?_
      obtain ⟨hi, h⟩ := h
      refine xal E hw ky_14_5 ka_14_5 hi dX12_air_27 ?_
      refine xpI E hw (c1 := 12) rfl ky_14_100 fp_12_13 rfl rfl qf_12_69 dX12_air_28 (fun z5 ez5 H locs hw => ?_)
      replace h := h z5 ez5
      refine lv_aload_n hx hb dX12_air_31 rfl (lv_at hl 1 rfl) ?_
      refine lv_iconst (v := 0) hx hb dX12_air_32 (by decide) ?_
      refine xpI E hw (c1 := 12) rfl ky_14_100 fp_12_11 rfl rfl qf_12_66 dX12_air_33 (fun z6 ez6 H locs hw => ?_)
      replace h := h z6 ez6
      refine lv_iconst (v := 0) hx hb dX12_air_36 (by decide) ?_
      refine lv_istore_n (lv' := [(3, .int (0 : Int32)), (2, .int r2), (0, .ref (ad 14 100)), (1, .int p1)]) hx hb dX12_air_37 rfl hl (by decide) rfl (fun ls hl => ?_)
      obtain ⟨n31, h⟩ := h
      exact b38 n31 z6 (0 : Int32) H locs hw ls (lv_sub hl [2, 0] rfl) h
    · replace h := h.2 c3
      refine lv_iload_n hx hb dX12_air_11 rfl (lv_at hl 0 rfl) ?_
      exact hret r2 z1 H locs 12 ls hw rfl h dX12_air_12
  exact b00 s.heap [] hw
