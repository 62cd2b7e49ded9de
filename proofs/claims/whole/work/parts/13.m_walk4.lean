def V_X12_steers (z : ZS) (p1 : Int32) (p2 : Int32) (p3 : Int32) (p4 : Int32) (p5 : Int32) (post : Int32 → ZS → Prop) : Prop := V_X12_isFaller z p1 (fun r2 z1 => ((r2 = 0 → post (-1000000001 : Int32) z1) ∧ (¬ r2 = 0 → V_X12_isEdge z1 p2 (fun r5 z4 => ((r5 = 0 → post (-1000000001 : Int32) z4) ∧ (¬ r5 = 0 → V_X12_isEdge z4 p3 (fun r8 z7 => ((r8 = 0 → post (-1000000001 : Int32) z7) ∧ (¬ r8 = 0 → V_X12_isIn z7 (Int32.toInt64 p4) (0 : Int64) (9 : Int64) (fun r11 z10 => ((¬ r11 = 0 → V_X12_of z10 p1 (0 : Int32) (fun r14 z13 => V_X12_of z13 p1 (1 : Int32) (fun r16 z15 => V_X12_east z15 p4 (fun r18 z17 => V_X12_north z17 p4 (fun r20 z19 => V_X12_steersBy z19 r14 r16 p2 p3 r18 r20 (fun z21 => ((p5 = 0 → post (zI z21 14 16) z21) ∧ (¬ p5 = 0 → post (zI z21 14 17) z21)))))))) ∧ (r11 = 0 → post (-1000000001 : Int32) z10))))))))))))
set_option maxHeartbeats 4000000 in
set_option maxRecDepth 100000 in
theorem c_X12_steers (l : Launch) (D : va_G) (ad : Nat → Nat → Nat) (cs : Nat → ClassId) (sk : (Nat → Nat) × (Nat → Nat)) (z : ZS) (p1 : Int32) (p2 : Int32) (p3 : Int32) (p4 : Int32) (p5 : Int32) (post : Int32 → ZS → Prop) (h : V_X12_steers z p1 p2 p3 p4 p5 post) : MI l D ad cs sk yX12_steers cX12_steers 6 .int (rmq 3 0 0) [.ref (ad 14 100), .int p1, .int p2, .int p3, .int p4, .int p5] z post := by
  refine MI.of RX12 rfl (by decide) (Nat.le_of_ble_eq_true rfl) ?_
  intro p e s m args below meth c A Q E hw hA hret ls hl
  have hx := E.1.1
  have hb := E.1.2.1
  have hml := E.1.2.2.1
  have hown := E.1.2.2.2.1
  have h0 := E.1.2.2.2.2
  have hl : lv_has ls 6 [(0, .ref (ad 14 100)), (1, .int p1), (2, .int p2), (3, .int p3), (4, .int p4), (5, .int p5)] := hl
  unfold V_X12_steers at h
  have b00 : ∀ (H : Heap) (locs : List Loc), OW D ad cs A s.heap z H locs → W p l e (rmq 3 0 0) s m args below meth c H locs 0 0 Q (F0 m 0 ls []) := by
    intro H locs hw
    refine lv_aload_n hx hb dX12_steers_0 rfl (lv_at hl 0 rfl) ?_
    refine lv_iload_n hx hb dX12_steers_1 rfl (lv_at hl 1 rfl) ?_
    have hq := h
    clear h
    refine xcVI (As := [.int p1]) (rest := []) E hw hA (c_X12_isFaller l D ad cs sk z p1 _ hq) kc_12_149 yo_X12_isFaller ⟨Nat.le_of_ble_eq_true rfl, Nat.le_of_ble_eq_true rfl⟩ (xrc E hw ky_14_100 rfl) rfl hl.1 rfl (Nat.le_of_ble_eq_true rfl) dX12_steers_2 ⟨Nat.le_of_ble_eq_true rfl, Nat.le_of_ble_eq_true rfl⟩ (fun r2 z1 H locs h hw => ?_)
    refine lv_if_eq (tgt := 35) hx hb dX12_steers_5 (by decide) (fun c3 => ?_) (fun c3 => ?_)
    · replace h := h.1 c3
      refine lv_ldc (v := -1000000001) hx hb hown (h0 _ qk_12_139) dX12_steers_35 ?_
      exact hret (-1000000001 : Int32) z1 H locs 37 ls hw rfl h dX12_steers_37
    · replace h := h.2 c3
      refine lv_iload_n hx hb dX12_steers_8 rfl (lv_at hl 2 rfl) ?_
      have hq := h
      clear h
      refine xcSI (As := [.int p2]) (rest := []) E hw hA (c_X12_isEdge l D ad cs sk z1 p2 _ hq) kc_12_184 yo_X12_isEdge ⟨Nat.le_of_ble_eq_true rfl, Nat.le_of_ble_eq_true rfl⟩ rfl hl.1 rfl (Nat.le_of_ble_eq_true rfl) dX12_steers_9 ⟨Nat.le_of_ble_eq_true rfl, Nat.le_of_ble_eq_true rfl⟩ (fun r5 z4 H locs h hw => ?_)
      refine lv_if_eq (tgt := 35) hx hb dX12_steers_12 (by decide) (fun c6 => ?_) (fun c6 => ?_)
      · replace h := h.1 c6
        refine lv_ldc (v := -1000000001) hx hb hown (h0 _ qk_12_139) dX12_steers_35 ?_
        exact hret (-1000000001 : Int32) z4 H locs 37 ls hw rfl h dX12_steers_37
      · replace h := h.2 c6
        refine lv_iload_n hx hb dX12_steers_15 rfl (lv_at hl 3 rfl) ?_
        have hq := h
        clear h
        refine xcSI (As := [.int p3]) (rest := []) E hw hA (c_X12_isEdge l D ad cs sk z4 p3 _ hq) kc_12_184 yo_X12_isEdge ⟨Nat.le_of_ble_eq_true rfl, Nat.le_of_ble_eq_true rfl⟩ rfl hl.1 rfl (Nat.le_of_ble_eq_true rfl) dX12_steers_16 ⟨Nat.le_of_ble_eq_true rfl, Nat.le_of_ble_eq_true rfl⟩ (fun r8 z7 H locs h hw => ?_)
        refine lv_if_eq (tgt := 35) hx hb dX12_steers_19 (by decide) (fun c9 => ?_) (fun c9 => ?_)
        · replace h := h.1 c9
          refine lv_ldc (v := -1000000001) hx hb hown (h0 _ qk_12_139) dX12_steers_35 ?_
          exact hret (-1000000001 : Int32) z7 H locs 37 ls hw rfl h dX12_steers_37
        · replace h := h.2 c9
          refine lv_iload hx hb dX12_steers_22 (lv_at hl 4 rfl) ?_
          refine lv_i2l hx hb dX12_steers_24 rfl ?_
          refine lv_lconst (v := 0) hx hb dX12_steers_25 (by decide) ?_
          refine lv_ldc2 (v := 9) hx hb hown (h0 _ ql_12_137) dX12_steers_26 ?_
          have hq := h
          clear h
          refine xcSI (As := [.long (Int32.toInt64 p4), .long (0 : Int64), .long (9 : Int64)]) (rest := []) E hw hA (c_X12_isIn l D ad cs sk z7 (Int32.toInt64 p4) (0 : Int64) (9 : Int64) _ hq) kc_12_56 yo_X12_isIn ⟨Nat.le_of_ble_eq_true rfl, Nat.le_of_ble_eq_true rfl⟩ rfl hl.1 rfl (Nat.le_of_ble_eq_true rfl) dX12_steers_29 ⟨Nat.le_of_ble_eq_true rfl, Nat.le_of_ble_eq_true rfl⟩ (fun r11 z10 H locs h hw => ?_)
          refine lv_if_ne (tgt := 38) hx hb dX12_steers_32 (by decide) (fun c12 => ?_) (fun c12 => ?_)
          · replace h := h.1 c12
            refine lv_aload_n hx hb dX12_steers_38 rfl (lv_at hl 0 rfl) ?_
            refine lv_aload_n hx hb dX12_steers_39 rfl (lv_at hl 0 rfl) ?_
            refine lv_iload_n hx hb dX12_steers_40 rfl (lv_at hl 1 rfl) ?_
            refine lv_iconst (v := 0) hx hb dX12_steers_41 (by decide) ?_
            have hq := h
            clear h
            refine xcVI (As := [.int p1, .int (0 : Int32)]) (rest := [.ref (ad 14 100)]) E hw hA (c_X12_of l D ad cs sk z10 p1 (0 : Int32) _ hq) kc_12_152 yo_X12_of ⟨Nat.le_of_ble_eq_true rfl, Nat.le_of_ble_eq_true rfl⟩ (xrc E hw ky_14_100 rfl) rfl hl.1 rfl (Nat.le_of_ble_eq_true rfl) dX12_steers_42 ⟨Nat.le_of_ble_eq_true rfl, Nat.le_of_ble_eq_true rfl⟩ (fun r14 z13 H locs h hw => ?_)
            refine lv_aload_n hx hb dX12_steers_45 rfl (lv_at hl 0 rfl) ?_
            refine lv_iload_n hx hb dX12_steers_46 rfl (lv_at hl 1 rfl) ?_
            refine lv_iconst (v := 1) hx hb dX12_steers_47 (by decide) ?_
            have hq := h
            clear h
            refine xcVI (As := [.int p1, .int (1 : Int32)]) (rest := [.int r14, .ref (ad 14 100)]) E hw hA (c_X12_of l D ad cs sk z13 p1 (1 : Int32) _ hq) kc_12_152 yo_X12_of ⟨Nat.le_of_ble_eq_true rfl, Nat.le_of_ble_eq_true rfl⟩ (xrc E hw ky_14_100 rfl) rfl hl.1 rfl (Nat.le_of_ble_eq_true rfl) dX12_steers_48 ⟨Nat.le_of_ble_eq_true rfl, Nat.le_of_ble_eq_true rfl⟩ (fun r16 z15 H locs h hw => ?_)
            refine lv_iload_n hx hb dX12_steers_51 rfl (lv_at hl 2 rfl) ?_
            refine lv_iload_n hx hb dX12_steers_52 rfl (lv_at hl 3 rfl) ?_
            refine lv_aload_n hx hb dX12_steers_53 rfl (lv_at hl 0 rfl) ?_
            refine lv_iload hx hb dX12_steers_54 (lv_at hl 4 rfl) ?_
            have hq := h
            clear h
            refine xcVI (As := [.int p4]) (rest := [.int p3, .int p2, .int r16, .int r14, .ref (ad 14 100)]) E hw hA (c_X12_east l D ad cs sk z15 p4 _ hq) kc_12_144 yo_X12_east ⟨Nat.le_of_ble_eq_true rfl, Nat.le_of_ble_eq_true rfl⟩ (xrc E hw ky_14_100 rfl) rfl hl.1 rfl (Nat.le_of_ble_eq_true rfl) dX12_steers_56 ⟨Nat.le_of_ble_eq_true rfl, Nat.le_of_ble_eq_true rfl⟩ (fun r18 z17 H locs h hw => ?_)
            refine lv_aload_n hx hb dX12_steers_59 rfl (lv_at hl 0 rfl) ?_
            refine lv_iload hx hb dX12_steers_60 (lv_at hl 4 rfl) ?_
            have hq := h
            clear h
            refine xcVI (As := [.int p4]) (rest := [.int r18, .int p3, .int p2, .int r16, .int r14, .ref (ad 14 100)]) E hw hA (c_X12_north l D ad cs sk z17 p4 _ hq) kc_12_140 yo_X12_north ⟨Nat.le_of_ble_eq_true rfl, Nat.le_of_ble_eq_true rfl⟩ (xrc E hw ky_14_100 rfl) rfl hl.1 rfl (Nat.le_of_ble_eq_true rfl) dX12_steers_62 ⟨Nat.le_of_ble_eq_true rfl, Nat.le_of_ble_eq_true rfl⟩ (fun r20 z19 H locs h hw => ?_)
            have hq := h
            clear h
            refine xcVV (As := [.int r14, .int r16, .int p2, .int p3, .int r18, .int r20]) (rest := []) E hw hA (c_X12_steersBy l D ad cs sk z19 r14 r16 p2 p3 r18 r20 _ hq) kc_12_187 yo_X12_steersBy ⟨Nat.le_of_ble_eq_true rfl, Nat.le_of_ble_eq_true rfl⟩ (xrc E hw ky_14_100 rfl) rfl hl.1 rfl (Nat.le_of_ble_eq_true rfl) dX12_steers_65 ⟨Nat.le_of_ble_eq_true rfl, Nat.le_of_ble_eq_true rfl⟩ (fun z21 H locs h hw => ?_)
            refine lv_iload hx hb dX12_steers_68 (lv_at hl 5 rfl) ?_
            refine lv_if_eq (tgt := 80) hx hb dX12_steers_70 (by decide) (fun c23 => ?_) (fun c23 => ?_)
            · replace h := h.1 c23
              refine lv_aload_n hx hb dX12_steers_80 rfl (lv_at hl 0 rfl) ?_
              refine xgI E hw (c1 := 12) rfl ky_14_100 fo_12_16 qf_12_174 dX12_steers_81 ?_
              exact hret (zI z21 14 16) z21 H locs 84 ls hw rfl h dX12_steers_84
            · replace h := h.2 c23
              refine lv_aload_n hx hb dX12_steers_73 rfl (lv_at hl 0 rfl) ?_
              refine xgI E hw (c1 := 12) rfl ky_14_100 fo_12_17 qf_12_177 dX12_steers_74 ?_
              refine lv_goto (tgt := 84) hx hb dX12_steers_77 (by decide) ?_
              exact hret (zI z21 14 17) z21 H locs 84 ls hw rfl h dX12_steers_84
          · replace h := h.2 c12
            refine lv_ldc (v := -1000000001) hx hb hown (h0 _ qk_12_139) dX12_steers_35 ?_
            exact hret (-1000000001 : Int32) z10 H locs 37 ls hw rfl h dX12_steers_37
  exact b00 s.heap [] hw
def V_X12_isBarred_72 (post : Int32 → ZS → Prop) (rr2 : ZS → Int32 → Int32 → Int32 → Prop) (z : ZS) (v1 : Int32) (v2 : Int32) (v3 : Int32) : Prop := (∀ t4 : Int32, t4 = v3 + (1 : Int32) → rr2 z v1 v2 t4)
def V_X12_isBarred_2 (post : Int32 → ZS → Prop) : Nat → ZS → Int32 → Int32 → Int32 → Prop
  | 0, _, _, _, _ => False
  | (n + 1), z, v1, v2, v3 => (((zR z 14 0 4) ≤ v3 → post (0 : Int32) z) ∧ (¬ (zR z 14 0 4) ≤ v3 → (∀ t2 : Int32, t2 = ((49 : Int32) + ((4 : Int32) * v3)) → (vp_in t2 73 ∧ ((v1 < (zR z 14 0 (Int32.toNatClampNeg t2)) → V_X12_isBarred_72 post (V_X12_isBarred_2 post n) z v1 v2 v3) ∧ (¬ v1 < (zR z 14 0 (Int32.toNatClampNeg t2)) → (vp_in (t2 + (2 : Int32)) 73 ∧ (((zR z 14 0 (Int32.toNatClampNeg (t2 + (2 : Int32)))) < v1 → V_X12_isBarred_72 post (V_X12_isBarred_2 post n) z v1 v2 v3) ∧ (¬ (zR z 14 0 (Int32.toNatClampNeg (t2 + (2 : Int32)))) < v1 → (vp_in (t2 + (1 : Int32)) 73 ∧ ((v2 < (zR z 14 0 (Int32.toNatClampNeg (t2 + (1 : Int32)))) → V_X12_isBarred_72 post (V_X12_isBarred_2 post n) z v1 v2 v3) ∧ (¬ v2 < (zR z 14 0 (Int32.toNatClampNeg (t2 + (1 : Int32)))) → (vp_in (t2 + (3 : Int32)) 73 ∧ (((zR z 14 0 (Int32.toNatClampNeg (t2 + (3 : Int32)))) < v2 → V_X12_isBarred_72 post (V_X12_isBarred_2 post n) z v1 v2 v3) ∧ (¬ (zR z 14 0 (Int32.toNatClampNeg (t2 + (3 : Int32)))) < v2 → post (1 : Int32) z)))))))))))))))
def V_X12_isBarred (z : ZS) (p1 : Int32) (p2 : Int32) (post : Int32 → ZS → Prop) : Prop := (∃ n8 : Nat, V_X12_isBarred_2 post n8 z p1 p2 (0 : Int32))
set_option maxHeartbeats 4000000 in
set_option maxRecDepth 100000 in
theorem c_X12_isBarred (l : Launch) (D : va_G) (ad : Nat → Nat → Nat) (cs : Nat → ClassId) (sk : (Nat → Nat) × (Nat → Nat)) (z : ZS) (p1 : Int32) (p2 : Int32) (post : Int32 → ZS → Prop) (h : V_X12_isBarred z p1 p2 post) : MI l D ad cs sk yX12_isBarred cX12_isBarred 5 .boolean (rmq 0 0 0) [.ref (ad 14 100), .int p1, .int p2] z post := by
  refine MI.of RX12 rfl (by decide) (Nat.le_of_ble_eq_true rfl) ?_
  intro p e s m args below meth c A Q E hw hA hret ls hl
  have hx := E.1.1
  have hb := E.1.2.1
  have hml := E.1.2.2.1
  have hown := E.1.2.2.2.1
  have h0 := E.1.2.2.2.2
  have hl : lv_has ls 5 [(0, .ref (ad 14 100)), (1, .int p1), (2, .int p2)] := hl
  unfold V_X12_isBarred at h
  have b2 : ∀ (n : Nat) (z : ZS) (v1 : Int32) (v2 : Int32) (v3 : Int32), ∀ (H : Heap) (locs : List Loc), OW D ad cs A s.heap z H locs → ∀ ls : Array Slot, lv_has ls 5 [(0, .ref (ad 14 100)), (1, .int v1), (2, .int v2), (3, .int v3)] → V_X12_isBarred_2 post n z v1 v2 v3 → W p l e (rmq 0 0 0) s m args below meth c H locs 0 0 Q (F0 m 2 ls []) := by
    intro n
    induction n with
    | zero =>
      intro z v1 v2 v3 H locs hw ls hl h
      exact h.elim
    | succ n2x ih2 =>
      have b72 : ∀ (z : ZS) (v1 : Int32) (v2 : Int32) (v3 : Int32), ∀ (H : Heap) (locs : List Loc), OW D ad cs A s.heap z H locs → ∀ ls : Array Slot, lv_has ls 5 [(0, .ref (ad 14 100)), (1, .int v1), (2, .int v2), (3, .int v3)] → V_X12_isBarred_72 post (V_X12_isBarred_2 post n2x) z v1 v2 v3 → W p l e (rmq 0 0 0) s m args below meth c H locs 0 0 Q (F0 m 72 ls []) := by
        intro z v1 v2 v3 H locs hw ls hl h
        unfold V_X12_isBarred_72 at h
        obtain ⟨t4, et4⟩ : ∃ y : Int32, y = v3 + (1 : Int32) := ⟨_, rfl⟩
        replace h := h t4 et4
        refine lv_iinc (v := t4) (lv' := [(3, .int t4), (0, .ref (ad 14 100)), (1, .int v1), (2, .int v2)]) hx hb dX12_isBarred_72 hl (k := 3) rfl (by rw [et4]; rfl) (by decide) rfl (fun ls hl => ?_)
        refine lv_goto (tgt := 2) hx hb dX12_isBarred_75 (by decide) ?_
        exact ih2 z v1 v2 t4 H locs hw ls (lv_sub hl [1, 2, 3, 0] rfl) h
      intro z v1 v2 v3 H locs hw ls hl h
      unfold V_X12_isBarred_2 at h
      refine lv_iload_n hx hb dX12_isBarred_2 rfl (lv_at hl 3 rfl) ?_
      refine lv_aload_n hx hb dX12_isBarred_3 rfl (lv_at hl 0 rfl) ?_
      refine xgC E hw (c1 := 12) (t := (14, 0)) rfl ky_14_100 fo_12_0 rfl qf_12_9 dX12_isBarred_4 ?_
      refine lv_iconst (v := 4) hx hb dX12_isBarred_7 (by decide) ?_
      refine xalL (j := 4) E hw ky_14_0 ka_14_0 (by decide) (by decide) dX12_isBarred_8 ?_
      refine lv_icmp_ge (tgt := 78) hx hb dX12_isBarred_9 (by decide) (fun c1 => ?_) (fun c1 => ?_)
      · replace h := h.1 c1
        refine lv_iconst (v := 0) hx hb dX12_isBarred_78 (by decide) ?_
        exact hret (0 : Int32) z H locs 79 ls hw rfl h dX12_isBarred_79
      · replace h := h.2 c1
        refine lv_bipush (v := 49) hx hb dX12_isBarred_12 (by decide) ?_
        refine lv_iconst (v := 4) hx hb dX12_isBarred_14 (by decide) ?_
        refine lv_iload_n hx hb dX12_isBarred_15 rfl (lv_at hl 3 rfl) ?_
        refine lv_imul hx hb dX12_isBarred_16 ?_
        refine lv_iadd hx hb dX12_isBarred_17 ?_
        refine lv_topi (fun t2 et2 => ?_)
        replace h := h t2 et2
        refine lv_istore (lv' := [(4, .int t2), (0, .ref (ad 14 100)), (1, .int v1), (2, .int v2), (3, .int v3)]) hx hb dX12_isBarred_18 hl (by decide) rfl (fun ls hl => ?_)
        refine lv_iload_n hx hb dX12_isBarred_20 rfl (lv_at hl 2 rfl) ?_
        refine lv_aload_n hx hb dX12_isBarred_21 rfl (lv_at hl 1 rfl) ?_
        refine xgC E hw (c1 := 12) (t := (14, 0)) rfl ky_14_100 fo_12_0 rfl qf_12_9 dX12_isBarred_22 ?_
        refine lv_iload hx hb dX12_isBarred_25 (lv_at hl 0 rfl) ?_
        obtain ⟨hi, h⟩ := h
        refine xal E hw ky_14_0 ka_14_0 hi dX12_isBarred_27 ?_
        refine lv_icmp_lt (tgt := 72) hx hb dX12_isBarred_28 (by decide) (fun c3 => ?_) (fun c3 => ?_)
        · replace h := h.1 c3
          exact b72 z v1 v2 v3 H locs hw ls (lv_sub hl [1, 2, 3, 4] rfl) h
        · replace h := h.2 c3
          refine lv_iload_n hx hb dX12_isBarred_31 rfl (lv_at hl 2 rfl) ?_
          refine lv_aload_n hx hb dX12_isBarred_32 rfl (lv_at hl 1 rfl) ?_
          refine xgC E hw (c1 := 12) (t := (14, 0)) rfl ky_14_100 fo_12_0 rfl qf_12_9 dX12_isBarred_33 ?_
          refine lv_iload hx hb dX12_isBarred_36 (lv_at hl 0 rfl) ?_
          refine lv_iconst (v := 2) hx hb dX12_isBarred_38 (by decide) ?_
          refine lv_iadd hx hb dX12_isBarred_39 ?_
          obtain ⟨hi, h⟩ := h
          refine xal E hw ky_14_0 ka_14_0 hi dX12_isBarred_40 ?_
          refine lv_icmp_gt (tgt := 72) hx hb dX12_isBarred_41 (by decide) (fun c5 => ?_) (fun c5 => ?_)
          · replace h := h.1 c5
            exact b72 z v1 v2 v3 H locs hw ls (lv_sub hl [1, 2, 3, 4] rfl) h
          · replace h := h.2 c5
            refine lv_iload_n hx hb dX12_isBarred_44 rfl (lv_at hl 3 rfl) ?_
            refine lv_aload_n hx hb dX12_isBarred_45 rfl (lv_at hl 1 rfl) ?_
            refine xgC E hw (c1 := 12) (t := (14, 0)) rfl ky_14_100 fo_12_0 rfl qf_12_9 dX12_isBarred_46 ?_
            refine lv_iload hx hb dX12_isBarred_49 (lv_at hl 0 rfl) ?_
            refine lv_iconst (v := 1) hx hb dX12_isBarred_51 (by decide) ?_
            refine lv_iadd hx hb dX12_isBarred_52 ?_
            obtain ⟨hi, h⟩ := h
            refine xal E hw ky_14_0 ka_14_0 hi dX12_isBarred_53 ?_
            refine lv_icmp_lt (tgt := 72) hx hb dX12_isBarred_54 (by decide) (fun c6 => ?_) (fun c6 => ?_)
            · replace h := h.1 c6
              exact b72 z v1 v2 v3 H locs hw ls (lv_sub hl [1, 2, 3, 4] rfl) h
            · replace h := h.2 c6
              refine lv_iload_n hx hb dX12_isBarred_57 rfl (lv_at hl 3 rfl) ?_
              refine lv_aload_n hx hb dX12_isBarred_58 rfl (lv_at hl 1 rfl) ?_
              refine xgC E hw (c1 := 12) (t := (14, 0)) rfl ky_14_100 fo_12_0 rfl qf_12_9 dX12_isBarred_59 ?_
              refine lv_iload hx hb dX12_isBarred_62 (lv_at hl 0 rfl) ?_
              refine lv_iconst (v := 3) hx hb dX12_isBarred_64 (by decide) ?_
              refine lv_iadd hx hb dX12_isBarred_65 ?_
              obtain ⟨hi, h⟩ := h
              refine xal E hw ky_14_0 ka_14_0 hi dX12_isBarred_66 ?_
              refine lv_icmp_gt (tgt := 72) hx hb dX12_isBarred_67 (by decide) (fun c7 => ?_) (fun c7 => ?_)
              · replace h := h.1 c7
                exact b72 z v1 v2 v3 H locs hw ls (lv_sub hl [1, 2, 3, 4] rfl) h
              · replace h := h.2 c7
                refine lv_iconst (v := 1) hx hb dX12_isBarred_70 (by decide) ?_
                exact hret (1 : Int32) z H locs 71 ls hw rfl h dX12_isBarred_71
  have b00 : ∀ (H : Heap) (locs : List Loc), OW D ad cs A s.heap z H locs → W p l e (rmq 0 0 0) s m args below meth c H locs 0 0 Q (F0 m 0 ls []) := by
    intro H locs hw
    refine lv_iconst (v := 0) hx hb dX12_isBarred_0 (by decide) ?_
    refine lv_istore_n (lv' := [(3, .int (0 : Int32)), (0, .ref (ad 14 100)), (1, .int p1), (2, .int p2)]) hx hb dX12_isBarred_1 rfl hl (by decide) rfl (fun ls hl => ?_)
    obtain ⟨n8, h⟩ := h
    exact b2 n8 z p1 p2 (0 : Int32) H locs hw ls (lv_sub hl [1, 2, 3, 0] rfl) h
  exact b00 s.heap [] hw
def V_X12_barred_14 (post : Int32 → ZS → Prop) (z : ZS) : Prop := post (-1 : Int32) z
def V_X12_barred (z : ZS) (p1 : Int32) (p2 : Int32) (post : Int32 → ZS → Prop) : Prop := V_X12_isEdge z p1 (fun r2 z1 => ((r2 = 0 → V_X12_barred_14 post z1) ∧ (¬ r2 = 0 → V_X12_isEdge z1 p2 (fun r5 z4 => ((¬ r5 = 0 → V_X12_isBarred z4 p1 p2 (fun r8 z7 => ((r8 = 0 → post (0 : Int32) z7) ∧ (¬ r8 = 0 → post (1 : Int32) z7)))) ∧ (r5 = 0 → V_X12_barred_14 post z4))))))
set_option maxHeartbeats 4000000 in
set_option maxRecDepth 100000 in
theorem c_X12_barred (l : Launch) (D : va_G) (ad : Nat → Nat → Nat) (cs : Nat → ClassId) (sk : (Nat → Nat) × (Nat → Nat)) (z : ZS) (p1 : Int32) (p2 : Int32) (post : Int32 → ZS → Prop) (h : V_X12_barred z p1 p2 post) : MI l D ad cs sk yX12_barred cX12_barred 3 .int (rmq 2 0 0) [.ref (ad 14 100), .int p1, .int p2] z post := by
  refine MI.of RX12 rfl (by decide) (Nat.le_of_ble_eq_true rfl) ?_
  intro p e s m args below meth c A Q E hw hA hret ls hl
  have hx := E.1.1
  have hb := E.1.2.1
  have hml := E.1.2.2.1
  have hown := E.1.2.2.2.1
  have h0 := E.1.2.2.2.2
  have hl : lv_has ls 3 [(0, .ref (ad 14 100)), (1, .int p1), (2, .int p2)] := hl
  unfold V_X12_barred at h
  have b14 : ∀ (z : ZS), ∀ (H : Heap) (locs : List Loc), OW D ad cs A s.heap z H locs → ∀ ls : Array Slot, lv_has ls 3 [] → V_X12_barred_14 post z → W p l e (rmq 2 0 0) s m args below meth c H locs 0 0 Q (F0 m 14 ls []) := by
    intro z H locs hw ls hl h
    unfold V_X12_barred_14 at h
    refine lv_iconst (v := -1) hx hb dX12_barred_14 (by decide) ?_
    refine lv_goto (tgt := 32) hx hb dX12_barred_15 (by decide) ?_
    exact hret (-1 : Int32) z H locs 32 ls hw rfl h dX12_barred_32
  have b00 : ∀ (H : Heap) (locs : List Loc), OW D ad cs A s.heap z H locs → W p l e (rmq 2 0 0) s m args below meth c H locs 0 0 Q (F0 m 0 ls []) := by
    intro H locs hw
    refine lv_iload_n hx hb dX12_barred_0 rfl (lv_at hl 1 rfl) ?_
    have hq := h
    clear h
    refine xcSI (As := [.int p1]) (rest := []) E hw hA (c_X12_isEdge l D ad cs sk z p1 _ hq) kc_12_184 yo_X12_isEdge ⟨Nat.le_of_ble_eq_true rfl, Nat.le_of_ble_eq_true rfl⟩ rfl hl.1 rfl (Nat.le_of_ble_eq_true rfl) dX12_barred_1 ⟨Nat.le_of_ble_eq_true rfl, Nat.le_of_ble_eq_true rfl⟩ (fun r2 z1 H locs h hw => ?_)
    refine lv_if_eq (tgt := 14) hx hb dX12_barred_4 (by decide) (fun c3 => ?_) (fun c3 => ?_)
    · replace h := h.1 c3
      exact b14 z1 H locs hw ls (lv_sub hl [] rfl) h
    · replace h := h.2 c3
      refine lv_iload_n hx hb dX12_barred_7 rfl (lv_at hl 2 rfl) ?_
      have hq := h
      clear h
      refine xcSI (As := [.int p2]) (rest := []) E hw hA (c_X12_isEdge l D ad cs sk z1 p2 _ hq) kc_12_184 yo_X12_isEdge ⟨Nat.le_of_ble_eq_true rfl, Nat.le_of_ble_eq_true rfl⟩ rfl hl.1 rfl (Nat.le_of_ble_eq_true rfl) dX12_barred_8 ⟨Nat.le_of_ble_eq_true rfl, Nat.le_of_ble_eq_true rfl⟩ (fun r5 z4 H locs h hw => ?_)
      refine lv_if_ne (tgt := 18) hx hb dX12_barred_11 (by decide) (fun c6 => ?_) (fun c6 => ?_)
      · replace h := h.1 c6
        refine lv_aload_n hx hb dX12_barred_18 rfl (lv_at hl 0 rfl) ?_
        refine lv_iload_n hx hb dX12_barred_19 rfl (lv_at hl 1 rfl) ?_
        refine lv_iload_n hx hb dX12_barred_20 rfl (lv_at hl 2 rfl) ?_
        have hq := h
        clear h
        refine xcVI (As := [.int p1, .int p2]) (rest := []) E hw hA (c_X12_isBarred l D ad cs sk z4 p1 p2 _ hq) kc_12_191 yo_X12_isBarred ⟨Nat.le_of_ble_eq_true rfl, Nat.le_of_ble_eq_true rfl⟩ (xrc E hw ky_14_100 rfl) rfl hl.1 rfl (Nat.le_of_ble_eq_true rfl) dX12_barred_21 ⟨Nat.le_of_ble_eq_true rfl, Nat.le_of_ble_eq_true rfl⟩ (fun r8 z7 H locs h hw => ?_)
        refine lv_if_eq (tgt := 31) hx hb dX12_barred_24 (by decide) (fun c9 => ?_) (fun c9 => ?_)
        · replace h := h.1 c9
          refine lv_iconst (v := 0) hx hb dX12_barred_31 (by decide) ?_
          exact hret (0 : Int32) z7 H locs 32 ls hw rfl h dX12_barred_32
        · replace h := h.2 c9
          refine lv_iconst (v := 1) hx hb dX12_barred_27 (by decide) ?_
          refine lv_goto (tgt := 32) hx hb dX12_barred_28 (by decide) ?_
          exact hret (1 : Int32) z7 H locs 32 ls hw rfl h dX12_barred_32
      · replace h := h.2 c6
        exact b14 z4 H locs hw ls (lv_sub hl [] rfl) h
  exact b00 s.heap [] hw
def V_X12_leaves (z : ZS) (p1 : Int32) (p2 : Int32) (p3 : Int32) (p4 : Int32) (p5 : Int32) (p6 : Int32) (post : ZS → Prop) : Prop := (∀ z1 : ZS, z1 = wI z 14 18 p1 → (∀ z2 : ZS, z2 = wI z1 14 19 p2 → (∀ z3 : ZS, z3 = wI z2 14 20 p3 → (∀ z4 : ZS, z4 = wI z3 14 21 (-1 : Int32) → (∀ z5 : ZS, z5 = wI z4 14 22 p4 → (∀ z6 : ZS, z6 = wI z5 14 23 p5 → (∀ z7 : ZS, z7 = wI z6 14 24 (zR z6 14 0 2) → (∀ z8 : ZS, z8 = wI z7 14 25 (0 : Int32) → (∀ z9 : ZS, z9 = wI z8 14 26 p6 → (∀ z10 : ZS, z10 = wI z9 14 29 (-4 : Int32) → post z10))))))))))
set_option maxHeartbeats 4000000 in
set_option maxRecDepth 100000 in
theorem c_X12_leaves (l : Launch) (D : va_G) (ad : Nat → Nat → Nat) (cs : Nat → ClassId) (sk : (Nat → Nat) × (Nat → Nat)) (z : ZS) (p1 : Int32) (p2 : Int32) (p3 : Int32) (p4 : Int32) (p5 : Int32) (p6 : Int32) (post : ZS → Prop) (h : V_X12_leaves z p1 p2 p3 p4 p5 p6 post) : MV l D ad cs sk yX12_leaves cX12_leaves 7 (rmq 0 0 0) [.ref (ad 14 100), .int p1, .int p2, .int p3, .int p4, .int p5, .int p6] z post := by
  refine MV.of RX12 rfl (by decide) (Nat.le_of_ble_eq_true rfl) ?_
  intro p e s m args below meth c A Q E hw hA hret ls hl
  have hx := E.1.1
  have hb := E.1.2.1
  have hml := E.1.2.2.1
  have hown := E.1.2.2.2.1
  have h0 := E.1.2.2.2.2
  have hl : lv_has ls 7 [(0, .ref (ad 14 100)), (1, .int p1), (2, .int p2), (3, .int p3), (4, .int p4), (5, .int p5), (6, .int p6)] := hl
  unfold V_X12_leaves at h
  have b00 : ∀ (H : Heap) (locs : List Loc), OW D ad cs A s.heap z H locs → W p l e (rmq 0 0 0) s m args below meth c H locs 0 0 Q (F0 m 0 ls []) := by
    intro H locs hw
    refine lv_aload_n hx hb dX12_leaves_0 rfl (lv_at hl 0 rfl) ?_
    refine lv_iload_n hx hb dX12_leaves_1 rfl (lv_at hl 1 rfl) ?_
    refine xpI E hw (c1 := 12) rfl ky_14_100 fp_12_18 rfl rfl qf_12_194 dX12_leaves_2 (fun z1 ez1 H locs hw => ?_)
    replace h := h z1 ez1
    refine lv_aload_n hx hb dX12_leaves_5 rfl (lv_at hl 0 rfl) ?_
    refine lv_iload_n hx hb dX12_leaves_6 rfl (lv_at hl 2 rfl) ?_
    refine xpI E hw (c1 := 12) rfl ky_14_100 fp_12_19 rfl rfl qf_12_197 dX12_leaves_7 (fun z2 ez2 H locs hw => ?_)
    replace h := h z2 ez2
    refine lv_aload_n hx hb dX12_leaves_10 rfl (lv_at hl 0 rfl) ?_
    refine lv_iload_n hx hb dX12_leaves_11 rfl (lv_at hl 3 rfl) ?_
    refine xpI E hw (c1 := 12) rfl ky_14_100 fp_12_20 rfl rfl qf_12_200 dX12_leaves_12 (fun z3 ez3 H locs hw => ?_)
    replace h := h z3 ez3
    refine lv_aload_n hx hb dX12_leaves_15 rfl (lv_at hl 0 rfl) ?_
    refine lv_iconst (v := -1) hx hb dX12_leaves_16 (by decide) ?_
    refine xpI E hw (c1 := 12) rfl ky_14_100 fp_12_21 rfl rfl qf_12_203 dX12_leaves_17 (fun z4 ez4 H locs hw => ?_)
    replace h := h z4 ez4
    refine lv_aload_n hx hb dX12_leaves_20 rfl (lv_at hl 0 rfl) ?_
    refine lv_iload hx hb dX12_leaves_21 (lv_at hl 4 rfl) ?_
    refine xpI E hw (c1 := 12) rfl ky_14_100 fp_12_22 rfl rfl qf_12_206 dX12_leaves_23 (fun z5 ez5 H locs hw => ?_)
    replace h := h z5 ez5
    refine lv_aload_n hx hb dX12_leaves_26 rfl (lv_at hl 0 rfl) ?_
    refine lv_iload hx hb dX12_leaves_27 (lv_at hl 5 rfl) ?_
    refine xpI E hw (c1 := 12) rfl ky_14_100 fp_12_23 rfl rfl qf_12_209 dX12_leaves_29 (fun z6 ez6 H locs hw => ?_)
    replace h := h z6 ez6
    refine lv_aload_n hx hb dX12_leaves_32 rfl (lv_at hl 0 rfl) ?_
    refine lv_aload_n hx hb dX12_leaves_33 rfl (lv_at hl 0 rfl) ?_
    refine xgC E hw (c1 := 12) (t := (14, 0)) rfl ky_14_100 fo_12_0 rfl qf_12_9 dX12_leaves_34 ?_
    refine lv_iconst (v := 2) hx hb dX12_leaves_37 (by decide) ?_
    refine xalL (j := 2) E hw ky_14_0 ka_14_0 (by decide) (by decide) dX12_leaves_38 ?_
    refine xpI E hw (c1 := 12) rfl ky_14_100 fp_12_24 rfl rfl qf_12_212 dX12_leaves_39 (fun z7 ez7 H locs hw => ?_)
    replace h := h z7 ez7
    refine lv_aload_n hx hb dX12_leaves_42 rfl (lv_at hl 0 rfl) ?_
    refine lv_iconst (v := 0) hx hb dX12_leaves_43 (by decide) ?_
    refine xpI E hw (c1 := 12) rfl ky_14_100 fp_12_25 rfl rfl qf_12_215 dX12_leaves_44 (fun z8 ez8 H locs hw => ?_)
    replace h := h z8 ez8
    refine lv_aload_n hx hb dX12_leaves_47 rfl (lv_at hl 0 rfl) ?_
    refine lv_iload hx hb dX12_leaves_48 (lv_at hl 6 rfl) ?_
    refine xpI E hw (c1 := 12) rfl ky_14_100 fp_12_26 rfl rfl qf_12_218 dX12_leaves_50 (fun z9 ez9 H locs hw => ?_)
    replace h := h z9 ez9
    refine lv_aload_n hx hb dX12_leaves_53 rfl (lv_at hl 0 rfl) ?_
    refine lv_bipush (v := -4) hx hb dX12_leaves_54 (by decide) ?_
    refine xpI E hw (c1 := 12) rfl ky_14_100 fp_12_29 rfl rfl qf_12_221 dX12_leaves_56 (fun z10 ez10 H locs hw => ?_)
    replace h := h z10 ez10
    exact hret z10 H locs 59 ls hw h dX12_leaves_59
  exact b00 s.heap [] hw
def V_X12_leavesOne (z : ZS) (p1 : Int32) (p2 : Int32) (p3 : Int32) (p4 : Int32) (post : ZS → Prop) : Prop := V_X12_of z p1 (0 : Int32) (fun r2 z1 => V_X12_of z1 p1 (1 : Int32) (fun r4 z3 => V_X12_of z3 p1 (2 : Int32) (fun r6 z5 => V_X12_leaves z5 r2 r4 r6 p2 p3 p4 (fun z7 => post z7))))
set_option maxHeartbeats 4000000 in
set_option maxRecDepth 100000 in
theorem c_X12_leavesOne (l : Launch) (D : va_G) (ad : Nat → Nat → Nat) (cs : Nat → ClassId) (sk : (Nat → Nat) × (Nat → Nat)) (z : ZS) (p1 : Int32) (p2 : Int32) (p3 : Int32) (p4 : Int32) (post : ZS → Prop) (h : V_X12_leavesOne z p1 p2 p3 p4 post) : MV l D ad cs sk yX12_leavesOne cX12_leavesOne 5 (rmq 1 0 0) [.ref (ad 14 100), .int p1, .int p2, .int p3, .int p4] z post := by
  refine MV.of RX12 rfl (by decide) (Nat.le_of_ble_eq_true rfl) ?_
  intro p e s m args below meth c A Q E hw hA hret ls hl
  have hx := E.1.1
  have hb := E.1.2.1
  have hml := E.1.2.2.1
  have hown := E.1.2.2.2.1
  have h0 := E.1.2.2.2.2
  have hl : lv_has ls 5 [(0, .ref (ad 14 100)), (1, .int p1), (2, .int p2), (3, .int p3), (4, .int p4)] := hl
  unfold V_X12_leavesOne at h
  have b00 : ∀ (H : Heap) (locs : List Loc), OW D ad cs A s.heap z H locs → W p l e (rmq 1 0 0) s m args below meth c H locs 0 0 Q (F0 m 0 ls []) := by
    intro H locs hw
    refine lv_aload_n hx hb dX12_leavesOne_0 rfl (lv_at hl 0 rfl) ?_
    refine lv_aload_n hx hb dX12_leavesOne_1 rfl (lv_at hl 0 rfl) ?_
    refine lv_iload_n hx hb dX12_leavesOne_2 rfl (lv_at hl 1 rfl) ?_
    refine lv_iconst (v := 0) hx hb dX12_leavesOne_3 (by decide) ?_
    have hq := h
    clear h
    refine xcVI (As := [.int p1, .int (0 : Int32)]) (rest := [.ref (ad 14 100)]) E hw hA (c_X12_of l D ad cs sk z p1 (0 : Int32) _ hq) kc_12_152 yo_X12_of ⟨Nat.le_of_ble_eq_true rfl, Nat.le_of_ble_eq_true rfl⟩ (xrc E hw ky_14_100 rfl) rfl hl.1 rfl (Nat.le_of_ble_eq_true rfl) dX12_leavesOne_4 ⟨Nat.le_of_ble_eq_true rfl, Nat.le_of_ble_eq_true rfl⟩ (fun r2 z1 H locs h hw => ?_)
    refine lv_aload_n hx hb dX12_leavesOne_7 rfl (lv_at hl 0 rfl) ?_
    refine lv_iload_n hx hb dX12_leavesOne_8 rfl (lv_at hl 1 rfl) ?_
    refine lv_iconst (v := 1) hx hb dX12_leavesOne_9 (by decide) ?_
    have hq := h
    clear h
    refine xcVI (As := [.int p1, .int (1 : Int32)]) (rest := [.int r2, .ref (ad 14 100)]) E hw hA (c_X12_of l D ad cs sk z1 p1 (1 : Int32) _ hq) kc_12_152 yo_X12_of ⟨Nat.le_of_ble_eq_true rfl, Nat.le_of_ble_eq_true rfl⟩ (xrc E hw ky_14_100 rfl) rfl hl.1 rfl (Nat.le_of_ble_eq_true rfl) dX12_leavesOne_10 ⟨Nat.le_of_ble_eq_true rfl, Nat.le_of_ble_eq_true rfl⟩ (fun r4 z3 H locs h hw => ?_)
    refine lv_aload_n hx hb dX12_leavesOne_13 rfl (lv_at hl 0 rfl) ?_
    refine lv_iload_n hx hb dX12_leavesOne_14 rfl (lv_at hl 1 rfl) ?_
    refine lv_iconst (v := 2) hx hb dX12_leavesOne_15 (by decide) ?_
    have hq := h
    clear h
    refine xcVI (As := [.int p1, .int (2 : Int32)]) (rest := [.int r4, .int r2, .ref (ad 14 100)]) E hw hA (c_X12_of l D ad cs sk z3 p1 (2 : Int32) _ hq) kc_12_152 yo_X12_of ⟨Nat.le_of_ble_eq_true rfl, Nat.le_of_ble_eq_true rfl⟩ (xrc E hw ky_14_100 rfl) rfl hl.1 rfl (Nat.le_of_ble_eq_true rfl) dX12_leavesOne_16 ⟨Nat.le_of_ble_eq_true rfl, Nat.le_of_ble_eq_true rfl⟩ (fun r6 z5 H locs h hw => ?_)
    refine lv_iload_n hx hb dX12_leavesOne_19 rfl (lv_at hl 2 rfl) ?_
    refine lv_iload_n hx hb dX12_leavesOne_20 rfl (lv_at hl 3 rfl) ?_
    refine lv_iload hx hb dX12_leavesOne_21 (lv_at hl 4 rfl) ?_
    have hq := h
    clear h
    refine xcVV (As := [.int r2, .int r4, .int r6, .int p2, .int p3, .int p4]) (rest := []) E hw hA (c_X12_leaves l D ad cs sk z5 r2 r4 r6 p2 p3 p4 _ hq) kc_12_224 yo_X12_leaves ⟨Nat.le_of_ble_eq_true rfl, Nat.le_of_ble_eq_true rfl⟩ (xrc E hw ky_14_100 rfl) rfl hl.1 rfl (Nat.le_of_ble_eq_true rfl) dX12_leavesOne_23 ⟨Nat.le_of_ble_eq_true rfl, Nat.le_of_ble_eq_true rfl⟩ (fun z7 H locs h hw => ?_)
    exact hret z7 H locs 26 ls hw h dX12_leavesOne_26
  exact b00 s.heap [] hw
def V_X12_hasLanded (z : ZS) (post : Int32 → ZS → Prop) : Prop := ((¬ (zI z 14 24) = 0 → post (0 : Int32) z) ∧ ((zI z 14 24) = 0 → post (1 : Int32) z))
set_option maxHeartbeats 4000000 in
set_option maxRecDepth 100000 in
theorem c_X12_hasLanded (l : Launch) (D : va_G) (ad : Nat → Nat → Nat) (cs : Nat → ClassId) (sk : (Nat → Nat) × (Nat → Nat)) (z : ZS) (post : Int32 → ZS → Prop) (h : V_X12_hasLanded z post) : MI l D ad cs sk yX12_hasLanded cX12_hasLanded 1 .boolean (rmq 0 0 0) [.ref (ad 14 100)] z post := by
  refine MI.of RX12 rfl (by decide) (Nat.le_of_ble_eq_true rfl) ?_
  intro p e s m args below meth c A Q E hw hA hret ls hl
  have hx := E.1.1
  have hb := E.1.2.1
  have hml := E.1.2.2.1
  have hown := E.1.2.2.2.1
  have h0 := E.1.2.2.2.2
  have hl : lv_has ls 1 [(0, .ref (ad 14 100))] := hl
  unfold V_X12_hasLanded at h
  have b00 : ∀ (H : Heap) (locs : List Loc), OW D ad cs A s.heap z H locs → W p l e (rmq 0 0 0) s m args below meth c H locs 0 0 Q (F0 m 0 ls []) := by
    intro H locs hw
    refine lv_aload_n hx hb dX12_hasLanded_0 rfl (lv_at hl 0 rfl) ?_
    refine xgI E hw (c1 := 12) rfl ky_14_100 fo_12_24 qf_12_212 dX12_hasLanded_1 ?_
    refine lv_if_ne (tgt := 11) hx hb dX12_hasLanded_4 (by decide) (fun c1 => ?_) (fun c1 => ?_)
    · replace h := h.1 c1
      refine lv_iconst (v := 0) hx hb dX12_hasLanded_11 (by decide) ?_
      exact hret (0 : Int32) z H locs 12 ls hw rfl h dX12_hasLanded_12
    · replace h := h.2 c1
      refine lv_iconst (v := 1) hx hb dX12_hasLanded_7 (by decide) ?_
      refine lv_goto (tgt := 12) hx hb dX12_hasLanded_8 (by decide) ?_
      exact hret (1 : Int32) z H locs 12 ls hw rfl h dX12_hasLanded_12
  exact b00 s.heap [] hw
def V_X12_goesDown_19 (post : ZS → Prop) (z : ZS) (s1 : Int32) : Prop := (∀ z2 : ZS, z2 = wI z 14 24 s1 → post z2)
def V_X12_goesDown (z : ZS) (p1 : Int32) (post : ZS → Prop) : Prop := (((zI z 14 24) ≤ p1 → V_X12_goesDown_19 post z (0 : Int32)) ∧ (¬ (zI z 14 24) ≤ p1 → V_X12_goesDown_19 post z ((zI z 14 24) - p1)))
set_option maxHeartbeats 4000000 in
set_option maxRecDepth 100000 in
theorem c_X12_goesDown (l : Launch) (D : va_G) (ad : Nat → Nat → Nat) (cs : Nat → ClassId) (sk : (Nat → Nat) × (Nat → Nat)) (z : ZS) (p1 : Int32) (post : ZS → Prop) (h : V_X12_goesDown z p1 post) : MV l D ad cs sk yX12_goesDown cX12_goesDown 2 (rmq 0 0 0) [.ref (ad 14 100), .int p1] z post := by
  refine MV.of RX12 rfl (by decide) (Nat.le_of_ble_eq_true rfl) ?_
  intro p e s m args below meth c A Q E hw hA hret ls hl
  have hx := E.1.1
  have hb := E.1.2.1
  have hml := E.1.2.2.1
  have hown := E.1.2.2.2.1
  have h0 := E.1.2.2.2.2
  have hl : lv_has ls 2 [(0, .ref (ad 14 100)), (1, .int p1)] := hl
  unfold V_X12_goesDown at h
  have b19 : ∀ (z : ZS) (s1 : Int32), ∀ (H : Heap) (locs : List Loc), OW D ad cs A s.heap z H locs → ∀ ls : Array Slot, lv_has ls 2 [] → V_X12_goesDown_19 post z s1 → W p l e (rmq 0 0 0) s m args below meth c H locs 0 0 Q (F0 m 19 ls [.int s1, .ref (ad 14 100)]) := by
    intro z s1 H locs hw ls hl h
    unfold V_X12_goesDown_19 at h
    refine xpI E hw (c1 := 12) rfl ky_14_100 fp_12_24 rfl rfl qf_12_212 dX12_goesDown_19 (fun z2 ez2 H locs hw => ?_)
    replace h := h z2 ez2
    exact hret z2 H locs 22 ls hw h dX12_goesDown_22
  have b00 : ∀ (H : Heap) (locs : List Loc), OW D ad cs A s.heap z H locs → W p l e (rmq 0 0 0) s m args below meth c H locs 0 0 Q (F0 m 0 ls []) := by
    intro H locs hw
    refine lv_aload_n hx hb dX12_goesDown_0 rfl (lv_at hl 0 rfl) ?_
    refine lv_aload_n hx hb dX12_goesDown_1 rfl (lv_at hl 0 rfl) ?_
    refine xgI E hw (c1 := 12) rfl ky_14_100 fo_12_24 qf_12_212 dX12_goesDown_2 ?_
    refine lv_iload_n hx hb dX12_goesDown_5 rfl (lv_at hl 1 rfl) ?_
    refine lv_icmp_le (tgt := 18) hx hb dX12_goesDown_6 (by decide) (fun c1 => ?_) (fun c1 => ?_)
    · replace h := h.1 c1
      refine lv_iconst (v := 0) hx hb dX12_goesDown_18 (by decide) ?_
      exact b19 z (0 : Int32) H locs hw ls (lv_sub hl [] rfl) h
    · replace h := h.2 c1
      refine lv_aload_n hx hb dX12_goesDown_9 rfl (lv_at hl 0 rfl) ?_
      refine xgI E hw (c1 := 12) rfl ky_14_100 fo_12_24 qf_12_212 dX12_goesDown_10 ?_
      refine lv_iload_n hx hb dX12_goesDown_13 rfl (lv_at hl 1 rfl) ?_
      refine lv_isub hx hb dX12_goesDown_14 ?_
      refine lv_goto (tgt := 19) hx hb dX12_goesDown_15 (by decide) ?_
      exact b19 z ((zI z 14 24) - p1) H locs hw ls (lv_sub hl [] rfl) h
  exact b00 s.heap [] hw
def V_X12_drawn (z : ZS) (p1 : Int32) (post : Int32 → ZS → Prop) : Prop := (∀ z1 : ZS, z1 = wI z 14 26 (((zI z 14 26) * (1103515245 : Int32)) + (12345 : Int32)) → (¬ p1 = 0 ∧ post ((((zI z1 14 26) &&& (2147483647 : Int32)) / (65536 : Int32)) - (((zI z1 14 26) &&& (2147483647 : Int32)) / (65536 : Int32)) / p1 * p1) z1))
set_option maxHeartbeats 4000000 in
set_option maxRecDepth 100000 in
theorem c_X12_drawn (l : Launch) (D : va_G) (ad : Nat → Nat → Nat) (cs : Nat → ClassId) (sk : (Nat → Nat) × (Nat → Nat)) (z : ZS) (p1 : Int32) (post : Int32 → ZS → Prop) (h : V_X12_drawn z p1 post) : MI l D ad cs sk yX12_drawn cX12_drawn 2 .int (rmq 0 0 0) [.ref (ad 14 100), .int p1] z post := by
  refine MI.of RX12 rfl (by decide) (Nat.le_of_ble_eq_true rfl) ?_
  intro p e s m args below meth c A Q E hw hA hret ls hl
  have hx := E.1.1
  have hb := E.1.2.1
  have hml := E.1.2.2.1
  have hown := E.1.2.2.2.1
  have h0 := E.1.2.2.2.2
  have hl : lv_has ls 2 [(0, .ref (ad 14 100)), (1, .int p1)] := hl
  unfold V_X12_drawn at h
  have b00 : ∀ (H : Heap) (locs : List Loc), OW D ad cs A s.heap z H locs → W p l e (rmq 0 0 0) s m args below meth c H locs 0 0 Q (F0 m 0 ls []) := by
    intro H locs hw
    refine lv_aload_n hx hb dX12_drawn_0 rfl (lv_at hl 0 rfl) ?_
    refine lv_aload_n hx hb dX12_drawn_1 rfl (lv_at hl 0 rfl) ?_
    refine xgI E hw (c1 := 12) rfl ky_14_100 fo_12_26 qf_12_218 dX12_drawn_2 ?_
    refine lv_ldc (v := 1103515245) hx hb hown (h0 _ qk_12_227) dX12_drawn_5 ?_
    refine lv_imul hx hb dX12_drawn_7 ?_
    refine lv_sipush (v := 12345) hx hb dX12_drawn_8 (by decide) ?_
    refine lv_iadd hx hb dX12_drawn_11 ?_
    refine xpI E hw (c1 := 12) rfl ky_14_100 fp_12_26 rfl rfl qf_12_218 dX12_drawn_12 (fun z1 ez1 H locs hw => ?_)
    replace h := h z1 ez1
    refine lv_aload_n hx hb dX12_drawn_15 rfl (lv_at hl 0 rfl) ?_
    refine xgI E hw (c1 := 12) rfl ky_14_100 fo_12_26 qf_12_218 dX12_drawn_16 ?_
    refine lv_ldc (v := 2147483647) hx hb hown (h0 _ qk_12_228) dX12_drawn_19 ?_
    refine lv_iand hx hb dX12_drawn_21 ?_
    refine lv_ldc (v := 65536) hx hb hown (h0 _ qk_12_229) dX12_drawn_22 ?_
    refine lv_idiv hx hb dX12_drawn_24 (by decide) ?_
    refine lv_iload_n hx hb dX12_drawn_25 rfl (lv_at hl 1 rfl) ?_
    obtain ⟨hd, h⟩ := h
    refine lv_irem hx hb dX12_drawn_26 hd ?_
    exact hret ((((zI z1 14 26) &&& (2147483647 : Int32)) / (65536 : Int32)) - (((zI z1 14 26) &&& (2147483647 : Int32)) / (65536 : Int32)) / p1 * p1) z1 H locs 27 ls hw rfl h dX12_drawn_27
  exact b00 s.heap [] hw
def V_X12_holdsWay_139 (post : ZS → Prop) (z : ZS) (s1 : Int32) : Prop := (∀ z6 : ZS, z6 = wI z 14 17 s1 → post z6)
def V_X12_holdsWay_103 (post : ZS → Prop) (z : ZS) (v1 : Int32) : Prop := V_X12_holdsWay_139 post z v1
def V_X12_holdsWay_133 (post : ZS → Prop) (z : ZS) (v1 : Int32) : Prop := V_X12_holdsWay_139 post z (-v1)
def V_X12_holdsWay_74 (post : ZS → Prop) (z : ZS) (v1 : Int32) (s1 : Int32) : Prop := (∀ z4 : ZS, z4 = wI z 14 16 s1 → (((zI z4 14 21) = (3 : Int32) → V_X12_holdsWay_103 post z4 v1) ∧ (¬ (zI z4 14 21) = (3 : Int32) → (((zI z4 14 21) = (5 : Int32) → V_X12_holdsWay_103 post z4 v1) ∧ (¬ (zI z4 14 21) = (5 : Int32) → ((¬ (zI z4 14 21) = (6 : Int32) → (((zI z4 14 21) = (4 : Int32) → V_X12_holdsWay_133 post z4 v1) ∧ (¬ (zI z4 14 21) = (4 : Int32) → (((zI z4 14 21) = (7 : Int32) → V_X12_holdsWay_133 post z4 v1) ∧ (¬ (zI z4 14 21) = (7 : Int32) → ((¬ (zI z4 14 21) = (8 : Int32) → V_X12_holdsWay_139 post z4 (0 : Int32)) ∧ ((zI z4 14 21) = (8 : Int32) → V_X12_holdsWay_133 post z4 v1))))))) ∧ ((zI z4 14 21) = (6 : Int32) → V_X12_holdsWay_103 post z4 v1)))))))
def V_X12_holdsWay_38 (post : ZS → Prop) (z : ZS) (v1 : Int32) : Prop := V_X12_holdsWay_74 post z v1 v1
def V_X12_holdsWay_68 (post : ZS → Prop) (z : ZS) (v1 : Int32) : Prop := V_X12_holdsWay_74 post z v1 (-v1)
def V_X12_holdsWay (z : ZS) (post : ZS → Prop) : Prop := V_X12_paceBy z (zI z 14 18) (zI z 14 19) (fun r2 z1 => (((zI z1 14 21) = (1 : Int32) → V_X12_holdsWay_38 post z1 r2) ∧ (¬ (zI z1 14 21) = (1 : Int32) → (((zI z1 14 21) = (5 : Int32) → V_X12_holdsWay_38 post z1 r2) ∧ (¬ (zI z1 14 21) = (5 : Int32) → ((¬ (zI z1 14 21) = (7 : Int32) → (((zI z1 14 21) = (2 : Int32) → V_X12_holdsWay_68 post z1 r2) ∧ (¬ (zI z1 14 21) = (2 : Int32) → (((zI z1 14 21) = (6 : Int32) → V_X12_holdsWay_68 post z1 r2) ∧ (¬ (zI z1 14 21) = (6 : Int32) → ((¬ (zI z1 14 21) = (8 : Int32) → V_X12_holdsWay_74 post z1 r2 (0 : Int32)) ∧ ((zI z1 14 21) = (8 : Int32) → V_X12_holdsWay_68 post z1 r2))))))) ∧ ((zI z1 14 21) = (7 : Int32) → V_X12_holdsWay_38 post z1 r2)))))))
set_option maxHeartbeats 4000000 in
set_option maxRecDepth 100000 in
theorem c_X12_holdsWay (l : Launch) (D : va_G) (ad : Nat → Nat → Nat) (cs : Nat → ClassId) (sk : (Nat → Nat) × (Nat → Nat)) (z : ZS) (post : ZS → Prop) (h : V_X12_holdsWay z post) : MV l D ad cs sk yX12_holdsWay cX12_holdsWay 2 (rmq 1 0 0) [.ref (ad 14 100)] z post := by
  refine MV.of RX12 rfl (by decide) (Nat.le_of_ble_eq_true rfl) ?_
  intro p e s m args below meth c A Q E hw hA hret ls hl
  have hx := E.1.1
  have hb := E.1.2.1
  have hml := E.1.2.2.1
  have hown := E.1.2.2.2.1
  have h0 := E.1.2.2.2.2
  have hl : lv_has ls 2 [(0, .ref (ad 14 100))] := hl
  unfold V_X12_holdsWay at h
  have b139 : ∀ (z : ZS) (s1 : Int32), ∀ (H : Heap) (locs : List Loc), OW D ad cs A s.heap z H locs → ∀ ls : Array Slot, lv_has ls 2 [] → V_X12_holdsWay_139 post z s1 → W p l e (rmq 1 0 0) s m args below meth c H locs 0 0 Q (F0 m 139 ls [.int s1, .ref (ad 14 100)]) := by
    intro z s1 H locs hw ls hl h
    unfold V_X12_holdsWay_139 at h
    refine xpI E hw (c1 := 12) rfl ky_14_100 fp_12_17 rfl rfl qf_12_177 dX12_holdsWay_139 (fun z6 ez6 H locs hw => ?_)
    replace h := h z6 ez6
    exact hret z6 H locs 142 ls hw h dX12_holdsWay_142
  have b103 : ∀ (z : ZS) (v1 : Int32), ∀ (H : Heap) (locs : List Loc), OW D ad cs A s.heap z H locs → ∀ ls : Array Slot, lv_has ls 2 [(1, .int v1)] → V_X12_holdsWay_103 post z v1 → W p l e (rmq 1 0 0) s m args below meth c H locs 0 0 Q (F0 m 103 ls [.ref (ad 14 100)]) := by
    intro z v1 H locs hw ls hl h
    unfold V_X12_holdsWay_103 at h
    refine lv_iload_n hx hb dX12_holdsWay_103 rfl (lv_at hl 0 rfl) ?_
    refine lv_goto (tgt := 139) hx hb dX12_holdsWay_104 (by decide) ?_
    exact b139 z v1 H locs hw ls (lv_sub hl [] rfl) h
  have b133 : ∀ (z : ZS) (v1 : Int32), ∀ (H : Heap) (locs : List Loc), OW D ad cs A s.heap z H locs → ∀ ls : Array Slot, lv_has ls 2 [(1, .int v1)] → V_X12_holdsWay_133 post z v1 → W p l e (rmq 1 0 0) s m args below meth c H locs 0 0 Q (F0 m 133 ls [.ref (ad 14 100)]) := by
    intro z v1 H locs hw ls hl h
    unfold V_X12_holdsWay_133 at h
    refine lv_iload_n hx hb dX12_holdsWay_133 rfl (lv_at hl 0 rfl) ?_
    refine lv_ineg hx hb dX12_holdsWay_134 ?_
    refine lv_goto (tgt := 139) hx hb dX12_holdsWay_135 (by decide) ?_
    exact b139 z (-v1) H locs hw ls (lv_sub hl [] rfl) h
  have b74 : ∀ (z : ZS) (v1 : Int32) (s1 : Int32), ∀ (H : Heap) (locs : List Loc), OW D ad cs A s.heap z H locs → ∀ ls : Array Slot, lv_has ls 2 [(0, .ref (ad 14 100)), (1, .int v1)] → V_X12_holdsWay_74 post z v1 s1 → W p l e (rmq 1 0 0) s m args below meth c H locs 0 0 Q (F0 m 74 ls [.int s1, .ref (ad 14 100)]) := by
    intro z v1 s1 H locs hw ls hl h
    unfold V_X12_holdsWay_74 at h
    refine xpI E hw (c1 := 12) rfl ky_14_100 fp_12_16 rfl rfl qf_12_174 dX12_holdsWay_74 (fun z4 ez4 H locs hw => ?_)
    replace h := h z4 ez4
    refine lv_aload_n hx hb dX12_holdsWay_77 rfl (lv_at hl 0 rfl) ?_
    refine lv_aload_n hx hb dX12_holdsWay_78 rfl (lv_at hl 0 rfl) ?_
    refine xgI E hw (c1 := 12) rfl ky_14_100 fo_12_21 qf_12_203 dX12_holdsWay_79 ?_
    refine lv_iconst (v := 3) hx hb dX12_holdsWay_82 (by decide) ?_
    refine lv_icmp_eq (tgt := 103) hx hb dX12_holdsWay_83 (by decide) (fun c5 => ?_) (fun c5 => ?_)
    · replace h := h.1 c5
      exact b103 z4 v1 H locs hw ls (lv_sub hl [1] rfl) h
    · replace h := h.2 c5
      refine lv_aload_n hx hb dX12_holdsWay_86 rfl (lv_at hl 0 rfl) ?_
      refine xgI E hw (c1 := 12) rfl ky_14_100 fo_12_21 qf_12_203 dX12_holdsWay_87 ?_
      refine lv_iconst (v := 5) hx hb dX12_holdsWay_90 (by decide) ?_
      refine lv_icmp_eq (tgt := 103) hx hb dX12_holdsWay_91 (by decide) (fun c7 => ?_) (fun c7 => ?_)
      · replace h := h.1 c7
        exact b103 z4 v1 H locs hw ls (lv_sub hl [1] rfl) h
      · replace h := h.2 c7
        refine lv_aload_n hx hb dX12_holdsWay_94 rfl (lv_at hl 0 rfl) ?_
        refine xgI E hw (c1 := 12) rfl ky_14_100 fo_12_21 qf_12_203 dX12_holdsWay_95 ?_
        refine lv_bipush (v := 6) hx hb dX12_holdsWay_98 (by decide) ?_
        refine lv_icmp_ne (tgt := 107) hx hb dX12_holdsWay_100 (by decide) (fun c8 => ?_) (fun c8 => ?_)
        · replace h := h.1 c8
          refine lv_aload_n hx hb dX12_holdsWay_107 rfl (lv_at hl 0 rfl) ?_
          refine xgI E hw (c1 := 12) rfl ky_14_100 fo_12_21 qf_12_203 dX12_holdsWay_108 ?_
          refine lv_iconst (v := 4) hx hb dX12_holdsWay_111 (by decide) ?_
          refine lv_icmp_eq (tgt := 133) hx hb dX12_holdsWay_112 (by decide) (fun c9 => ?_) (fun c9 => ?_)
          · replace h := h.1 c9
            exact b133 z4 v1 H locs hw ls (lv_sub hl [1] rfl) h
          · replace h := h.2 c9
            refine lv_aload_n hx hb dX12_holdsWay_115 rfl (lv_at hl 0 rfl) ?_
            refine xgI E hw (c1 := 12) rfl ky_14_100 fo_12_21 qf_12_203 dX12_holdsWay_116 ?_
            refine lv_bipush (v := 7) hx hb dX12_holdsWay_119 (by decide) ?_
            refine lv_icmp_eq (tgt := 133) hx hb dX12_holdsWay_121 (by decide) (fun c10 => ?_) (fun c10 => ?_)
            · replace h := h.1 c10
              exact b133 z4 v1 H locs hw ls (lv_sub hl [1] rfl) h
            · replace h := h.2 c10
              refine lv_aload_n hx hb dX12_holdsWay_124 rfl (lv_at hl 0 rfl) ?_
              refine xgI E hw (c1 := 12) rfl ky_14_100 fo_12_21 qf_12_203 dX12_holdsWay_125 ?_
              refine lv_bipush (v := 8) hx hb dX12_holdsWay_128 (by decide) ?_
              refine lv_icmp_ne (tgt := 138) hx hb dX12_holdsWay_130 (by decide) (fun c11 => ?_) (fun c11 => ?_)
              · replace h := h.1 c11
                refine lv_iconst (v := 0) hx hb dX12_holdsWay_138 (by decide) ?_
                exact b139 z4 (0 : Int32) H locs hw ls (lv_sub hl [] rfl) h
              · replace h := h.2 c11
                exact b133 z4 v1 H locs hw ls (lv_sub hl [1] rfl) h
        · replace h := h.2 c8
          exact b103 z4 v1 H locs hw ls (lv_sub hl [1] rfl) h
  have b38 : ∀ (z : ZS) (v1 : Int32), ∀ (H : Heap) (locs : List Loc), OW D ad cs A s.heap z H locs → ∀ ls : Array Slot, lv_has ls 2 [(0, .ref (ad 14 100)), (1, .int v1)] → V_X12_holdsWay_38 post z v1 → W p l e (rmq 1 0 0) s m args below meth c H locs 0 0 Q (F0 m 38 ls [.ref (ad 14 100)]) := by
    intro z v1 H locs hw ls hl h
    unfold V_X12_holdsWay_38 at h
    refine lv_iload_n hx hb dX12_holdsWay_38 rfl (lv_at hl 1 rfl) ?_
    refine lv_goto (tgt := 74) hx hb dX12_holdsWay_39 (by decide) ?_
    exact b74 z v1 v1 H locs hw ls (lv_sub hl [0, 1] rfl) h
  have b68 : ∀ (z : ZS) (v1 : Int32), ∀ (H : Heap) (locs : List Loc), OW D ad cs A s.heap z H locs → ∀ ls : Array Slot, lv_has ls 2 [(0, .ref (ad 14 100)), (1, .int v1)] → V_X12_holdsWay_68 post z v1 → W p l e (rmq 1 0 0) s m args below meth c H locs 0 0 Q (F0 m 68 ls [.ref (ad 14 100)]) := by
    intro z v1 H locs hw ls hl h
    unfold V_X12_holdsWay_68 at h
    refine lv_iload_n hx hb dX12_holdsWay_68 rfl (lv_at hl 1 rfl) ?_
    refine lv_ineg hx hb dX12_holdsWay_69 ?_
    refine lv_goto (tgt := 74) hx hb dX12_holdsWay_70 (by decide) ?_
    exact b74 z v1 (-v1) H locs hw ls (lv_sub hl [0, 1] rfl) h
  have b00 : ∀ (H : Heap) (locs : List Loc), OW D ad cs A s.heap z H locs → W p l e (rmq 1 0 0) s m args below meth c H locs 0 0 Q (F0 m 0 ls []) := by
    intro H locs hw
    refine lv_aload_n hx hb dX12_holdsWay_0 rfl (lv_at hl 0 rfl) ?_
    refine xgI E hw (c1 := 12) rfl ky_14_100 fo_12_18 qf_12_194 dX12_holdsWay_1 ?_
    refine lv_aload_n hx hb dX12_holdsWay_4 rfl (lv_at hl 0 rfl) ?_
    refine xgI E hw (c1 := 12) rfl ky_14_100 fo_12_19 qf_12_197 dX12_holdsWay_5 ?_
    have hq := h
    clear h
    refine xcSI (As := [.int (zI z 14 18), .int (zI z 14 19)]) (rest := []) E hw hA (c_X12_paceBy l D ad cs sk z (zI z 14 18) (zI z 14 19) _ hq) kc_12_161 yo_X12_paceBy ⟨Nat.le_of_ble_eq_true rfl, Nat.le_of_ble_eq_true rfl⟩ rfl hl.1 rfl (Nat.le_of_ble_eq_true rfl) dX12_holdsWay_8 ⟨Nat.le_of_ble_eq_true rfl, Nat.le_of_ble_eq_true rfl⟩ (fun r2 z1 H locs h hw => ?_)
    refine lv_istore_n (lv' := [(1, .int r2), (0, .ref (ad 14 100))]) hx hb dX12_holdsWay_11 rfl hl (by decide) rfl (fun ls hl => ?_)
    refine lv_aload_n hx hb dX12_holdsWay_12 rfl (lv_at hl 1 rfl) ?_
    refine lv_aload_n hx hb dX12_holdsWay_13 rfl (lv_at hl 1 rfl) ?_
    refine xgI E hw (c1 := 12) rfl ky_14_100 fo_12_21 qf_12_203 dX12_holdsWay_14 ?_
    refine lv_iconst (v := 1) hx hb dX12_holdsWay_17 (by decide) ?_
    refine lv_icmp_eq (tgt := 38) hx hb dX12_holdsWay_18 (by decide) (fun c3 => ?_) (fun c3 => ?_)
    · replace h := h.1 c3
      exact b38 z1 r2 H locs hw ls (lv_sub hl [1, 0] rfl) h
    · replace h := h.2 c3
      refine lv_aload_n hx hb dX12_holdsWay_21 rfl (lv_at hl 1 rfl) ?_
      refine xgI E hw (c1 := 12) rfl ky_14_100 fo_12_21 qf_12_203 dX12_holdsWay_22 ?_
      refine lv_iconst (v := 5) hx hb dX12_holdsWay_25 (by decide) ?_
      refine lv_icmp_eq (tgt := 38) hx hb dX12_holdsWay_26 (by decide) (fun c12 => ?_) (fun c12 => ?_)
      · replace h := h.1 c12
        exact b38 z1 r2 H locs hw ls (lv_sub hl [1, 0] rfl) h
      · replace h := h.2 c12
        refine lv_aload_n hx hb dX12_holdsWay_29 rfl (lv_at hl 1 rfl) ?_
        refine xgI E hw (c1 := 12) rfl ky_14_100 fo_12_21 qf_12_203 dX12_holdsWay_30 ?_
        refine lv_bipush (v := 7) hx hb dX12_holdsWay_33 (by decide) ?_
        refine lv_icmp_ne (tgt := 42) hx hb dX12_holdsWay_35 (by decide) (fun c13 => ?_) (fun c13 => ?_)
        · replace h := h.1 c13
          refine lv_aload_n hx hb dX12_holdsWay_42 rfl (lv_at hl 1 rfl) ?_
          refine xgI E hw (c1 := 12) rfl ky_14_100 fo_12_21 qf_12_203 dX12_holdsWay_43 ?_
          refine lv_iconst (v := 2) hx hb dX12_holdsWay_46 (by decide) ?_
          refine lv_icmp_eq (tgt := 68) hx hb dX12_holdsWay_47 (by decide) (fun c14 => ?_) (fun c14 => ?_)
          · replace h := h.1 c14
            exact b68 z1 r2 H locs hw ls (lv_sub hl [1, 0] rfl) h
          · replace h := h.2 c14
            refine lv_aload_n hx hb dX12_holdsWay_50 rfl (lv_at hl 1 rfl) ?_
            refine xgI E hw (c1 := 12) rfl ky_14_100 fo_12_21 qf_12_203 dX12_holdsWay_51 ?_
            refine lv_bipush (v := 6) hx hb dX12_holdsWay_54 (by decide) ?_
            refine lv_icmp_eq (tgt := 68) hx hb dX12_holdsWay_56 (by decide) (fun c15 => ?_) (fun c15 => ?_)
            · replace h := h.1 c15
              exact b68 z1 r2 H locs hw ls (lv_sub hl [1, 0] rfl) h
            · replace h := h.2 c15
              refine lv_aload_n hx hb dX12_holdsWay_59 rfl (lv_at hl 1 rfl) ?_
              refine xgI E hw (c1 := 12) rfl ky_14_100 fo_12_21 qf_12_203 dX12_holdsWay_60 ?_
              refine lv_bipush (v := 8) hx hb dX12_holdsWay_63 (by decide) ?_
              refine lv_icmp_ne (tgt := 73) hx hb dX12_holdsWay_65 (by decide) (fun c16 => ?_) (fun c16 => ?_)
              · replace h := h.1 c16
                refine lv_iconst (v := 0) hx hb dX12_holdsWay_73 (by decide) ?_
                exact b74 z1 r2 (0 : Int32) H locs hw ls (lv_sub hl [1, 0] rfl) h
              · replace h := h.2 c16
                exact b68 z1 r2 H locs hw ls (lv_sub hl [1, 0] rfl) h
        · replace h := h.2 c13
          exact b38 z1 r2 H locs hw ls (lv_sub hl [1, 0] rfl) h
  exact b00 s.heap [] hw
def V_X12_goesSecond_300 (post : ZS → Prop) (z : ZS) : Prop := (∀ z27 : ZS, z27 = wI z 14 25 ((zI z 14 25) + (1 : Int32)) → post z27)
def V_X12_goesSecond_235 (post : ZS → Prop) (z : ZS) (v2 : Int32) (v3 : Int32) : Prop := V_X12_driftBy z (zI z 14 18) v2 (fun r14 z13 => V_X12_held z13 (((zI z 14 22) + (zI z 14 16)) + r14) (fun r16 z15 => (∀ z17 : ZS, z17 = wI z15 14 22 r16 → V_X12_driftBy z17 (zI z17 14 18) v3 (fun r19 z18 => V_X12_held z18 (((zI z17 14 23) + (zI z17 14 17)) + r19) (fun r21 z20 => (∀ z22 : ZS, z22 = wI z20 14 23 r21 → V_X12_sinksBy z22 (zI z22 14 18) (zI z22 14 19) (fun r24 z23 => V_X12_goesDown z23 r24 (fun z25 => V_X12_goesSecond_300 post z25))))))))
def V_X12_goesSecond_198 (post : ZS → Prop) (z : ZS) (v2 : Int32) (v3 : Int32) : Prop := ((¬ (zI z 14 21) = (-1 : Int32) → V_X12_holdsWay z (fun z11 => V_X12_goesSecond_235 post z11 v2 v3)) ∧ ((zI z 14 21) = (-1 : Int32) → V_X12_steersBy z (zI z 14 18) (zI z 14 19) (zI z 14 22) (zI z 14 23) v2 v3 (fun z28 => V_X12_goesSecond_235 post z28 v2 v3)))
def V_X12_goesSecond_161 (post : ZS → Prop) (z : ZS) (v1 : Int32) (v2 : Int32) (v3 : Int32) : Prop := ((¬ v1 = 0 → V_X12_goesSecond_198 post z v2 v3) ∧ (v1 = 0 → (((zR z 14 0 0) ≤ 0 → V_X12_goesSecond_198 post z v2 v3) ∧ (¬ (zR z 14 0 0) ≤ 0 → V_X12_drawn z (((2 : Int32) * (zR z 14 0 0)) + (1 : Int32)) (fun r32 z31 => (∀ t33 : Int32, t33 = (v2 + (r32 - (zR z31 14 0 0))) → V_X12_goesSecond_198 post z31 t33 v3))))))
def V_X12_goesSecond_57 (post : ZS → Prop) (z : ZS) (v2 : Int32) (v3 : Int32) (s0 : Int32) : Prop := V_X12_driftBy z (zI z 14 18) v2 (fun r39 z38 => V_X12_held z38 (((zI z 14 22) + (((zR z 14 0 1) * s0) / (10 : Int32))) + (r39 / (2 : Int32))) (fun r41 z40 => (∀ z42 : ZS, z42 = wI z40 14 22 r41 → V_X12_driftBy z42 (zI z42 14 18) v3 (fun r44 z43 => V_X12_held z43 ((zI z42 14 23) + (r44 / (2 : Int32))) (fun r46 z45 => (∀ z47 : ZS, z47 = wI z45 14 23 r46 → V_X12_fallsBy z47 (zI z47 14 18) (fun r49 z48 => V_X12_goesDown z48 r49 (fun z50 => V_X12_goesSecond_300 post z50))))))))
def V_X12_goesSecond (z : ZS) (post : ZS → Prop) : Prop := V_X12_lesser z ((zI z 14 24) / (300 : Int32)) (9 : Int32) (fun r2 z1 => V_X12_east z1 r2 (fun r4 z3 => V_X12_north z3 r2 (fun r6 z5 => (((zI z5 14 20) ≤ (zI z5 14 25) → ((0 ≤ (zI z5 14 29) → V_X12_goesSecond_161 post z5 r2 r4 r6) ∧ (¬ 0 ≤ (zI z5 14 29) → (∀ z34 : ZS, z34 = wI z5 14 27 (zI z5 14 22) → (∀ z35 : ZS, z35 = wI z34 14 28 (zI z34 14 23) → (∀ z36 : ZS, z36 = wI z35 14 29 (zI z35 14 25) → V_X12_goesSecond_161 post z36 r2 r4 r6)))))) ∧ (¬ (zI z5 14 20) ≤ (zI z5 14 25) → (((10 : Int32) ≤ (zI z5 14 25) → V_X12_goesSecond_57 post z5 r4 r6 (0 : Int32)) ∧ (¬ (10 : Int32) ≤ (zI z5 14 25) → V_X12_goesSecond_57 post z5 r4 r6 ((10 : Int32) - (zI z5 14 25)))))))))
set_option maxHeartbeats 4000000 in
set_option maxRecDepth 100000 in
theorem c_X12_goesSecond (l : Launch) (D : va_G) (ad : Nat → Nat → Nat) (cs : Nat → ClassId) (sk : (Nat → Nat) × (Nat → Nat)) (z : ZS) (post : ZS → Prop) (h : V_X12_goesSecond z post) : MV l D ad cs sk yX12_goesSecond cX12_goesSecond 5 (rmq 3 0 0) [.ref (ad 14 100)] z post := by
  refine MV.of RX12 rfl (by decide) (Nat.le_of_ble_eq_true rfl) ?_
  intro p e s m args below meth c A Q E hw hA hret ls hl
  have hx := E.1.1
  have hb := E.1.2.1
  have hml := E.1.2.2.1
  have hown := E.1.2.2.2.1
  have h0 := E.1.2.2.2.2
  have hl : lv_has ls 5 [(0, .ref (ad 14 100))] := hl
  unfold V_X12_goesSecond at h
  have b300 : ∀ (z : ZS), ∀ (H : Heap) (locs : List Loc), OW D ad cs A s.heap z H locs → ∀ ls : Array Slot, lv_has ls 5 [(0, .ref (ad 14 100))] → V_X12_goesSecond_300 post z → W p l e (rmq 3 0 0) s m args below meth c H locs 0 0 Q (F0 m 300 ls []) := by
    intro z H locs hw ls hl h
    unfold V_X12_goesSecond_300 at h
    refine lv_aload_n hx hb dX12_goesSecond_300 rfl (lv_at hl 0 rfl) ?_
    refine lv_dup hx hb dX12_goesSecond_301 rfl ?_
    refine xgI E hw (c1 := 12) rfl ky_14_100 fo_12_25 qf_12_215 dX12_goesSecond_302 ?_
    refine lv_iconst (v := 1) hx hb dX12_goesSecond_305 (by decide) ?_
    refine lv_iadd hx hb dX12_goesSecond_306 ?_
    refine xpI E hw (c1 := 12) rfl ky_14_100 fp_12_25 rfl rfl qf_12_215 dX12_goesSecond_307 (fun z27 ez27 H locs hw => ?_)
    replace h := h z27 ez27
    exact hret z27 H locs 310 ls hw h dX12_goesSecond_310
  have b235 : ∀ (z : ZS) (v2 : Int32) (v3 : Int32), ∀ (H : Heap) (locs : List Loc), OW D ad cs A s.heap z H locs → ∀ ls : Array Slot, lv_has ls 5 [(0, .ref (ad 14 100)), (2, .int v2), (3, .int v3)] → V_X12_goesSecond_235 post z v2 v3 → W p l e (rmq 3 0 0) s m args below meth c H locs 0 0 Q (F0 m 235 ls []) := by
    intro z v2 v3 H locs hw ls hl h
    unfold V_X12_goesSecond_235 at h
    refine lv_aload_n hx hb dX12_goesSecond_235 rfl (lv_at hl 0 rfl) ?_
    refine lv_aload_n hx hb dX12_goesSecond_236 rfl (lv_at hl 0 rfl) ?_
    refine xgI E hw (c1 := 12) rfl ky_14_100 fo_12_22 qf_12_206 dX12_goesSecond_237 ?_
    refine lv_aload_n hx hb dX12_goesSecond_240 rfl (lv_at hl 0 rfl) ?_
    refine xgI E hw (c1 := 12) rfl ky_14_100 fo_12_16 qf_12_174 dX12_goesSecond_241 ?_
    refine lv_iadd hx hb dX12_goesSecond_244 ?_
    refine lv_aload_n hx hb dX12_goesSecond_245 rfl (lv_at hl 0 rfl) ?_
    refine xgI E hw (c1 := 12) rfl ky_14_100 fo_12_18 qf_12_194 dX12_goesSecond_246 ?_
    refine lv_iload_n hx hb dX12_goesSecond_249 rfl (lv_at hl 1 rfl) ?_
    have hq := h
    clear h
    refine xcSI (As := [.int (zI z 14 18), .int v2]) (rest := [.int ((zI z 14 22) + (zI z 14 16)), .ref (ad 14 100)]) E hw hA (c_X12_driftBy l D ad cs sk z (zI z 14 18) v2 _ hq) kc_12_168 yo_X12_driftBy ⟨Nat.le_of_ble_eq_true rfl, Nat.le_of_ble_eq_true rfl⟩ rfl hl.1 rfl (Nat.le_of_ble_eq_true rfl) dX12_goesSecond_250 ⟨Nat.le_of_ble_eq_true rfl, Nat.le_of_ble_eq_true rfl⟩ (fun r14 z13 H locs h hw => ?_)
    refine lv_iadd hx hb dX12_goesSecond_253 ?_
    have hq := h
    clear h
    refine xcSI (As := [.int (((zI z 14 22) + (zI z 14 16)) + r14)]) (rest := [.ref (ad 14 100)]) E hw hA (c_X12_held l D ad cs sk z13 (((zI z 14 22) + (zI z 14 16)) + r14) _ hq) kc_12_230 yo_X12_held ⟨Nat.le_of_ble_eq_true rfl, Nat.le_of_ble_eq_true rfl⟩ rfl hl.1 rfl (Nat.le_of_ble_eq_true rfl) dX12_goesSecond_254 ⟨Nat.le_of_ble_eq_true rfl, Nat.le_of_ble_eq_true rfl⟩ (fun r16 z15 H locs h hw => ?_)
    refine xpI E hw (c1 := 12) rfl ky_14_100 fp_12_22 rfl rfl qf_12_206 dX12_goesSecond_257 (fun z17 ez17 H locs hw => ?_)
    replace h := h z17 ez17
    refine lv_aload_n hx hb dX12_goesSecond_260 rfl (lv_at hl 0 rfl) ?_
    refine lv_aload_n hx hb dX12_goesSecond_261 rfl (lv_at hl 0 rfl) ?_
    refine xgI E hw (c1 := 12) rfl ky_14_100 fo_12_23 qf_12_209 dX12_goesSecond_262 ?_
    refine lv_aload_n hx hb dX12_goesSecond_265 rfl (lv_at hl 0 rfl) ?_
    refine xgI E hw (c1 := 12) rfl ky_14_100 fo_12_17 qf_12_177 dX12_goesSecond_266 ?_
    refine lv_iadd hx hb dX12_goesSecond_269 ?_
    refine lv_aload_n hx hb dX12_goesSecond_270 rfl (lv_at hl 0 rfl) ?_
    refine xgI E hw (c1 := 12) rfl ky_14_100 fo_12_18 qf_12_194 dX12_goesSecond_271 ?_
    refine lv_iload_n hx hb dX12_goesSecond_274 rfl (lv_at hl 2 rfl) ?_
    have hq := h
    clear h
    refine xcSI (As := [.int (zI z17 14 18), .int v3]) (rest := [.int ((zI z17 14 23) + (zI z17 14 17)), .ref (ad 14 100)]) E hw hA (c_X12_driftBy l D ad cs sk z17 (zI z17 14 18) v3 _ hq) kc_12_168 yo_X12_driftBy ⟨Nat.le_of_ble_eq_true rfl, Nat.le_of_ble_eq_true rfl⟩ rfl hl.1 rfl (Nat.le_of_ble_eq_true rfl) dX12_goesSecond_275 ⟨Nat.le_of_ble_eq_true rfl, Nat.le_of_ble_eq_true rfl⟩ (fun r19 z18 H locs h hw => ?_)
    refine lv_iadd hx hb dX12_goesSecond_278 ?_
    have hq := h
    clear h
    refine xcSI (As := [.int (((zI z17 14 23) + (zI z17 14 17)) + r19)]) (rest := [.ref (ad 14 100)]) E hw hA (c_X12_held l D ad cs sk z18 (((zI z17 14 23) + (zI z17 14 17)) + r19) _ hq) kc_12_230 yo_X12_held ⟨Nat.le_of_ble_eq_true rfl, Nat.le_of_ble_eq_true rfl⟩ rfl hl.1 rfl (Nat.le_of_ble_eq_true rfl) dX12_goesSecond_279 ⟨Nat.le_of_ble_eq_true rfl, Nat.le_of_ble_eq_true rfl⟩ (fun r21 z20 H locs h hw => ?_)
    refine xpI E hw (c1 := 12) rfl ky_14_100 fp_12_23 rfl rfl qf_12_209 dX12_goesSecond_282 (fun z22 ez22 H locs hw => ?_)
    replace h := h z22 ez22
    refine lv_aload_n hx hb dX12_goesSecond_285 rfl (lv_at hl 0 rfl) ?_
    refine lv_aload_n hx hb dX12_goesSecond_286 rfl (lv_at hl 0 rfl) ?_
    refine xgI E hw (c1 := 12) rfl ky_14_100 fo_12_18 qf_12_194 dX12_goesSecond_287 ?_
    refine lv_aload_n hx hb dX12_goesSecond_290 rfl (lv_at hl 0 rfl) ?_
    refine xgI E hw (c1 := 12) rfl ky_14_100 fo_12_19 qf_12_197 dX12_goesSecond_291 ?_
    have hq := h
    clear h
    refine xcSI (As := [.int (zI z22 14 18), .int (zI z22 14 19)]) (rest := [.ref (ad 14 100)]) E hw hA (c_X12_sinksBy l D ad cs sk z22 (zI z22 14 18) (zI z22 14 19) _ hq) kc_12_158 yo_X12_sinksBy ⟨Nat.le_of_ble_eq_true rfl, Nat.le_of_ble_eq_true rfl⟩ rfl hl.1 rfl (Nat.le_of_ble_eq_true rfl) dX12_goesSecond_294 ⟨Nat.le_of_ble_eq_true rfl, Nat.le_of_ble_eq_true rfl⟩ (fun r24 z23 H locs h hw => ?_)
    have hq := h
    clear h
    refine xcVV (As := [.int r24]) (rest := []) E hw hA (c_X12_goesDown l D ad cs sk z23 r24 _ hq) kc_12_233 yo_X12_goesDown ⟨Nat.le_of_ble_eq_true rfl, Nat.le_of_ble_eq_true rfl⟩ (xrc E hw ky_14_100 rfl) rfl hl.1 rfl (Nat.le_of_ble_eq_true rfl) dX12_goesSecond_297 ⟨Nat.le_of_ble_eq_true rfl, Nat.le_of_ble_eq_true rfl⟩ (fun z25 H locs h hw => ?_)
    exact b300 z25 H locs hw ls (lv_sub hl [0] rfl) h
  have b198 : ∀ (z : ZS) (v2 : Int32) (v3 : Int32), ∀ (H : Heap) (locs : List Loc), OW D ad cs A s.heap z H locs → ∀ ls : Array Slot, lv_has ls 5 [(0, .ref (ad 14 100)), (2, .int v2), (3, .int v3)] → V_X12_goesSecond_198 post z v2 v3 → W p l e (rmq 3 0 0) s m args below meth c H locs 0 0 Q (F0 m 198 ls []) := by
    intro z v2 v3 H locs hw ls hl h
    unfold V_X12_goesSecond_198 at h
    refine lv_aload_n hx hb dX12_goesSecond_198 rfl (lv_at hl 0 rfl) ?_
    refine xgI E hw (c1 := 12) rfl ky_14_100 fo_12_21 qf_12_203 dX12_goesSecond_199 ?_
    refine lv_iconst (v := -1) hx hb dX12_goesSecond_202 (by decide) ?_
    refine lv_icmp_ne (tgt := 231) hx hb dX12_goesSecond_203 (by decide) (fun c10 => ?_) (fun c10 => ?_)
    · replace h := h.1 c10
      refine lv_aload_n hx hb dX12_goesSecond_231 rfl (lv_at hl 0 rfl) ?_
      have hq := h
      clear h
      refine xcVV (As := []) (rest := []) E hw hA (c_X12_holdsWay l D ad cs sk z _ hq) kc_12_246 yo_X12_holdsWay ⟨Nat.le_of_ble_eq_true rfl, Nat.le_of_ble_eq_true rfl⟩ (xrc E hw ky_14_100 rfl) rfl hl.1 rfl (Nat.le_of_ble_eq_true rfl) dX12_goesSecond_232 ⟨Nat.le_of_ble_eq_true rfl, Nat.le_of_ble_eq_true rfl⟩ (fun z11 H locs h hw => ?_)
      exact b235 z11 v2 v3 H locs hw ls (lv_sub hl [0, 1, 2] rfl) h
    · replace h := h.2 c10
      refine lv_aload_n hx hb dX12_goesSecond_206 rfl (lv_at hl 0 rfl) ?_
      refine lv_aload_n hx hb dX12_goesSecond_207 rfl (lv_at hl 0 rfl) ?_
      refine xgI E hw (c1 := 12) rfl ky_14_100 fo_12_18 qf_12_194 dX12_goesSecond_208 ?_
      refine lv_aload_n hx hb dX12_goesSecond_211 rfl (lv_at hl 0 rfl) ?_
      refine xgI E hw (c1 := 12) rfl ky_14_100 fo_12_19 qf_12_197 dX12_goesSecond_212 ?_
      refine lv_aload_n hx hb dX12_goesSecond_215 rfl (lv_at hl 0 rfl) ?_
      refine xgI E hw (c1 := 12) rfl ky_14_100 fo_12_22 qf_12_206 dX12_goesSecond_216 ?_
      refine lv_aload_n hx hb dX12_goesSecond_219 rfl (lv_at hl 0 rfl) ?_
      refine xgI E hw (c1 := 12) rfl ky_14_100 fo_12_23 qf_12_209 dX12_goesSecond_220 ?_
      refine lv_iload_n hx hb dX12_goesSecond_223 rfl (lv_at hl 1 rfl) ?_
      refine lv_iload_n hx hb dX12_goesSecond_224 rfl (lv_at hl 2 rfl) ?_
      have hq := h
      clear h
      refine xcVV (As := [.int (zI z 14 18), .int (zI z 14 19), .int (zI z 14 22), .int (zI z 14 23), .int v2, .int v3]) (rest := []) E hw hA (c_X12_steersBy l D ad cs sk z (zI z 14 18) (zI z 14 19) (zI z 14 22) (zI z 14 23) v2 v3 _ hq) kc_12_187 yo_X12_steersBy ⟨Nat.le_of_ble_eq_true rfl, Nat.le_of_ble_eq_true rfl⟩ (xrc E hw ky_14_100 rfl) rfl hl.1 rfl (Nat.le_of_ble_eq_true rfl) dX12_goesSecond_225 ⟨Nat.le_of_ble_eq_true rfl, Nat.le_of_ble_eq_true rfl⟩ (fun z28 H locs h hw => ?_)
      refine lv_goto (tgt := 235) hx hb dX12_goesSecond_228 (by decide) ?_
      exact b235 z28 v2 v3 H locs hw ls (lv_sub hl [0, 1, 2] rfl) h
  have b161 : ∀ (z : ZS) (v1 : Int32) (v2 : Int32) (v3 : Int32), ∀ (H : Heap) (locs : List Loc), OW D ad cs A s.heap z H locs → ∀ ls : Array Slot, lv_has ls 5 [(0, .ref (ad 14 100)), (1, .int v1), (2, .int v2), (3, .int v3)] → V_X12_goesSecond_161 post z v1 v2 v3 → W p l e (rmq 3 0 0) s m args below meth c H locs 0 0 Q (F0 m 161 ls []) := by
    intro z v1 v2 v3 H locs hw ls hl h
    unfold V_X12_goesSecond_161 at h
    refine lv_iload_n hx hb dX12_goesSecond_161 rfl (lv_at hl 1 rfl) ?_
    refine lv_if_ne (tgt := 198) hx hb dX12_goesSecond_162 (by decide) (fun c9 => ?_) (fun c9 => ?_)
    · replace h := h.1 c9
      exact b198 z v2 v3 H locs hw ls (lv_sub hl [0, 2, 3] rfl) h
    · replace h := h.2 c9
      refine lv_aload_n hx hb dX12_goesSecond_165 rfl (lv_at hl 0 rfl) ?_
      refine xgC E hw (c1 := 12) (t := (14, 0)) rfl ky_14_100 fo_12_0 rfl qf_12_9 dX12_goesSecond_166 ?_
      refine lv_iconst (v := 0) hx hb dX12_goesSecond_169 (by decide) ?_
      refine xalL (j := 0) E hw ky_14_0 ka_14_0 (by decide) (by decide) dX12_goesSecond_170 ?_
      refine lv_if_le (tgt := 198) hx hb dX12_goesSecond_171 (by decide) (fun c30 => ?_) (fun c30 => ?_)
      · replace h := h.1 c30
        exact b198 z v2 v3 H locs hw ls (lv_sub hl [0, 2, 3] rfl) h
      · replace h := h.2 c30
        refine lv_iload_n hx hb dX12_goesSecond_174 rfl (lv_at hl 2 rfl) ?_
        refine lv_aload_n hx hb dX12_goesSecond_175 rfl (lv_at hl 0 rfl) ?_
        refine lv_iconst (v := 2) hx hb dX12_goesSecond_176 (by decide) ?_
        refine lv_aload_n hx hb dX12_goesSecond_177 rfl (lv_at hl 0 rfl) ?_
        refine xgC E hw (c1 := 12) (t := (14, 0)) rfl ky_14_100 fo_12_0 rfl qf_12_9 dX12_goesSecond_178 ?_
        refine lv_iconst (v := 0) hx hb dX12_goesSecond_181 (by decide) ?_
        refine xalL (j := 0) E hw ky_14_0 ka_14_0 (by decide) (by decide) dX12_goesSecond_182 ?_
        refine lv_imul hx hb dX12_goesSecond_183 ?_
        refine lv_iconst (v := 1) hx hb dX12_goesSecond_184 (by decide) ?_
        refine lv_iadd hx hb dX12_goesSecond_185 ?_
        have hq := h
        clear h
        refine xcVI (As := [.int (((2 : Int32) * (zR z 14 0 0)) + (1 : Int32))]) (rest := [.int v2]) E hw hA (c_X12_drawn l D ad cs sk z (((2 : Int32) * (zR z 14 0 0)) + (1 : Int32)) _ hq) kc_12_243 yo_X12_drawn ⟨Nat.le_of_ble_eq_true rfl, Nat.le_of_ble_eq_true rfl⟩ (xrc E hw ky_14_100 rfl) rfl hl.1 rfl (Nat.le_of_ble_eq_true rfl) dX12_goesSecond_186 ⟨Nat.le_of_ble_eq_true rfl, Nat.le_of_ble_eq_true rfl⟩ (fun r32 z31 H locs h hw => ?_)
        refine lv_aload_n hx hb dX12_goesSecond_189 rfl (lv_at hl 0 rfl) ?_
        refine xgC E hw (c1 := 12) (t := (14, 0)) rfl ky_14_100 fo_12_0 rfl qf_12_9 dX12_goesSecond_190 ?_
        refine lv_iconst (v := 0) hx hb dX12_goesSecond_193 (by decide) ?_
        refine xalL (j := 0) E hw ky_14_0 ka_14_0 (by decide) (by decide) dX12_goesSecond_194 ?_
        refine lv_isub hx hb dX12_goesSecond_195 ?_
        refine lv_iadd hx hb dX12_goesSecond_196 ?_
        refine lv_topi (fun t33 et33 => ?_)
        replace h := h t33 et33
        refine lv_istore_n (lv' := [(2, .int t33), (0, .ref (ad 14 100)), (1, .int v1), (3, .int v3)]) hx hb dX12_goesSecond_197 rfl hl (by decide) rfl (fun ls hl => ?_)
        exact b198 z31 t33 v3 H locs hw ls (lv_sub hl [1, 0, 3] rfl) h
  have b57 : ∀ (z : ZS) (v2 : Int32) (v3 : Int32) (s0 : Int32), ∀ (H : Heap) (locs : List Loc), OW D ad cs A s.heap z H locs → ∀ ls : Array Slot, lv_has ls 5 [(0, .ref (ad 14 100)), (2, .int v2), (3, .int v3)] → V_X12_goesSecond_57 post z v2 v3 s0 → W p l e (rmq 3 0 0) s m args below meth c H locs 0 0 Q (F0 m 57 ls [.int s0]) := by
    intro z v2 v3 s0 H locs hw ls hl h
    unfold V_X12_goesSecond_57 at h
    refine lv_istore (lv' := [(4, .int s0), (0, .ref (ad 14 100)), (2, .int v2), (3, .int v3)]) hx hb dX12_goesSecond_57 hl (by decide) rfl (fun ls hl => ?_)
    refine lv_aload_n hx hb dX12_goesSecond_59 rfl (lv_at hl 1 rfl) ?_
    refine lv_aload_n hx hb dX12_goesSecond_60 rfl (lv_at hl 1 rfl) ?_
    refine xgI E hw (c1 := 12) rfl ky_14_100 fo_12_22 qf_12_206 dX12_goesSecond_61 ?_
    refine lv_aload_n hx hb dX12_goesSecond_64 rfl (lv_at hl 1 rfl) ?_
    refine xgC E hw (c1 := 12) (t := (14, 0)) rfl ky_14_100 fo_12_0 rfl qf_12_9 dX12_goesSecond_65 ?_
    refine lv_iconst (v := 1) hx hb dX12_goesSecond_68 (by decide) ?_
    refine xalL (j := 1) E hw ky_14_0 ka_14_0 (by decide) (by decide) dX12_goesSecond_69 ?_
    refine lv_iload hx hb dX12_goesSecond_70 (lv_at hl 0 rfl) ?_
    refine lv_imul hx hb dX12_goesSecond_72 ?_
    refine lv_bipush (v := 10) hx hb dX12_goesSecond_73 (by decide) ?_
    refine lv_idiv hx hb dX12_goesSecond_75 (by decide) ?_
    refine lv_iadd hx hb dX12_goesSecond_76 ?_
    refine lv_aload_n hx hb dX12_goesSecond_77 rfl (lv_at hl 1 rfl) ?_
    refine xgI E hw (c1 := 12) rfl ky_14_100 fo_12_18 qf_12_194 dX12_goesSecond_78 ?_
    refine lv_iload_n hx hb dX12_goesSecond_81 rfl (lv_at hl 2 rfl) ?_
    have hq := h
    clear h
    refine xcSI (As := [.int (zI z 14 18), .int v2]) (rest := [.int ((zI z 14 22) + (((zR z 14 0 1) * s0) / (10 : Int32))), .ref (ad 14 100)]) E hw hA (c_X12_driftBy l D ad cs sk z (zI z 14 18) v2 _ hq) kc_12_168 yo_X12_driftBy ⟨Nat.le_of_ble_eq_true rfl, Nat.le_of_ble_eq_true rfl⟩ rfl hl.1 rfl (Nat.le_of_ble_eq_true rfl) dX12_goesSecond_82 ⟨Nat.le_of_ble_eq_true rfl, Nat.le_of_ble_eq_true rfl⟩ (fun r39 z38 H locs h hw => ?_)
    refine lv_iconst (v := 2) hx hb dX12_goesSecond_85 (by decide) ?_
    refine lv_idiv hx hb dX12_goesSecond_86 (by decide) ?_
    refine lv_iadd hx hb dX12_goesSecond_87 ?_
    have hq := h
    clear h
    refine xcSI (As := [.int (((zI z 14 22) + (((zR z 14 0 1) * s0) / (10 : Int32))) + (r39 / (2 : Int32)))]) (rest := [.ref (ad 14 100)]) E hw hA (c_X12_held l D ad cs sk z38 (((zI z 14 22) + (((zR z 14 0 1) * s0) / (10 : Int32))) + (r39 / (2 : Int32))) _ hq) kc_12_230 yo_X12_held ⟨Nat.le_of_ble_eq_true rfl, Nat.le_of_ble_eq_true rfl⟩ rfl hl.1 rfl (Nat.le_of_ble_eq_true rfl) dX12_goesSecond_88 ⟨Nat.le_of_ble_eq_true rfl, Nat.le_of_ble_eq_true rfl⟩ (fun r41 z40 H locs h hw => ?_)
    refine xpI E hw (c1 := 12) rfl ky_14_100 fp_12_22 rfl rfl qf_12_206 dX12_goesSecond_91 (fun z42 ez42 H locs hw => ?_)
    replace h := h z42 ez42
    refine lv_aload_n hx hb dX12_goesSecond_94 rfl (lv_at hl 1 rfl) ?_
    refine lv_aload_n hx hb dX12_goesSecond_95 rfl (lv_at hl 1 rfl) ?_
    refine xgI E hw (c1 := 12) rfl ky_14_100 fo_12_23 qf_12_209 dX12_goesSecond_96 ?_
    refine lv_aload_n hx hb dX12_goesSecond_99 rfl (lv_at hl 1 rfl) ?_
    refine xgI E hw (c1 := 12) rfl ky_14_100 fo_12_18 qf_12_194 dX12_goesSecond_100 ?_
    refine lv_iload_n hx hb dX12_goesSecond_103 rfl (lv_at hl 3 rfl) ?_
    have hq := h
    clear h
    refine xcSI (As := [.int (zI z42 14 18), .int v3]) (rest := [.int (zI z42 14 23), .ref (ad 14 100)]) E hw hA (c_X12_driftBy l D ad cs sk z42 (zI z42 14 18) v3 _ hq) kc_12_168 yo_X12_driftBy ⟨Nat.le_of_ble_eq_true rfl, Nat.le_of_ble_eq_true rfl⟩ rfl hl.1 rfl (Nat.le_of_ble_eq_true rfl) dX12_goesSecond_104 ⟨Nat.le_of_ble_eq_true rfl, Nat.le_of_ble_eq_true rfl⟩ (fun r44 z43 H locs h hw => ?_)
    refine lv_iconst (v := 2) hx hb dX12_goesSecond_107 (by decide) ?_
    refine lv_idiv hx hb dX12_goesSecond_108 (by decide) ?_
    refine lv_iadd hx hb dX12_goesSecond_109 ?_
    have hq := h
    clear h
    refine xcSI (As := [.int ((zI z42 14 23) + (r44 / (2 : Int32)))]) (rest := [.ref (ad 14 100)]) E hw hA (c_X12_held l D ad cs sk z43 ((zI z42 14 23) + (r44 / (2 : Int32))) _ hq) kc_12_230 yo_X12_held ⟨Nat.le_of_ble_eq_true rfl, Nat.le_of_ble_eq_true rfl⟩ rfl hl.1 rfl (Nat.le_of_ble_eq_true rfl) dX12_goesSecond_110 ⟨Nat.le_of_ble_eq_true rfl, Nat.le_of_ble_eq_true rfl⟩ (fun r46 z45 H locs h hw => ?_)
    refine xpI E hw (c1 := 12) rfl ky_14_100 fp_12_23 rfl rfl qf_12_209 dX12_goesSecond_113 (fun z47 ez47 H locs hw => ?_)
    replace h := h z47 ez47
    refine lv_aload_n hx hb dX12_goesSecond_116 rfl (lv_at hl 1 rfl) ?_
    refine lv_aload_n hx hb dX12_goesSecond_117 rfl (lv_at hl 1 rfl) ?_
    refine xgI E hw (c1 := 12) rfl ky_14_100 fo_12_18 qf_12_194 dX12_goesSecond_118 ?_
    have hq := h
    clear h
    refine xcSI (As := [.int (zI z47 14 18)]) (rest := [.ref (ad 14 100)]) E hw hA (c_X12_fallsBy l D ad cs sk z47 (zI z47 14 18) _ hq) kc_12_155 yo_X12_fallsBy ⟨Nat.le_of_ble_eq_true rfl, Nat.le_of_ble_eq_true rfl⟩ rfl hl.1 rfl (Nat.le_of_ble_eq_true rfl) dX12_goesSecond_121 ⟨Nat.le_of_ble_eq_true rfl, Nat.le_of_ble_eq_true rfl⟩ (fun r49 z48 H locs h hw => ?_)
    have hq := h
    clear h
    refine xcVV (As := [.int r49]) (rest := []) E hw hA (c_X12_goesDown l D ad cs sk z48 r49 _ hq) kc_12_233 yo_X12_goesDown ⟨Nat.le_of_ble_eq_true rfl, Nat.le_of_ble_eq_true rfl⟩ (xrc E hw ky_14_100 rfl) rfl hl.1 rfl (Nat.le_of_ble_eq_true rfl) dX12_goesSecond_124 ⟨Nat.le_of_ble_eq_true rfl, Nat.le_of_ble_eq_true rfl⟩ (fun z50 H locs h hw => ?_)
    refine lv_goto (tgt := 300) hx hb dX12_goesSecond_127 (by decide) ?_
    exact b300 z50 H locs hw ls (lv_sub hl [1] rfl) h
  have b00 : ∀ (H : Heap) (locs : List Loc), OW D ad cs A s.heap z H locs → W p l e (rmq 3 0 0) s m args below meth c H locs 0 0 Q (F0 m 0 ls []) := by
    intro H locs hw
    refine lv_aload_n hx hb dX12_goesSecond_0 rfl (lv_at hl 0 rfl) ?_
    refine xgI E hw (c1 := 12) rfl ky_14_100 fo_12_24 qf_12_212 dX12_goesSecond_1 ?_
    refine lv_sipush (v := 300) hx hb dX12_goesSecond_4 (by decide) ?_
    refine lv_idiv hx hb dX12_goesSecond_7 (by decide) ?_
    refine lv_bipush (v := 9) hx hb dX12_goesSecond_8 (by decide) ?_
    have hq := h
    clear h
    refine xcSI (As := [.int ((zI z 14 24) / (300 : Int32)), .int (9 : Int32)]) (rest := []) E hw hA (c_X12_lesser l D ad cs sk z ((zI z 14 24) / (300 : Int32)) (9 : Int32) _ hq) kc_12_121 yo_X12_lesser ⟨Nat.le_of_ble_eq_true rfl, Nat.le_of_ble_eq_true rfl⟩ rfl hl.1 rfl (Nat.le_of_ble_eq_true rfl) dX12_goesSecond_10 ⟨Nat.le_of_ble_eq_true rfl, Nat.le_of_ble_eq_true rfl⟩ (fun r2 z1 H locs h hw => ?_)
    refine lv_istore_n (lv' := [(1, .int r2), (0, .ref (ad 14 100))]) hx hb dX12_goesSecond_13 rfl hl (by decide) rfl (fun ls hl => ?_)
    refine lv_aload_n hx hb dX12_goesSecond_14 rfl (lv_at hl 1 rfl) ?_
    refine lv_iload_n hx hb dX12_goesSecond_15 rfl (lv_at hl 0 rfl) ?_
    have hq := h
    clear h
    refine xcVI (As := [.int r2]) (rest := []) E hw hA (c_X12_east l D ad cs sk z1 r2 _ hq) kc_12_144 yo_X12_east ⟨Nat.le_of_ble_eq_true rfl, Nat.le_of_ble_eq_true rfl⟩ (xrc E hw ky_14_100 rfl) rfl hl.1 rfl (Nat.le_of_ble_eq_true rfl) dX12_goesSecond_16 ⟨Nat.le_of_ble_eq_true rfl, Nat.le_of_ble_eq_true rfl⟩ (fun r4 z3 H locs h hw => ?_)
    refine lv_istore_n (lv' := [(2, .int r4), (1, .int r2), (0, .ref (ad 14 100))]) hx hb dX12_goesSecond_19 rfl hl (by decide) rfl (fun ls hl => ?_)
    refine lv_aload_n hx hb dX12_goesSecond_20 rfl (lv_at hl 2 rfl) ?_
    refine lv_iload_n hx hb dX12_goesSecond_21 rfl (lv_at hl 1 rfl) ?_
    have hq := h
    clear h
    refine xcVI (As := [.int r2]) (rest := []) E hw hA (c_X12_north l D ad cs sk z3 r2 _ hq) kc_12_140 yo_X12_north ⟨Nat.le_of_ble_eq_true rfl, Nat.le_of_ble_eq_true rfl⟩ (xrc E hw ky_14_100 rfl) rfl hl.1 rfl (Nat.le_of_ble_eq_true rfl) dX12_goesSecond_22 ⟨Nat.le_of_ble_eq_true rfl, Nat.le_of_ble_eq_true rfl⟩ (fun r6 z5 H locs h hw => ?_)
    refine lv_istore_n (lv' := [(3, .int r6), (2, .int r4), (1, .int r2), (0, .ref (ad 14 100))]) hx hb dX12_goesSecond_25 rfl hl (by decide) rfl (fun ls hl => ?_)
    refine lv_aload_n hx hb dX12_goesSecond_26 rfl (lv_at hl 3 rfl) ?_
    refine xgI E hw (c1 := 12) rfl ky_14_100 fo_12_25 qf_12_215 dX12_goesSecond_27 ?_
    refine lv_aload_n hx hb dX12_goesSecond_30 rfl (lv_at hl 3 rfl) ?_
    refine xgI E hw (c1 := 12) rfl ky_14_100 fo_12_20 qf_12_200 dX12_goesSecond_31 ?_
    refine lv_icmp_ge (tgt := 130) hx hb dX12_goesSecond_34 (by decide) (fun c7 => ?_) (fun c7 => ?_)
    · replace h := h.1 c7
      refine lv_aload_n hx hb dX12_goesSecond_130 rfl (lv_at hl 3 rfl) ?_
      refine xgI E hw (c1 := 12) rfl ky_14_100 fo_12_29 qf_12_221 dX12_goesSecond_131 ?_
      refine lv_if_ge (tgt := 161) hx hb dX12_goesSecond_134 (by decide) (fun c8 => ?_) (fun c8 => ?_)
      · replace h := h.1 c8
        exact b161 z5 r2 r4 r6 H locs hw ls (lv_sub hl [3, 2, 1, 0] rfl) h
      · replace h := h.2 c8
        refine lv_aload_n hx hb dX12_goesSecond_137 rfl (lv_at hl 3 rfl) ?_
        refine lv_aload_n hx hb dX12_goesSecond_138 rfl (lv_at hl 3 rfl) ?_
        refine xgI E hw (c1 := 12) rfl ky_14_100 fo_12_22 qf_12_206 dX12_goesSecond_139 ?_
        refine xpI E hw (c1 := 12) rfl ky_14_100 fp_12_27 rfl rfl qf_12_237 dX12_goesSecond_142 (fun z34 ez34 H locs hw => ?_)
        replace h := h z34 ez34
        refine lv_aload_n hx hb dX12_goesSecond_145 rfl (lv_at hl 3 rfl) ?_
        refine lv_aload_n hx hb dX12_goesSecond_146 rfl (lv_at hl 3 rfl) ?_
        refine xgI E hw (c1 := 12) rfl ky_14_100 fo_12_23 qf_12_209 dX12_goesSecond_147 ?_
        refine xpI E hw (c1 := 12) rfl ky_14_100 fp_12_28 rfl rfl qf_12_240 dX12_goesSecond_150 (fun z35 ez35 H locs hw => ?_)
        replace h := h z35 ez35
        refine lv_aload_n hx hb dX12_goesSecond_153 rfl (lv_at hl 3 rfl) ?_
        refine lv_aload_n hx hb dX12_goesSecond_154 rfl (lv_at hl 3 rfl) ?_
        refine xgI E hw (c1 := 12) rfl ky_14_100 fo_12_25 qf_12_215 dX12_goesSecond_155 ?_
        refine xpI E hw (c1 := 12) rfl ky_14_100 fp_12_29 rfl rfl qf_12_221 dX12_goesSecond_158 (fun z36 ez36 H locs hw => ?_)
        replace h := h z36 ez36
        exact b161 z36 r2 r4 r6 H locs hw ls (lv_sub hl [3, 2, 1, 0] rfl) h
    · replace h := h.2 c7
      refine lv_aload_n hx hb dX12_goesSecond_37 rfl (lv_at hl 3 rfl) ?_
      refine xgI E hw (c1 := 12) rfl ky_14_100 fo_12_25 qf_12_215 dX12_goesSecond_38 ?_
      refine lv_bipush (v := 10) hx hb dX12_goesSecond_41 (by decide) ?_
      refine lv_icmp_ge (tgt := 56) hx hb dX12_goesSecond_43 (by decide) (fun c37 => ?_) (fun c37 => ?_)
      · replace h := h.1 c37
        refine lv_iconst (v := 0) hx hb dX12_goesSecond_56 (by decide) ?_
        exact b57 z5 r4 r6 (0 : Int32) H locs hw ls (lv_sub hl [3, 1, 0] rfl) h
      · replace h := h.2 c37
        refine lv_bipush (v := 10) hx hb dX12_goesSecond_46 (by decide) ?_
        refine lv_aload_n hx hb dX12_goesSecond_48 rfl (lv_at hl 3 rfl) ?_
        refine xgI E hw (c1 := 12) rfl ky_14_100 fo_12_25 qf_12_215 dX12_goesSecond_49 ?_
        refine lv_isub hx hb dX12_goesSecond_52 ?_
        refine lv_goto (tgt := 57) hx hb dX12_goesSecond_53 (by decide) ?_
        exact b57 z5 r4 r6 ((10 : Int32) - (zI z5 14 25)) H locs hw ls (lv_sub hl [3, 1, 0] rfl) h
  exact b00 s.heap [] hw
