def V_X12_leastOf (z : ZS) (p1 : Int32) (post : Int32 → ZS → Prop) : Prop := (vp_in p1 8 ∧ ((¬ (zR z 14 4 (Int32.toNatClampNeg p1)) = 0 → (vp_in p1 8 ∧ ((¬ (zR z 14 4 (Int32.toNatClampNeg p1)) = (1 : Int32) → post (-2147483648 : Int32) z) ∧ ((zR z 14 4 (Int32.toNatClampNeg p1)) = (1 : Int32) → post (-32768 : Int32) z)))) ∧ ((zR z 14 4 (Int32.toNatClampNeg p1)) = 0 → post (-128 : Int32) z)))
set_option maxHeartbeats 4000000 in
set_option maxRecDepth 100000 in
theorem c_X12_leastOf (l : Launch) (D : va_G) (ad : Nat → Nat → Nat) (cs : Nat → ClassId) (sk : (Nat → Nat) × (Nat → Nat)) (z : ZS) (p1 : Int32) (post : Int32 → ZS → Prop) (h : V_X12_leastOf z p1 post) : MI l D ad cs sk yX12_leastOf cX12_leastOf 2 .int (rmq 0 0 0) [.ref (ad 14 100), .int p1] z post := by
  refine MI.of RX12 rfl (by decide) (Nat.le_of_ble_eq_true rfl) ?_
  intro p e s m args below meth c A Q E hw hA hret ls hl
  have hx := E.1.1
  have hb := E.1.2.1
  have hml := E.1.2.2.1
  have hown := E.1.2.2.2.1
  have h0 := E.1.2.2.2.2
  have hl : lv_has ls 2 [(0, .ref (ad 14 100)), (1, .int p1)] := hl
  unfold V_X12_leastOf at h
  have b00 : ∀ (H : Heap) (locs : List Loc), OW D ad cs A s.heap z H locs → W p l e (rmq 0 0 0) s m args below meth c H locs 0 0 Q (F0 m 0 ls []) := by
    intro H locs hw
    refine lv_aload_n hx hb dX12_leastOf_0 rfl (lv_at hl 0 rfl) ?_
    refine xgC E hw (c1 := 12) (t := (14, 4)) rfl ky_14_100 fo_12_4 rfl qf_12_22 dX12_leastOf_1 ?_
    refine lv_iload_n hx hb dX12_leastOf_4 rfl (lv_at hl 1 rfl) ?_
    obtain ⟨hi, h⟩ := h
    refine xal E hw ky_14_4 ka_14_4 hi dX12_leastOf_5 ?_
    refine lv_if_ne (tgt := 14) hx hb dX12_leastOf_6 (by decide) (fun c1 => ?_) (fun c1 => ?_)
    · replace h := h.1 c1
      refine lv_aload_n hx hb dX12_leastOf_14 rfl (lv_at hl 0 rfl) ?_
      refine xgC E hw (c1 := 12) (t := (14, 4)) rfl ky_14_100 fo_12_4 rfl qf_12_22 dX12_leastOf_15 ?_
      refine lv_iload_n hx hb dX12_leastOf_18 rfl (lv_at hl 1 rfl) ?_
      obtain ⟨hi, h⟩ := h
      refine xal E hw ky_14_4 ka_14_4 hi dX12_leastOf_19 ?_
      refine lv_iconst (v := 1) hx hb dX12_leastOf_20 (by decide) ?_
      refine lv_icmp_ne (tgt := 30) hx hb dX12_leastOf_21 (by decide) (fun c2 => ?_) (fun c2 => ?_)
      · replace h := h.1 c2
        refine lv_ldcw (v := -2147483648) hx hb hown (h0 _ qk_12_314) dX12_leastOf_30 ?_
        exact hret (-2147483648 : Int32) z H locs 33 ls hw rfl h dX12_leastOf_33
      · replace h := h.2 c2
        refine lv_sipush (v := -32768) hx hb dX12_leastOf_24 (by decide) ?_
        refine lv_goto (tgt := 33) hx hb dX12_leastOf_27 (by decide) ?_
        exact hret (-32768 : Int32) z H locs 33 ls hw rfl h dX12_leastOf_33
    · replace h := h.2 c1
      refine lv_bipush (v := -128) hx hb dX12_leastOf_9 (by decide) ?_
      refine lv_goto (tgt := 33) hx hb dX12_leastOf_11 (by decide) ?_
      exact hret (-128 : Int32) z H locs 33 ls hw rfl h dX12_leastOf_33
  exact b00 s.heap [] hw
def V_X12_judge_120 (post : Int32 → ZS → Prop) (rr57 : ZS → Int32 → Int32 → Int32 → Int32 → Prop) (z : ZS) (v1 : Int32) (v2 : Int32) (v3 : Int32) (v5 : Int32) : Prop := (∀ t24 : Int32, t24 = v5 + (1 : Int32) → rr57 z v1 v2 v3 t24)
def V_X12_judge_57 (post : Int32 → ZS → Prop) : Nat → ZS → Int32 → Int32 → Int32 → Int32 → Prop
  | 0, _, _, _, _, _ => False
  | (n + 1), z, v1, v2, v3, v5 => (vp_in v3 8 ∧ (((zR z 14 5 (Int32.toNatClampNeg v3)) ≤ v5 → post (-4 : Int32) z) ∧ (¬ (zR z 14 5 (Int32.toNatClampNeg v3)) ≤ v5 → (vp_in (((100 : Int32) * v3) + v5) 800 ∧ (∀ t15 : Int32, t15 = (zR z 14 6 (Int32.toNatClampNeg (((100 : Int32) * v3) + v5))) → V_X12_leastOf z v3 (fun r17 z16 => ((¬ t15 = r17 → V_X12_falls z16 v1 ((1000 : Int32) * v5) v2 (1 : Int32) (fun z19 => V_X12_off z19 (fun r22 z21 => ((t15 = r22 → V_X12_judge_120 post (V_X12_judge_57 post n) z21 v1 v2 v3 v5) ∧ (¬ t15 = r22 → post v5 z21))))) ∧ (t15 = r17 → V_X12_judge_120 post (V_X12_judge_57 post n) z16 v1 v2 v3 v5))))))))
def V_X12_judge (z : ZS) (p1 : Int32) (p2 : Int32) (p3 : Int32) (post : Int32 → ZS → Prop) : Prop := V_X12_isFaller z p1 (fun r2 z1 => ((r2 = 0 → post (-1 : Int32) z1) ∧ (¬ r2 = 0 → V_X12_isEdge z1 p2 (fun r5 z4 => ((r5 = 0 → post (-1 : Int32) z4) ∧ (¬ r5 = 0 → V_X12_isShelf z4 p3 (fun r8 z7 => ((¬ r8 = 0 → V_X12_wrongRow z7 p3 (-1 : Int32) (fun r11 z10 => ((r11 = 0 → (vp_in p3 8 ∧ (((zR z10 14 5 (Int32.toNatClampNeg p3)) ≤ (31 : Int32) → (∃ n25 : Nat, V_X12_judge_57 post n25 z10 p1 p2 p3 (0 : Int32))) ∧ (¬ (zR z10 14 5 (Int32.toNatClampNeg p3)) ≤ (31 : Int32) → post (-13 : Int32) z10)))) ∧ (¬ r11 = 0 → post r11 z10)))) ∧ (r8 = 0 → post (-1 : Int32) z7)))))))))
set_option maxHeartbeats 4000000 in
set_option maxRecDepth 100000 in
theorem c_X12_judge (l : Launch) (D : va_G) (ad : Nat → Nat → Nat) (cs : Nat → ClassId) (sk : (Nat → Nat) × (Nat → Nat)) (z : ZS) (p1 : Int32) (p2 : Int32) (p3 : Int32) (post : Int32 → ZS → Prop) (h : V_X12_judge z p1 p2 p3 post) : MI l D ad cs sk yX12_judge cX12_judge 7 .int (rmq 6 0 0) [.ref (ad 14 100), .int p1, .int p2, .int p3] z post := by
  refine MI.of RX12 rfl (by decide) (Nat.le_of_ble_eq_true rfl) ?_
  intro p e s m args below meth c A Q E hw hA hret ls hl
  have hx := E.1.1
  have hb := E.1.2.1
  have hml := E.1.2.2.1
  have hown := E.1.2.2.2.1
  have h0 := E.1.2.2.2.2
  have hl : lv_has ls 7 [(0, .ref (ad 14 100)), (1, .int p1), (2, .int p2), (3, .int p3)] := hl
  unfold V_X12_judge at h
  have b57 : ∀ (n : Nat) (z : ZS) (v1 : Int32) (v2 : Int32) (v3 : Int32) (v5 : Int32), ∀ (H : Heap) (locs : List Loc), OW D ad cs A s.heap z H locs → ∀ ls : Array Slot, lv_has ls 7 [(0, .ref (ad 14 100)), (1, .int v1), (2, .int v2), (3, .int v3), (5, .int v5)] → V_X12_judge_57 post n z v1 v2 v3 v5 → W p l e (rmq 6 0 0) s m args below meth c H locs 0 0 Q (F0 m 57 ls []) := by
    intro n
    induction n with
    | zero =>
      intro z v1 v2 v3 v5 H locs hw ls hl h
      exact h.elim
    | succ n57x ih57 =>
      have b120 : ∀ (z : ZS) (v1 : Int32) (v2 : Int32) (v3 : Int32) (v5 : Int32), ∀ (H : Heap) (locs : List Loc), OW D ad cs A s.heap z H locs → ∀ ls : Array Slot, lv_has ls 7 [(0, .ref (ad 14 100)), (1, .int v1), (2, .int v2), (3, .int v3), (5, .int v5)] → V_X12_judge_120 post (V_X12_judge_57 post n57x) z v1 v2 v3 v5 → W p l e (rmq 6 0 0) s m args below meth c H locs 0 0 Q (F0 m 120 ls []) := by
        intro z v1 v2 v3 v5 H locs hw ls hl h
        unfold V_X12_judge_120 at h
        obtain ⟨t24, et24⟩ : ∃ y : Int32, y = v5 + (1 : Int32) := ⟨_, rfl⟩
        replace h := h t24 et24
        refine lv_iinc (v := t24) (lv' := [(5, .int t24), (0, .ref (ad 14 100)), (1, .int v1), (2, .int v2), (3, .int v3)]) hx hb dX12_judge_120 hl (k := 4) rfl (by rw [et24]; rfl) (by decide) rfl (fun ls hl => ?_)
        refine lv_goto (tgt := 57) hx hb dX12_judge_123 (by decide) ?_
        exact ih57 z v1 v2 v3 t24 H locs hw ls (lv_sub hl [1, 2, 3, 4, 0] rfl) h
      intro z v1 v2 v3 v5 H locs hw ls hl h
      unfold V_X12_judge_57 at h
      refine lv_iload hx hb dX12_judge_57 (lv_at hl 4 rfl) ?_
      refine lv_aload_n hx hb dX12_judge_59 rfl (lv_at hl 0 rfl) ?_
      refine xgC E hw (c1 := 12) (t := (14, 5)) rfl ky_14_100 fo_12_5 rfl qf_12_25 dX12_judge_60 ?_
      refine lv_iload_n hx hb dX12_judge_63 rfl (lv_at hl 3 rfl) ?_
      obtain ⟨hi, h⟩ := h
      refine xal E hw ky_14_5 ka_14_5 hi dX12_judge_64 ?_
      refine lv_icmp_ge (tgt := 126) hx hb dX12_judge_65 (by decide) (fun c14 => ?_) (fun c14 => ?_)
      · replace h := h.1 c14
        refine lv_bipush (v := -4) hx hb dX12_judge_126 (by decide) ?_
        exact hret (-4 : Int32) z H locs 128 ls hw rfl h dX12_judge_128
      · replace h := h.2 c14
        refine lv_aload_n hx hb dX12_judge_68 rfl (lv_at hl 0 rfl) ?_
        refine xgC E hw (c1 := 12) (t := (14, 6)) rfl ky_14_100 fo_12_6 rfl qf_12_28 dX12_judge_69 ?_
        refine lv_bipush (v := 100) hx hb dX12_judge_72 (by decide) ?_
        refine lv_iload_n hx hb dX12_judge_74 rfl (lv_at hl 3 rfl) ?_
        refine lv_imul hx hb dX12_judge_75 ?_
        refine lv_iload hx hb dX12_judge_76 (lv_at hl 4 rfl) ?_
        refine lv_iadd hx hb dX12_judge_78 ?_
        obtain ⟨hi, h⟩ := h
        refine xal E hw ky_14_6 ka_14_6 hi dX12_judge_79 ?_
        refine lv_topi (fun t15 et15 => ?_)
        replace h := h t15 et15
        refine lv_istore (lv' := [(6, .int t15), (0, .ref (ad 14 100)), (1, .int v1), (2, .int v2), (3, .int v3), (5, .int v5)]) hx hb dX12_judge_80 hl (by decide) rfl (fun ls hl => ?_)
        refine lv_iload hx hb dX12_judge_82 (lv_at hl 0 rfl) ?_
        refine lv_aload_n hx hb dX12_judge_84 rfl (lv_at hl 1 rfl) ?_
        refine lv_iload_n hx hb dX12_judge_85 rfl (lv_at hl 4 rfl) ?_
        have hq := h
        clear h
        refine xcVI (As := [.int v3]) (rest := [.int t15]) E hw hA (c_X12_leastOf l D ad cs sk z v3 _ hq) kc_12_315 yo_X12_leastOf ⟨Nat.le_of_ble_eq_true rfl, Nat.le_of_ble_eq_true rfl⟩ (xrc E hw ky_14_100 rfl) rfl hl.1 rfl (Nat.le_of_ble_eq_true rfl) dX12_judge_86 ⟨Nat.le_of_ble_eq_true rfl, Nat.le_of_ble_eq_true rfl⟩ (fun r17 z16 H locs h hw => ?_)
        refine lv_icmp_ne (tgt := 95) hx hb dX12_judge_89 (by decide) (fun c18 => ?_) (fun c18 => ?_)
        · replace h := h.1 c18
          refine lv_aload_n hx hb dX12_judge_95 rfl (lv_at hl 1 rfl) ?_
          refine lv_iload_n hx hb dX12_judge_96 rfl (lv_at hl 2 rfl) ?_
          refine lv_sipush (v := 1000) hx hb dX12_judge_97 (by decide) ?_
          refine lv_iload hx hb dX12_judge_100 (lv_at hl 5 rfl) ?_
          refine lv_imul hx hb dX12_judge_102 ?_
          refine lv_iload_n hx hb dX12_judge_103 rfl (lv_at hl 3 rfl) ?_
          refine lv_iconst (v := 1) hx hb dX12_judge_104 (by decide) ?_
          have hq := h
          clear h
          refine xcVV (As := [.int v1, .int ((1000 : Int32) * v5), .int v2, .int (1 : Int32)]) (rest := []) E hw hA (c_X12_falls l D ad cs sk z16 v1 ((1000 : Int32) * v5) v2 (1 : Int32) _ hq) kc_12_267 yo_X12_falls ⟨Nat.le_of_ble_eq_true rfl, Nat.le_of_ble_eq_true rfl⟩ (xrc E hw ky_14_100 rfl) rfl hl.1 rfl (Nat.le_of_ble_eq_true rfl) dX12_judge_105 ⟨Nat.le_of_ble_eq_true rfl, Nat.le_of_ble_eq_true rfl⟩ (fun z19 H locs h hw => ?_)
          refine lv_iload hx hb dX12_judge_108 (lv_at hl 0 rfl) ?_
          refine lv_aload_n hx hb dX12_judge_110 rfl (lv_at hl 1 rfl) ?_
          have hq := h
          clear h
          refine xcVI (As := []) (rest := [.int t15]) E hw hA (c_X12_off l D ad cs sk z19 _ hq) kc_12_262 yo_X12_off ⟨Nat.le_of_ble_eq_true rfl, Nat.le_of_ble_eq_true rfl⟩ (xrc E hw ky_14_100 rfl) rfl hl.1 rfl (Nat.le_of_ble_eq_true rfl) dX12_judge_111 ⟨Nat.le_of_ble_eq_true rfl, Nat.le_of_ble_eq_true rfl⟩ (fun r22 z21 H locs h hw => ?_)
          refine lv_icmp_eq (tgt := 120) hx hb dX12_judge_114 (by decide) (fun c23 => ?_) (fun c23 => ?_)
          · replace h := h.1 c23
            exact b120 z21 v1 v2 v3 v5 H locs hw ls (lv_sub hl [1, 2, 3, 4, 5] rfl) h
          · replace h := h.2 c23
            refine lv_iload hx hb dX12_judge_117 (lv_at hl 5 rfl) ?_
            exact hret v5 z21 H locs 119 ls hw rfl h dX12_judge_119
        · replace h := h.2 c18
          refine lv_goto (tgt := 120) hx hb dX12_judge_92 (by decide) ?_
          exact b120 z16 v1 v2 v3 v5 H locs hw ls (lv_sub hl [1, 2, 3, 4, 5] rfl) h
  have b00 : ∀ (H : Heap) (locs : List Loc), OW D ad cs A s.heap z H locs → W p l e (rmq 6 0 0) s m args below meth c H locs 0 0 Q (F0 m 0 ls []) := by
    intro H locs hw
    refine lv_aload_n hx hb dX12_judge_0 rfl (lv_at hl 0 rfl) ?_
    refine lv_iload_n hx hb dX12_judge_1 rfl (lv_at hl 1 rfl) ?_
    have hq := h
    clear h
    refine xcVI (As := [.int p1]) (rest := []) E hw hA (c_X12_isFaller l D ad cs sk z p1 _ hq) kc_12_149 yo_X12_isFaller ⟨Nat.le_of_ble_eq_true rfl, Nat.le_of_ble_eq_true rfl⟩ (xrc E hw ky_14_100 rfl) rfl hl.1 rfl (Nat.le_of_ble_eq_true rfl) dX12_judge_2 ⟨Nat.le_of_ble_eq_true rfl, Nat.le_of_ble_eq_true rfl⟩ (fun r2 z1 H locs h hw => ?_)
    refine lv_if_eq (tgt := 22) hx hb dX12_judge_5 (by decide) (fun c3 => ?_) (fun c3 => ?_)
    · replace h := h.1 c3
      refine lv_iconst (v := -1) hx hb dX12_judge_22 (by decide) ?_
      exact hret (-1 : Int32) z1 H locs 23 ls hw rfl h dX12_judge_23
    · replace h := h.2 c3
      refine lv_iload_n hx hb dX12_judge_8 rfl (lv_at hl 2 rfl) ?_
      have hq := h
      clear h
      refine xcSI (As := [.int p2]) (rest := []) E hw hA (c_X12_isEdge l D ad cs sk z1 p2 _ hq) kc_12_184 yo_X12_isEdge ⟨Nat.le_of_ble_eq_true rfl, Nat.le_of_ble_eq_true rfl⟩ rfl hl.1 rfl (Nat.le_of_ble_eq_true rfl) dX12_judge_9 ⟨Nat.le_of_ble_eq_true rfl, Nat.le_of_ble_eq_true rfl⟩ (fun r5 z4 H locs h hw => ?_)
      refine lv_if_eq (tgt := 22) hx hb dX12_judge_12 (by decide) (fun c6 => ?_) (fun c6 => ?_)
      · replace h := h.1 c6
        refine lv_iconst (v := -1) hx hb dX12_judge_22 (by decide) ?_
        exact hret (-1 : Int32) z4 H locs 23 ls hw rfl h dX12_judge_23
      · replace h := h.2 c6
        refine lv_iload_n hx hb dX12_judge_15 rfl (lv_at hl 3 rfl) ?_
        have hq := h
        clear h
        refine xcSI (As := [.int p3]) (rest := []) E hw hA (c_X12_isShelf l D ad cs sk z4 p3 _ hq) kc_12_125 yo_X12_isShelf ⟨Nat.le_of_ble_eq_true rfl, Nat.le_of_ble_eq_true rfl⟩ rfl hl.1 rfl (Nat.le_of_ble_eq_true rfl) dX12_judge_16 ⟨Nat.le_of_ble_eq_true rfl, Nat.le_of_ble_eq_true rfl⟩ (fun r8 z7 H locs h hw => ?_)
        refine lv_if_ne (tgt := 24) hx hb dX12_judge_19 (by decide) (fun c9 => ?_) (fun c9 => ?_)
        · replace h := h.1 c9
          refine lv_aload_n hx hb dX12_judge_24 rfl (lv_at hl 0 rfl) ?_
          refine lv_iload_n hx hb dX12_judge_25 rfl (lv_at hl 3 rfl) ?_
          refine lv_iconst (v := -1) hx hb dX12_judge_26 (by decide) ?_
          have hq := h
          clear h
          refine xcVI (As := [.int p3, .int (-1 : Int32)]) (rest := []) E hw hA (c_X12_wrongRow l D ad cs sk z7 p3 (-1 : Int32) _ hq) kc_12_128 yo_X12_wrongRow ⟨Nat.le_of_ble_eq_true rfl, Nat.le_of_ble_eq_true rfl⟩ (xrc E hw ky_14_100 rfl) rfl hl.1 rfl (Nat.le_of_ble_eq_true rfl) dX12_judge_27 ⟨Nat.le_of_ble_eq_true rfl, Nat.le_of_ble_eq_true rfl⟩ (fun r11 z10 H locs h hw => ?_)
          refine lv_istore (lv' := [(4, .int r11), (0, .ref (ad 14 100)), (1, .int p1), (2, .int p2), (3, .int p3)]) hx hb dX12_judge_30 hl (by decide) rfl (fun ls hl => ?_)
          refine lv_iload hx hb dX12_judge_32 (lv_at hl 0 rfl) ?_
          refine lv_if_eq (tgt := 40) hx hb dX12_judge_34 (by decide) (fun c12 => ?_) (fun c12 => ?_)
          · replace h := h.1 c12
            refine lv_aload_n hx hb dX12_judge_40 rfl (lv_at hl 1 rfl) ?_
            refine xgC E hw (c1 := 12) (t := (14, 5)) rfl ky_14_100 fo_12_5 rfl qf_12_25 dX12_judge_41 ?_
            refine lv_iload_n hx hb dX12_judge_44 rfl (lv_at hl 4 rfl) ?_
            obtain ⟨hi, h⟩ := h
            refine xal E hw ky_14_5 ka_14_5 hi dX12_judge_45 ?_
            refine lv_bipush (v := 31) hx hb dX12_judge_46 (by decide) ?_
            refine lv_icmp_le (tgt := 54) hx hb dX12_judge_48 (by decide) (fun c13 => ?_) (fun c13 => ?_)
            · replace h := h.1 c13
              refine lv_iconst (v := 0) hx hb dX12_judge_54 (by decide) ?_
              refine lv_istore (lv' := [(5, .int (0 : Int32)), (4, .int r11), (0, .ref (ad 14 100)), (1, .int p1), (2, .int p2), (3, .int p3)]) hx hb dX12_judge_55 hl (by decide) rfl (fun ls hl => ?_)
              obtain ⟨n25, h⟩ := h
              exact b57 n25 z10 p1 p2 p3 (0 : Int32) H locs hw ls (lv_sub hl [2, 3, 4, 5, 0] rfl) h
            · replace h := h.2 c13
              refine lv_bipush (v := -13) hx hb dX12_judge_51 (by decide) ?_
              exact hret (-13 : Int32) z10 H locs 53 ls hw rfl h dX12_judge_53
          · replace h := h.2 c12
            refine lv_iload hx hb dX12_judge_37 (lv_at hl 0 rfl) ?_
            exact hret r11 z10 H locs 39 ls hw rfl h dX12_judge_39
        · replace h := h.2 c9
          refine lv_iconst (v := -1) hx hb dX12_judge_22 (by decide) ?_
          exact hret (-1 : Int32) z7 H locs 23 ls hw rfl h dX12_judge_23
  exact b00 s.heap [] hw
def V_X12_image_2 (post : Int32 → ZS → Prop) : Nat → ZS → Int32 → Prop
  | 0, _, _ => False
  | (n + 1), z, v1 => (((73 : Int32) ≤ v1 → (∀ z2 : ZS, z2 = wI z 14 9 (1 : Int32) → post (zR z2 14 0 3) z2)) ∧ (¬ (73 : Int32) ≤ v1 → (vp_in v1 73 ∧ (vp_in v1 73 ∧ ∀ z3 : ZS, z3 = wR z 14 1 (Int32.toNatClampNeg v1) (zR z 14 0 (Int32.toNatClampNeg v1)) → (∀ t4 : Int32, t4 = v1 + (1 : Int32) → (V_X12_image_2 post n) z3 t4)))))
def V_X12_image (z : ZS) (post : Int32 → ZS → Prop) : Prop := (∃ n5 : Nat, V_X12_image_2 post n5 z (0 : Int32))
set_option maxHeartbeats 4000000 in
set_option maxRecDepth 100000 in
theorem c_X12_image (l : Launch) (D : va_G) (ad : Nat → Nat → Nat) (cs : Nat → ClassId) (sk : (Nat → Nat) × (Nat → Nat)) (z : ZS) (post : Int32 → ZS → Prop) (h : V_X12_image z post) : MI l D ad cs sk yX12_image cX12_image 2 .int (rmq 0 0 0) [.ref (ad 14 100)] z post := by
  refine MI.of RX12 rfl (by decide) (Nat.le_of_ble_eq_true rfl) ?_
  intro p e s m args below meth c A Q E hw hA hret ls hl
  have hx := E.1.1
  have hb := E.1.2.1
  have hml := E.1.2.2.1
  have hown := E.1.2.2.2.1
  have h0 := E.1.2.2.2.2
  have hl : lv_has ls 2 [(0, .ref (ad 14 100))] := hl
  unfold V_X12_image at h
  have b2 : ∀ (n : Nat) (z : ZS) (v1 : Int32), ∀ (H : Heap) (locs : List Loc), OW D ad cs A s.heap z H locs → ∀ ls : Array Slot, lv_has ls 2 [(0, .ref (ad 14 100)), (1, .int v1)] → V_X12_image_2 post n z v1 → W p l e (rmq 0 0 0) s m args below meth c H locs 0 0 Q (F0 m 2 ls []) := by
    intro n
    induction n with
    | zero =>
      intro z v1 H locs hw ls hl h
      exact h.elim
    | succ n2x ih2 =>
      intro z v1 H locs hw ls hl h
      unfold V_X12_image_2 at h
      refine lv_iload_n hx hb dX12_image_2 rfl (lv_at hl 1 rfl) ?_
      refine lv_bipush (v := 73) hx hb dX12_image_3 (by decide) ?_
      refine lv_icmp_ge (tgt := 26) hx hb dX12_image_5 (by decide) (fun c1 => ?_) (fun c1 => ?_)
      · replace h := h.1 c1
        refine lv_aload_n hx hb dX12_image_26 rfl (lv_at hl 0 rfl) ?_
        refine lv_iconst (v := 1) hx hb dX12_image_27 (by decide) ?_
        refine xpI E hw (c1 := 12) rfl ky_14_100 fp_12_9 rfl rfl qf_12_318 dX12_image_28 (fun z2 ez2 H locs hw => ?_)
        replace h := h z2 ez2
        refine lv_aload_n hx hb dX12_image_31 rfl (lv_at hl 0 rfl) ?_
        refine xgC E hw (c1 := 12) (t := (14, 0)) rfl ky_14_100 fo_12_0 rfl qf_12_9 dX12_image_32 ?_
        refine lv_iconst (v := 3) hx hb dX12_image_35 (by decide) ?_
        refine xalL (j := 3) E hw ky_14_0 ka_14_0 (by decide) (by decide) dX12_image_36 ?_
        exact hret (zR z2 14 0 3) z2 H locs 37 ls hw rfl h dX12_image_37
      · replace h := h.2 c1
        refine lv_aload_n hx hb dX12_image_8 rfl (lv_at hl 0 rfl) ?_
        refine xgC E hw (c1 := 12) (t := (14, 1)) rfl ky_14_100 fo_12_1 rfl qf_12_13 dX12_image_9 ?_
        refine lv_iload_n hx hb dX12_image_12 rfl (lv_at hl 1 rfl) ?_
        refine lv_aload_n hx hb dX12_image_13 rfl (lv_at hl 0 rfl) ?_
        refine xgC E hw (c1 := 12) (t := (14, 0)) rfl ky_14_100 fo_12_0 rfl qf_12_9 dX12_image_14 ?_
        refine lv_iload_n hx hb dX12_image_17 rfl (lv_at hl 1 rfl) ?_
        obtain ⟨hi, h⟩ := h
        refine xal E hw ky_14_0 ka_14_0 hi dX12_image_18 ?_
        obtain ⟨hi, h⟩ := h
        refine xas E hw ky_14_1 ka_14_1 hi dX12_image_19 (fun z3 ez3 H locs hw => ?_)
        replace h := h z3 ez3
        obtain ⟨t4, et4⟩ : ∃ y : Int32, y = v1 + (1 : Int32) := ⟨_, rfl⟩
        replace h := h t4 et4
        refine lv_iinc (v := t4) (lv' := [(1, .int t4), (0, .ref (ad 14 100))]) hx hb dX12_image_20 hl (k := 1) rfl (by rw [et4]; rfl) (by decide) rfl (fun ls hl => ?_)
        refine lv_goto (tgt := 2) hx hb dX12_image_23 (by decide) ?_
        exact ih2 z3 t4 H locs hw ls (lv_sub hl [1, 0] rfl) h
  have b00 : ∀ (H : Heap) (locs : List Loc), OW D ad cs A s.heap z H locs → W p l e (rmq 0 0 0) s m args below meth c H locs 0 0 Q (F0 m 0 ls []) := by
    intro H locs hw
    refine lv_iconst (v := 0) hx hb dX12_image_0 (by decide) ?_
    refine lv_istore_n (lv' := [(1, .int (0 : Int32)), (0, .ref (ad 14 100))]) hx hb dX12_image_1 rfl hl (by decide) rfl (fun ls hl => ?_)
    obtain ⟨n5, h⟩ := h
    exact b2 n5 z (0 : Int32) H locs hw ls (lv_sub hl [1, 0] rfl) h
  exact b00 s.heap [] hw
def V_X12_restore_12 (post : Int32 → ZS → Prop) : Nat → ZS → Int32 → Prop
  | 0, _, _ => False
  | (n + 1), z, v1 => (((73 : Int32) ≤ v1 → post (zR z 14 0 3) z) ∧ (¬ (73 : Int32) ≤ v1 → (vp_in v1 73 ∧ (vp_in v1 73 ∧ ∀ z3 : ZS, z3 = wR z 14 0 (Int32.toNatClampNeg v1) (zR z 14 1 (Int32.toNatClampNeg v1)) → (∀ t4 : Int32, t4 = v1 + (1 : Int32) → (V_X12_restore_12 post n) z3 t4)))))
def V_X12_restore (z : ZS) (post : Int32 → ZS → Prop) : Prop := ((¬ (zI z 14 9) = 0 → (∃ n5 : Nat, V_X12_restore_12 post n5 z (0 : Int32))) ∧ ((zI z 14 9) = 0 → post (-3 : Int32) z))
set_option maxHeartbeats 4000000 in
set_option maxRecDepth 100000 in
theorem c_X12_restore (l : Launch) (D : va_G) (ad : Nat → Nat → Nat) (cs : Nat → ClassId) (sk : (Nat → Nat) × (Nat → Nat)) (z : ZS) (post : Int32 → ZS → Prop) (h : V_X12_restore z post) : MI l D ad cs sk yX12_restore cX12_restore 2 .int (rmq 0 0 0) [.ref (ad 14 100)] z post := by
  refine MI.of RX12 rfl (by decide) (Nat.le_of_ble_eq_true rfl) ?_
  intro p e s m args below meth c A Q E hw hA hret ls hl
  have hx := E.1.1
  have hb := E.1.2.1
  have hml := E.1.2.2.1
  have hown := E.1.2.2.2.1
  have h0 := E.1.2.2.2.2
  have hl : lv_has ls 2 [(0, .ref (ad 14 100))] := hl
  unfold V_X12_restore at h
  have b12 : ∀ (n : Nat) (z : ZS) (v1 : Int32), ∀ (H : Heap) (locs : List Loc), OW D ad cs A s.heap z H locs → ∀ ls : Array Slot, lv_has ls 2 [(0, .ref (ad 14 100)), (1, .int v1)] → V_X12_restore_12 post n z v1 → W p l e (rmq 0 0 0) s m args below meth c H locs 0 0 Q (F0 m 12 ls []) := by
    intro n
    induction n with
    | zero =>
      intro z v1 H locs hw ls hl h
      exact h.elim
    | succ n12x ih12 =>
      intro z v1 H locs hw ls hl h
      unfold V_X12_restore_12 at h
      refine lv_iload_n hx hb dX12_restore_12 rfl (lv_at hl 1 rfl) ?_
      refine lv_bipush (v := 73) hx hb dX12_restore_13 (by decide) ?_
      refine lv_icmp_ge (tgt := 36) hx hb dX12_restore_15 (by decide) (fun c2 => ?_) (fun c2 => ?_)
      · replace h := h.1 c2
        refine lv_aload_n hx hb dX12_restore_36 rfl (lv_at hl 0 rfl) ?_
        refine xgC E hw (c1 := 12) (t := (14, 0)) rfl ky_14_100 fo_12_0 rfl qf_12_9 dX12_restore_37 ?_
        refine lv_iconst (v := 3) hx hb dX12_restore_40 (by decide) ?_
        refine xalL (j := 3) E hw ky_14_0 ka_14_0 (by decide) (by decide) dX12_restore_41 ?_
        exact hret (zR z 14 0 3) z H locs 42 ls hw rfl h dX12_restore_42
      · replace h := h.2 c2
        refine lv_aload_n hx hb dX12_restore_18 rfl (lv_at hl 0 rfl) ?_
        refine xgC E hw (c1 := 12) (t := (14, 0)) rfl ky_14_100 fo_12_0 rfl qf_12_9 dX12_restore_19 ?_
        refine lv_iload_n hx hb dX12_restore_22 rfl (lv_at hl 1 rfl) ?_
        refine lv_aload_n hx hb dX12_restore_23 rfl (lv_at hl 0 rfl) ?_
        refine xgC E hw (c1 := 12) (t := (14, 1)) rfl ky_14_100 fo_12_1 rfl qf_12_13 dX12_restore_24 ?_
        refine lv_iload_n hx hb dX12_restore_27 rfl (lv_at hl 1 rfl) ?_
        obtain ⟨hi, h⟩ := h
        refine xal E hw ky_14_1 ka_14_1 hi dX12_restore_28 ?_
        obtain ⟨hi, h⟩ := h
        refine xas E hw ky_14_0 ka_14_0 hi dX12_restore_29 (fun z3 ez3 H locs hw => ?_)
        replace h := h z3 ez3
        obtain ⟨t4, et4⟩ : ∃ y : Int32, y = v1 + (1 : Int32) := ⟨_, rfl⟩
        replace h := h t4 et4
        refine lv_iinc (v := t4) (lv' := [(1, .int t4), (0, .ref (ad 14 100))]) hx hb dX12_restore_30 hl (k := 1) rfl (by rw [et4]; rfl) (by decide) rfl (fun ls hl => ?_)
        refine lv_goto (tgt := 12) hx hb dX12_restore_33 (by decide) ?_
        exact ih12 z3 t4 H locs hw ls (lv_sub hl [1, 0] rfl) h
  have b00 : ∀ (H : Heap) (locs : List Loc), OW D ad cs A s.heap z H locs → W p l e (rmq 0 0 0) s m args below meth c H locs 0 0 Q (F0 m 0 ls []) := by
    intro H locs hw
    refine lv_aload_n hx hb dX12_restore_0 rfl (lv_at hl 0 rfl) ?_
    refine xgI E hw (c1 := 12) rfl ky_14_100 fo_12_9 qf_12_318 dX12_restore_1 ?_
    refine lv_if_ne (tgt := 10) hx hb dX12_restore_4 (by decide) (fun c1 => ?_) (fun c1 => ?_)
    · replace h := h.1 c1
      refine lv_iconst (v := 0) hx hb dX12_restore_10 (by decide) ?_
      refine lv_istore_n (lv' := [(1, .int (0 : Int32)), (0, .ref (ad 14 100))]) hx hb dX12_restore_11 rfl hl (by decide) rfl (fun ls hl => ?_)
      obtain ⟨n5, h⟩ := h
      exact b12 n5 z (0 : Int32) H locs hw ls (lv_sub hl [1, 0] rfl) h
    · replace h := h.2 c1
      refine lv_bipush (v := -3) hx hb dX12_restore_7 (by decide) ?_
      exact hret (-3 : Int32) z H locs 9 ls hw rfl h dX12_restore_9
  exact b00 s.heap [] hw
def V_X12_count_84 (post : Int32 → ZS → Prop) (rr56 : ZS → Int32 → Int32 → Prop) (z : ZS) (v3 : Int32) (s0 : Int32) (s1 : Int32) : Prop := (∀ t12 : Int32, t12 = (s0 + s1) → (∀ t13 : Int32, t13 = v3 + (1 : Int32) → rr56 z t12 t13))
def V_X12_count_79 (post : Int32 → ZS → Prop) (rr56 : ZS → Int32 → Int32 → Prop) (z : ZS) (v3 : Int32) (s0 : Int32) : Prop := V_X12_count_84 post rr56 z v3 s0 (1 : Int32)
def V_X12_count_56 (post : Int32 → ZS → Prop) : Nat → ZS → Int32 → Int32 → Prop
  | 0, _, _, _ => False
  | (n + 1), z, v2, v3 => (((10 : Int32) ≤ v3 → post v2 z) ∧ (¬ (10 : Int32) ≤ v3 → V_X12_east z v3 (fun r10 z9 => ((¬ r10 = 0 → V_X12_count_79 post (V_X12_count_56 post n) z9 v3 v2) ∧ (r10 = 0 → V_X12_north z9 v3 (fun r15 z14 => ((r15 = 0 → V_X12_count_84 post (V_X12_count_56 post n) z14 v3 v2 (0 : Int32)) ∧ (¬ r15 = 0 → V_X12_count_79 post (V_X12_count_56 post n) z14 v3 v2))))))))
def V_X12_count (z : ZS) (p1 : Int32) (post : Int32 → ZS → Prop) : Prop := ((p1 = (0 : Int32) → post (zR z 14 0 3) z) ∧ (¬ p1 = (0 : Int32) → ((p1 = (1 : Int32) → post (zR z 14 0 4) z) ∧ (¬ p1 = (1 : Int32) → ((p1 = (2 : Int32) → (∃ n17 : Nat, V_X12_count_56 post n17 z (0 : Int32) (0 : Int32))) ∧ (¬ p1 = (2 : Int32) → ((p1 = (3 : Int32) → post (zR z 14 0 0) z) ∧ (¬ p1 = (3 : Int32) → ((p1 = (4 : Int32) → post (zR z 14 0 1) z) ∧ (¬ p1 = (4 : Int32) → ((p1 = (5 : Int32) → post (zR z 14 0 2) z) ∧ (¬ p1 = (5 : Int32) → post (-1 : Int32) z))))))))))))
set_option maxHeartbeats 4000000 in
set_option maxRecDepth 100000 in
theorem c_X12_count (l : Launch) (D : va_G) (ad : Nat → Nat → Nat) (cs : Nat → ClassId) (sk : (Nat → Nat) × (Nat → Nat)) (z : ZS) (p1 : Int32) (post : Int32 → ZS → Prop) (h : V_X12_count z p1 post) : MI l D ad cs sk yX12_count cX12_count 4 .int (rmq 1 0 0) [.ref (ad 14 100), .int p1] z post := by
  refine MI.of RX12 rfl (by decide) (Nat.le_of_ble_eq_true rfl) ?_
  intro p e s m args below meth c A Q E hw hA hret ls hl
  have hx := E.1.1
  have hb := E.1.2.1
  have hml := E.1.2.2.1
  have hown := E.1.2.2.2.1
  have h0 := E.1.2.2.2.2
  have hl : lv_has ls 4 [(0, .ref (ad 14 100)), (1, .int p1)] := hl
  unfold V_X12_count at h
  have b56 : ∀ (n : Nat) (z : ZS) (v2 : Int32) (v3 : Int32), ∀ (H : Heap) (locs : List Loc), OW D ad cs A s.heap z H locs → ∀ ls : Array Slot, lv_has ls 4 [(0, .ref (ad 14 100)), (2, .int v2), (3, .int v3)] → V_X12_count_56 post n z v2 v3 → W p l e (rmq 1 0 0) s m args below meth c H locs 0 0 Q (F0 m 56 ls []) := by
    intro n
    induction n with
    | zero =>
      intro z v2 v3 H locs hw ls hl h
      exact h.elim
    | succ n56x ih56 =>
      have b84 : ∀ (z : ZS) (v3 : Int32) (s0 : Int32) (s1 : Int32), ∀ (H : Heap) (locs : List Loc), OW D ad cs A s.heap z H locs → ∀ ls : Array Slot, lv_has ls 4 [(0, .ref (ad 14 100)), (3, .int v3)] → V_X12_count_84 post (V_X12_count_56 post n56x) z v3 s0 s1 → W p l e (rmq 1 0 0) s m args below meth c H locs 0 0 Q (F0 m 84 ls [.int s1, .int s0]) := by
        intro z v3 s0 s1 H locs hw ls hl h
        unfold V_X12_count_84 at h
        refine lv_iadd hx hb dX12_count_84 ?_
        refine lv_topi (fun t12 et12 => ?_)
        replace h := h t12 et12
        refine lv_istore_n (lv' := [(2, .int t12), (0, .ref (ad 14 100)), (3, .int v3)]) hx hb dX12_count_85 rfl hl (by decide) rfl (fun ls hl => ?_)
        obtain ⟨t13, et13⟩ : ∃ y : Int32, y = v3 + (1 : Int32) := ⟨_, rfl⟩
        replace h := h t13 et13
        refine lv_iinc (v := t13) (lv' := [(3, .int t13), (2, .int t12), (0, .ref (ad 14 100))]) hx hb dX12_count_86 hl (k := 2) rfl (by rw [et13]; rfl) (by decide) rfl (fun ls hl => ?_)
        refine lv_goto (tgt := 56) hx hb dX12_count_89 (by decide) ?_
        exact ih56 z t12 t13 H locs hw ls (lv_sub hl [2, 1, 0] rfl) h
      have b79 : ∀ (z : ZS) (v3 : Int32) (s0 : Int32), ∀ (H : Heap) (locs : List Loc), OW D ad cs A s.heap z H locs → ∀ ls : Array Slot, lv_has ls 4 [(0, .ref (ad 14 100)), (3, .int v3)] → V_X12_count_79 post (V_X12_count_56 post n56x) z v3 s0 → W p l e (rmq 1 0 0) s m args below meth c H locs 0 0 Q (F0 m 79 ls [.int s0]) := by
        intro z v3 s0 H locs hw ls hl h
        unfold V_X12_count_79 at h
        refine lv_iconst (v := 1) hx hb dX12_count_79 (by decide) ?_
        refine lv_goto (tgt := 84) hx hb dX12_count_80 (by decide) ?_
        exact b84 z v3 s0 (1 : Int32) H locs hw ls (lv_sub hl [0, 1] rfl) h
      intro z v2 v3 H locs hw ls hl h
      unfold V_X12_count_56 at h
      refine lv_iload_n hx hb dX12_count_56 rfl (lv_at hl 2 rfl) ?_
      refine lv_bipush (v := 10) hx hb dX12_count_57 (by decide) ?_
      refine lv_icmp_ge (tgt := 92) hx hb dX12_count_59 (by decide) (fun c8 => ?_) (fun c8 => ?_)
      · replace h := h.1 c8
        refine lv_iload_n hx hb dX12_count_92 rfl (lv_at hl 1 rfl) ?_
        exact hret v2 z H locs 93 ls hw rfl h dX12_count_93
      · replace h := h.2 c8
        refine lv_iload_n hx hb dX12_count_62 rfl (lv_at hl 1 rfl) ?_
        refine lv_aload_n hx hb dX12_count_63 rfl (lv_at hl 0 rfl) ?_
        refine lv_iload_n hx hb dX12_count_64 rfl (lv_at hl 2 rfl) ?_
        have hq := h
        clear h
        refine xcVI (As := [.int v3]) (rest := [.int v2]) E hw hA (c_X12_east l D ad cs sk z v3 _ hq) kc_12_144 yo_X12_east ⟨Nat.le_of_ble_eq_true rfl, Nat.le_of_ble_eq_true rfl⟩ (xrc E hw ky_14_100 rfl) rfl hl.1 rfl (Nat.le_of_ble_eq_true rfl) dX12_count_65 ⟨Nat.le_of_ble_eq_true rfl, Nat.le_of_ble_eq_true rfl⟩ (fun r10 z9 H locs h hw => ?_)
        refine lv_if_ne (tgt := 79) hx hb dX12_count_68 (by decide) (fun c11 => ?_) (fun c11 => ?_)
        · replace h := h.1 c11
          exact b79 z9 v3 v2 H locs hw ls (lv_sub hl [0, 2] rfl) h
        · replace h := h.2 c11
          refine lv_aload_n hx hb dX12_count_71 rfl (lv_at hl 0 rfl) ?_
          refine lv_iload_n hx hb dX12_count_72 rfl (lv_at hl 2 rfl) ?_
          have hq := h
          clear h
          refine xcVI (As := [.int v3]) (rest := [.int v2]) E hw hA (c_X12_north l D ad cs sk z9 v3 _ hq) kc_12_140 yo_X12_north ⟨Nat.le_of_ble_eq_true rfl, Nat.le_of_ble_eq_true rfl⟩ (xrc E hw ky_14_100 rfl) rfl hl.1 rfl (Nat.le_of_ble_eq_true rfl) dX12_count_73 ⟨Nat.le_of_ble_eq_true rfl, Nat.le_of_ble_eq_true rfl⟩ (fun r15 z14 H locs h hw => ?_)
          refine lv_if_eq (tgt := 83) hx hb dX12_count_76 (by decide) (fun c16 => ?_) (fun c16 => ?_)
          · replace h := h.1 c16
            refine lv_iconst (v := 0) hx hb dX12_count_83 (by decide) ?_
            exact b84 z14 v3 v2 (0 : Int32) H locs hw ls (lv_sub hl [0, 2] rfl) h
          · replace h := h.2 c16
            exact b79 z14 v3 v2 H locs hw ls (lv_sub hl [0, 2] rfl) h
  have b00 : ∀ (H : Heap) (locs : List Loc), OW D ad cs A s.heap z H locs → W p l e (rmq 1 0 0) s m args below meth c H locs 0 0 Q (F0 m 0 ls []) := by
    intro H locs hw
    refine lv_iconst (v := 0) hx hb dX12_count_0 (by decide) ?_
    refine lv_istore_n (lv' := [(2, .int (0 : Int32)), (0, .ref (ad 14 100)), (1, .int p1)]) hx hb dX12_count_1 rfl hl (by decide) rfl (fun ls hl => ?_)
    refine lv_iload_n hx hb dX12_count_2 rfl (lv_at hl 2 rfl) ?_
    by_cases c1 : p1 = (0 : Int32)
    · replace h := h.1 c1
      refine lv_tableIn (tgt := 40) hx hb dX12_count_3 (by rw [c1]; decide) (by rw [c1]; decide) (by rw [c1]; rfl) (by decide) ?_
      refine lv_aload_n hx hb dX12_count_40 rfl (lv_at hl 1 rfl) ?_
      refine xgC E hw (c1 := 12) (t := (14, 0)) rfl ky_14_100 fo_12_0 rfl qf_12_9 dX12_count_41 ?_
      refine lv_iconst (v := 3) hx hb dX12_count_44 (by decide) ?_
      refine xalL (j := 3) E hw ky_14_0 ka_14_0 (by decide) (by decide) dX12_count_45 ?_
      exact hret (zR z 14 0 3) z H locs 46 ls hw rfl h dX12_count_46
    · replace h := h.2 c1
      by_cases c2 : p1 = (1 : Int32)
      · replace h := h.1 c2
        refine lv_tableIn (tgt := 47) hx hb dX12_count_3 (by rw [c2]; decide) (by rw [c2]; decide) (by rw [c2]; rfl) (by decide) ?_
        refine lv_aload_n hx hb dX12_count_47 rfl (lv_at hl 1 rfl) ?_
        refine xgC E hw (c1 := 12) (t := (14, 0)) rfl ky_14_100 fo_12_0 rfl qf_12_9 dX12_count_48 ?_
        refine lv_iconst (v := 4) hx hb dX12_count_51 (by decide) ?_
        refine xalL (j := 4) E hw ky_14_0 ka_14_0 (by decide) (by decide) dX12_count_52 ?_
        exact hret (zR z 14 0 4) z H locs 53 ls hw rfl h dX12_count_53
      · replace h := h.2 c2
        by_cases c3 : p1 = (2 : Int32)
        · replace h := h.1 c3
          refine lv_tableIn (tgt := 54) hx hb dX12_count_3 (by rw [c3]; decide) (by rw [c3]; decide) (by rw [c3]; rfl) (by decide) ?_
          refine lv_iconst (v := 0) hx hb dX12_count_54 (by decide) ?_
          refine lv_istore_n (lv' := [(3, .int (0 : Int32)), (2, .int (0 : Int32)), (0, .ref (ad 14 100)), (1, .int p1)]) hx hb dX12_count_55 rfl hl (by decide) rfl (fun ls hl => ?_)
          obtain ⟨n17, h⟩ := h
          exact b56 n17 z (0 : Int32) (0 : Int32) H locs hw ls (lv_sub hl [2, 1, 0] rfl) h
        · replace h := h.2 c3
          by_cases c4 : p1 = (3 : Int32)
          · replace h := h.1 c4
            refine lv_tableIn (tgt := 94) hx hb dX12_count_3 (by rw [c4]; decide) (by rw [c4]; decide) (by rw [c4]; rfl) (by decide) ?_
            refine lv_aload_n hx hb dX12_count_94 rfl (lv_at hl 1 rfl) ?_
            refine xgC E hw (c1 := 12) (t := (14, 0)) rfl ky_14_100 fo_12_0 rfl qf_12_9 dX12_count_95 ?_
            refine lv_iconst (v := 0) hx hb dX12_count_98 (by decide) ?_
            refine xalL (j := 0) E hw ky_14_0 ka_14_0 (by decide) (by decide) dX12_count_99 ?_
            exact hret (zR z 14 0 0) z H locs 100 ls hw rfl h dX12_count_100
          · replace h := h.2 c4
            by_cases c5 : p1 = (4 : Int32)
            · replace h := h.1 c5
              refine lv_tableIn (tgt := 101) hx hb dX12_count_3 (by rw [c5]; decide) (by rw [c5]; decide) (by rw [c5]; rfl) (by decide) ?_
              refine lv_aload_n hx hb dX12_count_101 rfl (lv_at hl 1 rfl) ?_
              refine xgC E hw (c1 := 12) (t := (14, 0)) rfl ky_14_100 fo_12_0 rfl qf_12_9 dX12_count_102 ?_
              refine lv_iconst (v := 1) hx hb dX12_count_105 (by decide) ?_
              refine xalL (j := 1) E hw ky_14_0 ka_14_0 (by decide) (by decide) dX12_count_106 ?_
              exact hret (zR z 14 0 1) z H locs 107 ls hw rfl h dX12_count_107
            · replace h := h.2 c5
              by_cases c6 : p1 = (5 : Int32)
              · replace h := h.1 c6
                refine lv_tableIn (tgt := 108) hx hb dX12_count_3 (by rw [c6]; decide) (by rw [c6]; decide) (by rw [c6]; rfl) (by decide) ?_
                refine lv_aload_n hx hb dX12_count_108 rfl (lv_at hl 1 rfl) ?_
                refine xgC E hw (c1 := 12) (t := (14, 0)) rfl ky_14_100 fo_12_0 rfl qf_12_9 dX12_count_109 ?_
                refine lv_iconst (v := 2) hx hb dX12_count_112 (by decide) ?_
                refine xalL (j := 2) E hw ky_14_0 ka_14_0 (by decide) (by decide) dX12_count_113 ?_
                exact hret (zR z 14 0 2) z H locs 114 ls hw rfl h dX12_count_114
              · replace h := h.2 c6
                refine lv_tableOut (tgt := 115) hx hb dX12_count_3 (by have n0 := lv_neT c1 (by decide : ((0 : Int32) : Int32).toInt = 0); have n1 := lv_neT c2 (by decide : ((1 : Int32) : Int32).toInt = 1); have n2 := lv_neT c3 (by decide : ((2 : Int32) : Int32).toInt = 2); have n3 := lv_neT c4 (by decide : ((3 : Int32) : Int32).toInt = 3); have n4 := lv_neT c5 (by decide : ((4 : Int32) : Int32).toInt = 4); have n5 := lv_neT c6 (by decide : ((5 : Int32) : Int32).toInt = 5); omega) (by decide) ?_
                refine lv_iconst (v := -1) hx hb dX12_count_115 (by decide) ?_
                exact hret (-1 : Int32) z H locs 116 ls hw rfl h dX12_count_116
  exact b00 s.heap [] hw
def V_X12_careOf (z : ZS) (p1 : Int32) (post : Int32 → ZS → Prop) : Prop := V_X12_of z p1 (1 : Int32) (fun r2 z1 => V_X12_of z1 p1 (0 : Int32) (fun r4 z3 => ((r4 = (1 : Int32) → post (1 : Int32) z3) ∧ (¬ r4 = (1 : Int32) → ((r4 = (2 : Int32) → post ((10 : Int32) + r2) z3) ∧ (¬ r4 = (2 : Int32) → ((r4 = (3 : Int32) → post (20 : Int32) z3) ∧ (¬ r4 = (3 : Int32) → ((r4 = (4 : Int32) → V_X12_of z3 p1 (2 : Int32) (fun r16 z15 => post ((10 : Int32) + r16) z15)) ∧ (¬ r4 = (4 : Int32) → ((r4 = (5 : Int32) → V_X12_of z3 p1 (2 : Int32) (fun r14 z13 => post ((13 : Int32) + r14) z13)) ∧ (¬ r4 = (5 : Int32) → ((r4 = (6 : Int32) → post ((10 : Int32) * r2) z3) ∧ (¬ r4 = (6 : Int32) → ((r4 = (7 : Int32) → post (70 : Int32) z3) ∧ (¬ r4 = (7 : Int32) → post (10 : Int32) z3))))))))))))))))
set_option maxHeartbeats 4000000 in
set_option maxRecDepth 100000 in
theorem c_X12_careOf (l : Launch) (D : va_G) (ad : Nat → Nat → Nat) (cs : Nat → ClassId) (sk : (Nat → Nat) × (Nat → Nat)) (z : ZS) (p1 : Int32) (post : Int32 → ZS → Prop) (h : V_X12_careOf z p1 post) : MI l D ad cs sk yX12_careOf cX12_careOf 3 .int (rmq 1 0 0) [.ref (ad 14 100), .int p1] z post := by
  refine MI.of RX12 rfl (by decide) (Nat.le_of_ble_eq_true rfl) ?_
  intro p e s m args below meth c A Q E hw hA hret ls hl
  have hx := E.1.1
  have hb := E.1.2.1
  have hml := E.1.2.2.1
  have hown := E.1.2.2.2.1
  have h0 := E.1.2.2.2.2
  have hl : lv_has ls 3 [(0, .ref (ad 14 100)), (1, .int p1)] := hl
  unfold V_X12_careOf at h
  have b00 : ∀ (H : Heap) (locs : List Loc), OW D ad cs A s.heap z H locs → W p l e (rmq 1 0 0) s m args below meth c H locs 0 0 Q (F0 m 0 ls []) := by
    intro H locs hw
    refine lv_aload_n hx hb dX12_careOf_0 rfl (lv_at hl 0 rfl) ?_
    refine lv_iload_n hx hb dX12_careOf_1 rfl (lv_at hl 1 rfl) ?_
    refine lv_iconst (v := 1) hx hb dX12_careOf_2 (by decide) ?_
    have hq := h
    clear h
    refine xcVI (As := [.int p1, .int (1 : Int32)]) (rest := []) E hw hA (c_X12_of l D ad cs sk z p1 (1 : Int32) _ hq) kc_12_152 yo_X12_of ⟨Nat.le_of_ble_eq_true rfl, Nat.le_of_ble_eq_true rfl⟩ (xrc E hw ky_14_100 rfl) rfl hl.1 rfl (Nat.le_of_ble_eq_true rfl) dX12_careOf_3 ⟨Nat.le_of_ble_eq_true rfl, Nat.le_of_ble_eq_true rfl⟩ (fun r2 z1 H locs h hw => ?_)
    refine lv_istore_n (lv' := [(2, .int r2), (0, .ref (ad 14 100)), (1, .int p1)]) hx hb dX12_careOf_6 rfl hl (by decide) rfl (fun ls hl => ?_)
    refine lv_aload_n hx hb dX12_careOf_7 rfl (lv_at hl 1 rfl) ?_
    refine lv_iload_n hx hb dX12_careOf_8 rfl (lv_at hl 2 rfl) ?_
    refine lv_iconst (v := 0) hx hb dX12_careOf_9 (by decide) ?_
    have hq := h
    clear h
    refine xcVI (As := [.int p1, .int (0 : Int32)]) (rest := []) E hw hA (c_X12_of l D ad cs sk z1 p1 (0 : Int32) _ hq) kc_12_152 yo_X12_of ⟨Nat.le_of_ble_eq_true rfl, Nat.le_of_ble_eq_true rfl⟩ (xrc E hw ky_14_100 rfl) rfl hl.1 rfl (Nat.le_of_ble_eq_true rfl) dX12_careOf_10 ⟨Nat.le_of_ble_eq_true rfl, Nat.le_of_ble_eq_true rfl⟩ (fun r4 z3 H locs h hw => ?_)
    by_cases c5 : r4 = (1 : Int32)
    · replace h := h.1 c5
      refine lv_tableIn (tgt := 56) hx hb dX12_careOf_13 (by rw [c5]; decide) (by rw [c5]; decide) (by rw [c5]; rfl) (by decide) ?_
      refine lv_iconst (v := 1) hx hb dX12_careOf_56 (by decide) ?_
      exact hret (1 : Int32) z3 H locs 57 ls hw rfl h dX12_careOf_57
    · replace h := h.2 c5
      by_cases c6 : r4 = (2 : Int32)
      · replace h := h.1 c6
        refine lv_tableIn (tgt := 58) hx hb dX12_careOf_13 (by rw [c6]; decide) (by rw [c6]; decide) (by rw [c6]; rfl) (by decide) ?_
        refine lv_bipush (v := 10) hx hb dX12_careOf_58 (by decide) ?_
        refine lv_iload_n hx hb dX12_careOf_60 rfl (lv_at hl 0 rfl) ?_
        refine lv_iadd hx hb dX12_careOf_61 ?_
        exact hret ((10 : Int32) + r2) z3 H locs 62 ls hw rfl h dX12_careOf_62
      · replace h := h.2 c6
        by_cases c7 : r4 = (3 : Int32)
        · replace h := h.1 c7
          refine lv_tableIn (tgt := 63) hx hb dX12_careOf_13 (by rw [c7]; decide) (by rw [c7]; decide) (by rw [c7]; rfl) (by decide) ?_
          refine lv_bipush (v := 20) hx hb dX12_careOf_63 (by decide) ?_
          exact hret (20 : Int32) z3 H locs 65 ls hw rfl h dX12_careOf_65
        · replace h := h.2 c7
          by_cases c8 : r4 = (4 : Int32)
          · replace h := h.1 c8
            refine lv_tableIn (tgt := 66) hx hb dX12_careOf_13 (by rw [c8]; decide) (by rw [c8]; decide) (by rw [c8]; rfl) (by decide) ?_
            refine lv_bipush (v := 10) hx hb dX12_careOf_66 (by decide) ?_
            refine lv_aload_n hx hb dX12_careOf_68 rfl (lv_at hl 1 rfl) ?_
            refine lv_iload_n hx hb dX12_careOf_69 rfl (lv_at hl 2 rfl) ?_
            refine lv_iconst (v := 2) hx hb dX12_careOf_70 (by decide) ?_
            have hq := h
            clear h
            refine xcVI (As := [.int p1, .int (2 : Int32)]) (rest := [.int (10 : Int32)]) E hw hA (c_X12_of l D ad cs sk z3 p1 (2 : Int32) _ hq) kc_12_152 yo_X12_of ⟨Nat.le_of_ble_eq_true rfl, Nat.le_of_ble_eq_true rfl⟩ (xrc E hw ky_14_100 rfl) rfl hl.1 rfl (Nat.le_of_ble_eq_true rfl) dX12_careOf_71 ⟨Nat.le_of_ble_eq_true rfl, Nat.le_of_ble_eq_true rfl⟩ (fun r16 z15 H locs h hw => ?_)
            refine lv_iadd hx hb dX12_careOf_74 ?_
            exact hret ((10 : Int32) + r16) z15 H locs 75 ls hw rfl h dX12_careOf_75
          · replace h := h.2 c8
            by_cases c9 : r4 = (5 : Int32)
            · replace h := h.1 c9
              refine lv_tableIn (tgt := 76) hx hb dX12_careOf_13 (by rw [c9]; decide) (by rw [c9]; decide) (by rw [c9]; rfl) (by decide) ?_
              refine lv_bipush (v := 13) hx hb dX12_careOf_76 (by decide) ?_
              refine lv_aload_n hx hb dX12_careOf_78 rfl (lv_at hl 1 rfl) ?_
              refine lv_iload_n hx hb dX12_careOf_79 rfl (lv_at hl 2 rfl) ?_
              refine lv_iconst (v := 2) hx hb dX12_careOf_80 (by decide) ?_
              have hq := h
              clear h
              refine xcVI (As := [.int p1, .int (2 : Int32)]) (rest := [.int (13 : Int32)]) E hw hA (c_X12_of l D ad cs sk z3 p1 (2 : Int32) _ hq) kc_12_152 yo_X12_of ⟨Nat.le_of_ble_eq_true rfl, Nat.le_of_ble_eq_true rfl⟩ (xrc E hw ky_14_100 rfl) rfl hl.1 rfl (Nat.le_of_ble_eq_true rfl) dX12_careOf_81 ⟨Nat.le_of_ble_eq_true rfl, Nat.le_of_ble_eq_true rfl⟩ (fun r14 z13 H locs h hw => ?_)
              refine lv_iadd hx hb dX12_careOf_84 ?_
              exact hret ((13 : Int32) + r14) z13 H locs 85 ls hw rfl h dX12_careOf_85
            · replace h := h.2 c9
              by_cases c10 : r4 = (6 : Int32)
              · replace h := h.1 c10
                refine lv_tableIn (tgt := 86) hx hb dX12_careOf_13 (by rw [c10]; decide) (by rw [c10]; decide) (by rw [c10]; rfl) (by decide) ?_
                refine lv_bipush (v := 10) hx hb dX12_careOf_86 (by decide) ?_
                refine lv_iload_n hx hb dX12_careOf_88 rfl (lv_at hl 0 rfl) ?_
                refine lv_imul hx hb dX12_careOf_89 ?_
                exact hret ((10 : Int32) * r2) z3 H locs 90 ls hw rfl h dX12_careOf_90
              · replace h := h.2 c10
                by_cases c11 : r4 = (7 : Int32)
                · replace h := h.1 c11
                  refine lv_tableIn (tgt := 91) hx hb dX12_careOf_13 (by rw [c11]; decide) (by rw [c11]; decide) (by rw [c11]; rfl) (by decide) ?_
                  refine lv_bipush (v := 70) hx hb dX12_careOf_91 (by decide) ?_
                  exact hret (70 : Int32) z3 H locs 93 ls hw rfl h dX12_careOf_93
                · replace h := h.2 c11
                  refine lv_tableOut (tgt := 94) hx hb dX12_careOf_13 (by have n0 := lv_neT c5 (by decide : ((1 : Int32) : Int32).toInt = 1); have n1 := lv_neT c6 (by decide : ((2 : Int32) : Int32).toInt = 2); have n2 := lv_neT c7 (by decide : ((3 : Int32) : Int32).toInt = 3); have n3 := lv_neT c8 (by decide : ((4 : Int32) : Int32).toInt = 4); have n4 := lv_neT c9 (by decide : ((5 : Int32) : Int32).toInt = 5); have n5 := lv_neT c10 (by decide : ((6 : Int32) : Int32).toInt = 6); have n6 := lv_neT c11 (by decide : ((7 : Int32) : Int32).toInt = 7); omega) (by decide) ?_
                  refine lv_bipush (v := 10) hx hb dX12_careOf_94 (by decide) ?_
                  exact hret (10 : Int32) z3 H locs 96 ls hw rfl h dX12_careOf_96
  exact b00 s.heap [] hw
def V_X12_keep_122 (post : Int32 → ZS → Prop) (z : ZS) (s1 : Int32) (s2 : Int32) : Prop := (vp_in s1 8 ∧ ∀ z16 : ZS, z16 = wR z 14 8 (Int32.toNatClampNeg s1) s2 → post (0 : Int32) z16)
def V_X12_keep_84 (post : Int32 → ZS → Prop) (z : ZS) (s1 : Int32) : Prop := V_X12_keep_122 post z s1 (-15 : Int32)
def V_X12_keep_32 (post : Int32 → ZS → Prop) (z : ZS) (v1 : Int32) (v2 : Int32) (v3 : Int32) : Prop := (vp_in v1 8 ∧ ∀ z8 : ZS, z8 = wR z 14 3 (Int32.toNatClampNeg v1) v2 → ((¬ v2 = 0 → V_X12_of z8 v3 (0 : Int32) (fun r11 z10 => V_X12_careOf z10 v3 (fun r13 z12 => (vp_in v1 8 ∧ ∀ z14 : ZS, z14 = wR z12 14 7 (Int32.toNatClampNeg v1) r13 → ((r11 = (1 : Int32) → V_X12_keep_84 post z14 v1) ∧ (¬ r11 = (1 : Int32) → V_X12_of z14 v3 (1 : Int32) (fun r18 z17 => ((¬ r18 = 0 → ((¬ r11 = (5 : Int32) → ((¬ r11 = (7 : Int32) → V_X12_keep_122 post z17 v1 v3) ∧ (r11 = (7 : Int32) → V_X12_careOf z17 v3 (fun r23 z22 => V_X12_keep_122 post z22 v1 ((200 : Int32) + r23))))) ∧ (r11 = (5 : Int32) → V_X12_keep_122 post z17 v1 ((100 : Int32) + v3)))) ∧ (r18 = 0 → V_X12_keep_84 post z17 v1))))))))) ∧ (v2 = 0 → post (0 : Int32) z8)))
def V_X12_keep (z : ZS) (p1 : Int32) (p2 : Int32) (p3 : Int32) (post : Int32 → ZS → Prop) : Prop := V_X12_isShelf z p1 (fun r2 z1 => ((r2 = 0 → post (-1 : Int32) z1) ∧ (¬ r2 = 0 → V_X12_isIn z1 (Int32.toInt64 p2) (0 : Int64) (1 : Int64) (fun r5 z4 => ((r5 = 0 → post (-1 : Int32) z4) ∧ (¬ r5 = 0 → ((¬ p2 = (1 : Int32) → V_X12_keep_32 post z4 p1 p2 p3) ∧ (p2 = (1 : Int32) → V_X12_isFaller z4 p3 (fun r25 z24 => ((¬ r25 = 0 → V_X12_keep_32 post z24 p1 p2 p3) ∧ (r25 = 0 → post (-1 : Int32) z24)))))))))))
set_option maxHeartbeats 4000000 in
set_option maxRecDepth 100000 in
theorem c_X12_keep (l : Launch) (D : va_G) (ad : Nat → Nat → Nat) (cs : Nat → ClassId) (sk : (Nat → Nat) × (Nat → Nat)) (z : ZS) (p1 : Int32) (p2 : Int32) (p3 : Int32) (post : Int32 → ZS → Prop) (h : V_X12_keep z p1 p2 p3 post) : MI l D ad cs sk yX12_keep cX12_keep 5 .int (rmq 2 0 0) [.ref (ad 14 100), .int p1, .int p2, .int p3] z post := by
  refine MI.of RX12 rfl (by decide) (Nat.le_of_ble_eq_true rfl) ?_
  intro p e s m args below meth c A Q E hw hA hret ls hl
  have hx := E.1.1
  have hb := E.1.2.1
  have hml := E.1.2.2.1
  have hown := E.1.2.2.2.1
  have h0 := E.1.2.2.2.2
  have hl : lv_has ls 5 [(0, .ref (ad 14 100)), (1, .int p1), (2, .int p2), (3, .int p3)] := hl
  unfold V_X12_keep at h
  have b122 : ∀ (z : ZS) (s1 : Int32) (s2 : Int32), ∀ (H : Heap) (locs : List Loc), OW D ad cs A s.heap z H locs → ∀ ls : Array Slot, lv_has ls 5 [] → V_X12_keep_122 post z s1 s2 → W p l e (rmq 2 0 0) s m args below meth c H locs 0 0 Q (F0 m 122 ls [.int s2, .int s1, .ref (ad 14 8)]) := by
    intro z s1 s2 H locs hw ls hl h
    unfold V_X12_keep_122 at h
    obtain ⟨hi, h⟩ := h
    refine xas E hw ky_14_8 ka_14_8 hi dX12_keep_122 (fun z16 ez16 H locs hw => ?_)
    replace h := h z16 ez16
    refine lv_iconst (v := 0) hx hb dX12_keep_123 (by decide) ?_
    exact hret (0 : Int32) z16 H locs 124 ls hw rfl h dX12_keep_124
  have b84 : ∀ (z : ZS) (s1 : Int32), ∀ (H : Heap) (locs : List Loc), OW D ad cs A s.heap z H locs → ∀ ls : Array Slot, lv_has ls 5 [] → V_X12_keep_84 post z s1 → W p l e (rmq 2 0 0) s m args below meth c H locs 0 0 Q (F0 m 84 ls [.int s1, .ref (ad 14 8)]) := by
    intro z s1 H locs hw ls hl h
    unfold V_X12_keep_84 at h
    refine lv_bipush (v := -15) hx hb dX12_keep_84 (by decide) ?_
    refine lv_goto (tgt := 122) hx hb dX12_keep_86 (by decide) ?_
    exact b122 z s1 (-15 : Int32) H locs hw ls (lv_sub hl [] rfl) h
  have b32 : ∀ (z : ZS) (v1 : Int32) (v2 : Int32) (v3 : Int32), ∀ (H : Heap) (locs : List Loc), OW D ad cs A s.heap z H locs → ∀ ls : Array Slot, lv_has ls 5 [(0, .ref (ad 14 100)), (1, .int v1), (2, .int v2), (3, .int v3)] → V_X12_keep_32 post z v1 v2 v3 → W p l e (rmq 2 0 0) s m args below meth c H locs 0 0 Q (F0 m 32 ls []) := by
    intro z v1 v2 v3 H locs hw ls hl h
    unfold V_X12_keep_32 at h
    refine lv_aload_n hx hb dX12_keep_32 rfl (lv_at hl 0 rfl) ?_
    refine xgC E hw (c1 := 12) (t := (14, 3)) rfl ky_14_100 fo_12_3 rfl qf_12_19 dX12_keep_33 ?_
    refine lv_iload_n hx hb dX12_keep_36 rfl (lv_at hl 1 rfl) ?_
    refine lv_iload_n hx hb dX12_keep_37 rfl (lv_at hl 2 rfl) ?_
    obtain ⟨hi, h⟩ := h
    refine xas E hw ky_14_3 ka_14_3 hi dX12_keep_38 (fun z8 ez8 H locs hw => ?_)
    replace h := h z8 ez8
    refine lv_iload_n hx hb dX12_keep_39 rfl (lv_at hl 2 rfl) ?_
    refine lv_if_ne (tgt := 45) hx hb dX12_keep_40 (by decide) (fun c9 => ?_) (fun c9 => ?_)
    · replace h := h.1 c9
      refine lv_aload_n hx hb dX12_keep_45 rfl (lv_at hl 0 rfl) ?_
      refine lv_iload_n hx hb dX12_keep_46 rfl (lv_at hl 3 rfl) ?_
      refine lv_iconst (v := 0) hx hb dX12_keep_47 (by decide) ?_
      have hq := h
      clear h
      refine xcVI (As := [.int v3, .int (0 : Int32)]) (rest := []) E hw hA (c_X12_of l D ad cs sk z8 v3 (0 : Int32) _ hq) kc_12_152 yo_X12_of ⟨Nat.le_of_ble_eq_true rfl, Nat.le_of_ble_eq_true rfl⟩ (xrc E hw ky_14_100 rfl) rfl hl.1 rfl (Nat.le_of_ble_eq_true rfl) dX12_keep_48 ⟨Nat.le_of_ble_eq_true rfl, Nat.le_of_ble_eq_true rfl⟩ (fun r11 z10 H locs h hw => ?_)
      refine lv_istore (lv' := [(4, .int r11), (0, .ref (ad 14 100)), (1, .int v1), (2, .int v2), (3, .int v3)]) hx hb dX12_keep_51 hl (by decide) rfl (fun ls hl => ?_)
      refine lv_aload_n hx hb dX12_keep_53 rfl (lv_at hl 1 rfl) ?_
      refine xgC E hw (c1 := 12) (t := (14, 7)) rfl ky_14_100 fo_12_7 rfl qf_12_31 dX12_keep_54 ?_
      refine lv_iload_n hx hb dX12_keep_57 rfl (lv_at hl 2 rfl) ?_
      refine lv_aload_n hx hb dX12_keep_58 rfl (lv_at hl 1 rfl) ?_
      refine lv_iload_n hx hb dX12_keep_59 rfl (lv_at hl 4 rfl) ?_
      have hq := h
      clear h
      refine xcVI (As := [.int v3]) (rest := [.int v1, .ref (ad 14 7)]) E hw hA (c_X12_careOf l D ad cs sk z10 v3 _ hq) kc_12_322 yo_X12_careOf ⟨Nat.le_of_ble_eq_true rfl, Nat.le_of_ble_eq_true rfl⟩ (xrc E hw ky_14_100 rfl) rfl hl.1 rfl (Nat.le_of_ble_eq_true rfl) dX12_keep_60 ⟨Nat.le_of_ble_eq_true rfl, Nat.le_of_ble_eq_true rfl⟩ (fun r13 z12 H locs h hw => ?_)
      obtain ⟨hi, h⟩ := h
      refine xas E hw ky_14_7 ka_14_7 hi dX12_keep_63 (fun z14 ez14 H locs hw => ?_)
      replace h := h z14 ez14
      refine lv_aload_n hx hb dX12_keep_64 rfl (lv_at hl 1 rfl) ?_
      refine xgC E hw (c1 := 12) (t := (14, 8)) rfl ky_14_100 fo_12_8 rfl qf_12_34 dX12_keep_65 ?_
      refine lv_iload_n hx hb dX12_keep_68 rfl (lv_at hl 2 rfl) ?_
      refine lv_iload hx hb dX12_keep_69 (lv_at hl 0 rfl) ?_
      refine lv_iconst (v := 1) hx hb dX12_keep_71 (by decide) ?_
      refine lv_icmp_eq (tgt := 84) hx hb dX12_keep_72 (by decide) (fun c15 => ?_) (fun c15 => ?_)
      · replace h := h.1 c15
        exact b84 z14 v1 H locs hw ls (lv_sub hl [] rfl) h
      · replace h := h.2 c15
        refine lv_aload_n hx hb dX12_keep_75 rfl (lv_at hl 1 rfl) ?_
        refine lv_iload_n hx hb dX12_keep_76 rfl (lv_at hl 4 rfl) ?_
        refine lv_iconst (v := 1) hx hb dX12_keep_77 (by decide) ?_
        have hq := h
        clear h
        refine xcVI (As := [.int v3, .int (1 : Int32)]) (rest := [.int v1, .ref (ad 14 8)]) E hw hA (c_X12_of l D ad cs sk z14 v3 (1 : Int32) _ hq) kc_12_152 yo_X12_of ⟨Nat.le_of_ble_eq_true rfl, Nat.le_of_ble_eq_true rfl⟩ (xrc E hw ky_14_100 rfl) rfl hl.1 rfl (Nat.le_of_ble_eq_true rfl) dX12_keep_78 ⟨Nat.le_of_ble_eq_true rfl, Nat.le_of_ble_eq_true rfl⟩ (fun r18 z17 H locs h hw => ?_)
        refine lv_if_ne (tgt := 89) hx hb dX12_keep_81 (by decide) (fun c19 => ?_) (fun c19 => ?_)
        · replace h := h.1 c19
          refine lv_iload hx hb dX12_keep_89 (lv_at hl 0 rfl) ?_
          refine lv_iconst (v := 5) hx hb dX12_keep_91 (by decide) ?_
          refine lv_icmp_ne (tgt := 102) hx hb dX12_keep_92 (by decide) (fun c20 => ?_) (fun c20 => ?_)
          · replace h := h.1 c20
            refine lv_iload hx hb dX12_keep_102 (lv_at hl 0 rfl) ?_
            refine lv_bipush (v := 7) hx hb dX12_keep_104 (by decide) ?_
            refine lv_icmp_ne (tgt := 121) hx hb dX12_keep_106 (by decide) (fun c21 => ?_) (fun c21 => ?_)
            · replace h := h.1 c21
              refine lv_iload_n hx hb dX12_keep_121 rfl (lv_at hl 4 rfl) ?_
              exact b122 z17 v1 v3 H locs hw ls (lv_sub hl [] rfl) h
            · replace h := h.2 c21
              refine lv_sipush (v := 200) hx hb dX12_keep_109 (by decide) ?_
              refine lv_aload_n hx hb dX12_keep_112 rfl (lv_at hl 1 rfl) ?_
              refine lv_iload_n hx hb dX12_keep_113 rfl (lv_at hl 4 rfl) ?_
              have hq := h
              clear h
              refine xcVI (As := [.int v3]) (rest := [.int (200 : Int32), .int v1, .ref (ad 14 8)]) E hw hA (c_X12_careOf l D ad cs sk z17 v3 _ hq) kc_12_322 yo_X12_careOf ⟨Nat.le_of_ble_eq_true rfl, Nat.le_of_ble_eq_true rfl⟩ (xrc E hw ky_14_100 rfl) rfl hl.1 rfl (Nat.le_of_ble_eq_true rfl) dX12_keep_114 ⟨Nat.le_of_ble_eq_true rfl, Nat.le_of_ble_eq_true rfl⟩ (fun r23 z22 H locs h hw => ?_)
              refine lv_iadd hx hb dX12_keep_117 ?_
              refine lv_goto (tgt := 122) hx hb dX12_keep_118 (by decide) ?_
              exact b122 z22 v1 ((200 : Int32) + r23) H locs hw ls (lv_sub hl [] rfl) h
          · replace h := h.2 c20
            refine lv_bipush (v := 100) hx hb dX12_keep_95 (by decide) ?_
            refine lv_iload_n hx hb dX12_keep_97 rfl (lv_at hl 4 rfl) ?_
            refine lv_iadd hx hb dX12_keep_98 ?_
            refine lv_goto (tgt := 122) hx hb dX12_keep_99 (by decide) ?_
            exact b122 z17 v1 ((100 : Int32) + v3) H locs hw ls (lv_sub hl [] rfl) h
        · replace h := h.2 c19
          exact b84 z17 v1 H locs hw ls (lv_sub hl [] rfl) h
    · replace h := h.2 c9
      refine lv_iconst (v := 0) hx hb dX12_keep_43 (by decide) ?_
      exact hret (0 : Int32) z8 H locs 44 ls hw rfl h dX12_keep_44
  have b00 : ∀ (H : Heap) (locs : List Loc), OW D ad cs A s.heap z H locs → W p l e (rmq 2 0 0) s m args below meth c H locs 0 0 Q (F0 m 0 ls []) := by
    intro H locs hw
    refine lv_iload_n hx hb dX12_keep_0 rfl (lv_at hl 1 rfl) ?_
    have hq := h
    clear h
    refine xcSI (As := [.int p1]) (rest := []) E hw hA (c_X12_isShelf l D ad cs sk z p1 _ hq) kc_12_125 yo_X12_isShelf ⟨Nat.le_of_ble_eq_true rfl, Nat.le_of_ble_eq_true rfl⟩ rfl hl.1 rfl (Nat.le_of_ble_eq_true rfl) dX12_keep_1 ⟨Nat.le_of_ble_eq_true rfl, Nat.le_of_ble_eq_true rfl⟩ (fun r2 z1 H locs h hw => ?_)
    refine lv_if_eq (tgt := 30) hx hb dX12_keep_4 (by decide) (fun c3 => ?_) (fun c3 => ?_)
    · replace h := h.1 c3
      refine lv_iconst (v := -1) hx hb dX12_keep_30 (by decide) ?_
      exact hret (-1 : Int32) z1 H locs 31 ls hw rfl h dX12_keep_31
    · replace h := h.2 c3
      refine lv_iload_n hx hb dX12_keep_7 rfl (lv_at hl 2 rfl) ?_
      refine lv_i2l hx hb dX12_keep_8 rfl ?_
      refine lv_lconst (v := 0) hx hb dX12_keep_9 (by decide) ?_
      refine lv_lconst (v := 1) hx hb dX12_keep_10 (by decide) ?_
      have hq := h
      clear h
      refine xcSI (As := [.long (Int32.toInt64 p2), .long (0 : Int64), .long (1 : Int64)]) (rest := []) E hw hA (c_X12_isIn l D ad cs sk z1 (Int32.toInt64 p2) (0 : Int64) (1 : Int64) _ hq) kc_12_56 yo_X12_isIn ⟨Nat.le_of_ble_eq_true rfl, Nat.le_of_ble_eq_true rfl⟩ rfl hl.1 rfl (Nat.le_of_ble_eq_true rfl) dX12_keep_11 ⟨Nat.le_of_ble_eq_true rfl, Nat.le_of_ble_eq_true rfl⟩ (fun r5 z4 H locs h hw => ?_)
      refine lv_if_eq (tgt := 30) hx hb dX12_keep_14 (by decide) (fun c6 => ?_) (fun c6 => ?_)
      · replace h := h.1 c6
        refine lv_iconst (v := -1) hx hb dX12_keep_30 (by decide) ?_
        exact hret (-1 : Int32) z4 H locs 31 ls hw rfl h dX12_keep_31
      · replace h := h.2 c6
        refine lv_iload_n hx hb dX12_keep_17 rfl (lv_at hl 2 rfl) ?_
        refine lv_iconst (v := 1) hx hb dX12_keep_18 (by decide) ?_
        refine lv_icmp_ne (tgt := 32) hx hb dX12_keep_19 (by decide) (fun c7 => ?_) (fun c7 => ?_)
        · replace h := h.1 c7
          exact b32 z4 p1 p2 p3 H locs hw ls (lv_sub hl [0, 1, 2, 3] rfl) h
        · replace h := h.2 c7
          refine lv_aload_n hx hb dX12_keep_22 rfl (lv_at hl 0 rfl) ?_
          refine lv_iload_n hx hb dX12_keep_23 rfl (lv_at hl 3 rfl) ?_
          have hq := h
          clear h
          refine xcVI (As := [.int p3]) (rest := []) E hw hA (c_X12_isFaller l D ad cs sk z4 p3 _ hq) kc_12_149 yo_X12_isFaller ⟨Nat.le_of_ble_eq_true rfl, Nat.le_of_ble_eq_true rfl⟩ (xrc E hw ky_14_100 rfl) rfl hl.1 rfl (Nat.le_of_ble_eq_true rfl) dX12_keep_24 ⟨Nat.le_of_ble_eq_true rfl, Nat.le_of_ble_eq_true rfl⟩ (fun r25 z24 H locs h hw => ?_)
          refine lv_if_ne (tgt := 32) hx hb dX12_keep_27 (by decide) (fun c26 => ?_) (fun c26 => ?_)
          · replace h := h.1 c26
            exact b32 z24 p1 p2 p3 H locs hw ls (lv_sub hl [0, 1, 2, 3] rfl) h
          · replace h := h.2 c26
            refine lv_iconst (v := -1) hx hb dX12_keep_30 (by decide) ?_
            exact hret (-1 : Int32) z24 H locs 31 ls hw rfl h dX12_keep_31
  exact b00 s.heap [] hw
def V_X12_row_58 (post : Int32 → ZS → Prop) : Nat → ZS → Int32 → Int32 → Prop
  | 0, _, _, _ => False
  | (n + 1), z, v1, v4 => (((100 : Int32) ≤ v4 → post (0 : Int32) z) ∧ (¬ (100 : Int32) ≤ v4 → (vp_in (((100 : Int32) * v1) + v4) 800 ∧ ∀ z13 : ZS, z13 = wR z 14 6 (Int32.toNatClampNeg (((100 : Int32) * v1) + v4)) (0 : Int32) → (∀ t14 : Int32, t14 = v4 + (1 : Int32) → (V_X12_row_58 post n) z13 v1 t14))))
def V_X12_row (z : ZS) (p1 : Int32) (p2 : Int32) (p3 : Int32) (post : Int32 → ZS → Prop) : Prop := V_X12_isShelf z p1 (fun r2 z1 => ((r2 = 0 → post (-1 : Int32) z1) ∧ (¬ r2 = 0 → V_X12_isIn z1 (Int32.toInt64 p2) (0 : Int64) (2 : Int64) (fun r5 z4 => ((r5 = 0 → post (-1 : Int32) z4) ∧ (¬ r5 = 0 → ((p3 ≤ (100 : Int32) → ((0 ≤ p3 → (vp_in p1 8 ∧ ∀ z9 : ZS, z9 = wR z4 14 3 (Int32.toNatClampNeg p1) (2 : Int32) → (vp_in p1 8 ∧ ∀ z10 : ZS, z10 = wR z9 14 4 (Int32.toNatClampNeg p1) p2 → (vp_in p1 8 ∧ ∀ z11 : ZS, z11 = wR z10 14 5 (Int32.toNatClampNeg p1) p3 → (∃ n15 : Nat, V_X12_row_58 post n15 z11 p1 (0 : Int32)))))) ∧ (¬ 0 ≤ p3 → post (-14 : Int32) z4))) ∧ (¬ p3 ≤ (100 : Int32) → post (-1 : Int32) z4))))))))
set_option maxHeartbeats 4000000 in
set_option maxRecDepth 100000 in
theorem c_X12_row (l : Launch) (D : va_G) (ad : Nat → Nat → Nat) (cs : Nat → ClassId) (sk : (Nat → Nat) × (Nat → Nat)) (z : ZS) (p1 : Int32) (p2 : Int32) (p3 : Int32) (post : Int32 → ZS → Prop) (h : V_X12_row z p1 p2 p3 post) : MI l D ad cs sk yX12_row cX12_row 5 .int (rmq 2 0 0) [.ref (ad 14 100), .int p1, .int p2, .int p3] z post := by
  refine MI.of RX12 rfl (by decide) (Nat.le_of_ble_eq_true rfl) ?_
  intro p e s m args below meth c A Q E hw hA hret ls hl
  have hx := E.1.1
  have hb := E.1.2.1
  have hml := E.1.2.2.1
  have hown := E.1.2.2.2.1
  have h0 := E.1.2.2.2.2
  have hl : lv_has ls 5 [(0, .ref (ad 14 100)), (1, .int p1), (2, .int p2), (3, .int p3)] := hl
  unfold V_X12_row at h
  have b58 : ∀ (n : Nat) (z : ZS) (v1 : Int32) (v4 : Int32), ∀ (H : Heap) (locs : List Loc), OW D ad cs A s.heap z H locs → ∀ ls : Array Slot, lv_has ls 5 [(0, .ref (ad 14 100)), (1, .int v1), (4, .int v4)] → V_X12_row_58 post n z v1 v4 → W p l e (rmq 2 0 0) s m args below meth c H locs 0 0 Q (F0 m 58 ls []) := by
    intro n
    induction n with
    | zero =>
      intro z v1 v4 H locs hw ls hl h
      exact h.elim
    | succ n58x ih58 =>
      intro z v1 v4 H locs hw ls hl h
      unfold V_X12_row_58 at h
      refine lv_iload hx hb dX12_row_58 (lv_at hl 2 rfl) ?_
      refine lv_bipush (v := 100) hx hb dX12_row_60 (by decide) ?_
      refine lv_icmp_ge (tgt := 84) hx hb dX12_row_62 (by decide) (fun c12 => ?_) (fun c12 => ?_)
      · replace h := h.1 c12
        refine lv_iconst (v := 0) hx hb dX12_row_84 (by decide) ?_
        exact hret (0 : Int32) z H locs 85 ls hw rfl h dX12_row_85
      · replace h := h.2 c12
        refine lv_aload_n hx hb dX12_row_65 rfl (lv_at hl 0 rfl) ?_
        refine xgC E hw (c1 := 12) (t := (14, 6)) rfl ky_14_100 fo_12_6 rfl qf_12_28 dX12_row_66 ?_
        refine lv_bipush (v := 100) hx hb dX12_row_69 (by decide) ?_
        refine lv_iload_n hx hb dX12_row_71 rfl (lv_at hl 1 rfl) ?_
        refine lv_imul hx hb dX12_row_72 ?_
        refine lv_iload hx hb dX12_row_73 (lv_at hl 2 rfl) ?_
        refine lv_iadd hx hb dX12_row_75 ?_
        refine lv_iconst (v := 0) hx hb dX12_row_76 (by decide) ?_
        obtain ⟨hi, h⟩ := h
        refine xas E hw ky_14_6 ka_14_6 hi dX12_row_77 (fun z13 ez13 H locs hw => ?_)
        replace h := h z13 ez13
        obtain ⟨t14, et14⟩ : ∃ y : Int32, y = v4 + (1 : Int32) := ⟨_, rfl⟩
        replace h := h t14 et14
        refine lv_iinc (v := t14) (lv' := [(4, .int t14), (0, .ref (ad 14 100)), (1, .int v1)]) hx hb dX12_row_78 hl (k := 2) rfl (by rw [et14]; rfl) (by decide) rfl (fun ls hl => ?_)
        refine lv_goto (tgt := 58) hx hb dX12_row_81 (by decide) ?_
        exact ih58 z13 v1 t14 H locs hw ls (lv_sub hl [1, 2, 0] rfl) h
  have b00 : ∀ (H : Heap) (locs : List Loc), OW D ad cs A s.heap z H locs → W p l e (rmq 2 0 0) s m args below meth c H locs 0 0 Q (F0 m 0 ls []) := by
    intro H locs hw
    refine lv_iload_n hx hb dX12_row_0 rfl (lv_at hl 1 rfl) ?_
    have hq := h
    clear h
    refine xcSI (As := [.int p1]) (rest := []) E hw hA (c_X12_isShelf l D ad cs sk z p1 _ hq) kc_12_125 yo_X12_isShelf ⟨Nat.le_of_ble_eq_true rfl, Nat.le_of_ble_eq_true rfl⟩ rfl hl.1 rfl (Nat.le_of_ble_eq_true rfl) dX12_row_1 ⟨Nat.le_of_ble_eq_true rfl, Nat.le_of_ble_eq_true rfl⟩ (fun r2 z1 H locs h hw => ?_)
    refine lv_if_eq (tgt := 25) hx hb dX12_row_4 (by decide) (fun c3 => ?_) (fun c3 => ?_)
    · replace h := h.1 c3
      refine lv_iconst (v := -1) hx hb dX12_row_25 (by decide) ?_
      exact hret (-1 : Int32) z1 H locs 26 ls hw rfl h dX12_row_26
    · replace h := h.2 c3
      refine lv_iload_n hx hb dX12_row_7 rfl (lv_at hl 2 rfl) ?_
      refine lv_i2l hx hb dX12_row_8 rfl ?_
      refine lv_lconst (v := 0) hx hb dX12_row_9 (by decide) ?_
      refine lv_ldc2 (v := 2) hx hb hown (h0 _ ql_12_147) dX12_row_10 ?_
      have hq := h
      clear h
      refine xcSI (As := [.long (Int32.toInt64 p2), .long (0 : Int64), .long (2 : Int64)]) (rest := []) E hw hA (c_X12_isIn l D ad cs sk z1 (Int32.toInt64 p2) (0 : Int64) (2 : Int64) _ hq) kc_12_56 yo_X12_isIn ⟨Nat.le_of_ble_eq_true rfl, Nat.le_of_ble_eq_true rfl⟩ rfl hl.1 rfl (Nat.le_of_ble_eq_true rfl) dX12_row_13 ⟨Nat.le_of_ble_eq_true rfl, Nat.le_of_ble_eq_true rfl⟩ (fun r5 z4 H locs h hw => ?_)
      refine lv_if_eq (tgt := 25) hx hb dX12_row_16 (by decide) (fun c6 => ?_) (fun c6 => ?_)
      · replace h := h.1 c6
        refine lv_iconst (v := -1) hx hb dX12_row_25 (by decide) ?_
        exact hret (-1 : Int32) z4 H locs 26 ls hw rfl h dX12_row_26
      · replace h := h.2 c6
        refine lv_iload_n hx hb dX12_row_19 rfl (lv_at hl 3 rfl) ?_
        refine lv_bipush (v := 100) hx hb dX12_row_20 (by decide) ?_
        refine lv_icmp_le (tgt := 27) hx hb dX12_row_22 (by decide) (fun c7 => ?_) (fun c7 => ?_)
        · replace h := h.1 c7
          refine lv_iload_n hx hb dX12_row_27 rfl (lv_at hl 3 rfl) ?_
          refine lv_if_ge (tgt := 34) hx hb dX12_row_28 (by decide) (fun c8 => ?_) (fun c8 => ?_)
          · replace h := h.1 c8
            refine lv_aload_n hx hb dX12_row_34 rfl (lv_at hl 0 rfl) ?_
            refine xgC E hw (c1 := 12) (t := (14, 3)) rfl ky_14_100 fo_12_3 rfl qf_12_19 dX12_row_35 ?_
            refine lv_iload_n hx hb dX12_row_38 rfl (lv_at hl 1 rfl) ?_
            refine lv_iconst (v := 2) hx hb dX12_row_39 (by decide) ?_
            obtain ⟨hi, h⟩ := h
            refine xas E hw ky_14_3 ka_14_3 hi dX12_row_40 (fun z9 ez9 H locs hw => ?_)
            replace h := h z9 ez9
            refine lv_aload_n hx hb dX12_row_41 rfl (lv_at hl 0 rfl) ?_
            refine xgC E hw (c1 := 12) (t := (14, 4)) rfl ky_14_100 fo_12_4 rfl qf_12_22 dX12_row_42 ?_
            refine lv_iload_n hx hb dX12_row_45 rfl (lv_at hl 1 rfl) ?_
            refine lv_iload_n hx hb dX12_row_46 rfl (lv_at hl 2 rfl) ?_
            obtain ⟨hi, h⟩ := h
            refine xas E hw ky_14_4 ka_14_4 hi dX12_row_47 (fun z10 ez10 H locs hw => ?_)
            replace h := h z10 ez10
            refine lv_aload_n hx hb dX12_row_48 rfl (lv_at hl 0 rfl) ?_
            refine xgC E hw (c1 := 12) (t := (14, 5)) rfl ky_14_100 fo_12_5 rfl qf_12_25 dX12_row_49 ?_
            refine lv_iload_n hx hb dX12_row_52 rfl (lv_at hl 1 rfl) ?_
            refine lv_iload_n hx hb dX12_row_53 rfl (lv_at hl 3 rfl) ?_
            obtain ⟨hi, h⟩ := h
            refine xas E hw ky_14_5 ka_14_5 hi dX12_row_54 (fun z11 ez11 H locs hw => ?_)
            replace h := h z11 ez11
            refine lv_iconst (v := 0) hx hb dX12_row_55 (by decide) ?_
            refine lv_istore (lv' := [(4, .int (0 : Int32)), (0, .ref (ad 14 100)), (1, .int p1), (2, .int p2), (3, .int p3)]) hx hb dX12_row_56 hl (by decide) rfl (fun ls hl => ?_)
            obtain ⟨n15, h⟩ := h
            exact b58 n15 z11 p1 (0 : Int32) H locs hw ls (lv_sub hl [1, 2, 0] rfl) h
          · replace h := h.2 c8
            refine lv_bipush (v := -14) hx hb dX12_row_31 (by decide) ?_
            exact hret (-14 : Int32) z4 H locs 33 ls hw rfl h dX12_row_33
        · replace h := h.2 c7
          refine lv_iconst (v := -1) hx hb dX12_row_25 (by decide) ?_
          exact hret (-1 : Int32) z4 H locs 26 ls hw rfl h dX12_row_26
  exact b00 s.heap [] hw
