theorem cF_4 : cF 4 := by unfold cF; simp
theorem cF_8 : cF 8 := by unfold cF; simp
theorem cF_7 : cF 7 := by unfold cF; simp
theorem cF_5 : cF 5 := by unfold cF; simp
theorem cF_6 : cF 6 := by unfold cF; simp
theorem cF_1 : cF 1 := by unfold cF; simp
theorem cF_2 : cF 2 := by unfold cF; simp
theorem cF_10 : cF 10 := by unfold cF; simp
set_option maxHeartbeats 4000000 in
set_option maxRecDepth 100000 in
theorem c_X4_init (l : Launch) (D : va_G) (ad : Nat → Nat → Nat) (cs : Nat → ClassId) (sk : (Nat → Nat) × (Nat → Nat)) (z : ZS) (q : Nat) (p1 p2 p3 : Int32) (c1 : Nat) (hc : cF c1) : MC l D ad cs sk yX4_init cX4_init 4 (rmq 1 0 0) q [.int p1, .int p2, .int p3] z c1 [.int 0, .int 0, .int 0, .int 0, .int 0, .int 0, .int 0, .int 0] [.int p1, .int p2, .int p3, .int (0 : Int32), .int (120 : Int32), .int (16 : Int32), .int (40 : Int32), .int (10 : Int32)] := by
  refine MC.of RX4 rfl rfl (by decide) (Nat.le_of_ble_eq_true rfl) ?_
  intro p e s m args below meth c A Q E hw hA hin hret ls hl
  have hx := E.1.1
  have hb := E.1.2.1
  have hml := E.1.2.2.1
  have hown := E.1.2.2.2.1
  have h0 := E.1.2.2.2.2
  have hl : lv_has ls 4 [(0, .ref q), (1, .int p1), (2, .int p2), (3, .int p3)] := hl
  have b00 : ∀ (H : Heap) (locs : List Loc), OQ D ad cs A s.heap z q c1 [.int 0, .int 0, .int 0, .int 0, .int 0, .int 0, .int 0, .int 0] H locs → W p l e (rmq 1 0 0) s m args below meth c H locs 0 0 Q (F0 m 0 ls []) := by
    intro H locs hw
    refine lv_aload_n hx hb dX4_init_0 rfl (lv_at hl 0 rfl) ?_
    refine W.objInit hx hb hown (h0 _ qo_4) (h0 _ qo_im) (h0 _ qo_co) rfl (by rw [hml]; exact hl.1) rfl dX4_init_1 (Nat.le_of_ble_eq_true rfl) (Nat.le_of_ble_eq_true rfl) ?_
    refine W.eq (g2 := F0 m 4 ls []) rfl ?_
    refine lv_aload_n hx hb dX4_init_4 rfl (lv_at hl 0 rfl) ?_
    refine lv_iconst (v := 0) hx hb dX4_init_5 (by decide) ?_
    refine xqp E hw hc (k := 3) (ref := "TenYards$Faller") (v := (0 : Int32)) (fs1 := [.int (0 : Int32), .int (0 : Int32), .int (0 : Int32), .int (0 : Int32), .int (0 : Int32), .int (0 : Int32), .int (0 : Int32), .int (0 : Int32)]) (by decide +kernel) qf_4_7 (Or.inl rfl) (by decide +kernel) (Nat.le_of_ble_eq_true rfl) rfl dX4_init_6 (fun H locs hw => ?_)
    refine lv_aload_n hx hb dX4_init_9 rfl (lv_at hl 0 rfl) ?_
    refine lv_bipush (v := 120) hx hb dX4_init_10 (by decide) ?_
    refine xqp E hw hc (k := 4) (ref := "TenYards$Faller") (v := (120 : Int32)) (fs1 := [.int (0 : Int32), .int (0 : Int32), .int (0 : Int32), .int (0 : Int32), .int (120 : Int32), .int (0 : Int32), .int (0 : Int32), .int (0 : Int32)]) (by decide +kernel) qf_4_13 (Or.inl rfl) (by decide +kernel) (Nat.le_of_ble_eq_true rfl) rfl dX4_init_12 (fun H locs hw => ?_)
    refine lv_aload_n hx hb dX4_init_15 rfl (lv_at hl 0 rfl) ?_
    refine lv_bipush (v := 16) hx hb dX4_init_16 (by decide) ?_
    refine xqp E hw hc (k := 5) (ref := "TenYards$Faller") (v := (16 : Int32)) (fs1 := [.int (0 : Int32), .int (0 : Int32), .int (0 : Int32), .int (0 : Int32), .int (120 : Int32), .int (16 : Int32), .int (0 : Int32), .int (0 : Int32)]) (by decide +kernel) qf_4_16 (Or.inl rfl) (by decide +kernel) (Nat.le_of_ble_eq_true rfl) rfl dX4_init_18 (fun H locs hw => ?_)
    refine lv_aload_n hx hb dX4_init_21 rfl (lv_at hl 0 rfl) ?_
    refine lv_bipush (v := 40) hx hb dX4_init_22 (by decide) ?_
    refine xqp E hw hc (k := 6) (ref := "TenYards$Faller") (v := (40 : Int32)) (fs1 := [.int (0 : Int32), .int (0 : Int32), .int (0 : Int32), .int (0 : Int32), .int (120 : Int32), .int (16 : Int32), .int (40 : Int32), .int (0 : Int32)]) (by decide +kernel) qf_4_19 (Or.inl rfl) (by decide +kernel) (Nat.le_of_ble_eq_true rfl) rfl dX4_init_24 (fun H locs hw => ?_)
    refine lv_aload_n hx hb dX4_init_27 rfl (lv_at hl 0 rfl) ?_
    refine lv_bipush (v := 10) hx hb dX4_init_28 (by decide) ?_
    refine xqp E hw hc (k := 7) (ref := "TenYards$Faller") (v := (10 : Int32)) (fs1 := [.int (0 : Int32), .int (0 : Int32), .int (0 : Int32), .int (0 : Int32), .int (120 : Int32), .int (16 : Int32), .int (40 : Int32), .int (10 : Int32)]) (by decide +kernel) qf_4_22 (Or.inl rfl) (by decide +kernel) (Nat.le_of_ble_eq_true rfl) rfl dX4_init_30 (fun H locs hw => ?_)
    refine lv_aload_n hx hb dX4_init_33 rfl (lv_at hl 0 rfl) ?_
    refine lv_iload_n hx hb dX4_init_34 rfl (lv_at hl 1 rfl) ?_
    refine xqf E hw hc hin (k := 0) (v := p1) (fs1 := [.int p1, .int (0 : Int32), .int (0 : Int32), .int (0 : Int32), .int (120 : Int32), .int (16 : Int32), .int (40 : Int32), .int (10 : Int32)]) (by decide +kernel) qf_4_25 (by decide +kernel) (Nat.le_of_ble_eq_true rfl) rfl dX4_init_35 (fun H locs hw => ?_)
    refine lv_aload_n hx hb dX4_init_38 rfl (lv_at hl 0 rfl) ?_
    refine lv_iload_n hx hb dX4_init_39 rfl (lv_at hl 2 rfl) ?_
    refine xqf E hw hc hin (k := 1) (v := p2) (fs1 := [.int p1, .int p2, .int (0 : Int32), .int (0 : Int32), .int (120 : Int32), .int (16 : Int32), .int (40 : Int32), .int (10 : Int32)]) (by decide +kernel) qf_4_28 (by decide +kernel) (Nat.le_of_ble_eq_true rfl) rfl dX4_init_40 (fun H locs hw => ?_)
    refine lv_aload_n hx hb dX4_init_43 rfl (lv_at hl 0 rfl) ?_
    refine lv_iload_n hx hb dX4_init_44 rfl (lv_at hl 3 rfl) ?_
    refine xqf E hw hc hin (k := 2) (v := p3) (fs1 := [.int p1, .int p2, .int p3, .int (0 : Int32), .int (120 : Int32), .int (16 : Int32), .int (40 : Int32), .int (10 : Int32)]) (by decide +kernel) qf_4_31 (by decide +kernel) (Nat.le_of_ble_eq_true rfl) rfl dX4_init_45 (fun H locs hw => ?_)
    exact hret H locs 48 ls hw dX4_init_48
  exact b00 s.heap [] hw
set_option maxHeartbeats 4000000 in
set_option maxRecDepth 100000 in
theorem c_X8_init (l : Launch) (D : va_G) (ad : Nat → Nat → Nat) (cs : Nat → ClassId) (sk : (Nat → Nat) × (Nat → Nat)) (z : ZS) (q : Nat) (p1 p2 p3 : Int32) (c1 : Nat) (hc : cF c1) : MC l D ad cs sk yX8_init cX8_init 4 (rmq 2 0 0) q [.int p1, .int p2, .int p3] z c1 [.int 0, .int 0, .int 0, .int 0, .int 0, .int 0, .int 0, .int 0] [.int p1, .int p2, .int p3, .int (1 : Int32), .int (120 : Int32), .int ((16 : Int32) + (4 : Int32)), .int (0 : Int32), .int ((10 : Int32) - (9 : Int32))] := by
  refine MC.of RX8 rfl rfl (by decide) (Nat.le_of_ble_eq_true rfl) ?_
  intro p e s m args below meth c A Q E hw hA hin hret ls hl
  have hx := E.1.1
  have hb := E.1.2.1
  have hml := E.1.2.2.1
  have hown := E.1.2.2.2.1
  have h0 := E.1.2.2.2.2
  have hl : lv_has ls 4 [(0, .ref q), (1, .int p1), (2, .int p2), (3, .int p3)] := hl
  have b00 : ∀ (H : Heap) (locs : List Loc), OQ D ad cs A s.heap z q c1 [.int 0, .int 0, .int 0, .int 0, .int 0, .int 0, .int 0, .int 0] H locs → W p l e (rmq 2 0 0) s m args below meth c H locs 0 0 Q (F0 m 0 ls []) := by
    intro H locs hw
    refine lv_aload_n hx hb dX8_init_0 rfl (lv_at hl 0 rfl) ?_
    refine lv_iload_n hx hb dX8_init_1 rfl (lv_at hl 1 rfl) ?_
    refine lv_iload_n hx hb dX8_init_2 rfl (lv_at hl 2 rfl) ?_
    refine lv_iload_n hx hb dX8_init_3 rfl (lv_at hl 3 rfl) ?_
    refine xqc (As := [.int p1, .int p2, .int p3]) (rest := []) E hw hA (c_X4_init l D ad cs sk z q p1 p2 p3 c1 hc) kq_8_1 rfl yo_X4_init ⟨Nat.le_of_ble_eq_true rfl, Nat.le_of_ble_eq_true rfl⟩ rfl hl.1 rfl (Nat.le_of_ble_eq_true rfl) dX8_init_4 ⟨Nat.le_of_ble_eq_true rfl, Nat.le_of_ble_eq_true rfl⟩ (fun H locs hw => ?_)
    refine lv_aload_n hx hb dX8_init_7 rfl (lv_at hl 0 rfl) ?_
    refine lv_iconst (v := 1) hx hb dX8_init_8 (by decide) ?_
    refine xqp E hw hc (k := 3) (ref := "TenYards$Papered") (v := (1 : Int32)) (fs1 := [.int p1, .int p2, .int p3, .int (1 : Int32), .int (120 : Int32), .int (16 : Int32), .int (40 : Int32), .int (10 : Int32)]) (by decide +kernel) qf_8_7 (Or.inr qg_8_kind) (by decide +kernel) (Nat.le_of_ble_eq_true rfl) rfl dX8_init_9 (fun H locs hw => ?_)
    refine lv_aload_n hx hb dX8_init_12 rfl (lv_at hl 0 rfl) ?_
    refine lv_dup hx hb dX8_init_13 rfl ?_
    refine xqg E hw hc (k := 5) (ref := "TenYards$Papered") (v := .int (16 : Int32)) (by decide) qf_8_13 (Or.inr qg_8_sinks) rfl dX8_init_14 ?_
    refine lv_iconst (v := 4) hx hb dX8_init_17 (by decide) ?_
    refine lv_iadd hx hb dX8_init_18 ?_
    refine xqp E hw hc (k := 5) (ref := "TenYards$Papered") (v := ((16 : Int32) + (4 : Int32))) (fs1 := [.int p1, .int p2, .int p3, .int (1 : Int32), .int (120 : Int32), .int ((16 : Int32) + (4 : Int32)), .int (40 : Int32), .int (10 : Int32)]) (by decide +kernel) qf_8_13 (Or.inr qg_8_sinks) (by decide +kernel) (Nat.le_of_ble_eq_true rfl) rfl dX8_init_19 (fun H locs hw => ?_)
    refine lv_aload_n hx hb dX8_init_22 rfl (lv_at hl 0 rfl) ?_
    refine lv_iconst (v := 0) hx hb dX8_init_23 (by decide) ?_
    refine xqp E hw hc (k := 6) (ref := "TenYards$Papered") (v := (0 : Int32)) (fs1 := [.int p1, .int p2, .int p3, .int (1 : Int32), .int (120 : Int32), .int ((16 : Int32) + (4 : Int32)), .int (0 : Int32), .int (10 : Int32)]) (by decide +kernel) qf_8_16 (Or.inr qg_8_pace) (by decide +kernel) (Nat.le_of_ble_eq_true rfl) rfl dX8_init_24 (fun H locs hw => ?_)
    refine lv_aload_n hx hb dX8_init_27 rfl (lv_at hl 0 rfl) ?_
    refine lv_dup hx hb dX8_init_28 rfl ?_
    refine xqg E hw hc (k := 7) (ref := "TenYards$Papered") (v := .int (10 : Int32)) (by decide) qf_8_19 (Or.inr qg_8_worth) rfl dX8_init_29 ?_
    refine lv_bipush (v := 9) hx hb dX8_init_32 (by decide) ?_
    refine lv_isub hx hb dX8_init_34 ?_
    refine xqp E hw hc (k := 7) (ref := "TenYards$Papered") (v := ((10 : Int32) - (9 : Int32))) (fs1 := [.int p1, .int p2, .int p3, .int (1 : Int32), .int (120 : Int32), .int ((16 : Int32) + (4 : Int32)), .int (0 : Int32), .int ((10 : Int32) - (9 : Int32))]) (by decide +kernel) qf_8_19 (Or.inr qg_8_worth) (by decide +kernel) (Nat.le_of_ble_eq_true rfl) rfl dX8_init_35 (fun H locs hw => ?_)
    exact hret H locs 38 ls hw dX8_init_38
  exact b00 s.heap [] hw
set_option maxHeartbeats 4000000 in
set_option maxRecDepth 100000 in
theorem c_X7_init (l : Launch) (D : va_G) (ad : Nat → Nat → Nat) (cs : Nat → ClassId) (sk : (Nat → Nat) × (Nat → Nat)) (z : ZS) (q : Nat) (p1 p2 p3 : Int32) (c1 : Nat) (hc : cF c1) : MC l D ad cs sk yX7_init cX7_init 4 (rmq 2 0 0) q [.int p1, .int p2, .int p3] z c1 [.int 0, .int 0, .int 0, .int 0, .int 0, .int 0, .int 0, .int 0] [.int p1, .int p2, .int p3, .int (2 : Int32), .int ((120 : Int32) - (20 : Int32)), .int ((16 : Int32) - (3 : Int32)), .int ((40 : Int32) - (6 : Int32)), .int ((10 : Int32) + p2)] := by
  refine MC.of RX7 rfl rfl (by decide) (Nat.le_of_ble_eq_true rfl) ?_
  intro p e s m args below meth c A Q E hw hA hin hret ls hl
  have hx := E.1.1
  have hb := E.1.2.1
  have hml := E.1.2.2.1
  have hown := E.1.2.2.2.1
  have h0 := E.1.2.2.2.2
  have hl : lv_has ls 4 [(0, .ref q), (1, .int p1), (2, .int p2), (3, .int p3)] := hl
  have b00 : ∀ (H : Heap) (locs : List Loc), OQ D ad cs A s.heap z q c1 [.int 0, .int 0, .int 0, .int 0, .int 0, .int 0, .int 0, .int 0] H locs → W p l e (rmq 2 0 0) s m args below meth c H locs 0 0 Q (F0 m 0 ls []) := by
    intro H locs hw
    refine lv_aload_n hx hb dX7_init_0 rfl (lv_at hl 0 rfl) ?_
    refine lv_iload_n hx hb dX7_init_1 rfl (lv_at hl 1 rfl) ?_
    refine lv_iload_n hx hb dX7_init_2 rfl (lv_at hl 2 rfl) ?_
    refine lv_iload_n hx hb dX7_init_3 rfl (lv_at hl 3 rfl) ?_
    refine xqc (As := [.int p1, .int p2, .int p3]) (rest := []) E hw hA (c_X4_init l D ad cs sk z q p1 p2 p3 c1 hc) kq_7_1 rfl yo_X4_init ⟨Nat.le_of_ble_eq_true rfl, Nat.le_of_ble_eq_true rfl⟩ rfl hl.1 rfl (Nat.le_of_ble_eq_true rfl) dX7_init_4 ⟨Nat.le_of_ble_eq_true rfl, Nat.le_of_ble_eq_true rfl⟩ (fun H locs hw => ?_)
    refine lv_aload_n hx hb dX7_init_7 rfl (lv_at hl 0 rfl) ?_
    refine lv_iconst (v := 2) hx hb dX7_init_8 (by decide) ?_
    refine xqp E hw hc (k := 3) (ref := "TenYards$Light") (v := (2 : Int32)) (fs1 := [.int p1, .int p2, .int p3, .int (2 : Int32), .int (120 : Int32), .int (16 : Int32), .int (40 : Int32), .int (10 : Int32)]) (by decide +kernel) qf_7_7 (Or.inr qg_7_kind) (by decide +kernel) (Nat.le_of_ble_eq_true rfl) rfl dX7_init_9 (fun H locs hw => ?_)
    refine lv_aload_n hx hb dX7_init_12 rfl (lv_at hl 0 rfl) ?_
    refine lv_dup hx hb dX7_init_13 rfl ?_
    refine xqg E hw hc (k := 4) (ref := "TenYards$Light") (v := .int (120 : Int32)) (by decide) qf_7_13 (Or.inr qg_7_falls) rfl dX7_init_14 ?_
    refine lv_bipush (v := 20) hx hb dX7_init_17 (by decide) ?_
    refine lv_isub hx hb dX7_init_19 ?_
    refine xqp E hw hc (k := 4) (ref := "TenYards$Light") (v := ((120 : Int32) - (20 : Int32))) (fs1 := [.int p1, .int p2, .int p3, .int (2 : Int32), .int ((120 : Int32) - (20 : Int32)), .int (16 : Int32), .int (40 : Int32), .int (10 : Int32)]) (by decide +kernel) qf_7_13 (Or.inr qg_7_falls) (by decide +kernel) (Nat.le_of_ble_eq_true rfl) rfl dX7_init_20 (fun H locs hw => ?_)
    refine lv_aload_n hx hb dX7_init_23 rfl (lv_at hl 0 rfl) ?_
    refine lv_dup hx hb dX7_init_24 rfl ?_
    refine xqg E hw hc (k := 5) (ref := "TenYards$Light") (v := .int (16 : Int32)) (by decide) qf_7_16 (Or.inr qg_7_sinks) rfl dX7_init_25 ?_
    refine lv_iconst (v := 3) hx hb dX7_init_28 (by decide) ?_
    refine lv_isub hx hb dX7_init_29 ?_
    refine xqp E hw hc (k := 5) (ref := "TenYards$Light") (v := ((16 : Int32) - (3 : Int32))) (fs1 := [.int p1, .int p2, .int p3, .int (2 : Int32), .int ((120 : Int32) - (20 : Int32)), .int ((16 : Int32) - (3 : Int32)), .int (40 : Int32), .int (10 : Int32)]) (by decide +kernel) qf_7_16 (Or.inr qg_7_sinks) (by decide +kernel) (Nat.le_of_ble_eq_true rfl) rfl dX7_init_30 (fun H locs hw => ?_)
    refine lv_aload_n hx hb dX7_init_33 rfl (lv_at hl 0 rfl) ?_
    refine lv_dup hx hb dX7_init_34 rfl ?_
    refine xqg E hw hc (k := 6) (ref := "TenYards$Light") (v := .int (40 : Int32)) (by decide) qf_7_19 (Or.inr qg_7_pace) rfl dX7_init_35 ?_
    refine lv_bipush (v := 6) hx hb dX7_init_38 (by decide) ?_
    refine lv_isub hx hb dX7_init_40 ?_
    refine xqp E hw hc (k := 6) (ref := "TenYards$Light") (v := ((40 : Int32) - (6 : Int32))) (fs1 := [.int p1, .int p2, .int p3, .int (2 : Int32), .int ((120 : Int32) - (20 : Int32)), .int ((16 : Int32) - (3 : Int32)), .int ((40 : Int32) - (6 : Int32)), .int (10 : Int32)]) (by decide +kernel) qf_7_19 (Or.inr qg_7_pace) (by decide +kernel) (Nat.le_of_ble_eq_true rfl) rfl dX7_init_41 (fun H locs hw => ?_)
    refine lv_aload_n hx hb dX7_init_44 rfl (lv_at hl 0 rfl) ?_
    refine lv_dup hx hb dX7_init_45 rfl ?_
    refine xqg E hw hc (k := 7) (ref := "TenYards$Light") (v := .int (10 : Int32)) (by decide) qf_7_22 (Or.inr qg_7_worth) rfl dX7_init_46 ?_
    refine lv_iload_n hx hb dX7_init_49 rfl (lv_at hl 2 rfl) ?_
    refine lv_iadd hx hb dX7_init_50 ?_
    refine xqp E hw hc (k := 7) (ref := "TenYards$Light") (v := ((10 : Int32) + p2)) (fs1 := [.int p1, .int p2, .int p3, .int (2 : Int32), .int ((120 : Int32) - (20 : Int32)), .int ((16 : Int32) - (3 : Int32)), .int ((40 : Int32) - (6 : Int32)), .int ((10 : Int32) + p2)]) (by decide +kernel) qf_7_22 (Or.inr qg_7_worth) (by decide +kernel) (Nat.le_of_ble_eq_true rfl) rfl dX7_init_51 (fun H locs hw => ?_)
    exact hret H locs 54 ls hw dX7_init_54
  exact b00 s.heap [] hw
set_option maxHeartbeats 4000000 in
set_option maxRecDepth 100000 in
theorem c_X5_init (l : Launch) (D : va_G) (ad : Nat → Nat → Nat) (cs : Nat → ClassId) (sk : (Nat → Nat) × (Nat → Nat)) (z : ZS) (q : Nat) (p1 p2 p3 : Int32) (c1 : Nat) (hc : cF c1) : MC l D ad cs sk yX5_init cX5_init 4 (rmq 2 0 0) q [.int p1, .int p2, .int p3] z c1 [.int 0, .int 0, .int 0, .int 0, .int 0, .int 0, .int 0, .int 0] [.int p1, .int p2, .int p3, .int (3 : Int32), .int ((120 : Int32) + (25 : Int32)), .int ((16 : Int32) + (5 : Int32)), .int ((40 : Int32) + (4 : Int32)), .int ((10 : Int32) * (2 : Int32))] := by
  refine MC.of RX5 rfl rfl (by decide) (Nat.le_of_ble_eq_true rfl) ?_
  intro p e s m args below meth c A Q E hw hA hin hret ls hl
  have hx := E.1.1
  have hb := E.1.2.1
  have hml := E.1.2.2.1
  have hown := E.1.2.2.2.1
  have h0 := E.1.2.2.2.2
  have hl : lv_has ls 4 [(0, .ref q), (1, .int p1), (2, .int p2), (3, .int p3)] := hl
  have b00 : ∀ (H : Heap) (locs : List Loc), OQ D ad cs A s.heap z q c1 [.int 0, .int 0, .int 0, .int 0, .int 0, .int 0, .int 0, .int 0] H locs → W p l e (rmq 2 0 0) s m args below meth c H locs 0 0 Q (F0 m 0 ls []) := by
    intro H locs hw
    refine lv_aload_n hx hb dX5_init_0 rfl (lv_at hl 0 rfl) ?_
    refine lv_iload_n hx hb dX5_init_1 rfl (lv_at hl 1 rfl) ?_
    refine lv_iload_n hx hb dX5_init_2 rfl (lv_at hl 2 rfl) ?_
    refine lv_iload_n hx hb dX5_init_3 rfl (lv_at hl 3 rfl) ?_
    refine xqc (As := [.int p1, .int p2, .int p3]) (rest := []) E hw hA (c_X4_init l D ad cs sk z q p1 p2 p3 c1 hc) kq_5_1 rfl yo_X4_init ⟨Nat.le_of_ble_eq_true rfl, Nat.le_of_ble_eq_true rfl⟩ rfl hl.1 rfl (Nat.le_of_ble_eq_true rfl) dX5_init_4 ⟨Nat.le_of_ble_eq_true rfl, Nat.le_of_ble_eq_true rfl⟩ (fun H locs hw => ?_)
    refine lv_aload_n hx hb dX5_init_7 rfl (lv_at hl 0 rfl) ?_
    refine lv_iconst (v := 3) hx hb dX5_init_8 (by decide) ?_
    refine xqp E hw hc (k := 3) (ref := "TenYards$Heavy") (v := (3 : Int32)) (fs1 := [.int p1, .int p2, .int p3, .int (3 : Int32), .int (120 : Int32), .int (16 : Int32), .int (40 : Int32), .int (10 : Int32)]) (by decide +kernel) qf_5_7 (Or.inr qg_5_kind) (by decide +kernel) (Nat.le_of_ble_eq_true rfl) rfl dX5_init_9 (fun H locs hw => ?_)
    refine lv_aload_n hx hb dX5_init_12 rfl (lv_at hl 0 rfl) ?_
    refine lv_dup hx hb dX5_init_13 rfl ?_
    refine xqg E hw hc (k := 4) (ref := "TenYards$Heavy") (v := .int (120 : Int32)) (by decide) qf_5_13 (Or.inr qg_5_falls) rfl dX5_init_14 ?_
    refine lv_bipush (v := 25) hx hb dX5_init_17 (by decide) ?_
    refine lv_iadd hx hb dX5_init_19 ?_
    refine xqp E hw hc (k := 4) (ref := "TenYards$Heavy") (v := ((120 : Int32) + (25 : Int32))) (fs1 := [.int p1, .int p2, .int p3, .int (3 : Int32), .int ((120 : Int32) + (25 : Int32)), .int (16 : Int32), .int (40 : Int32), .int (10 : Int32)]) (by decide +kernel) qf_5_13 (Or.inr qg_5_falls) (by decide +kernel) (Nat.le_of_ble_eq_true rfl) rfl dX5_init_20 (fun H locs hw => ?_)
    refine lv_aload_n hx hb dX5_init_23 rfl (lv_at hl 0 rfl) ?_
    refine lv_dup hx hb dX5_init_24 rfl ?_
    refine xqg E hw hc (k := 5) (ref := "TenYards$Heavy") (v := .int (16 : Int32)) (by decide) qf_5_16 (Or.inr qg_5_sinks) rfl dX5_init_25 ?_
    refine lv_iconst (v := 5) hx hb dX5_init_28 (by decide) ?_
    refine lv_iadd hx hb dX5_init_29 ?_
    refine xqp E hw hc (k := 5) (ref := "TenYards$Heavy") (v := ((16 : Int32) + (5 : Int32))) (fs1 := [.int p1, .int p2, .int p3, .int (3 : Int32), .int ((120 : Int32) + (25 : Int32)), .int ((16 : Int32) + (5 : Int32)), .int (40 : Int32), .int (10 : Int32)]) (by decide +kernel) qf_5_16 (Or.inr qg_5_sinks) (by decide +kernel) (Nat.le_of_ble_eq_true rfl) rfl dX5_init_30 (fun H locs hw => ?_)
    refine lv_aload_n hx hb dX5_init_33 rfl (lv_at hl 0 rfl) ?_
    refine lv_dup hx hb dX5_init_34 rfl ?_
    refine xqg E hw hc (k := 6) (ref := "TenYards$Heavy") (v := .int (40 : Int32)) (by decide) qf_5_19 (Or.inr qg_5_pace) rfl dX5_init_35 ?_
    refine lv_iconst (v := 4) hx hb dX5_init_38 (by decide) ?_
    refine lv_iadd hx hb dX5_init_39 ?_
    refine xqp E hw hc (k := 6) (ref := "TenYards$Heavy") (v := ((40 : Int32) + (4 : Int32))) (fs1 := [.int p1, .int p2, .int p3, .int (3 : Int32), .int ((120 : Int32) + (25 : Int32)), .int ((16 : Int32) + (5 : Int32)), .int ((40 : Int32) + (4 : Int32)), .int (10 : Int32)]) (by decide +kernel) qf_5_19 (Or.inr qg_5_pace) (by decide +kernel) (Nat.le_of_ble_eq_true rfl) rfl dX5_init_40 (fun H locs hw => ?_)
    refine lv_aload_n hx hb dX5_init_43 rfl (lv_at hl 0 rfl) ?_
    refine lv_dup hx hb dX5_init_44 rfl ?_
    refine xqg E hw hc (k := 7) (ref := "TenYards$Heavy") (v := .int (10 : Int32)) (by decide) qf_5_22 (Or.inr qg_5_worth) rfl dX5_init_45 ?_
    refine lv_iconst (v := 2) hx hb dX5_init_48 (by decide) ?_
    refine lv_imul hx hb dX5_init_49 ?_
    refine xqp E hw hc (k := 7) (ref := "TenYards$Heavy") (v := ((10 : Int32) * (2 : Int32))) (fs1 := [.int p1, .int p2, .int p3, .int (3 : Int32), .int ((120 : Int32) + (25 : Int32)), .int ((16 : Int32) + (5 : Int32)), .int ((40 : Int32) + (4 : Int32)), .int ((10 : Int32) * (2 : Int32))]) (by decide +kernel) qf_5_22 (Or.inr qg_5_worth) (by decide +kernel) (Nat.le_of_ble_eq_true rfl) rfl dX5_init_50 (fun H locs hw => ?_)
    exact hret H locs 53 ls hw dX5_init_53
  exact b00 s.heap [] hw
set_option maxHeartbeats 4000000 in
set_option maxRecDepth 100000 in
theorem c_X6_init (l : Launch) (D : va_G) (ad : Nat → Nat → Nat) (cs : Nat → ClassId) (sk : (Nat → Nat) × (Nat → Nat)) (z : ZS) (q : Nat) (p1 p2 p3 : Int32) (c1 : Nat) (hc : cF c1) : MC l D ad cs sk yX6_init cX6_init 4 (rmq 2 0 0) q [.int p1, .int p2, .int p3] z c1 [.int 0, .int 0, .int 0, .int 0, .int 0, .int 0, .int 0, .int 0] [.int p1, .int p2, .int p3, .int (4 : Int32), .int (120 : Int32), .int ((16 : Int32) + p2), .int ((40 : Int32) / (2 : Int32)), .int ((10 : Int32) + p3)] := by
  refine MC.of RX6 rfl rfl (by decide) (Nat.le_of_ble_eq_true rfl) ?_
  intro p e s m args below meth c A Q E hw hA hin hret ls hl
  have hx := E.1.1
  have hb := E.1.2.1
  have hml := E.1.2.2.1
  have hown := E.1.2.2.2.1
  have h0 := E.1.2.2.2.2
  have hl : lv_has ls 4 [(0, .ref q), (1, .int p1), (2, .int p2), (3, .int p3)] := hl
  have b00 : ∀ (H : Heap) (locs : List Loc), OQ D ad cs A s.heap z q c1 [.int 0, .int 0, .int 0, .int 0, .int 0, .int 0, .int 0, .int 0] H locs → W p l e (rmq 2 0 0) s m args below meth c H locs 0 0 Q (F0 m 0 ls []) := by
    intro H locs hw
    refine lv_aload_n hx hb dX6_init_0 rfl (lv_at hl 0 rfl) ?_
    refine lv_iload_n hx hb dX6_init_1 rfl (lv_at hl 1 rfl) ?_
    refine lv_iload_n hx hb dX6_init_2 rfl (lv_at hl 2 rfl) ?_
    refine lv_iload_n hx hb dX6_init_3 rfl (lv_at hl 3 rfl) ?_
    refine xqc (As := [.int p1, .int p2, .int p3]) (rest := []) E hw hA (c_X4_init l D ad cs sk z q p1 p2 p3 c1 hc) kq_6_1 rfl yo_X4_init ⟨Nat.le_of_ble_eq_true rfl, Nat.le_of_ble_eq_true rfl⟩ rfl hl.1 rfl (Nat.le_of_ble_eq_true rfl) dX6_init_4 ⟨Nat.le_of_ble_eq_true rfl, Nat.le_of_ble_eq_true rfl⟩ (fun H locs hw => ?_)
    refine lv_aload_n hx hb dX6_init_7 rfl (lv_at hl 0 rfl) ?_
    refine lv_iconst (v := 4) hx hb dX6_init_8 (by decide) ?_
    refine xqp E hw hc (k := 3) (ref := "TenYards$Holding") (v := (4 : Int32)) (fs1 := [.int p1, .int p2, .int p3, .int (4 : Int32), .int (120 : Int32), .int (16 : Int32), .int (40 : Int32), .int (10 : Int32)]) (by decide +kernel) qf_6_7 (Or.inr qg_6_kind) (by decide +kernel) (Nat.le_of_ble_eq_true rfl) rfl dX6_init_9 (fun H locs hw => ?_)
    refine lv_aload_n hx hb dX6_init_12 rfl (lv_at hl 0 rfl) ?_
    refine lv_dup hx hb dX6_init_13 rfl ?_
    refine xqg E hw hc (k := 5) (ref := "TenYards$Holding") (v := .int (16 : Int32)) (by decide) qf_6_13 (Or.inr qg_6_sinks) rfl dX6_init_14 ?_
    refine lv_iload_n hx hb dX6_init_17 rfl (lv_at hl 2 rfl) ?_
    refine lv_iadd hx hb dX6_init_18 ?_
    refine xqp E hw hc (k := 5) (ref := "TenYards$Holding") (v := ((16 : Int32) + p2)) (fs1 := [.int p1, .int p2, .int p3, .int (4 : Int32), .int (120 : Int32), .int ((16 : Int32) + p2), .int (40 : Int32), .int (10 : Int32)]) (by decide +kernel) qf_6_13 (Or.inr qg_6_sinks) (by decide +kernel) (Nat.le_of_ble_eq_true rfl) rfl dX6_init_19 (fun H locs hw => ?_)
    refine lv_aload_n hx hb dX6_init_22 rfl (lv_at hl 0 rfl) ?_
    refine lv_dup hx hb dX6_init_23 rfl ?_
    refine xqg E hw hc (k := 6) (ref := "TenYards$Holding") (v := .int (40 : Int32)) (by decide) qf_6_16 (Or.inr qg_6_pace) rfl dX6_init_24 ?_
    refine lv_iconst (v := 2) hx hb dX6_init_27 (by decide) ?_
    refine lv_idiv hx hb dX6_init_28 (by decide) ?_
    refine xqp E hw hc (k := 6) (ref := "TenYards$Holding") (v := ((40 : Int32) / (2 : Int32))) (fs1 := [.int p1, .int p2, .int p3, .int (4 : Int32), .int (120 : Int32), .int ((16 : Int32) + p2), .int ((40 : Int32) / (2 : Int32)), .int (10 : Int32)]) (by decide +kernel) qf_6_16 (Or.inr qg_6_pace) (by decide +kernel) (Nat.le_of_ble_eq_true rfl) rfl dX6_init_29 (fun H locs hw => ?_)
    refine lv_aload_n hx hb dX6_init_32 rfl (lv_at hl 0 rfl) ?_
    refine lv_dup hx hb dX6_init_33 rfl ?_
    refine xqg E hw hc (k := 7) (ref := "TenYards$Holding") (v := .int (10 : Int32)) (by decide) qf_6_19 (Or.inr qg_6_worth) rfl dX6_init_34 ?_
    refine lv_iload_n hx hb dX6_init_37 rfl (lv_at hl 3 rfl) ?_
    refine lv_iadd hx hb dX6_init_38 ?_
    refine xqp E hw hc (k := 7) (ref := "TenYards$Holding") (v := ((10 : Int32) + p3)) (fs1 := [.int p1, .int p2, .int p3, .int (4 : Int32), .int (120 : Int32), .int ((16 : Int32) + p2), .int ((40 : Int32) / (2 : Int32)), .int ((10 : Int32) + p3)]) (by decide +kernel) qf_6_19 (Or.inr qg_6_worth) (by decide +kernel) (Nat.le_of_ble_eq_true rfl) rfl dX6_init_39 (fun H locs hw => ?_)
    exact hret H locs 42 ls hw dX6_init_42
  exact b00 s.heap [] hw
set_option maxHeartbeats 4000000 in
set_option maxRecDepth 100000 in
theorem c_X1_init (l : Launch) (D : va_G) (ad : Nat → Nat → Nat) (cs : Nat → ClassId) (sk : (Nat → Nat) × (Nat → Nat)) (z : ZS) (q : Nat) (p1 p2 p3 : Int32) (c1 : Nat) (hc : cF c1) : MC l D ad cs sk yX1_init cX1_init 4 (rmq 3 0 0) q [.int p1, .int p2, .int p3] z c1 [.int 0, .int 0, .int 0, .int 0, .int 0, .int 0, .int 0, .int 0] [.int p1, .int p2, .int p3, .int (5 : Int32), .int (120 : Int32), .int (((16 : Int32) + p2) - (2 : Int32)), .int (((40 : Int32) / (2 : Int32)) + (10 : Int32)), .int (((10 : Int32) + p3) + (3 : Int32))] := by
  refine MC.of RX1 rfl rfl (by decide) (Nat.le_of_ble_eq_true rfl) ?_
  intro p e s m args below meth c A Q E hw hA hin hret ls hl
  have hx := E.1.1
  have hb := E.1.2.1
  have hml := E.1.2.2.1
  have hown := E.1.2.2.2.1
  have h0 := E.1.2.2.2.2
  have hl : lv_has ls 4 [(0, .ref q), (1, .int p1), (2, .int p2), (3, .int p3)] := hl
  have b00 : ∀ (H : Heap) (locs : List Loc), OQ D ad cs A s.heap z q c1 [.int 0, .int 0, .int 0, .int 0, .int 0, .int 0, .int 0, .int 0] H locs → W p l e (rmq 3 0 0) s m args below meth c H locs 0 0 Q (F0 m 0 ls []) := by
    intro H locs hw
    refine lv_aload_n hx hb dX1_init_0 rfl (lv_at hl 0 rfl) ?_
    refine lv_iload_n hx hb dX1_init_1 rfl (lv_at hl 1 rfl) ?_
    refine lv_iload_n hx hb dX1_init_2 rfl (lv_at hl 2 rfl) ?_
    refine lv_iload_n hx hb dX1_init_3 rfl (lv_at hl 3 rfl) ?_
    refine xqc (As := [.int p1, .int p2, .int p3]) (rest := []) E hw hA (c_X6_init l D ad cs sk z q p1 p2 p3 c1 hc) kq_1_1 rfl yo_X6_init ⟨Nat.le_of_ble_eq_true rfl, Nat.le_of_ble_eq_true rfl⟩ rfl hl.1 rfl (Nat.le_of_ble_eq_true rfl) dX1_init_4 ⟨Nat.le_of_ble_eq_true rfl, Nat.le_of_ble_eq_true rfl⟩ (fun H locs hw => ?_)
    refine lv_aload_n hx hb dX1_init_7 rfl (lv_at hl 0 rfl) ?_
    refine lv_iconst (v := 5) hx hb dX1_init_8 (by decide) ?_
    refine xqp E hw hc (k := 3) (ref := "TenYards$Crabbing") (v := (5 : Int32)) (fs1 := [.int p1, .int p2, .int p3, .int (5 : Int32), .int (120 : Int32), .int ((16 : Int32) + p2), .int ((40 : Int32) / (2 : Int32)), .int ((10 : Int32) + p3)]) (by decide +kernel) qf_1_7 (Or.inr qg_1_kind) (by decide +kernel) (Nat.le_of_ble_eq_true rfl) rfl dX1_init_9 (fun H locs hw => ?_)
    refine lv_aload_n hx hb dX1_init_12 rfl (lv_at hl 0 rfl) ?_
    refine lv_dup hx hb dX1_init_13 rfl ?_
    refine xqg E hw hc (k := 5) (ref := "TenYards$Crabbing") (v := .int ((16 : Int32) + p2)) (by decide) qf_1_13 (Or.inr qg_1_sinks) rfl dX1_init_14 ?_
    refine lv_iconst (v := 2) hx hb dX1_init_17 (by decide) ?_
    refine lv_isub hx hb dX1_init_18 ?_
    refine xqp E hw hc (k := 5) (ref := "TenYards$Crabbing") (v := (((16 : Int32) + p2) - (2 : Int32))) (fs1 := [.int p1, .int p2, .int p3, .int (5 : Int32), .int (120 : Int32), .int (((16 : Int32) + p2) - (2 : Int32)), .int ((40 : Int32) / (2 : Int32)), .int ((10 : Int32) + p3)]) (by decide +kernel) qf_1_13 (Or.inr qg_1_sinks) (by decide +kernel) (Nat.le_of_ble_eq_true rfl) rfl dX1_init_19 (fun H locs hw => ?_)
    refine lv_aload_n hx hb dX1_init_22 rfl (lv_at hl 0 rfl) ?_
    refine lv_dup hx hb dX1_init_23 rfl ?_
    refine xqg E hw hc (k := 6) (ref := "TenYards$Crabbing") (v := .int ((40 : Int32) / (2 : Int32))) (by decide) qf_1_16 (Or.inr qg_1_pace) rfl dX1_init_24 ?_
    refine lv_bipush (v := 10) hx hb dX1_init_27 (by decide) ?_
    refine lv_iadd hx hb dX1_init_29 ?_
    refine xqp E hw hc (k := 6) (ref := "TenYards$Crabbing") (v := (((40 : Int32) / (2 : Int32)) + (10 : Int32))) (fs1 := [.int p1, .int p2, .int p3, .int (5 : Int32), .int (120 : Int32), .int (((16 : Int32) + p2) - (2 : Int32)), .int (((40 : Int32) / (2 : Int32)) + (10 : Int32)), .int ((10 : Int32) + p3)]) (by decide +kernel) qf_1_16 (Or.inr qg_1_pace) (by decide +kernel) (Nat.le_of_ble_eq_true rfl) rfl dX1_init_30 (fun H locs hw => ?_)
    refine lv_aload_n hx hb dX1_init_33 rfl (lv_at hl 0 rfl) ?_
    refine lv_dup hx hb dX1_init_34 rfl ?_
    refine xqg E hw hc (k := 7) (ref := "TenYards$Crabbing") (v := .int ((10 : Int32) + p3)) (by decide) qf_1_19 (Or.inr qg_1_worth) rfl dX1_init_35 ?_
    refine lv_iconst (v := 3) hx hb dX1_init_38 (by decide) ?_
    refine lv_iadd hx hb dX1_init_39 ?_
    refine xqp E hw hc (k := 7) (ref := "TenYards$Crabbing") (v := (((10 : Int32) + p3) + (3 : Int32))) (fs1 := [.int p1, .int p2, .int p3, .int (5 : Int32), .int (120 : Int32), .int (((16 : Int32) + p2) - (2 : Int32)), .int (((40 : Int32) / (2 : Int32)) + (10 : Int32)), .int (((10 : Int32) + p3) + (3 : Int32))]) (by decide +kernel) qf_1_19 (Or.inr qg_1_worth) (by decide +kernel) (Nat.le_of_ble_eq_true rfl) rfl dX1_init_40 (fun H locs hw => ?_)
    exact hret H locs 43 ls hw dX1_init_43
  exact b00 s.heap [] hw
set_option maxHeartbeats 4000000 in
set_option maxRecDepth 100000 in
theorem c_X2_init (l : Launch) (D : va_G) (ad : Nat → Nat → Nat) (cs : Nat → ClassId) (sk : (Nat → Nat) × (Nat → Nat)) (z : ZS) (q : Nat) (p1 p2 p3 : Int32) (c1 : Nat) (hc : cF c1) : MC l D ad cs sk yX2_init cX2_init 4 (rmq 2 0 0) q [.int p1, .int p2, .int p3] z c1 [.int 0, .int 0, .int 0, .int 0, .int 0, .int 0, .int 0, .int 0] [.int p1, .int p2, .int p3, .int (6 : Int32), .int (120 : Int32), .int ((16 : Int32) + (2 : Int32)), .int ((40 : Int32) + (p2 * (3 : Int32))), .int ((10 : Int32) * p2)] := by
  refine MC.of RX2 rfl rfl (by decide) (Nat.le_of_ble_eq_true rfl) ?_
  intro p e s m args below meth c A Q E hw hA hin hret ls hl
  have hx := E.1.1
  have hb := E.1.2.1
  have hml := E.1.2.2.1
  have hown := E.1.2.2.2.1
  have h0 := E.1.2.2.2.2
  have hl : lv_has ls 4 [(0, .ref q), (1, .int p1), (2, .int p2), (3, .int p3)] := hl
  have b00 : ∀ (H : Heap) (locs : List Loc), OQ D ad cs A s.heap z q c1 [.int 0, .int 0, .int 0, .int 0, .int 0, .int 0, .int 0, .int 0] H locs → W p l e (rmq 2 0 0) s m args below meth c H locs 0 0 Q (F0 m 0 ls []) := by
    intro H locs hw
    refine lv_aload_n hx hb dX2_init_0 rfl (lv_at hl 0 rfl) ?_
    refine lv_iload_n hx hb dX2_init_1 rfl (lv_at hl 1 rfl) ?_
    refine lv_iload_n hx hb dX2_init_2 rfl (lv_at hl 2 rfl) ?_
    refine lv_iload_n hx hb dX2_init_3 rfl (lv_at hl 3 rfl) ?_
    refine xqc (As := [.int p1, .int p2, .int p3]) (rest := []) E hw hA (c_X4_init l D ad cs sk z q p1 p2 p3 c1 hc) kq_2_1 rfl yo_X4_init ⟨Nat.le_of_ble_eq_true rfl, Nat.le_of_ble_eq_true rfl⟩ rfl hl.1 rfl (Nat.le_of_ble_eq_true rfl) dX2_init_4 ⟨Nat.le_of_ble_eq_true rfl, Nat.le_of_ble_eq_true rfl⟩ (fun H locs hw => ?_)
    refine lv_aload_n hx hb dX2_init_7 rfl (lv_at hl 0 rfl) ?_
    refine lv_bipush (v := 6) hx hb dX2_init_8 (by decide) ?_
    refine xqp E hw hc (k := 3) (ref := "TenYards$Downwind") (v := (6 : Int32)) (fs1 := [.int p1, .int p2, .int p3, .int (6 : Int32), .int (120 : Int32), .int (16 : Int32), .int (40 : Int32), .int (10 : Int32)]) (by decide +kernel) qf_2_7 (Or.inr qg_2_kind) (by decide +kernel) (Nat.le_of_ble_eq_true rfl) rfl dX2_init_10 (fun H locs hw => ?_)
    refine lv_aload_n hx hb dX2_init_13 rfl (lv_at hl 0 rfl) ?_
    refine lv_dup hx hb dX2_init_14 rfl ?_
    refine xqg E hw hc (k := 5) (ref := "TenYards$Downwind") (v := .int (16 : Int32)) (by decide) qf_2_13 (Or.inr qg_2_sinks) rfl dX2_init_15 ?_
    refine lv_iconst (v := 2) hx hb dX2_init_18 (by decide) ?_
    refine lv_iadd hx hb dX2_init_19 ?_
    refine xqp E hw hc (k := 5) (ref := "TenYards$Downwind") (v := ((16 : Int32) + (2 : Int32))) (fs1 := [.int p1, .int p2, .int p3, .int (6 : Int32), .int (120 : Int32), .int ((16 : Int32) + (2 : Int32)), .int (40 : Int32), .int (10 : Int32)]) (by decide +kernel) qf_2_13 (Or.inr qg_2_sinks) (by decide +kernel) (Nat.le_of_ble_eq_true rfl) rfl dX2_init_20 (fun H locs hw => ?_)
    refine lv_aload_n hx hb dX2_init_23 rfl (lv_at hl 0 rfl) ?_
    refine lv_dup hx hb dX2_init_24 rfl ?_
    refine xqg E hw hc (k := 6) (ref := "TenYards$Downwind") (v := .int (40 : Int32)) (by decide) qf_2_16 (Or.inr qg_2_pace) rfl dX2_init_25 ?_
    refine lv_iload_n hx hb dX2_init_28 rfl (lv_at hl 2 rfl) ?_
    refine lv_iconst (v := 3) hx hb dX2_init_29 (by decide) ?_
    refine lv_imul hx hb dX2_init_30 ?_
    refine lv_iadd hx hb dX2_init_31 ?_
    refine xqp E hw hc (k := 6) (ref := "TenYards$Downwind") (v := ((40 : Int32) + (p2 * (3 : Int32)))) (fs1 := [.int p1, .int p2, .int p3, .int (6 : Int32), .int (120 : Int32), .int ((16 : Int32) + (2 : Int32)), .int ((40 : Int32) + (p2 * (3 : Int32))), .int (10 : Int32)]) (by decide +kernel) qf_2_16 (Or.inr qg_2_pace) (by decide +kernel) (Nat.le_of_ble_eq_true rfl) rfl dX2_init_32 (fun H locs hw => ?_)
    refine lv_aload_n hx hb dX2_init_35 rfl (lv_at hl 0 rfl) ?_
    refine lv_dup hx hb dX2_init_36 rfl ?_
    refine xqg E hw hc (k := 7) (ref := "TenYards$Downwind") (v := .int (10 : Int32)) (by decide) qf_2_19 (Or.inr qg_2_worth) rfl dX2_init_37 ?_
    refine lv_iload_n hx hb dX2_init_40 rfl (lv_at hl 2 rfl) ?_
    refine lv_imul hx hb dX2_init_41 ?_
    refine xqp E hw hc (k := 7) (ref := "TenYards$Downwind") (v := ((10 : Int32) * p2)) (fs1 := [.int p1, .int p2, .int p3, .int (6 : Int32), .int (120 : Int32), .int ((16 : Int32) + (2 : Int32)), .int ((40 : Int32) + (p2 * (3 : Int32))), .int ((10 : Int32) * p2)]) (by decide +kernel) qf_2_19 (Or.inr qg_2_worth) (by decide +kernel) (Nat.le_of_ble_eq_true rfl) rfl dX2_init_42 (fun H locs hw => ?_)
    exact hret H locs 45 ls hw dX2_init_45
  exact b00 s.heap [] hw
set_option maxHeartbeats 4000000 in
set_option maxRecDepth 100000 in
theorem c_X10_init (l : Launch) (D : va_G) (ad : Nat → Nat → Nat) (cs : Nat → ClassId) (sk : (Nat → Nat) × (Nat → Nat)) (z : ZS) (q : Nat) (p1 p2 p3 : Int32) (c1 : Nat) (hc : cF c1) : MC l D ad cs sk yX10_init cX10_init 4 (rmq 3 0 0) q [.int p1, .int p2, .int p3] z c1 [.int 0, .int 0, .int 0, .int 0, .int 0, .int 0, .int 0, .int 0] [.int p1, .int p2, .int p3, .int (7 : Int32), .int ((120 : Int32) + (25 : Int32)), .int (((16 : Int32) + (5 : Int32)) + (10 : Int32)), .int (0 : Int32), .int (((10 : Int32) * (2 : Int32)) + (50 : Int32))] := by
  refine MC.of RX10 rfl rfl (by decide) (Nat.le_of_ble_eq_true rfl) ?_
  intro p e s m args below meth c A Q E hw hA hin hret ls hl
  have hx := E.1.1
  have hb := E.1.2.1
  have hml := E.1.2.2.1
  have hown := E.1.2.2.2.1
  have h0 := E.1.2.2.2.2
  have hl : lv_has ls 4 [(0, .ref q), (1, .int p1), (2, .int p2), (3, .int p3)] := hl
  have b00 : ∀ (H : Heap) (locs : List Loc), OQ D ad cs A s.heap z q c1 [.int 0, .int 0, .int 0, .int 0, .int 0, .int 0, .int 0, .int 0] H locs → W p l e (rmq 3 0 0) s m args below meth c H locs 0 0 Q (F0 m 0 ls []) := by
    intro H locs hw
    refine lv_aload_n hx hb dX10_init_0 rfl (lv_at hl 0 rfl) ?_
    refine lv_iload_n hx hb dX10_init_1 rfl (lv_at hl 1 rfl) ?_
    refine lv_iload_n hx hb dX10_init_2 rfl (lv_at hl 2 rfl) ?_
    refine lv_iload_n hx hb dX10_init_3 rfl (lv_at hl 3 rfl) ?_
    refine xqc (As := [.int p1, .int p2, .int p3]) (rest := []) E hw hA (c_X5_init l D ad cs sk z q p1 p2 p3 c1 hc) kq_10_1 rfl yo_X5_init ⟨Nat.le_of_ble_eq_true rfl, Nat.le_of_ble_eq_true rfl⟩ rfl hl.1 rfl (Nat.le_of_ble_eq_true rfl) dX10_init_4 ⟨Nat.le_of_ble_eq_true rfl, Nat.le_of_ble_eq_true rfl⟩ (fun H locs hw => ?_)
    refine lv_aload_n hx hb dX10_init_7 rfl (lv_at hl 0 rfl) ?_
    refine lv_bipush (v := 7) hx hb dX10_init_8 (by decide) ?_
    refine xqp E hw hc (k := 3) (ref := "TenYards$Stalled") (v := (7 : Int32)) (fs1 := [.int p1, .int p2, .int p3, .int (7 : Int32), .int ((120 : Int32) + (25 : Int32)), .int ((16 : Int32) + (5 : Int32)), .int ((40 : Int32) + (4 : Int32)), .int ((10 : Int32) * (2 : Int32))]) (by decide +kernel) qf_10_7 (Or.inr qg_10_kind) (by decide +kernel) (Nat.le_of_ble_eq_true rfl) rfl dX10_init_10 (fun H locs hw => ?_)
    refine lv_aload_n hx hb dX10_init_13 rfl (lv_at hl 0 rfl) ?_
    refine lv_dup hx hb dX10_init_14 rfl ?_
    refine xqg E hw hc (k := 5) (ref := "TenYards$Stalled") (v := .int ((16 : Int32) + (5 : Int32))) (by decide) qf_10_13 (Or.inr qg_10_sinks) rfl dX10_init_15 ?_
    refine lv_bipush (v := 10) hx hb dX10_init_18 (by decide) ?_
    refine lv_iadd hx hb dX10_init_20 ?_
    refine xqp E hw hc (k := 5) (ref := "TenYards$Stalled") (v := (((16 : Int32) + (5 : Int32)) + (10 : Int32))) (fs1 := [.int p1, .int p2, .int p3, .int (7 : Int32), .int ((120 : Int32) + (25 : Int32)), .int (((16 : Int32) + (5 : Int32)) + (10 : Int32)), .int ((40 : Int32) + (4 : Int32)), .int ((10 : Int32) * (2 : Int32))]) (by decide +kernel) qf_10_13 (Or.inr qg_10_sinks) (by decide +kernel) (Nat.le_of_ble_eq_true rfl) rfl dX10_init_21 (fun H locs hw => ?_)
    refine lv_aload_n hx hb dX10_init_24 rfl (lv_at hl 0 rfl) ?_
    refine lv_iconst (v := 0) hx hb dX10_init_25 (by decide) ?_
    refine xqp E hw hc (k := 6) (ref := "TenYards$Stalled") (v := (0 : Int32)) (fs1 := [.int p1, .int p2, .int p3, .int (7 : Int32), .int ((120 : Int32) + (25 : Int32)), .int (((16 : Int32) + (5 : Int32)) + (10 : Int32)), .int (0 : Int32), .int ((10 : Int32) * (2 : Int32))]) (by decide +kernel) qf_10_16 (Or.inr qg_10_pace) (by decide +kernel) (Nat.le_of_ble_eq_true rfl) rfl dX10_init_26 (fun H locs hw => ?_)
    refine lv_aload_n hx hb dX10_init_29 rfl (lv_at hl 0 rfl) ?_
    refine lv_dup hx hb dX10_init_30 rfl ?_
    refine xqg E hw hc (k := 7) (ref := "TenYards$Stalled") (v := .int ((10 : Int32) * (2 : Int32))) (by decide) qf_10_19 (Or.inr qg_10_worth) rfl dX10_init_31 ?_
    refine lv_bipush (v := 50) hx hb dX10_init_34 (by decide) ?_
    refine lv_iadd hx hb dX10_init_36 ?_
    refine xqp E hw hc (k := 7) (ref := "TenYards$Stalled") (v := (((10 : Int32) * (2 : Int32)) + (50 : Int32))) (fs1 := [.int p1, .int p2, .int p3, .int (7 : Int32), .int ((120 : Int32) + (25 : Int32)), .int (((16 : Int32) + (5 : Int32)) + (10 : Int32)), .int (0 : Int32), .int (((10 : Int32) * (2 : Int32)) + (50 : Int32))]) (by decide +kernel) qf_10_19 (Or.inr qg_10_worth) (by decide +kernel) (Nat.le_of_ble_eq_true rfl) rfl dX10_init_37 (fun H locs hw => ?_)
    exact hret H locs 40 ls hw dX10_init_40
  exact b00 s.heap [] hw
def fdat_0 (p1 p2 p3 : Int32) : Nat → Int32 := fun i => match i with
  | 0 => p1
  | 1 => p2
  | 2 => p3
  | 3 => (0 : Int32)
  | 4 => (120 : Int32)
  | 5 => (16 : Int32)
  | 6 => (40 : Int32)
  | _ => (10 : Int32)
def fdat_1 (p1 p2 p3 : Int32) : Nat → Int32 := fun i => match i with
  | 0 => p1
  | 1 => p2
  | 2 => p3
  | 3 => (1 : Int32)
  | 4 => (120 : Int32)
  | 5 => ((16 : Int32) + (4 : Int32))
  | 6 => (0 : Int32)
  | _ => ((10 : Int32) - (9 : Int32))
def fdat_2 (p1 p2 p3 : Int32) : Nat → Int32 := fun i => match i with
  | 0 => p1
  | 1 => p2
  | 2 => p3
  | 3 => (2 : Int32)
  | 4 => ((120 : Int32) - (20 : Int32))
  | 5 => ((16 : Int32) - (3 : Int32))
  | 6 => ((40 : Int32) - (6 : Int32))
  | _ => ((10 : Int32) + p2)
def fdat_3 (p1 p2 p3 : Int32) : Nat → Int32 := fun i => match i with
  | 0 => p1
  | 1 => p2
  | 2 => p3
  | 3 => (3 : Int32)
  | 4 => ((120 : Int32) + (25 : Int32))
  | 5 => ((16 : Int32) + (5 : Int32))
  | 6 => ((40 : Int32) + (4 : Int32))
  | _ => ((10 : Int32) * (2 : Int32))
def fdat_4 (p1 p2 p3 : Int32) : Nat → Int32 := fun i => match i with
  | 0 => p1
  | 1 => p2
  | 2 => p3
  | 3 => (4 : Int32)
  | 4 => (120 : Int32)
  | 5 => ((16 : Int32) + p2)
  | 6 => ((40 : Int32) / (2 : Int32))
  | _ => ((10 : Int32) + p3)
def fdat_5 (p1 p2 p3 : Int32) : Nat → Int32 := fun i => match i with
  | 0 => p1
  | 1 => p2
  | 2 => p3
  | 3 => (5 : Int32)
  | 4 => (120 : Int32)
  | 5 => (((16 : Int32) + p2) - (2 : Int32))
  | 6 => (((40 : Int32) / (2 : Int32)) + (10 : Int32))
  | _ => (((10 : Int32) + p3) + (3 : Int32))
def fdat_6 (p1 p2 p3 : Int32) : Nat → Int32 := fun i => match i with
  | 0 => p1
  | 1 => p2
  | 2 => p3
  | 3 => (6 : Int32)
  | 4 => (120 : Int32)
  | 5 => ((16 : Int32) + (2 : Int32))
  | 6 => ((40 : Int32) + (p2 * (3 : Int32)))
  | _ => ((10 : Int32) * p2)
def fdat_7 (p1 p2 p3 : Int32) : Nat → Int32 := fun i => match i with
  | 0 => p1
  | 1 => p2
  | 2 => p3
  | 3 => (7 : Int32)
  | 4 => ((120 : Int32) + (25 : Int32))
  | 5 => (((16 : Int32) + (5 : Int32)) + (10 : Int32))
  | 6 => (0 : Int32)
  | _ => (((10 : Int32) * (2 : Int32)) + (50 : Int32))
