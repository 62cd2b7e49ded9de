def V_X11_landing (z : ZS) (p1 : Int32) (p2 : Int32) (p3 : Int32) (p4 : Int32) (p5 : Int32) (post : Int32 → ZS → Prop) : Prop := V_X0_fallerAt z 1 p1 (fun r2 z1 => ((r2 = none → post (-1000000001 : Int32) z1) ∧ (∀ a3 : Nat, r2 = some a3 → V_X11_isPlace z1 p2 p3 (fun r5 z4 => ((r5 = 0 → post (-1000000001 : Int32) z4) ∧ (¬ r5 = 0 → V_X11_isFrom z4 (0 : Int32) p5 (4 : Int32) (fun r8 z7 => ((¬ r8 = 0 → V_X3_begin z7 4 a3 p2 p3 p4 (fun z10 => V_X3_land z10 4 (fun z12 => ((p5 = (0 : Int32) → post (zI z12 4 2) z12) ∧ (¬ p5 = (0 : Int32) → ((p5 = (1 : Int32) → post (zI z12 4 3) z12) ∧ (¬ p5 = (1 : Int32) → ((p5 = (2 : Int32) → post (zI z12 4 5) z12) ∧ (¬ p5 = (2 : Int32) → ((p5 = (3 : Int32) → V_X3_off z12 4 (fun r23 z22 => post r23 z22)) ∧ (¬ p5 = (3 : Int32) → V_X0_bars z12 1 (zI z12 4 2) (zI z12 4 3) (fun r15 z14 => ((r15 = 0 → post (0 : Int32) z14) ∧ (¬ r15 = 0 → post (1 : Int32) z14)))))))))))))) ∧ (r8 = 0 → post (-1000000001 : Int32) z7)))))))))
set_option maxHeartbeats 4000000 in
set_option maxRecDepth 100000 in
theorem c_X11_landing (l : Launch) (D : va_G) (ad : Nat → Nat → Nat) (cs : Nat → ClassId) (sk : (Nat → Nat) × (Nat → Nat)) (z : ZS) (p1 : Int32) (p2 : Int32) (p3 : Int32) (p4 : Int32) (p5 : Int32) (post : Int32 → ZS → Prop) (h : V_X11_landing z p1 p2 p3 p4 p5 post) : MI l D ad cs sk yX11_landing cX11_landing 7 .int (rmq 6 0 0) [.ref (ad 0 100), .int p1, .int p2, .int p3, .int p4, .int p5] z post := by
  refine MI.of RX11 rfl (by decide) (Nat.le_of_ble_eq_true rfl) ?_
  intro p e s m args below meth c A Q E hw hA hret ls hl
  have hx := E.1.1
  have hb := E.1.2.1
  have hml := E.1.2.2.1
  have hown := E.1.2.2.2.1
  have h0 := E.1.2.2.2.2
  have hl : lv_has ls 7 [(0, .ref (ad 0 100)), (1, .int p1), (2, .int p2), (3, .int p3), (4, .int p4), (5, .int p5)] := hl
  unfold V_X11_landing at h
  have b00 : ∀ (H : Heap) (locs : List Loc), OW D ad cs A s.heap z H locs → W p l e (rmq 6 0 0) s m args below meth c H locs 0 0 Q (F0 m 0 ls []) := by
    intro H locs hw
    refine lv_aload_n hx hb dX11_landing_0 rfl (lv_at hl 0 rfl) ?_
    refine xgC E hw (c1 := 11) (t := (1, 100)) rfl ky_0_100 fo_11_0 rfl qf_11_10 dX11_landing_1 ?_
    refine lv_iload_n hx hb dX11_landing_4 rfl (lv_at hl 1 rfl) ?_
    have hq := h
    clear h
    refine xcVA (As := [.int p1]) (rest := []) E hw hA (c_X0_fallerAt l D ad cs sk z 1 p1 _ is_1 hq) kc_11_97 yo_X0_fallerAt ⟨Nat.le_of_ble_eq_true rfl, Nat.le_of_ble_eq_true rfl⟩ (xrc E hw ky_1_100 rfl) rfl hl.1 rfl (Nat.le_of_ble_eq_true rfl) dX11_landing_5 ⟨Nat.le_of_ble_eq_true rfl, Nat.le_of_ble_eq_true rfl⟩ (fun r2 z1 H locs h hw => ?_)
    refine xsqastore (lv' := [(6, va_rf r2), (0, .ref (ad 0 100)), (1, .int p1), (2, .int p2), (3, .int p3), (4, .int p4), (5, .int p5)]) hx hb dX11_landing_8 hl (by decide) rfl (fun ls hl => ?_)
    refine xlqaload hx hb dX11_landing_10 (lv_at hl 0 rfl) ?_
    refine xnul (tgt := 33) hx hb dX11_landing_12 (by decide) (fun ea3 => ?_) (fun a3 ea3 => ?_)
    · replace h := h.1 ea3
      subst ea3
      have hl : lv_has ls 7 [(6, .null), (0, .ref (ad 0 100)), (1, .int p1), (2, .int p2), (3, .int p3), (4, .int p4), (5, .int p5)] := hl
      refine lv_ldc (v := -1000000001) hx hb hown (h0 _ qk_11_76) dX11_landing_33 ?_
      exact hret (-1000000001 : Int32) z1 H locs 35 ls hw rfl h dX11_landing_35
    · replace h := h.2 a3 ea3
      subst ea3
      have hl : lv_has ls 7 [(6, .ref a3), (0, .ref (ad 0 100)), (1, .int p1), (2, .int p2), (3, .int p3), (4, .int p4), (5, .int p5)] := hl
      refine lv_iload_n hx hb dX11_landing_15 rfl (lv_at hl 3 rfl) ?_
      refine lv_iload_n hx hb dX11_landing_16 rfl (lv_at hl 4 rfl) ?_
      have hq := h
      clear h
      refine xcSI (As := [.int p2, .int p3]) (rest := []) E hw hA (c_X11_isPlace l D ad cs sk z1 p2 p3 _ hq) kc_11_125 yo_X11_isPlace ⟨Nat.le_of_ble_eq_true rfl, Nat.le_of_ble_eq_true rfl⟩ rfl hl.1 rfl (Nat.le_of_ble_eq_true rfl) dX11_landing_17 ⟨Nat.le_of_ble_eq_true rfl, Nat.le_of_ble_eq_true rfl⟩ (fun r5 z4 H locs h hw => ?_)
      refine lv_if_eq (tgt := 33) hx hb dX11_landing_20 (by decide) (fun c6 => ?_) (fun c6 => ?_)
      · replace h := h.1 c6
        refine lv_ldc (v := -1000000001) hx hb hown (h0 _ qk_11_76) dX11_landing_33 ?_
        exact hret (-1000000001 : Int32) z4 H locs 35 ls hw rfl h dX11_landing_35
      · replace h := h.2 c6
        refine lv_iconst (v := 0) hx hb dX11_landing_23 (by decide) ?_
        refine lv_iload hx hb dX11_landing_24 (lv_at hl 6 rfl) ?_
        refine lv_iconst (v := 4) hx hb dX11_landing_26 (by decide) ?_
        have hq := h
        clear h
        refine xcSI (As := [.int (0 : Int32), .int p5, .int (4 : Int32)]) (rest := []) E hw hA (c_X11_isFrom l D ad cs sk z4 (0 : Int32) p5 (4 : Int32) _ hq) kc_11_83 yo_X11_isFrom ⟨Nat.le_of_ble_eq_true rfl, Nat.le_of_ble_eq_true rfl⟩ rfl hl.1 rfl (Nat.le_of_ble_eq_true rfl) dX11_landing_27 ⟨Nat.le_of_ble_eq_true rfl, Nat.le_of_ble_eq_true rfl⟩ (fun r8 z7 H locs h hw => ?_)
        refine lv_if_ne (tgt := 36) hx hb dX11_landing_30 (by decide) (fun c9 => ?_) (fun c9 => ?_)
        · replace h := h.1 c9
          refine lv_aload_n hx hb dX11_landing_36 rfl (lv_at hl 1 rfl) ?_
          refine xgC E hw (c1 := 11) (t := (4, 100)) rfl ky_0_100 fo_11_4 rfl qf_11_31 dX11_landing_37 ?_
          refine lv_aload hx hb dX11_landing_40 (lv_at hl 0 rfl) ?_
          refine lv_iload_n hx hb dX11_landing_42 rfl (lv_at hl 3 rfl) ?_
          refine lv_iload_n hx hb dX11_landing_43 rfl (lv_at hl 4 rfl) ?_
          refine lv_iload hx hb dX11_landing_44 (lv_at hl 5 rfl) ?_
          have hq := h
          clear h
          refine xcVV (As := [.ref a3, .int p2, .int p3, .int p4]) (rest := []) E hw hA (c_X3_begin l D ad cs sk z7 4 a3 p2 p3 p4 _ is_4 hq) kc_11_143 yo_X3_begin ⟨Nat.le_of_ble_eq_true rfl, Nat.le_of_ble_eq_true rfl⟩ (xrc E hw ky_4_100 rfl) rfl hl.1 rfl (Nat.le_of_ble_eq_true rfl) dX11_landing_46 ⟨Nat.le_of_ble_eq_true rfl, Nat.le_of_ble_eq_true rfl⟩ (fun z10 H locs h hw => ?_)
          refine lv_aload_n hx hb dX11_landing_49 rfl (lv_at hl 1 rfl) ?_
          refine xgC E hw (c1 := 11) (t := (4, 100)) rfl ky_0_100 fo_11_4 rfl qf_11_31 dX11_landing_50 ?_
          have hq := h
          clear h
          refine xcVV (As := []) (rest := []) E hw hA (c_X3_land l D ad cs sk z10 4 _ is_4 hq) kc_11_167 yo_X3_land ⟨Nat.le_of_ble_eq_true rfl, Nat.le_of_ble_eq_true rfl⟩ (xrc E hw ky_4_100 rfl) rfl hl.1 rfl (Nat.le_of_ble_eq_true rfl) dX11_landing_53 ⟨Nat.le_of_ble_eq_true rfl, Nat.le_of_ble_eq_true rfl⟩ (fun z12 H locs h hw => ?_)
          refine lv_iload hx hb dX11_landing_56 (lv_at hl 6 rfl) ?_
          by_cases c17 : p5 = (0 : Int32)
          · replace h := h.1 c17
            refine lv_tableIn (tgt := 88) hx hb dX11_landing_58 (by rw [c17]; decide) (by rw [c17]; decide) (by rw [c17]; rfl) (by decide) ?_
            refine lv_aload_n hx hb dX11_landing_88 rfl (lv_at hl 1 rfl) ?_
            refine xgC E hw (c1 := 11) (t := (4, 100)) rfl ky_0_100 fo_11_4 rfl qf_11_31 dX11_landing_89 ?_
            refine xgI E hw (c1 := 3) rfl ky_4_100 fo_3_2 qf_11_151 dX11_landing_92 ?_
            exact hret (zI z12 4 2) z12 H locs 95 ls hw rfl h dX11_landing_95
          · replace h := h.2 c17
            by_cases c18 : p5 = (1 : Int32)
            · replace h := h.1 c18
              refine lv_tableIn (tgt := 96) hx hb dX11_landing_58 (by rw [c18]; decide) (by rw [c18]; decide) (by rw [c18]; rfl) (by decide) ?_
              refine lv_aload_n hx hb dX11_landing_96 rfl (lv_at hl 1 rfl) ?_
              refine xgC E hw (c1 := 11) (t := (4, 100)) rfl ky_0_100 fo_11_4 rfl qf_11_31 dX11_landing_97 ?_
              refine xgI E hw (c1 := 3) rfl ky_4_100 fo_3_3 qf_11_154 dX11_landing_100 ?_
              exact hret (zI z12 4 3) z12 H locs 103 ls hw rfl h dX11_landing_103
            · replace h := h.2 c18
              by_cases c19 : p5 = (2 : Int32)
              · replace h := h.1 c19
                refine lv_tableIn (tgt := 104) hx hb dX11_landing_58 (by rw [c19]; decide) (by rw [c19]; decide) (by rw [c19]; rfl) (by decide) ?_
                refine lv_aload_n hx hb dX11_landing_104 rfl (lv_at hl 1 rfl) ?_
                refine xgC E hw (c1 := 11) (t := (4, 100)) rfl ky_0_100 fo_11_4 rfl qf_11_31 dX11_landing_105 ?_
                refine xgI E hw (c1 := 3) rfl ky_4_100 fo_3_5 qf_11_164 dX11_landing_108 ?_
                exact hret (zI z12 4 5) z12 H locs 111 ls hw rfl h dX11_landing_111
              · replace h := h.2 c19
                by_cases c20 : p5 = (3 : Int32)
                · replace h := h.1 c20
                  refine lv_tableIn (tgt := 112) hx hb dX11_landing_58 (by rw [c20]; decide) (by rw [c20]; decide) (by rw [c20]; rfl) (by decide) ?_
                  refine lv_aload_n hx hb dX11_landing_112 rfl (lv_at hl 1 rfl) ?_
                  refine xgC E hw (c1 := 11) (t := (4, 100)) rfl ky_0_100 fo_11_4 rfl qf_11_31 dX11_landing_113 ?_
                  have hq := h
                  clear h
                  refine xcVI (As := []) (rest := []) E hw hA (c_X3_off l D ad cs sk z12 4 _ is_4 hq) kc_11_214 yo_X3_off ⟨Nat.le_of_ble_eq_true rfl, Nat.le_of_ble_eq_true rfl⟩ (xrc E hw ky_4_100 rfl) rfl hl.1 rfl (Nat.le_of_ble_eq_true rfl) dX11_landing_116 ⟨Nat.le_of_ble_eq_true rfl, Nat.le_of_ble_eq_true rfl⟩ (fun r23 z22 H locs h hw => ?_)
                  exact hret r23 z22 H locs 119 ls hw rfl h dX11_landing_119
                · replace h := h.2 c20
                  refine lv_tableOut (tgt := 120) hx hb dX11_landing_58 (by have n0 := lv_neT c17 (by decide : ((0 : Int32) : Int32).toInt = 0); have n1 := lv_neT c18 (by decide : ((1 : Int32) : Int32).toInt = 1); have n2 := lv_neT c19 (by decide : ((2 : Int32) : Int32).toInt = 2); have n3 := lv_neT c20 (by decide : ((3 : Int32) : Int32).toInt = 3); omega) (by decide) ?_
                  refine lv_aload_n hx hb dX11_landing_120 rfl (lv_at hl 1 rfl) ?_
                  refine xgC E hw (c1 := 11) (t := (1, 100)) rfl ky_0_100 fo_11_0 rfl qf_11_10 dX11_landing_121 ?_
                  refine lv_aload_n hx hb dX11_landing_124 rfl (lv_at hl 1 rfl) ?_
                  refine xgC E hw (c1 := 11) (t := (4, 100)) rfl ky_0_100 fo_11_4 rfl qf_11_31 dX11_landing_125 ?_
                  refine xgI E hw (c1 := 3) rfl ky_4_100 fo_3_2 qf_11_151 dX11_landing_128 ?_
                  refine lv_aload_n hx hb dX11_landing_131 rfl (lv_at hl 1 rfl) ?_
                  refine xgC E hw (c1 := 11) (t := (4, 100)) rfl ky_0_100 fo_11_4 rfl qf_11_31 dX11_landing_132 ?_
                  refine xgI E hw (c1 := 3) rfl ky_4_100 fo_3_3 qf_11_154 dX11_landing_135 ?_
                  have hq := h
                  clear h
                  refine xcVI (As := [.int (zI z12 4 2), .int (zI z12 4 3)]) (rest := []) E hw hA (c_X0_bars l D ad cs sk z12 1 (zI z12 4 2) (zI z12 4 3) _ is_1 hq) kc_11_136 yo_X0_bars ⟨Nat.le_of_ble_eq_true rfl, Nat.le_of_ble_eq_true rfl⟩ (xrc E hw ky_1_100 rfl) rfl hl.1 rfl (Nat.le_of_ble_eq_true rfl) dX11_landing_138 ⟨Nat.le_of_ble_eq_true rfl, Nat.le_of_ble_eq_true rfl⟩ (fun r15 z14 H locs h hw => ?_)
                  refine lv_if_eq (tgt := 148) hx hb dX11_landing_141 (by decide) (fun c16 => ?_) (fun c16 => ?_)
                  · replace h := h.1 c16
                    refine lv_iconst (v := 0) hx hb dX11_landing_148 (by decide) ?_
                    exact hret (0 : Int32) z14 H locs 149 ls hw rfl h dX11_landing_149
                  · replace h := h.2 c16
                    refine lv_iconst (v := 1) hx hb dX11_landing_144 (by decide) ?_
                    refine lv_goto (tgt := 149) hx hb dX11_landing_145 (by decide) ?_
                    exact hret (1 : Int32) z14 H locs 149 ls hw rfl h dX11_landing_149
        · replace h := h.2 c9
          refine lv_ldc (v := -1000000001) hx hb hown (h0 _ qk_11_76) dX11_landing_33 ?_
          exact hret (-1000000001 : Int32) z7 H locs 35 ls hw rfl h dX11_landing_35
  exact b00 s.heap [] hw
def V_X11_fall (z : ZS) (p1 : Int32) (p2 : Int32) (p3 : Int32) (p4 : Int32) (post : Int32 → ZS → Prop) : Prop := V_X11_landing z p1 p2 p3 (1 : Int32) p4 (fun r2 z1 => post r2 z1)
set_option maxHeartbeats 4000000 in
set_option maxRecDepth 100000 in
theorem c_X11_fall (l : Launch) (D : va_G) (ad : Nat → Nat → Nat) (cs : Nat → ClassId) (sk : (Nat → Nat) × (Nat → Nat)) (z : ZS) (p1 : Int32) (p2 : Int32) (p3 : Int32) (p4 : Int32) (post : Int32 → ZS → Prop) (h : V_X11_fall z p1 p2 p3 p4 post) : MI l D ad cs sk yX11_fall cX11_fall 5 .int (rmq 7 0 0) [.ref (ad 0 100), .int p1, .int p2, .int p3, .int p4] z post := by
  refine MI.of RX11 rfl (by decide) (Nat.le_of_ble_eq_true rfl) ?_
  intro p e s m args below meth c A Q E hw hA hret ls hl
  have hx := E.1.1
  have hb := E.1.2.1
  have hml := E.1.2.2.1
  have hown := E.1.2.2.2.1
  have h0 := E.1.2.2.2.2
  have hl : lv_has ls 5 [(0, .ref (ad 0 100)), (1, .int p1), (2, .int p2), (3, .int p3), (4, .int p4)] := hl
  unfold V_X11_fall at h
  have b00 : ∀ (H : Heap) (locs : List Loc), OW D ad cs A s.heap z H locs → W p l e (rmq 7 0 0) s m args below meth c H locs 0 0 Q (F0 m 0 ls []) := by
    intro H locs hw
    refine lv_aload_n hx hb dX11_fall_0 rfl (lv_at hl 0 rfl) ?_
    refine lv_iload_n hx hb dX11_fall_1 rfl (lv_at hl 1 rfl) ?_
    refine lv_iload_n hx hb dX11_fall_2 rfl (lv_at hl 2 rfl) ?_
    refine lv_iload_n hx hb dX11_fall_3 rfl (lv_at hl 3 rfl) ?_
    refine lv_iconst (v := 1) hx hb dX11_fall_4 (by decide) ?_
    refine lv_iload hx hb dX11_fall_5 (lv_at hl 4 rfl) ?_
    have hq := h
    clear h
    refine xcVI (As := [.int p1, .int p2, .int p3, .int (1 : Int32), .int p4]) (rest := []) E hw hA (c_X11_landing l D ad cs sk z p1 p2 p3 (1 : Int32) p4 _ hq) kc_11_139 yo_X11_landing ⟨Nat.le_of_ble_eq_true rfl, Nat.le_of_ble_eq_true rfl⟩ (xrc E hw ky_0_100 rfl) rfl hl.1 rfl (Nat.le_of_ble_eq_true rfl) dX11_fall_7 ⟨Nat.le_of_ble_eq_true rfl, Nat.le_of_ble_eq_true rfl⟩ (fun r2 z1 H locs h hw => ?_)
    exact hret r2 z1 H locs 10 ls hw rfl h dX11_fall_10
  exact b00 s.heap [] hw
def V_X11_fallBy (z : ZS) (p1 : Int32) (p2 : Int32) (p3 : Int32) (p4 : Int32) (p5 : Int32) (post : Int32 → ZS → Prop) : Prop := V_X11_landing z p1 p2 p3 p4 p5 (fun r2 z1 => post r2 z1)
set_option maxHeartbeats 4000000 in
set_option maxRecDepth 100000 in
theorem c_X11_fallBy (l : Launch) (D : va_G) (ad : Nat → Nat → Nat) (cs : Nat → ClassId) (sk : (Nat → Nat) × (Nat → Nat)) (z : ZS) (p1 : Int32) (p2 : Int32) (p3 : Int32) (p4 : Int32) (p5 : Int32) (post : Int32 → ZS → Prop) (h : V_X11_fallBy z p1 p2 p3 p4 p5 post) : MI l D ad cs sk yX11_fallBy cX11_fallBy 6 .int (rmq 7 0 0) [.ref (ad 0 100), .int p1, .int p2, .int p3, .int p4, .int p5] z post := by
  refine MI.of RX11 rfl (by decide) (Nat.le_of_ble_eq_true rfl) ?_
  intro p e s m args below meth c A Q E hw hA hret ls hl
  have hx := E.1.1
  have hb := E.1.2.1
  have hml := E.1.2.2.1
  have hown := E.1.2.2.2.1
  have h0 := E.1.2.2.2.2
  have hl : lv_has ls 6 [(0, .ref (ad 0 100)), (1, .int p1), (2, .int p2), (3, .int p3), (4, .int p4), (5, .int p5)] := hl
  unfold V_X11_fallBy at h
  have b00 : ∀ (H : Heap) (locs : List Loc), OW D ad cs A s.heap z H locs → W p l e (rmq 7 0 0) s m args below meth c H locs 0 0 Q (F0 m 0 ls []) := by
    intro H locs hw
    refine lv_aload_n hx hb dX11_fallBy_0 rfl (lv_at hl 0 rfl) ?_
    refine lv_iload_n hx hb dX11_fallBy_1 rfl (lv_at hl 1 rfl) ?_
    refine lv_iload_n hx hb dX11_fallBy_2 rfl (lv_at hl 2 rfl) ?_
    refine lv_iload_n hx hb dX11_fallBy_3 rfl (lv_at hl 3 rfl) ?_
    refine lv_iload hx hb dX11_fallBy_4 (lv_at hl 4 rfl) ?_
    refine lv_iload hx hb dX11_fallBy_6 (lv_at hl 5 rfl) ?_
    have hq := h
    clear h
    refine xcVI (As := [.int p1, .int p2, .int p3, .int p4, .int p5]) (rest := []) E hw hA (c_X11_landing l D ad cs sk z p1 p2 p3 p4 p5 _ hq) kc_11_139 yo_X11_landing ⟨Nat.le_of_ble_eq_true rfl, Nat.le_of_ble_eq_true rfl⟩ (xrc E hw ky_0_100 rfl) rfl hl.1 rfl (Nat.le_of_ble_eq_true rfl) dX11_fallBy_8 ⟨Nat.le_of_ble_eq_true rfl, Nat.le_of_ble_eq_true rfl⟩ (fun r2 z1 H locs h hw => ?_)
    exact hret r2 z1 H locs 11 ls hw rfl h dX11_fallBy_11
  exact b00 s.heap [] hw
def V_X11_at (z : ZS) (p1 : Int32) (p2 : Int32) (p3 : Int32) (p4 : Int32) (p5 : Int32) (post : Int32 → ZS → Prop) : Prop := V_X0_fallerAt z 1 p1 (fun r2 z1 => ((r2 = none → post (-1000000001 : Int32) z1) ∧ (∀ a3 : Nat, r2 = some a3 → V_X11_isPlace z1 p2 p3 (fun r5 z4 => ((r5 = 0 → post (-1000000001 : Int32) z4) ∧ (¬ r5 = 0 → V_X11_isFrom z4 (0 : Int32) p4 (400 : Int32) (fun r8 z7 => ((r8 = 0 → post (-1000000001 : Int32) z7) ∧ (¬ r8 = 0 → V_X11_isFrom z7 (0 : Int32) p5 (2 : Int32) (fun r11 z10 => ((¬ r11 = 0 → V_X3_begin z10 4 a3 p2 p3 (1 : Int32) (fun z13 => V_X3_goOn z13 4 p4 (fun z15 => ((¬ p5 = 0 → ((¬ p5 = (1 : Int32) → post (zI z15 4 4) z15) ∧ (p5 = (1 : Int32) → post (zI z15 4 3) z15))) ∧ (p5 = 0 → post (zI z15 4 2) z15))))) ∧ (r11 = 0 → post (-1000000001 : Int32) z10))))))))))))
set_option maxHeartbeats 4000000 in
set_option maxRecDepth 100000 in
theorem c_X11_at (l : Launch) (D : va_G) (ad : Nat → Nat → Nat) (cs : Nat → ClassId) (sk : (Nat → Nat) × (Nat → Nat)) (z : ZS) (p1 : Int32) (p2 : Int32) (p3 : Int32) (p4 : Int32) (p5 : Int32) (post : Int32 → ZS → Prop) (h : V_X11_at z p1 p2 p3 p4 p5 post) : MI l D ad cs sk yX11_at cX11_at 7 .int (rmq 5 0 0) [.ref (ad 0 100), .int p1, .int p2, .int p3, .int p4, .int p5] z post := by
  refine MI.of RX11 rfl (by decide) (Nat.le_of_ble_eq_true rfl) ?_
  intro p e s m args below meth c A Q E hw hA hret ls hl
  have hx := E.1.1
  have hb := E.1.2.1
  have hml := E.1.2.2.1
  have hown := E.1.2.2.2.1
  have h0 := E.1.2.2.2.2
  have hl : lv_has ls 7 [(0, .ref (ad 0 100)), (1, .int p1), (2, .int p2), (3, .int p3), (4, .int p4), (5, .int p5)] := hl
  unfold V_X11_at at h
  have b00 : ∀ (H : Heap) (locs : List Loc), OW D ad cs A s.heap z H locs → W p l e (rmq 5 0 0) s m args below meth c H locs 0 0 Q (F0 m 0 ls []) := by
    intro H locs hw
    refine lv_aload_n hx hb dX11_at_0 rfl (lv_at hl 0 rfl) ?_
    refine xgC E hw (c1 := 11) (t := (1, 100)) rfl ky_0_100 fo_11_0 rfl qf_11_10 dX11_at_1 ?_
    refine lv_iload_n hx hb dX11_at_4 rfl (lv_at hl 1 rfl) ?_
    have hq := h
    clear h
    refine xcVA (As := [.int p1]) (rest := []) E hw hA (c_X0_fallerAt l D ad cs sk z 1 p1 _ is_1 hq) kc_11_97 yo_X0_fallerAt ⟨Nat.le_of_ble_eq_true rfl, Nat.le_of_ble_eq_true rfl⟩ (xrc E hw ky_1_100 rfl) rfl hl.1 rfl (Nat.le_of_ble_eq_true rfl) dX11_at_5 ⟨Nat.le_of_ble_eq_true rfl, Nat.le_of_ble_eq_true rfl⟩ (fun r2 z1 H locs h hw => ?_)
    refine xsqastore (lv' := [(6, va_rf r2), (0, .ref (ad 0 100)), (1, .int p1), (2, .int p2), (3, .int p3), (4, .int p4), (5, .int p5)]) hx hb dX11_at_8 hl (by decide) rfl (fun ls hl => ?_)
    refine xlqaload hx hb dX11_at_10 (lv_at hl 0 rfl) ?_
    refine xnul (tgt := 45) hx hb dX11_at_12 (by decide) (fun ea3 => ?_) (fun a3 ea3 => ?_)
    · replace h := h.1 ea3
      subst ea3
      have hl : lv_has ls 7 [(6, .null), (0, .ref (ad 0 100)), (1, .int p1), (2, .int p2), (3, .int p3), (4, .int p4), (5, .int p5)] := hl
      refine lv_ldc (v := -1000000001) hx hb hown (h0 _ qk_11_76) dX11_at_45 ?_
      exact hret (-1000000001 : Int32) z1 H locs 47 ls hw rfl h dX11_at_47
    · replace h := h.2 a3 ea3
      subst ea3
      have hl : lv_has ls 7 [(6, .ref a3), (0, .ref (ad 0 100)), (1, .int p1), (2, .int p2), (3, .int p3), (4, .int p4), (5, .int p5)] := hl
      refine lv_iload_n hx hb dX11_at_15 rfl (lv_at hl 3 rfl) ?_
      refine lv_iload_n hx hb dX11_at_16 rfl (lv_at hl 4 rfl) ?_
      have hq := h
      clear h
      refine xcSI (As := [.int p2, .int p3]) (rest := []) E hw hA (c_X11_isPlace l D ad cs sk z1 p2 p3 _ hq) kc_11_125 yo_X11_isPlace ⟨Nat.le_of_ble_eq_true rfl, Nat.le_of_ble_eq_true rfl⟩ rfl hl.1 rfl (Nat.le_of_ble_eq_true rfl) dX11_at_17 ⟨Nat.le_of_ble_eq_true rfl, Nat.le_of_ble_eq_true rfl⟩ (fun r5 z4 H locs h hw => ?_)
      refine lv_if_eq (tgt := 45) hx hb dX11_at_20 (by decide) (fun c6 => ?_) (fun c6 => ?_)
      · replace h := h.1 c6
        refine lv_ldc (v := -1000000001) hx hb hown (h0 _ qk_11_76) dX11_at_45 ?_
        exact hret (-1000000001 : Int32) z4 H locs 47 ls hw rfl h dX11_at_47
      · replace h := h.2 c6
        refine lv_iconst (v := 0) hx hb dX11_at_23 (by decide) ?_
        refine lv_iload hx hb dX11_at_24 (lv_at hl 5 rfl) ?_
        refine lv_sipush (v := 400) hx hb dX11_at_26 (by decide) ?_
        have hq := h
        clear h
        refine xcSI (As := [.int (0 : Int32), .int p4, .int (400 : Int32)]) (rest := []) E hw hA (c_X11_isFrom l D ad cs sk z4 (0 : Int32) p4 (400 : Int32) _ hq) kc_11_83 yo_X11_isFrom ⟨Nat.le_of_ble_eq_true rfl, Nat.le_of_ble_eq_true rfl⟩ rfl hl.1 rfl (Nat.le_of_ble_eq_true rfl) dX11_at_29 ⟨Nat.le_of_ble_eq_true rfl, Nat.le_of_ble_eq_true rfl⟩ (fun r8 z7 H locs h hw => ?_)
        refine lv_if_eq (tgt := 45) hx hb dX11_at_32 (by decide) (fun c9 => ?_) (fun c9 => ?_)
        · replace h := h.1 c9
          refine lv_ldc (v := -1000000001) hx hb hown (h0 _ qk_11_76) dX11_at_45 ?_
          exact hret (-1000000001 : Int32) z7 H locs 47 ls hw rfl h dX11_at_47
        · replace h := h.2 c9
          refine lv_iconst (v := 0) hx hb dX11_at_35 (by decide) ?_
          refine lv_iload hx hb dX11_at_36 (lv_at hl 6 rfl) ?_
          refine lv_iconst (v := 2) hx hb dX11_at_38 (by decide) ?_
          have hq := h
          clear h
          refine xcSI (As := [.int (0 : Int32), .int p5, .int (2 : Int32)]) (rest := []) E hw hA (c_X11_isFrom l D ad cs sk z7 (0 : Int32) p5 (2 : Int32) _ hq) kc_11_83 yo_X11_isFrom ⟨Nat.le_of_ble_eq_true rfl, Nat.le_of_ble_eq_true rfl⟩ rfl hl.1 rfl (Nat.le_of_ble_eq_true rfl) dX11_at_39 ⟨Nat.le_of_ble_eq_true rfl, Nat.le_of_ble_eq_true rfl⟩ (fun r11 z10 H locs h hw => ?_)
          refine lv_if_ne (tgt := 48) hx hb dX11_at_42 (by decide) (fun c12 => ?_) (fun c12 => ?_)
          · replace h := h.1 c12
            refine lv_aload_n hx hb dX11_at_48 rfl (lv_at hl 1 rfl) ?_
            refine xgC E hw (c1 := 11) (t := (4, 100)) rfl ky_0_100 fo_11_4 rfl qf_11_31 dX11_at_49 ?_
            refine lv_aload hx hb dX11_at_52 (lv_at hl 0 rfl) ?_
            refine lv_iload_n hx hb dX11_at_54 rfl (lv_at hl 3 rfl) ?_
            refine lv_iload_n hx hb dX11_at_55 rfl (lv_at hl 4 rfl) ?_
            refine lv_iconst (v := 1) hx hb dX11_at_56 (by decide) ?_
            have hq := h
            clear h
            refine xcVV (As := [.ref a3, .int p2, .int p3, .int (1 : Int32)]) (rest := []) E hw hA (c_X3_begin l D ad cs sk z10 4 a3 p2 p3 (1 : Int32) _ is_4 hq) kc_11_143 yo_X3_begin ⟨Nat.le_of_ble_eq_true rfl, Nat.le_of_ble_eq_true rfl⟩ (xrc E hw ky_4_100 rfl) rfl hl.1 rfl (Nat.le_of_ble_eq_true rfl) dX11_at_57 ⟨Nat.le_of_ble_eq_true rfl, Nat.le_of_ble_eq_true rfl⟩ (fun z13 H locs h hw => ?_)
            refine lv_aload_n hx hb dX11_at_60 rfl (lv_at hl 1 rfl) ?_
            refine xgC E hw (c1 := 11) (t := (4, 100)) rfl ky_0_100 fo_11_4 rfl qf_11_31 dX11_at_61 ?_
            refine lv_iload hx hb dX11_at_64 (lv_at hl 5 rfl) ?_
            have hq := h
            clear h
            refine xcVV (As := [.int p4]) (rest := []) E hw hA (c_X3_goOn l D ad cs sk z13 4 p4 _ is_4 hq) kc_11_147 yo_X3_goOn ⟨Nat.le_of_ble_eq_true rfl, Nat.le_of_ble_eq_true rfl⟩ (xrc E hw ky_4_100 rfl) rfl hl.1 rfl (Nat.le_of_ble_eq_true rfl) dX11_at_66 ⟨Nat.le_of_ble_eq_true rfl, Nat.le_of_ble_eq_true rfl⟩ (fun z15 H locs h hw => ?_)
            refine lv_iload hx hb dX11_at_69 (lv_at hl 6 rfl) ?_
            refine lv_if_ne (tgt := 84) hx hb dX11_at_71 (by decide) (fun c17 => ?_) (fun c17 => ?_)
            · replace h := h.1 c17
              refine lv_iload hx hb dX11_at_84 (lv_at hl 6 rfl) ?_
              refine lv_iconst (v := 1) hx hb dX11_at_86 (by decide) ?_
              refine lv_icmp_ne (tgt := 100) hx hb dX11_at_87 (by decide) (fun c18 => ?_) (fun c18 => ?_)
              · replace h := h.1 c18
                refine lv_aload_n hx hb dX11_at_100 rfl (lv_at hl 1 rfl) ?_
                refine xgC E hw (c1 := 11) (t := (4, 100)) rfl ky_0_100 fo_11_4 rfl qf_11_31 dX11_at_101 ?_
                refine xgI E hw (c1 := 3) rfl ky_4_100 fo_3_4 qf_11_157 dX11_at_104 ?_
                exact hret (zI z15 4 4) z15 H locs 107 ls hw rfl h dX11_at_107
              · replace h := h.2 c18
                refine lv_aload_n hx hb dX11_at_90 rfl (lv_at hl 1 rfl) ?_
                refine xgC E hw (c1 := 11) (t := (4, 100)) rfl ky_0_100 fo_11_4 rfl qf_11_31 dX11_at_91 ?_
                refine xgI E hw (c1 := 3) rfl ky_4_100 fo_3_3 qf_11_154 dX11_at_94 ?_
                refine lv_goto (tgt := 107) hx hb dX11_at_97 (by decide) ?_
                exact hret (zI z15 4 3) z15 H locs 107 ls hw rfl h dX11_at_107
            · replace h := h.2 c17
              refine lv_aload_n hx hb dX11_at_74 rfl (lv_at hl 1 rfl) ?_
              refine xgC E hw (c1 := 11) (t := (4, 100)) rfl ky_0_100 fo_11_4 rfl qf_11_31 dX11_at_75 ?_
              refine xgI E hw (c1 := 3) rfl ky_4_100 fo_3_2 qf_11_151 dX11_at_78 ?_
              refine lv_goto (tgt := 107) hx hb dX11_at_81 (by decide) ?_
              exact hret (zI z15 4 2) z15 H locs 107 ls hw rfl h dX11_at_107
          · replace h := h.2 c12
            refine lv_ldc (v := -1000000001) hx hb hown (h0 _ qk_11_76) dX11_at_45 ?_
            exact hret (-1000000001 : Int32) z10 H locs 47 ls hw rfl h dX11_at_47
  exact b00 s.heap [] hw
def V_X11_mean_140 (post : Int32 → ZS → Prop) (z : ZS) (v6 : Int32) (v8 : Int32) (s0 : Int32) : Prop := (¬ v8 = 0 ∧ post ((s0 - v6) / v8) z)
def V_X11_mean_81 (post : Int32 → ZS → Prop) (z : ZS) (v4 : Int32) (s0 : Int32) : Prop := (∀ t14 : Int32, t14 = (zI z 4 5) → V_X3_land z 4 (fun z15 => (∀ t17 : Int32, t17 = ((zI z15 4 5) - t14) → ((0 < t17 → ((v4 = 0 → V_X11_mean_140 post z15 s0 t17 (zI z15 4 2)) ∧ (¬ v4 = 0 → V_X11_mean_140 post z15 s0 t17 (zI z15 4 3)))) ∧ (¬ 0 < t17 → post (0 : Int32) z15)))))
def V_X11_mean (z : ZS) (p1 : Int32) (p2 : Int32) (p3 : Int32) (p4 : Int32) (post : Int32 → ZS → Prop) : Prop := V_X0_fallerAt z 1 p1 (fun r2 z1 => ((r2 = none → post (-1000000001 : Int32) z1) ∧ (∀ a3 : Nat, r2 = some a3 → V_X11_isPlace z1 p2 p3 (fun r5 z4 => ((¬ r5 = 0 → V_X3_begin z4 4 a3 p2 p3 (1 : Int32) (fun z7 => V_X3_holdWay z7 4 (0 : Int32) (0 : Int32) (fun z9 => (a3 ∈ zP z9 ∧ V_X3_goOn z9 4 (zF z9 a3 2) (fun z11 => ((p4 = 0 → V_X11_mean_81 post z11 p4 (zI z11 4 2)) ∧ (¬ p4 = 0 → V_X11_mean_81 post z11 p4 (zI z11 4 3)))))))) ∧ (r5 = 0 → post (-1000000001 : Int32) z4))))))
set_option maxHeartbeats 4000000 in
set_option maxRecDepth 100000 in
theorem c_X11_mean (l : Launch) (D : va_G) (ad : Nat → Nat → Nat) (cs : Nat → ClassId) (sk : (Nat → Nat) × (Nat → Nat)) (z : ZS) (p1 : Int32) (p2 : Int32) (p3 : Int32) (p4 : Int32) (post : Int32 → ZS → Prop) (h : V_X11_mean z p1 p2 p3 p4 post) : MI l D ad cs sk yX11_mean cX11_mean 9 .int (rmq 6 0 0) [.ref (ad 0 100), .int p1, .int p2, .int p3, .int p4] z post := by
  refine MI.of RX11 rfl (by decide) (Nat.le_of_ble_eq_true rfl) ?_
  intro p e s m args below meth c A Q E hw hA hret ls hl
  have hx := E.1.1
  have hb := E.1.2.1
  have hml := E.1.2.2.1
  have hown := E.1.2.2.2.1
  have h0 := E.1.2.2.2.2
  have hl : lv_has ls 9 [(0, .ref (ad 0 100)), (1, .int p1), (2, .int p2), (3, .int p3), (4, .int p4)] := hl
  unfold V_X11_mean at h
  have b140 : ∀ (z : ZS) (v6 : Int32) (v8 : Int32) (s0 : Int32), ∀ (H : Heap) (locs : List Loc), OW D ad cs A s.heap z H locs → ∀ ls : Array Slot, lv_has ls 9 [(6, .int v6), (8, .int v8)] → V_X11_mean_140 post z v6 v8 s0 → W p l e (rmq 6 0 0) s m args below meth c H locs 0 0 Q (F0 m 140 ls [.int s0]) := by
    intro z v6 v8 s0 H locs hw ls hl h
    unfold V_X11_mean_140 at h
    refine lv_iload hx hb dX11_mean_140 (lv_at hl 0 rfl) ?_
    refine lv_isub hx hb dX11_mean_142 ?_
    refine lv_iload hx hb dX11_mean_143 (lv_at hl 1 rfl) ?_
    obtain ⟨hd, h⟩ := h
    refine lv_idiv hx hb dX11_mean_145 hd ?_
    exact hret ((s0 - v6) / v8) z H locs 146 ls hw rfl h dX11_mean_146
  have b81 : ∀ (z : ZS) (v4 : Int32) (s0 : Int32), ∀ (H : Heap) (locs : List Loc), OW D ad cs A s.heap z H locs → ∀ ls : Array Slot, lv_has ls 9 [(0, .ref (ad 0 100)), (4, .int v4)] → V_X11_mean_81 post z v4 s0 → W p l e (rmq 6 0 0) s m args below meth c H locs 0 0 Q (F0 m 81 ls [.int s0]) := by
    intro z v4 s0 H locs hw ls hl h
    unfold V_X11_mean_81 at h
    refine lv_istore (lv' := [(6, .int s0), (0, .ref (ad 0 100)), (4, .int v4)]) hx hb dX11_mean_81 hl (by decide) rfl (fun ls hl => ?_)
    refine lv_aload_n hx hb dX11_mean_83 rfl (lv_at hl 1 rfl) ?_
    refine xgC E hw (c1 := 11) (t := (4, 100)) rfl ky_0_100 fo_11_4 rfl qf_11_31 dX11_mean_84 ?_
    refine xgI E hw (c1 := 3) rfl ky_4_100 fo_3_5 qf_11_164 dX11_mean_87 ?_
    refine lv_topi (fun t14 et14 => ?_)
    replace h := h t14 et14
    refine lv_istore (lv' := [(7, .int t14), (6, .int s0), (0, .ref (ad 0 100)), (4, .int v4)]) hx hb dX11_mean_90 hl (by decide) rfl (fun ls hl => ?_)
    refine lv_aload_n hx hb dX11_mean_92 rfl (lv_at hl 2 rfl) ?_
    refine xgC E hw (c1 := 11) (t := (4, 100)) rfl ky_0_100 fo_11_4 rfl qf_11_31 dX11_mean_93 ?_
    have hq := h
    clear h
    refine xcVV (As := []) (rest := []) E hw hA (c_X3_land l D ad cs sk z 4 _ is_4 hq) kc_11_167 yo_X3_land ⟨Nat.le_of_ble_eq_true rfl, Nat.le_of_ble_eq_true rfl⟩ (xrc E hw ky_4_100 rfl) rfl hl.1 rfl (Nat.le_of_ble_eq_true rfl) dX11_mean_96 ⟨Nat.le_of_ble_eq_true rfl, Nat.le_of_ble_eq_true rfl⟩ (fun z15 H locs h hw => ?_)
    refine lv_aload_n hx hb dX11_mean_99 rfl (lv_at hl 2 rfl) ?_
    refine xgC E hw (c1 := 11) (t := (4, 100)) rfl ky_0_100 fo_11_4 rfl qf_11_31 dX11_mean_100 ?_
    refine xgI E hw (c1 := 3) rfl ky_4_100 fo_3_5 qf_11_164 dX11_mean_103 ?_
    refine lv_iload hx hb dX11_mean_106 (lv_at hl 0 rfl) ?_
    refine lv_isub hx hb dX11_mean_108 ?_
    refine lv_topi (fun t17 et17 => ?_)
    replace h := h t17 et17
    refine lv_istore (lv' := [(8, .int t17), (7, .int t14), (6, .int s0), (0, .ref (ad 0 100)), (4, .int v4)]) hx hb dX11_mean_109 hl (by decide) rfl (fun ls hl => ?_)
    refine lv_iload hx hb dX11_mean_111 (lv_at hl 0 rfl) ?_
    refine lv_if_gt (tgt := 118) hx hb dX11_mean_113 (by decide) (fun c18 => ?_) (fun c18 => ?_)
    · replace h := h.1 c18
      refine lv_iload hx hb dX11_mean_118 (lv_at hl 4 rfl) ?_
      refine lv_if_eq (tgt := 133) hx hb dX11_mean_120 (by decide) (fun c19 => ?_) (fun c19 => ?_)
      · replace h := h.1 c19
        refine lv_aload_n hx hb dX11_mean_133 rfl (lv_at hl 3 rfl) ?_
        refine xgC E hw (c1 := 11) (t := (4, 100)) rfl ky_0_100 fo_11_4 rfl qf_11_31 dX11_mean_134 ?_
        refine xgI E hw (c1 := 3) rfl ky_4_100 fo_3_2 qf_11_151 dX11_mean_137 ?_
        exact b140 z15 s0 t17 (zI z15 4 2) H locs hw ls (lv_sub hl [2, 0] rfl) h
      · replace h := h.2 c19
        refine lv_aload_n hx hb dX11_mean_123 rfl (lv_at hl 3 rfl) ?_
        refine xgC E hw (c1 := 11) (t := (4, 100)) rfl ky_0_100 fo_11_4 rfl qf_11_31 dX11_mean_124 ?_
        refine xgI E hw (c1 := 3) rfl ky_4_100 fo_3_3 qf_11_154 dX11_mean_127 ?_
        refine lv_goto (tgt := 140) hx hb dX11_mean_130 (by decide) ?_
        exact b140 z15 s0 t17 (zI z15 4 3) H locs hw ls (lv_sub hl [2, 0] rfl) h
    · replace h := h.2 c18
      refine lv_iconst (v := 0) hx hb dX11_mean_116 (by decide) ?_
      exact hret (0 : Int32) z15 H locs 117 ls hw rfl h dX11_mean_117
  have b00 : ∀ (H : Heap) (locs : List Loc), OW D ad cs A s.heap z H locs → W p l e (rmq 6 0 0) s m args below meth c H locs 0 0 Q (F0 m 0 ls []) := by
    intro H locs hw
    refine lv_aload_n hx hb dX11_mean_0 rfl (lv_at hl 0 rfl) ?_
    refine xgC E hw (c1 := 11) (t := (1, 100)) rfl ky_0_100 fo_11_0 rfl qf_11_10 dX11_mean_1 ?_
    refine lv_iload_n hx hb dX11_mean_4 rfl (lv_at hl 1 rfl) ?_
    have hq := h
    clear h
    refine xcVA (As := [.int p1]) (rest := []) E hw hA (c_X0_fallerAt l D ad cs sk z 1 p1 _ is_1 hq) kc_11_97 yo_X0_fallerAt ⟨Nat.le_of_ble_eq_true rfl, Nat.le_of_ble_eq_true rfl⟩ (xrc E hw ky_1_100 rfl) rfl hl.1 rfl (Nat.le_of_ble_eq_true rfl) dX11_mean_5 ⟨Nat.le_of_ble_eq_true rfl, Nat.le_of_ble_eq_true rfl⟩ (fun r2 z1 H locs h hw => ?_)
    refine xsqastore (lv' := [(5, va_rf r2), (0, .ref (ad 0 100)), (1, .int p1), (2, .int p2), (3, .int p3), (4, .int p4)]) hx hb dX11_mean_8 hl (by decide) rfl (fun ls hl => ?_)
    refine xlqaload hx hb dX11_mean_10 (lv_at hl 0 rfl) ?_
    refine xnul (tgt := 23) hx hb dX11_mean_12 (by decide) (fun ea3 => ?_) (fun a3 ea3 => ?_)
    · replace h := h.1 ea3
      subst ea3
      have hl : lv_has ls 9 [(5, .null), (0, .ref (ad 0 100)), (1, .int p1), (2, .int p2), (3, .int p3), (4, .int p4)] := hl
      refine lv_ldc (v := -1000000001) hx hb hown (h0 _ qk_11_76) dX11_mean_23 ?_
      exact hret (-1000000001 : Int32) z1 H locs 25 ls hw rfl h dX11_mean_25
    · replace h := h.2 a3 ea3
      subst ea3
      have hl : lv_has ls 9 [(5, .ref a3), (0, .ref (ad 0 100)), (1, .int p1), (2, .int p2), (3, .int p3), (4, .int p4)] := hl
      refine lv_iload_n hx hb dX11_mean_15 rfl (lv_at hl 3 rfl) ?_
      refine lv_iload_n hx hb dX11_mean_16 rfl (lv_at hl 4 rfl) ?_
      have hq := h
      clear h
      refine xcSI (As := [.int p2, .int p3]) (rest := []) E hw hA (c_X11_isPlace l D ad cs sk z1 p2 p3 _ hq) kc_11_125 yo_X11_isPlace ⟨Nat.le_of_ble_eq_true rfl, Nat.le_of_ble_eq_true rfl⟩ rfl hl.1 rfl (Nat.le_of_ble_eq_true rfl) dX11_mean_17 ⟨Nat.le_of_ble_eq_true rfl, Nat.le_of_ble_eq_true rfl⟩ (fun r5 z4 H locs h hw => ?_)
      refine lv_if_ne (tgt := 26) hx hb dX11_mean_20 (by decide) (fun c6 => ?_) (fun c6 => ?_)
      · replace h := h.1 c6
        refine lv_aload_n hx hb dX11_mean_26 rfl (lv_at hl 1 rfl) ?_
        refine xgC E hw (c1 := 11) (t := (4, 100)) rfl ky_0_100 fo_11_4 rfl qf_11_31 dX11_mean_27 ?_
        refine lv_aload hx hb dX11_mean_30 (lv_at hl 0 rfl) ?_
        refine lv_iload_n hx hb dX11_mean_32 rfl (lv_at hl 3 rfl) ?_
        refine lv_iload_n hx hb dX11_mean_33 rfl (lv_at hl 4 rfl) ?_
        refine lv_iconst (v := 1) hx hb dX11_mean_34 (by decide) ?_
        have hq := h
        clear h
        refine xcVV (As := [.ref a3, .int p2, .int p3, .int (1 : Int32)]) (rest := []) E hw hA (c_X3_begin l D ad cs sk z4 4 a3 p2 p3 (1 : Int32) _ is_4 hq) kc_11_143 yo_X3_begin ⟨Nat.le_of_ble_eq_true rfl, Nat.le_of_ble_eq_true rfl⟩ (xrc E hw ky_4_100 rfl) rfl hl.1 rfl (Nat.le_of_ble_eq_true rfl) dX11_mean_35 ⟨Nat.le_of_ble_eq_true rfl, Nat.le_of_ble_eq_true rfl⟩ (fun z7 H locs h hw => ?_)
        refine lv_aload_n hx hb dX11_mean_38 rfl (lv_at hl 1 rfl) ?_
        refine xgC E hw (c1 := 11) (t := (4, 100)) rfl ky_0_100 fo_11_4 rfl qf_11_31 dX11_mean_39 ?_
        refine lv_iconst (v := 0) hx hb dX11_mean_42 (by decide) ?_
        refine lv_iconst (v := 0) hx hb dX11_mean_43 (by decide) ?_
        have hq := h
        clear h
        refine xcVV (As := [.int (0 : Int32), .int (0 : Int32)]) (rest := []) E hw hA (c_X3_holdWay l D ad cs sk z7 4 (0 : Int32) (0 : Int32) _ is_4 hq) kc_11_160 yo_X3_holdWay ⟨Nat.le_of_ble_eq_true rfl, Nat.le_of_ble_eq_true rfl⟩ (xrc E hw ky_4_100 rfl) rfl hl.1 rfl (Nat.le_of_ble_eq_true rfl) dX11_mean_44 ⟨Nat.le_of_ble_eq_true rfl, Nat.le_of_ble_eq_true rfl⟩ (fun z9 H locs h hw => ?_)
        refine lv_aload_n hx hb dX11_mean_47 rfl (lv_at hl 1 rfl) ?_
        refine xgC E hw (c1 := 11) (t := (4, 100)) rfl ky_0_100 fo_11_4 rfl qf_11_31 dX11_mean_48 ?_
        refine lv_aload hx hb dX11_mean_51 (lv_at hl 0 rfl) ?_
        obtain ⟨hm, h⟩ := h
        refine xgF E hw hm (k := 2) (ref := "TenYards$Faller") (by decide) qf_11_109 (Or.inl rfl) dX11_mean_53 ?_
        have hq := h
        clear h
        refine xcVV (As := [.int (zF z9 a3 2)]) (rest := []) E hw hA (c_X3_goOn l D ad cs sk z9 4 (zF z9 a3 2) _ is_4 hq) kc_11_147 yo_X3_goOn ⟨Nat.le_of_ble_eq_true rfl, Nat.le_of_ble_eq_true rfl⟩ (xrc E hw ky_4_100 rfl) rfl hl.1 rfl (Nat.le_of_ble_eq_true rfl) dX11_mean_56 ⟨Nat.le_of_ble_eq_true rfl, Nat.le_of_ble_eq_true rfl⟩ (fun z11 H locs h hw => ?_)
        refine lv_iload hx hb dX11_mean_59 (lv_at hl 5 rfl) ?_
        refine lv_if_eq (tgt := 74) hx hb dX11_mean_61 (by decide) (fun c13 => ?_) (fun c13 => ?_)
        · replace h := h.1 c13
          refine lv_aload_n hx hb dX11_mean_74 rfl (lv_at hl 1 rfl) ?_
          refine xgC E hw (c1 := 11) (t := (4, 100)) rfl ky_0_100 fo_11_4 rfl qf_11_31 dX11_mean_75 ?_
          refine xgI E hw (c1 := 3) rfl ky_4_100 fo_3_2 qf_11_151 dX11_mean_78 ?_
          exact b81 z11 p4 (zI z11 4 2) H locs hw ls (lv_sub hl [1, 5] rfl) h
        · replace h := h.2 c13
          refine lv_aload_n hx hb dX11_mean_64 rfl (lv_at hl 1 rfl) ?_
          refine xgC E hw (c1 := 11) (t := (4, 100)) rfl ky_0_100 fo_11_4 rfl qf_11_31 dX11_mean_65 ?_
          refine xgI E hw (c1 := 3) rfl ky_4_100 fo_3_3 qf_11_154 dX11_mean_68 ?_
          refine lv_goto (tgt := 81) hx hb dX11_mean_71 (by decide) ?_
          exact b81 z11 p4 (zI z11 4 3) H locs hw ls (lv_sub hl [1, 5] rfl) h
      · replace h := h.2 c6
        refine lv_ldc (v := -1000000001) hx hb hown (h0 _ qk_11_76) dX11_mean_23 ?_
        exact hret (-1000000001 : Int32) z4 H locs 25 ls hw rfl h dX11_mean_25
  exact b00 s.heap [] hw
def V_X11_exit_94 (post : Int32 → ZS → Prop) (rr40 : ZS → Int32 → Nat → Int32 → Int32 → Int32 → Int32 → Prop) (rr53 : ZS → Int32 → Nat → Int32 → Int32 → Int32 → Int32 → Int32 → Prop) (z : ZS) (v2 : Int32) (v3 : Nat) (v4 : Int32) (v5 : Int32) (v6 : Int32) (v7 : Int32) (v8 : Int32) : Prop := (∀ t15 : Int32, t15 = v8 + (1000 : Int32) → rr53 z v2 v3 v4 v5 v6 v7 t15)
def V_X11_exit_53 (post : Int32 → ZS → Prop) (rr40 : ZS → Int32 → Nat → Int32 → Int32 → Int32 → Int32 → Prop) : Nat → ZS → Int32 → Nat → Int32 → Int32 → Int32 → Int32 → Int32 → Prop
  | 0, _, _, _, _, _, _, _, _ => False
  | (n + 1), z, v2, v3, v4, v5, v6, v7, v8 => (((10000 : Int32) < v8 → (∀ t11 : Int32, t11 = v7 + (1000 : Int32) → rr40 z v2 v3 v4 v5 v6 t11)) ∧ (¬ (10000 : Int32) < v8 → V_X3_offFrom z 4 v3 v7 v8 (fun r13 z12 => ((v4 ≤ r13 → V_X11_exit_94 post rr40 (V_X11_exit_53 post rr40 n) z12 v2 v3 v4 v5 v6 v7 v8) ∧ (¬ v4 ≤ r13 → V_X11_exit_94 post rr40 (V_X11_exit_53 post rr40 n) z12 v2 v3 r13 v7 v8 v7 v8)))))
def V_X11_exit_40 (post : Int32 → ZS → Prop) : Nat → ZS → Int32 → Nat → Int32 → Int32 → Int32 → Int32 → Prop
  | 0, _, _, _, _, _, _, _ => False
  | (n + 1), z, v2, v3, v4, v5, v6, v7 => (((10000 : Int32) < v7 → ((¬ v2 = 0 → ((¬ v2 = (1 : Int32) → post v4 z) ∧ (v2 = (1 : Int32) → post v6 z))) ∧ (v2 = 0 → post v5 z))) ∧ (¬ (10000 : Int32) < v7 → (∃ n16 : Nat, V_X11_exit_53 post (V_X11_exit_40 post n) n16 z v2 v3 v4 v5 v6 v7 (-10000 : Int32))))
def V_X11_exit (z : ZS) (p1 : Int32) (p2 : Int32) (post : Int32 → ZS → Prop) : Prop := V_X0_fallerAt z 1 p1 (fun r2 z1 => ((r2 = none → post (-1000000001 : Int32) z1) ∧ (∀ a3 : Nat, r2 = some a3 → V_X11_isFrom z1 (0 : Int32) p2 (2 : Int32) (fun r5 z4 => ((¬ r5 = 0 → (∃ n17 : Nat, V_X11_exit_40 post n17 z4 p2 a3 (2147483647 : Int32) (0 : Int32) (0 : Int32) (-10000 : Int32))) ∧ (r5 = 0 → post (-1000000001 : Int32) z4))))))
set_option maxHeartbeats 4000000 in
set_option maxRecDepth 100000 in
theorem c_X11_exit (l : Launch) (D : va_G) (ad : Nat → Nat → Nat) (cs : Nat → ClassId) (sk : (Nat → Nat) × (Nat → Nat)) (z : ZS) (p1 : Int32) (p2 : Int32) (post : Int32 → ZS → Prop) (h : V_X11_exit z p1 p2 post) : MI l D ad cs sk yX11_exit cX11_exit 10 .int (rmq 6 0 0) [.ref (ad 0 100), .int p1, .int p2] z post := by
  refine MI.of RX11 rfl (by decide) (Nat.le_of_ble_eq_true rfl) ?_
  intro p e s m args below meth c A Q E hw hA hret ls hl
  have hx := E.1.1
  have hb := E.1.2.1
  have hml := E.1.2.2.1
  have hown := E.1.2.2.2.1
  have h0 := E.1.2.2.2.2
  have hl : lv_has ls 10 [(0, .ref (ad 0 100)), (1, .int p1), (2, .int p2)] := hl
  unfold V_X11_exit at h
  have b40 : ∀ (n : Nat) (z : ZS) (v2 : Int32) (v3 : Nat) (v4 : Int32) (v5 : Int32) (v6 : Int32) (v7 : Int32), ∀ (H : Heap) (locs : List Loc), OW D ad cs A s.heap z H locs → ∀ ls : Array Slot, lv_has ls 10 [(0, .ref (ad 0 100)), (2, .int v2), (3, .ref v3), (4, .int v4), (5, .int v5), (6, .int v6), (7, .int v7)] → V_X11_exit_40 post n z v2 v3 v4 v5 v6 v7 → W p l e (rmq 6 0 0) s m args below meth c H locs 0 0 Q (F0 m 40 ls []) := by
    intro n
    induction n with
    | zero =>
      intro z v2 v3 v4 v5 v6 v7 H locs hw ls hl h
      exact h.elim
    | succ n40x ih40 =>
      have b53 : ∀ (n : Nat) (z : ZS) (v2 : Int32) (v3 : Nat) (v4 : Int32) (v5 : Int32) (v6 : Int32) (v7 : Int32) (v8 : Int32), ∀ (H : Heap) (locs : List Loc), OW D ad cs A s.heap z H locs → ∀ ls : Array Slot, lv_has ls 10 [(0, .ref (ad 0 100)), (2, .int v2), (3, .ref v3), (4, .int v4), (5, .int v5), (6, .int v6), (7, .int v7), (8, .int v8)] → V_X11_exit_53 post (V_X11_exit_40 post n40x) n z v2 v3 v4 v5 v6 v7 v8 → W p l e (rmq 6 0 0) s m args below meth c H locs 0 0 Q (F0 m 53 ls []) := by
        intro n
        induction n with
        | zero =>
          intro z v2 v3 v4 v5 v6 v7 v8 H locs hw ls hl h
          exact h.elim
        | succ n53x ih53 =>
          have b94 : ∀ (z : ZS) (v2 : Int32) (v3 : Nat) (v4 : Int32) (v5 : Int32) (v6 : Int32) (v7 : Int32) (v8 : Int32), ∀ (H : Heap) (locs : List Loc), OW D ad cs A s.heap z H locs → ∀ ls : Array Slot, lv_has ls 10 [(0, .ref (ad 0 100)), (2, .int v2), (3, .ref v3), (4, .int v4), (5, .int v5), (6, .int v6), (7, .int v7), (8, .int v8)] → V_X11_exit_94 post (V_X11_exit_40 post n40x) (V_X11_exit_53 post (V_X11_exit_40 post n40x) n53x) z v2 v3 v4 v5 v6 v7 v8 → W p l e (rmq 6 0 0) s m args below meth c H locs 0 0 Q (F0 m 94 ls []) := by
            intro z v2 v3 v4 v5 v6 v7 v8 H locs hw ls hl h
            unfold V_X11_exit_94 at h
            obtain ⟨t15, et15⟩ : ∃ y : Int32, y = v8 + (1000 : Int32) := ⟨_, rfl⟩
            replace h := h t15 et15
            refine lv_iincW (v := t15) (lv' := [(8, .int t15), (0, .ref (ad 0 100)), (2, .int v2), (3, .ref v3), (4, .int v4), (5, .int v5), (6, .int v6), (7, .int v7)]) hx hb dX11_exit_94 hl (k := 7) rfl (by rw [et15]; rfl) (by decide) rfl (fun ls hl => ?_)
            refine lv_goto (tgt := 53) hx hb dX11_exit_100 (by decide) ?_
            exact ih53 z v2 v3 v4 v5 v6 v7 t15 H locs hw ls (lv_sub hl [1, 2, 3, 4, 5, 6, 7, 0] rfl) h
          intro z v2 v3 v4 v5 v6 v7 v8 H locs hw ls hl h
          unfold V_X11_exit_53 at h
          refine lv_iload hx hb dX11_exit_53 (lv_at hl 7 rfl) ?_
          refine lv_sipush (v := 10000) hx hb dX11_exit_55 (by decide) ?_
          refine lv_icmp_gt (tgt := 103) hx hb dX11_exit_58 (by decide) (fun c10 => ?_) (fun c10 => ?_)
          · replace h := h.1 c10
            obtain ⟨t11, et11⟩ : ∃ y : Int32, y = v7 + (1000 : Int32) := ⟨_, rfl⟩
            replace h := h t11 et11
            refine lv_iincW (v := t11) (lv' := [(7, .int t11), (0, .ref (ad 0 100)), (2, .int v2), (3, .ref v3), (4, .int v4), (5, .int v5), (6, .int v6), (8, .int v8)]) hx hb dX11_exit_103 hl (k := 6) rfl (by rw [et11]; rfl) (by decide) rfl (fun ls hl => ?_)
            refine lv_goto (tgt := 40) hx hb dX11_exit_109 (by decide) ?_
            exact ih40 z v2 v3 v4 v5 v6 t11 H locs hw ls (lv_sub hl [1, 2, 3, 4, 5, 6, 0] rfl) h
          · replace h := h.2 c10
            refine lv_aload_n hx hb dX11_exit_61 rfl (lv_at hl 0 rfl) ?_
            refine xgC E hw (c1 := 11) (t := (4, 100)) rfl ky_0_100 fo_11_4 rfl qf_11_31 dX11_exit_62 ?_
            refine lv_aload_n hx hb dX11_exit_65 rfl (lv_at hl 2 rfl) ?_
            refine lv_iload hx hb dX11_exit_66 (lv_at hl 6 rfl) ?_
            refine lv_iload hx hb dX11_exit_68 (lv_at hl 7 rfl) ?_
            have hq := h
            clear h
            refine xcVI (As := [.ref v3, .int v7, .int v8]) (rest := []) E hw hA (c_X3_offFrom l D ad cs sk z 4 v3 v7 v8 _ is_4 hq) kc_11_173 yo_X3_offFrom ⟨Nat.le_of_ble_eq_true rfl, Nat.le_of_ble_eq_true rfl⟩ (xrc E hw ky_4_100 rfl) rfl hl.1 rfl (Nat.le_of_ble_eq_true rfl) dX11_exit_70 ⟨Nat.le_of_ble_eq_true rfl, Nat.le_of_ble_eq_true rfl⟩ (fun r13 z12 H locs h hw => ?_)
            refine lv_istore (lv' := [(9, .int r13), (0, .ref (ad 0 100)), (2, .int v2), (3, .ref v3), (4, .int v4), (5, .int v5), (6, .int v6), (7, .int v7), (8, .int v8)]) hx hb dX11_exit_73 hl (by decide) rfl (fun ls hl => ?_)
            refine lv_iload hx hb dX11_exit_75 (lv_at hl 0 rfl) ?_
            refine lv_iload hx hb dX11_exit_77 (lv_at hl 4 rfl) ?_
            refine lv_icmp_ge (tgt := 94) hx hb dX11_exit_79 (by decide) (fun c14 => ?_) (fun c14 => ?_)
            · replace h := h.1 c14
              exact b94 z12 v2 v3 v4 v5 v6 v7 v8 H locs hw ls (lv_sub hl [1, 2, 3, 4, 5, 6, 7, 8] rfl) h
            · replace h := h.2 c14
              refine lv_iload hx hb dX11_exit_82 (lv_at hl 0 rfl) ?_
              refine lv_istore (lv' := [(4, .int r13), (9, .int r13), (0, .ref (ad 0 100)), (2, .int v2), (3, .ref v3), (5, .int v5), (6, .int v6), (7, .int v7), (8, .int v8)]) hx hb dX11_exit_84 hl (by decide) rfl (fun ls hl => ?_)
              refine lv_iload hx hb dX11_exit_86 (lv_at hl 7 rfl) ?_
              refine lv_istore (lv' := [(5, .int v7), (4, .int r13), (9, .int r13), (0, .ref (ad 0 100)), (2, .int v2), (3, .ref v3), (6, .int v6), (7, .int v7), (8, .int v8)]) hx hb dX11_exit_88 hl (by decide) rfl (fun ls hl => ?_)
              refine lv_iload hx hb dX11_exit_90 (lv_at hl 8 rfl) ?_
              refine lv_istore (lv' := [(6, .int v8), (5, .int v7), (4, .int r13), (9, .int r13), (0, .ref (ad 0 100)), (2, .int v2), (3, .ref v3), (7, .int v7), (8, .int v8)]) hx hb dX11_exit_92 hl (by decide) rfl (fun ls hl => ?_)
              exact b94 z12 v2 v3 r13 v7 v8 v7 v8 H locs hw ls (lv_sub hl [4, 5, 6, 2, 1, 0, 7, 8] rfl) h
      intro z v2 v3 v4 v5 v6 v7 H locs hw ls hl h
      unfold V_X11_exit_40 at h
      refine lv_iload hx hb dX11_exit_40 (lv_at hl 6 rfl) ?_
      refine lv_sipush (v := 10000) hx hb dX11_exit_42 (by decide) ?_
      refine lv_icmp_gt (tgt := 112) hx hb dX11_exit_45 (by decide) (fun c7 => ?_) (fun c7 => ?_)
      · replace h := h.1 c7
        refine lv_iload_n hx hb dX11_exit_112 rfl (lv_at hl 1 rfl) ?_
        refine lv_if_ne (tgt := 121) hx hb dX11_exit_113 (by decide) (fun c8 => ?_) (fun c8 => ?_)
        · replace h := h.1 c8
          refine lv_iload_n hx hb dX11_exit_121 rfl (lv_at hl 1 rfl) ?_
          refine lv_iconst (v := 1) hx hb dX11_exit_122 (by decide) ?_
          refine lv_icmp_ne (tgt := 131) hx hb dX11_exit_123 (by decide) (fun c9 => ?_) (fun c9 => ?_)
          · replace h := h.1 c9
            refine lv_iload hx hb dX11_exit_131 (lv_at hl 3 rfl) ?_
            exact hret v4 z H locs 133 ls hw rfl h dX11_exit_133
          · replace h := h.2 c9
            refine lv_iload hx hb dX11_exit_126 (lv_at hl 5 rfl) ?_
            refine lv_goto (tgt := 133) hx hb dX11_exit_128 (by decide) ?_
            exact hret v6 z H locs 133 ls hw rfl h dX11_exit_133
        · replace h := h.2 c8
          refine lv_iload hx hb dX11_exit_116 (lv_at hl 4 rfl) ?_
          refine lv_goto (tgt := 133) hx hb dX11_exit_118 (by decide) ?_
          exact hret v5 z H locs 133 ls hw rfl h dX11_exit_133
      · replace h := h.2 c7
        refine lv_sipush (v := -10000) hx hb dX11_exit_48 (by decide) ?_
        refine lv_istore (lv' := [(8, .int (-10000 : Int32)), (0, .ref (ad 0 100)), (2, .int v2), (3, .ref v3), (4, .int v4), (5, .int v5), (6, .int v6), (7, .int v7)]) hx hb dX11_exit_51 hl (by decide) rfl (fun ls hl => ?_)
        obtain ⟨n16, h⟩ := h
        exact b53 n16 z v2 v3 v4 v5 v6 v7 (-10000 : Int32) H locs hw ls (lv_sub hl [1, 2, 3, 4, 5, 6, 7, 0] rfl) h
  have b00 : ∀ (H : Heap) (locs : List Loc), OW D ad cs A s.heap z H locs → W p l e (rmq 6 0 0) s m args below meth c H locs 0 0 Q (F0 m 0 ls []) := by
    intro H locs hw
    refine lv_aload_n hx hb dX11_exit_0 rfl (lv_at hl 0 rfl) ?_
    refine xgC E hw (c1 := 11) (t := (1, 100)) rfl ky_0_100 fo_11_0 rfl qf_11_10 dX11_exit_1 ?_
    refine lv_iload_n hx hb dX11_exit_4 rfl (lv_at hl 1 rfl) ?_
    have hq := h
    clear h
    refine xcVA (As := [.int p1]) (rest := []) E hw hA (c_X0_fallerAt l D ad cs sk z 1 p1 _ is_1 hq) kc_11_97 yo_X0_fallerAt ⟨Nat.le_of_ble_eq_true rfl, Nat.le_of_ble_eq_true rfl⟩ (xrc E hw ky_1_100 rfl) rfl hl.1 rfl (Nat.le_of_ble_eq_true rfl) dX11_exit_5 ⟨Nat.le_of_ble_eq_true rfl, Nat.le_of_ble_eq_true rfl⟩ (fun r2 z1 H locs h hw => ?_)
    refine xsqastore_n (lv' := [(3, va_rf r2), (0, .ref (ad 0 100)), (1, .int p1), (2, .int p2)]) hx hb dX11_exit_8 rfl hl (by decide) rfl (fun ls hl => ?_)
    refine xlqaload_n hx hb dX11_exit_9 rfl (lv_at hl 0 rfl) ?_
    refine xnul (tgt := 22) hx hb dX11_exit_10 (by decide) (fun ea3 => ?_) (fun a3 ea3 => ?_)
    · replace h := h.1 ea3
      subst ea3
      have hl : lv_has ls 10 [(3, .null), (0, .ref (ad 0 100)), (1, .int p1), (2, .int p2)] := hl
      refine lv_ldc (v := -1000000001) hx hb hown (h0 _ qk_11_76) dX11_exit_22 ?_
      exact hret (-1000000001 : Int32) z1 H locs 24 ls hw rfl h dX11_exit_24
    · replace h := h.2 a3 ea3
      subst ea3
      have hl : lv_has ls 10 [(3, .ref a3), (0, .ref (ad 0 100)), (1, .int p1), (2, .int p2)] := hl
      refine lv_iconst (v := 0) hx hb dX11_exit_13 (by decide) ?_
      refine lv_iload_n hx hb dX11_exit_14 rfl (lv_at hl 3 rfl) ?_
      refine lv_iconst (v := 2) hx hb dX11_exit_15 (by decide) ?_
      have hq := h
      clear h
      refine xcSI (As := [.int (0 : Int32), .int p2, .int (2 : Int32)]) (rest := []) E hw hA (c_X11_isFrom l D ad cs sk z1 (0 : Int32) p2 (2 : Int32) _ hq) kc_11_83 yo_X11_isFrom ⟨Nat.le_of_ble_eq_true rfl, Nat.le_of_ble_eq_true rfl⟩ rfl hl.1 rfl (Nat.le_of_ble_eq_true rfl) dX11_exit_16 ⟨Nat.le_of_ble_eq_true rfl, Nat.le_of_ble_eq_true rfl⟩ (fun r5 z4 H locs h hw => ?_)
      refine lv_if_ne (tgt := 25) hx hb dX11_exit_19 (by decide) (fun c6 => ?_) (fun c6 => ?_)
      · replace h := h.1 c6
        refine lv_ldc (v := 2147483647) hx hb hown (h0 _ qk_11_172) dX11_exit_25 ?_
        refine lv_istore (lv' := [(4, .int (2147483647 : Int32)), (3, .ref a3), (0, .ref (ad 0 100)), (1, .int p1), (2, .int p2)]) hx hb dX11_exit_27 hl (by decide) rfl (fun ls hl => ?_)
        refine lv_iconst (v := 0) hx hb dX11_exit_29 (by decide) ?_
        refine lv_istore (lv' := [(5, .int (0 : Int32)), (4, .int (2147483647 : Int32)), (3, .ref a3), (0, .ref (ad 0 100)), (1, .int p1), (2, .int p2)]) hx hb dX11_exit_30 hl (by decide) rfl (fun ls hl => ?_)
        refine lv_iconst (v := 0) hx hb dX11_exit_32 (by decide) ?_
        refine lv_istore (lv' := [(6, .int (0 : Int32)), (5, .int (0 : Int32)), (4, .int (2147483647 : Int32)), (3, .ref a3), (0, .ref (ad 0 100)), (1, .int p1), (2, .int p2)]) hx hb dX11_exit_33 hl (by decide) rfl (fun ls hl => ?_)
        refine lv_sipush (v := -10000) hx hb dX11_exit_35 (by decide) ?_
        refine lv_istore (lv' := [(7, .int (-10000 : Int32)), (6, .int (0 : Int32)), (5, .int (0 : Int32)), (4, .int (2147483647 : Int32)), (3, .ref a3), (0, .ref (ad 0 100)), (1, .int p1), (2, .int p2)]) hx hb dX11_exit_38 hl (by decide) rfl (fun ls hl => ?_)
        obtain ⟨n17, h⟩ := h
        exact b40 n17 z4 p2 a3 (2147483647 : Int32) (0 : Int32) (0 : Int32) (-10000 : Int32) H locs hw ls (lv_sub hl [5, 7, 4, 3, 2, 1, 0] rfl) h
      · replace h := h.2 c6
        refine lv_ldc (v := -1000000001) hx hb hown (h0 _ qk_11_76) dX11_exit_22 ?_
        exact hret (-1000000001 : Int32) z4 H locs 24 ls hw rfl h dX11_exit_24
  exact b00 s.heap [] hw
def V_X11_isGap (z : ZS) (p0 : Int32) (post : Int32 → ZS → Prop) : Prop := V_X11_isFrom z (1 : Int32) p0 (20 : Int32) (fun r2 z1 => (narrow .boolean (.int r2) = .int r2 ∧ post r2 z1))
set_option maxHeartbeats 4000000 in
set_option maxRecDepth 100000 in
theorem c_X11_isGap (l : Launch) (D : va_G) (ad : Nat → Nat → Nat) (cs : Nat → ClassId) (sk : (Nat → Nat) × (Nat → Nat)) (z : ZS) (p0 : Int32) (post : Int32 → ZS → Prop) (h : V_X11_isGap z p0 post) : MI l D ad cs sk yX11_isGap cX11_isGap 1 .boolean (rmq 1 0 0) [.int p0] z post := by
  refine MI.of RX11 rfl (by decide) (Nat.le_of_ble_eq_true rfl) ?_
  intro p e s m args below meth c A Q E hw hA hret ls hl
  have hx := E.1.1
  have hb := E.1.2.1
  have hml := E.1.2.2.1
  have hown := E.1.2.2.2.1
  have h0 := E.1.2.2.2.2
  have hl : lv_has ls 1 [(0, .int p0)] := hl
  unfold V_X11_isGap at h
  have b00 : ∀ (H : Heap) (locs : List Loc), OW D ad cs A s.heap z H locs → W p l e (rmq 1 0 0) s m args below meth c H locs 0 0 Q (F0 m 0 ls []) := by
    intro H locs hw
    refine lv_iconst (v := 1) hx hb dX11_isGap_0 (by decide) ?_
    refine lv_iload_n hx hb dX11_isGap_1 rfl (lv_at hl 0 rfl) ?_
    refine lv_bipush (v := 20) hx hb dX11_isGap_2 (by decide) ?_
    have hq := h
    clear h
    refine xcSI (As := [.int (1 : Int32), .int p0, .int (20 : Int32)]) (rest := []) E hw hA (c_X11_isFrom l D ad cs sk z (1 : Int32) p0 (20 : Int32) _ hq) kc_11_83 yo_X11_isFrom ⟨Nat.le_of_ble_eq_true rfl, Nat.le_of_ble_eq_true rfl⟩ rfl hl.1 rfl (Nat.le_of_ble_eq_true rfl) dX11_isGap_4 ⟨Nat.le_of_ble_eq_true rfl, Nat.le_of_ble_eq_true rfl⟩ (fun r2 z1 H locs h hw => ?_)
    exact hret r2 z1 H locs 7 ls hw h.1 h.2 dX11_isGap_7
  exact b00 s.heap [] hw
def V_X11_loadWithin_95 (p1 : Nat) (post : Int32 → ZS → Prop) (rr6 : ZS → Int32 → Int32 → Int32 → Int32 → Int32 → Int32 → Prop) (z : ZS) (v2 : Int32) (v3 : Int32) (v4 : Int32) (v5 : Int32) (v6 : Int32) (v7 : Int32) : Prop := (∀ t7 : Int32, t7 = v7 + (1 : Int32) → rr6 z v2 v3 v4 v5 v6 t7)
def V_X11_loadWithin_6 (p1 : Nat) (post : Int32 → ZS → Prop) : Nat → ZS → Int32 → Int32 → Int32 → Int32 → Int32 → Int32 → Prop
  | 0, _, _, _, _, _, _, _ => False
  | (n + 1), z, v2, v3, v4, v5, v6, v7 => (((zI z p1 3) ≤ v7 → post v6 z) ∧ (¬ (zI z p1 3) ≤ v7 → V_X9_valueAt z p1 v7 (fun r3 z2 => V_X0_fallerAt z2 1 r3 (fun r5 z4 => ((r5 = none → V_X11_loadWithin_95 p1 post (V_X11_loadWithin_6 p1 post n) z4 v2 v3 v4 v5 v6 v7) ∧ (∀ a6 : Nat, r5 = some a6 → V_X3_held z4 (v2 + ((v7 * v4) * (zI z4 1 3))) (fun r9 z8 => V_X3_offFrom z8 4 a6 r9 v3 (fun r11 z10 => ((v5 < r11 → V_X11_loadWithin_95 p1 post (V_X11_loadWithin_6 p1 post n) z10 v2 v3 v4 v5 v6 v7) ∧ (¬ v5 < r11 → V_X0_bars z10 1 (zI z10 4 2) (zI z10 4 3) (fun r14 z13 => ((¬ r14 = 0 → V_X11_loadWithin_95 p1 post (V_X11_loadWithin_6 p1 post n) z13 v2 v3 v4 v5 v6 v7) ∧ (r14 = 0 → (∀ t16 : Int32, t16 = v6 + (1 : Int32) → V_X11_loadWithin_95 p1 post (V_X11_loadWithin_6 p1 post n) z13 v2 v3 v4 v5 t16 v7))))))))))))))
def V_X11_loadWithin (z : ZS) (p1 : Nat) (p2 : Int32) (p3 : Int32) (p4 : Int32) (p5 : Int32) (post : Int32 → ZS → Prop) : Prop := (∃ n17 : Nat, V_X11_loadWithin_6 p1 post n17 z p2 p3 p4 p5 (0 : Int32) (0 : Int32))
set_option maxHeartbeats 4000000 in
set_option maxRecDepth 100000 in
theorem c_X11_loadWithin (l : Launch) (D : va_G) (ad : Nat → Nat → Nat) (cs : Nat → ClassId) (sk : (Nat → Nat) × (Nat → Nat)) (z : ZS) (p1 : Nat) (p2 : Int32) (p3 : Int32) (p4 : Int32) (p5 : Int32) (post : Int32 → ZS → Prop) (hp1 : isS p1) (h : V_X11_loadWithin z p1 p2 p3 p4 p5 post) : MI l D ad cs sk yX11_loadWithin cX11_loadWithin 9 .int (rmq 6 0 0) [.ref (ad 0 100), .ref (ad p1 100), .int p2, .int p3, .int p4, .int p5] z post := by
  refine MI.of RX11 rfl (by decide) (Nat.le_of_ble_eq_true rfl) ?_
  intro p e s m args below meth c A Q E hw hA hret ls hl
  have hx := E.1.1
  have hb := E.1.2.1
  have hml := E.1.2.2.1
  have hown := E.1.2.2.2.1
  have h0 := E.1.2.2.2.2
  have hl : lv_has ls 9 [(0, .ref (ad 0 100)), (1, .ref (ad p1 100)), (2, .int p2), (3, .int p3), (4, .int p4), (5, .int p5)] := hl
  unfold V_X11_loadWithin at h
  have b6 : ∀ (n : Nat) (z : ZS) (v2 : Int32) (v3 : Int32) (v4 : Int32) (v5 : Int32) (v6 : Int32) (v7 : Int32), ∀ (H : Heap) (locs : List Loc), OW D ad cs A s.heap z H locs → ∀ ls : Array Slot, lv_has ls 9 [(0, .ref (ad 0 100)), (1, .ref (ad p1 100)), (2, .int v2), (3, .int v3), (4, .int v4), (5, .int v5), (6, .int v6), (7, .int v7)] → V_X11_loadWithin_6 p1 post n z v2 v3 v4 v5 v6 v7 → W p l e (rmq 6 0 0) s m args below meth c H locs 0 0 Q (F0 m 6 ls []) := by
    intro n
    induction n with
    | zero =>
      intro z v2 v3 v4 v5 v6 v7 H locs hw ls hl h
      exact h.elim
    | succ n6x ih6 =>
      have b95 : ∀ (z : ZS) (v2 : Int32) (v3 : Int32) (v4 : Int32) (v5 : Int32) (v6 : Int32) (v7 : Int32), ∀ (H : Heap) (locs : List Loc), OW D ad cs A s.heap z H locs → ∀ ls : Array Slot, lv_has ls 9 [(0, .ref (ad 0 100)), (1, .ref (ad p1 100)), (2, .int v2), (3, .int v3), (4, .int v4), (5, .int v5), (6, .int v6), (7, .int v7)] → V_X11_loadWithin_95 p1 post (V_X11_loadWithin_6 p1 post n6x) z v2 v3 v4 v5 v6 v7 → W p l e (rmq 6 0 0) s m args below meth c H locs 0 0 Q (F0 m 95 ls []) := by
        intro z v2 v3 v4 v5 v6 v7 H locs hw ls hl h
        unfold V_X11_loadWithin_95 at h
        obtain ⟨t7, et7⟩ : ∃ y : Int32, y = v7 + (1 : Int32) := ⟨_, rfl⟩
        replace h := h t7 et7
        refine lv_iinc (v := t7) (lv' := [(7, .int t7), (0, .ref (ad 0 100)), (1, .ref (ad p1 100)), (2, .int v2), (3, .int v3), (4, .int v4), (5, .int v5), (6, .int v6)]) hx hb dX11_loadWithin_95 hl (k := 7) rfl (by rw [et7]; rfl) (by decide) rfl (fun ls hl => ?_)
        refine lv_goto (tgt := 6) hx hb dX11_loadWithin_98 (by decide) ?_
        exact ih6 z v2 v3 v4 v5 v6 t7 H locs hw ls (lv_sub hl [1, 2, 3, 4, 5, 6, 7, 0] rfl) h
      intro z v2 v3 v4 v5 v6 v7 H locs hw ls hl h
      unfold V_X11_loadWithin_6 at h
      refine lv_iload hx hb dX11_loadWithin_6 (lv_at hl 7 rfl) ?_
      refine lv_aload_n hx hb dX11_loadWithin_8 rfl (lv_at hl 1 rfl) ?_
      refine xgI E hw (c1 := 9) (ciisS hp1) (kyisS_100 hp1) fo_9_3 qf_11_189 dX11_loadWithin_9 ?_
      refine lv_icmp_ge (tgt := 101) hx hb dX11_loadWithin_12 (by decide) (fun c1 => ?_) (fun c1 => ?_)
      · replace h := h.1 c1
        refine lv_iload hx hb dX11_loadWithin_101 (lv_at hl 6 rfl) ?_
        exact hret v6 z H locs 103 ls hw rfl h dX11_loadWithin_103
      · replace h := h.2 c1
        refine lv_aload_n hx hb dX11_loadWithin_15 rfl (lv_at hl 0 rfl) ?_
        refine xgC E hw (c1 := 11) (t := (1, 100)) rfl ky_0_100 fo_11_0 rfl qf_11_10 dX11_loadWithin_16 ?_
        refine lv_aload_n hx hb dX11_loadWithin_19 rfl (lv_at hl 1 rfl) ?_
        refine lv_iload hx hb dX11_loadWithin_20 (lv_at hl 7 rfl) ?_
        have hq := h
        clear h
        refine xcVI (As := [.int v7]) (rest := [.ref (ad 1 100)]) E hw hA (c_X9_valueAt l D ad cs sk z p1 v7 _ hp1 hq) kc_11_258 yo_X9_valueAt ⟨Nat.le_of_ble_eq_true rfl, Nat.le_of_ble_eq_true rfl⟩ (xrc E hw (kyisS_100 hp1) (ciisS hp1)) rfl hl.1 rfl (Nat.le_of_ble_eq_true rfl) dX11_loadWithin_22 ⟨Nat.le_of_ble_eq_true rfl, Nat.le_of_ble_eq_true rfl⟩ (fun r3 z2 H locs h hw => ?_)
        have hq := h
        clear h
        refine xcVA (As := [.int r3]) (rest := []) E hw hA (c_X0_fallerAt l D ad cs sk z2 1 r3 _ is_1 hq) kc_11_97 yo_X0_fallerAt ⟨Nat.le_of_ble_eq_true rfl, Nat.le_of_ble_eq_true rfl⟩ (xrc E hw ky_1_100 rfl) rfl hl.1 rfl (Nat.le_of_ble_eq_true rfl) dX11_loadWithin_25 ⟨Nat.le_of_ble_eq_true rfl, Nat.le_of_ble_eq_true rfl⟩ (fun r5 z4 H locs h hw => ?_)
        refine xsqastore (lv' := [(8, va_rf r5), (0, .ref (ad 0 100)), (1, .ref (ad p1 100)), (2, .int v2), (3, .int v3), (4, .int v4), (5, .int v5), (6, .int v6), (7, .int v7)]) hx hb dX11_loadWithin_28 hl (by decide) rfl (fun ls hl => ?_)
        refine xlqaload hx hb dX11_loadWithin_30 (lv_at hl 0 rfl) ?_
        refine xnul (tgt := 95) hx hb dX11_loadWithin_32 (by decide) (fun ea6 => ?_) (fun a6 ea6 => ?_)
        · replace h := h.1 ea6
          subst ea6
          have hl : lv_has ls 9 [(8, .null), (0, .ref (ad 0 100)), (1, .ref (ad p1 100)), (2, .int v2), (3, .int v3), (4, .int v4), (5, .int v5), (6, .int v6), (7, .int v7)] := hl
          exact b95 z4 v2 v3 v4 v5 v6 v7 H locs hw ls (lv_sub hl [1, 2, 3, 4, 5, 6, 7, 8] rfl) h
        · replace h := h.2 a6 ea6
          subst ea6
          have hl : lv_has ls 9 [(8, .ref a6), (0, .ref (ad 0 100)), (1, .ref (ad p1 100)), (2, .int v2), (3, .int v3), (4, .int v4), (5, .int v5), (6, .int v6), (7, .int v7)] := hl
          refine lv_aload_n hx hb dX11_loadWithin_35 rfl (lv_at hl 1 rfl) ?_
          refine xgC E hw (c1 := 11) (t := (4, 100)) rfl ky_0_100 fo_11_4 rfl qf_11_31 dX11_loadWithin_36 ?_
          refine lv_aload hx hb dX11_loadWithin_39 (lv_at hl 0 rfl) ?_
          refine lv_iload_n hx hb dX11_loadWithin_41 rfl (lv_at hl 3 rfl) ?_
          refine lv_iload hx hb dX11_loadWithin_42 (lv_at hl 8 rfl) ?_
          refine lv_iload hx hb dX11_loadWithin_44 (lv_at hl 5 rfl) ?_
          refine lv_imul hx hb dX11_loadWithin_46 ?_
          refine lv_aload_n hx hb dX11_loadWithin_47 rfl (lv_at hl 1 rfl) ?_
          refine xgC E hw (c1 := 11) (t := (1, 100)) rfl ky_0_100 fo_11_0 rfl qf_11_10 dX11_loadWithin_48 ?_
          refine xgI E hw (c1 := 0) rfl ky_1_100 fo_0_3 qf_11_91 dX11_loadWithin_51 ?_
          refine lv_imul hx hb dX11_loadWithin_54 ?_
          refine lv_iadd hx hb dX11_loadWithin_55 ?_
          have hq := h
          clear h
          refine xcSI (As := [.int (v2 + ((v7 * v4) * (zI z4 1 3)))]) (rest := [.ref a6, .ref (ad 4 100)]) E hw hA (c_X3_held l D ad cs sk z4 (v2 + ((v7 * v4) * (zI z4 1 3))) _ hq) kc_11_232 yo_X3_held ⟨Nat.le_of_ble_eq_true rfl, Nat.le_of_ble_eq_true rfl⟩ rfl hl.1 rfl (Nat.le_of_ble_eq_true rfl) dX11_loadWithin_56 ⟨Nat.le_of_ble_eq_true rfl, Nat.le_of_ble_eq_true rfl⟩ (fun r9 z8 H locs h hw => ?_)
          refine lv_iload_n hx hb dX11_loadWithin_59 rfl (lv_at hl 4 rfl) ?_
          have hq := h
          clear h
          refine xcVI (As := [.ref a6, .int r9, .int v3]) (rest := []) E hw hA (c_X3_offFrom l D ad cs sk z8 4 a6 r9 v3 _ is_4 hq) kc_11_173 yo_X3_offFrom ⟨Nat.le_of_ble_eq_true rfl, Nat.le_of_ble_eq_true rfl⟩ (xrc E hw ky_4_100 rfl) rfl hl.1 rfl (Nat.le_of_ble_eq_true rfl) dX11_loadWithin_60 ⟨Nat.le_of_ble_eq_true rfl, Nat.le_of_ble_eq_true rfl⟩ (fun r11 z10 H locs h hw => ?_)
          refine lv_iload hx hb dX11_loadWithin_63 (lv_at hl 6 rfl) ?_
          refine lv_icmp_gt (tgt := 95) hx hb dX11_loadWithin_65 (by decide) (fun c12 => ?_) (fun c12 => ?_)
          · replace h := h.1 c12
            exact b95 z10 v2 v3 v4 v5 v6 v7 H locs hw ls (lv_sub hl [1, 2, 3, 4, 5, 6, 7, 8] rfl) h
          · replace h := h.2 c12
            refine lv_aload_n hx hb dX11_loadWithin_68 rfl (lv_at hl 1 rfl) ?_
            refine xgC E hw (c1 := 11) (t := (1, 100)) rfl ky_0_100 fo_11_0 rfl qf_11_10 dX11_loadWithin_69 ?_
            refine lv_aload_n hx hb dX11_loadWithin_72 rfl (lv_at hl 1 rfl) ?_
            refine xgC E hw (c1 := 11) (t := (4, 100)) rfl ky_0_100 fo_11_4 rfl qf_11_31 dX11_loadWithin_73 ?_
            refine xgI E hw (c1 := 3) rfl ky_4_100 fo_3_2 qf_11_151 dX11_loadWithin_76 ?_
            refine lv_aload_n hx hb dX11_loadWithin_79 rfl (lv_at hl 1 rfl) ?_
            refine xgC E hw (c1 := 11) (t := (4, 100)) rfl ky_0_100 fo_11_4 rfl qf_11_31 dX11_loadWithin_80 ?_
            refine xgI E hw (c1 := 3) rfl ky_4_100 fo_3_3 qf_11_154 dX11_loadWithin_83 ?_
            have hq := h
            clear h
            refine xcVI (As := [.int (zI z10 4 2), .int (zI z10 4 3)]) (rest := []) E hw hA (c_X0_bars l D ad cs sk z10 1 (zI z10 4 2) (zI z10 4 3) _ is_1 hq) kc_11_136 yo_X0_bars ⟨Nat.le_of_ble_eq_true rfl, Nat.le_of_ble_eq_true rfl⟩ (xrc E hw ky_1_100 rfl) rfl hl.1 rfl (Nat.le_of_ble_eq_true rfl) dX11_loadWithin_86 ⟨Nat.le_of_ble_eq_true rfl, Nat.le_of_ble_eq_true rfl⟩ (fun r14 z13 H locs h hw => ?_)
            refine lv_if_ne (tgt := 95) hx hb dX11_loadWithin_89 (by decide) (fun c15 => ?_) (fun c15 => ?_)
            · replace h := h.1 c15
              exact b95 z13 v2 v3 v4 v5 v6 v7 H locs hw ls (lv_sub hl [1, 2, 3, 4, 5, 6, 7, 8] rfl) h
            · replace h := h.2 c15
              obtain ⟨t16, et16⟩ : ∃ y : Int32, y = v6 + (1 : Int32) := ⟨_, rfl⟩
              replace h := h t16 et16
              refine lv_iinc (v := t16) (lv' := [(6, .int t16), (8, .ref a6), (0, .ref (ad 0 100)), (1, .ref (ad p1 100)), (2, .int v2), (3, .int v3), (4, .int v4), (5, .int v5), (7, .int v7)]) hx hb dX11_loadWithin_92 hl (k := 7) rfl (by rw [et16]; rfl) (by decide) rfl (fun ls hl => ?_)
              exact b95 z13 v2 v3 v4 v5 t16 v7 H locs hw ls (lv_sub hl [2, 3, 4, 5, 6, 7, 0, 8] rfl) h
  have b00 : ∀ (H : Heap) (locs : List Loc), OW D ad cs A s.heap z H locs → W p l e (rmq 6 0 0) s m args below meth c H locs 0 0 Q (F0 m 0 ls []) := by
    intro H locs hw
    refine lv_iconst (v := 0) hx hb dX11_loadWithin_0 (by decide) ?_
    refine lv_istore (lv' := [(6, .int (0 : Int32)), (0, .ref (ad 0 100)), (1, .ref (ad p1 100)), (2, .int p2), (3, .int p3), (4, .int p4), (5, .int p5)]) hx hb dX11_loadWithin_1 hl (by decide) rfl (fun ls hl => ?_)
    refine lv_iconst (v := 0) hx hb dX11_loadWithin_3 (by decide) ?_
    refine lv_istore (lv' := [(7, .int (0 : Int32)), (6, .int (0 : Int32)), (0, .ref (ad 0 100)), (1, .ref (ad p1 100)), (2, .int p2), (3, .int p3), (4, .int p4), (5, .int p5)]) hx hb dX11_loadWithin_4 hl (by decide) rfl (fun ls hl => ?_)
    obtain ⟨n17, h⟩ := h
    exact b6 n17 z p2 p3 p4 p5 (0 : Int32) (0 : Int32) H locs hw ls (lv_sub hl [2, 3, 4, 5, 6, 7, 1, 0] rfl) h
  exact b00 s.heap [] hw
