def V_X11_knew (z : ZS) (p1 : Int32) (p2 : Int32) (p3 : Int32) (p4 : Int32) (post : Int32 → ZS → Prop) : Prop := V_X0_fallerAt z 1 p1 (fun r2 z1 => V_X0_fallerAt z1 1 p2 (fun r4 z3 => ((r2 = none → post (-1000000001 : Int32) z3) ∧ (∀ a5 : Nat, r2 = some a5 → ((r4 = none → post (-1000000001 : Int32) z3) ∧ (∀ a6 : Nat, r4 = some a6 → ((p1 = p2 → post (-1000000001 : Int32) z3) ∧ (¬ p1 = p2 → V_X11_isPlace z3 p3 p4 (fun r9 z8 => ((¬ r9 = 0 → V_X3_offFrom z8 4 a5 p3 p4 (fun r12 z11 => V_X3_offFrom z11 4 a6 p3 p4 (fun r14 z13 => V_X3_held z13 (p3 - (zI z13 4 2)) (fun r16 z15 => V_X3_held z15 (p4 - (zI z15 4 3)) (fun r18 z17 => V_X3_offFrom z17 4 a5 r16 r18 (fun r20 z19 => post (r12 - r20) z19)))))) ∧ (r9 = 0 → post (-1000000001 : Int32) z8)))))))))))
set_option maxHeartbeats 4000000 in
set_option maxRecDepth 100000 in
theorem c_X11_knew (l : Launch) (D : va_G) (ad : Nat → Nat → Nat) (cs : Nat → ClassId) (sk : (Nat → Nat) × (Nat → Nat)) (z : ZS) (p1 : Int32) (p2 : Int32) (p3 : Int32) (p4 : Int32) (post : Int32 → ZS → Prop) (h : V_X11_knew z p1 p2 p3 p4 post) : MI l D ad cs sk yX11_knew cX11_knew 10 .int (rmq 6 0 0) [.ref (ad 0 100), .int p1, .int p2, .int p3, .int p4] z post := by
  refine MI.of RX11 rfl (by decide) (Nat.le_of_ble_eq_true rfl) ?_
  intro p e s m args below meth c A Q E hw hA hret ls hl
  have hx := E.1.1
  have hb := E.1.2.1
  have hml := E.1.2.2.1
  have hown := E.1.2.2.2.1
  have h0 := E.1.2.2.2.2
  have hl : lv_has ls 10 [(0, .ref (ad 0 100)), (1, .int p1), (2, .int p2), (3, .int p3), (4, .int p4)] := hl
  unfold V_X11_knew at h
  have b00 : ∀ (H : Heap) (locs : List Loc), OW D ad cs A s.heap z H locs → W p l e (rmq 6 0 0) s m args below meth c H locs 0 0 Q (F0 m 0 ls []) := by
    intro H locs hw
    refine lv_aload_n hx hb dX11_knew_0 rfl (lv_at hl 0 rfl) ?_
    refine xgC E hw (c1 := 11) (t := (1, 100)) rfl ky_0_100 fo_11_0 rfl qf_11_10 dX11_knew_1 ?_
    refine lv_iload_n hx hb dX11_knew_4 rfl (lv_at hl 1 rfl) ?_
    have hq := h
    clear h
    refine xcVA (As := [.int p1]) (rest := []) E hw hA (c_X0_fallerAt l D ad cs sk z 1 p1 _ is_1 hq) kc_11_97 yo_X0_fallerAt ⟨Nat.le_of_ble_eq_true rfl, Nat.le_of_ble_eq_true rfl⟩ (xrc E hw ky_1_100 rfl) rfl hl.1 rfl (Nat.le_of_ble_eq_true rfl) dX11_knew_5 ⟨Nat.le_of_ble_eq_true rfl, Nat.le_of_ble_eq_true rfl⟩ (fun r2 z1 H locs h hw => ?_)
    refine xsqastore (lv' := [(5, va_rf r2), (0, .ref (ad 0 100)), (1, .int p1), (2, .int p2), (3, .int p3), (4, .int p4)]) hx hb dX11_knew_8 hl (by decide) rfl (fun ls hl => ?_)
    refine lv_aload_n hx hb dX11_knew_10 rfl (lv_at hl 1 rfl) ?_
    refine xgC E hw (c1 := 11) (t := (1, 100)) rfl ky_0_100 fo_11_0 rfl qf_11_10 dX11_knew_11 ?_
    refine lv_iload_n hx hb dX11_knew_14 rfl (lv_at hl 3 rfl) ?_
    have hq := h
    clear h
    refine xcVA (As := [.int p2]) (rest := []) E hw hA (c_X0_fallerAt l D ad cs sk z1 1 p2 _ is_1 hq) kc_11_97 yo_X0_fallerAt ⟨Nat.le_of_ble_eq_true rfl, Nat.le_of_ble_eq_true rfl⟩ (xrc E hw ky_1_100 rfl) rfl hl.1 rfl (Nat.le_of_ble_eq_true rfl) dX11_knew_15 ⟨Nat.le_of_ble_eq_true rfl, Nat.le_of_ble_eq_true rfl⟩ (fun r4 z3 H locs h hw => ?_)
    refine xsqastore (lv' := [(6, va_rf r4), (5, va_rf r2), (0, .ref (ad 0 100)), (1, .int p1), (2, .int p2), (3, .int p3), (4, .int p4)]) hx hb dX11_knew_18 hl (by decide) (by simp [cat_rf]) (fun ls hl => ?_)
    refine xlqaload hx hb dX11_knew_20 (lv_at hl 1 rfl) ?_
    refine xnul (tgt := 44) hx hb dX11_knew_22 (by decide) (fun ea5 => ?_) (fun a5 ea5 => ?_)
    · replace h := h.1 ea5
      subst ea5
      have hl : lv_has ls 10 [(6, va_rf r4), (5, .null), (0, .ref (ad 0 100)), (1, .int p1), (2, .int p2), (3, .int p3), (4, .int p4)] := hl
      refine lv_ldc (v := -1000000001) hx hb hown (h0 _ qk_11_76) dX11_knew_44 ?_
      exact hret (-1000000001 : Int32) z3 H locs 46 ls hw rfl h dX11_knew_46
    · replace h := h.2 a5 ea5
      subst ea5
      have hl : lv_has ls 10 [(6, va_rf r4), (5, .ref a5), (0, .ref (ad 0 100)), (1, .int p1), (2, .int p2), (3, .int p3), (4, .int p4)] := hl
      refine xlqaload hx hb dX11_knew_25 (lv_at hl 0 rfl) ?_
      refine xnul (tgt := 44) hx hb dX11_knew_27 (by decide) (fun ea6 => ?_) (fun a6 ea6 => ?_)
      · replace h := h.1 ea6
        subst ea6
        have hl : lv_has ls 10 [(6, .null), (5, .ref a5), (0, .ref (ad 0 100)), (1, .int p1), (2, .int p2), (3, .int p3), (4, .int p4)] := hl
        refine lv_ldc (v := -1000000001) hx hb hown (h0 _ qk_11_76) dX11_knew_44 ?_
        exact hret (-1000000001 : Int32) z3 H locs 46 ls hw rfl h dX11_knew_46
      · replace h := h.2 a6 ea6
        subst ea6
        have hl : lv_has ls 10 [(6, .ref a6), (5, .ref a5), (0, .ref (ad 0 100)), (1, .int p1), (2, .int p2), (3, .int p3), (4, .int p4)] := hl
        refine lv_iload_n hx hb dX11_knew_30 rfl (lv_at hl 3 rfl) ?_
        refine lv_iload_n hx hb dX11_knew_31 rfl (lv_at hl 4 rfl) ?_
        refine lv_icmp_eq (tgt := 44) hx hb dX11_knew_32 (by decide) (fun c7 => ?_) (fun c7 => ?_)
        · replace h := h.1 c7
          refine lv_ldc (v := -1000000001) hx hb hown (h0 _ qk_11_76) dX11_knew_44 ?_
          exact hret (-1000000001 : Int32) z3 H locs 46 ls hw rfl h dX11_knew_46
        · replace h := h.2 c7
          refine lv_iload_n hx hb dX11_knew_35 rfl (lv_at hl 5 rfl) ?_
          refine lv_iload hx hb dX11_knew_36 (lv_at hl 6 rfl) ?_
          have hq := h
          clear h
          refine xcSI (As := [.int p3, .int p4]) (rest := []) E hw hA (c_X11_isPlace l D ad cs sk z3 p3 p4 _ hq) kc_11_125 yo_X11_isPlace ⟨Nat.le_of_ble_eq_true rfl, Nat.le_of_ble_eq_true rfl⟩ rfl hl.1 rfl (Nat.le_of_ble_eq_true rfl) dX11_knew_38 ⟨Nat.le_of_ble_eq_true rfl, Nat.le_of_ble_eq_true rfl⟩ (fun r9 z8 H locs h hw => ?_)
          refine lv_if_ne (tgt := 47) hx hb dX11_knew_41 (by decide) (fun c10 => ?_) (fun c10 => ?_)
          · replace h := h.1 c10
            refine lv_aload_n hx hb dX11_knew_47 rfl (lv_at hl 2 rfl) ?_
            refine xgC E hw (c1 := 11) (t := (4, 100)) rfl ky_0_100 fo_11_4 rfl qf_11_31 dX11_knew_48 ?_
            refine lv_aload hx hb dX11_knew_51 (lv_at hl 1 rfl) ?_
            refine lv_iload_n hx hb dX11_knew_53 rfl (lv_at hl 5 rfl) ?_
            refine lv_iload hx hb dX11_knew_54 (lv_at hl 6 rfl) ?_
            have hq := h
            clear h
            refine xcVI (As := [.ref a5, .int p3, .int p4]) (rest := []) E hw hA (c_X3_offFrom l D ad cs sk z8 4 a5 p3 p4 _ is_4 hq) kc_11_173 yo_X3_offFrom ⟨Nat.le_of_ble_eq_true rfl, Nat.le_of_ble_eq_true rfl⟩ (xrc E hw ky_4_100 rfl) rfl hl.1 rfl (Nat.le_of_ble_eq_true rfl) dX11_knew_56 ⟨Nat.le_of_ble_eq_true rfl, Nat.le_of_ble_eq_true rfl⟩ (fun r12 z11 H locs h hw => ?_)
            refine lv_istore (lv' := [(7, .int r12), (6, .ref a6), (5, .ref a5), (0, .ref (ad 0 100)), (1, .int p1), (2, .int p2), (3, .int p3), (4, .int p4)]) hx hb dX11_knew_59 hl (by decide) rfl (fun ls hl => ?_)
            refine lv_aload_n hx hb dX11_knew_61 rfl (lv_at hl 3 rfl) ?_
            refine xgC E hw (c1 := 11) (t := (4, 100)) rfl ky_0_100 fo_11_4 rfl qf_11_31 dX11_knew_62 ?_
            refine lv_aload hx hb dX11_knew_65 (lv_at hl 1 rfl) ?_
            refine lv_iload_n hx hb dX11_knew_67 rfl (lv_at hl 6 rfl) ?_
            refine lv_iload hx hb dX11_knew_68 (lv_at hl 7 rfl) ?_
            have hq := h
            clear h
            refine xcVI (As := [.ref a6, .int p3, .int p4]) (rest := []) E hw hA (c_X3_offFrom l D ad cs sk z11 4 a6 p3 p4 _ is_4 hq) kc_11_173 yo_X3_offFrom ⟨Nat.le_of_ble_eq_true rfl, Nat.le_of_ble_eq_true rfl⟩ (xrc E hw ky_4_100 rfl) rfl hl.1 rfl (Nat.le_of_ble_eq_true rfl) dX11_knew_70 ⟨Nat.le_of_ble_eq_true rfl, Nat.le_of_ble_eq_true rfl⟩ (fun r14 z13 H locs h hw => ?_)
            refine lv_pop hx hb dX11_knew_73 rfl ?_
            refine lv_iload_n hx hb dX11_knew_74 rfl (lv_at hl 6 rfl) ?_
            refine lv_aload_n hx hb dX11_knew_75 rfl (lv_at hl 3 rfl) ?_
            refine xgC E hw (c1 := 11) (t := (4, 100)) rfl ky_0_100 fo_11_4 rfl qf_11_31 dX11_knew_76 ?_
            refine xgI E hw (c1 := 3) rfl ky_4_100 fo_3_2 qf_11_151 dX11_knew_79 ?_
            refine lv_isub hx hb dX11_knew_82 ?_
            have hq := h
            clear h
            refine xcSI (As := [.int (p3 - (zI z13 4 2))]) (rest := []) E hw hA (c_X3_held l D ad cs sk z13 (p3 - (zI z13 4 2)) _ hq) kc_11_232 yo_X3_held ⟨Nat.le_of_ble_eq_true rfl, Nat.le_of_ble_eq_true rfl⟩ rfl hl.1 rfl (Nat.le_of_ble_eq_true rfl) dX11_knew_83 ⟨Nat.le_of_ble_eq_true rfl, Nat.le_of_ble_eq_true rfl⟩ (fun r16 z15 H locs h hw => ?_)
            refine lv_istore (lv' := [(8, .int r16), (7, .int r12), (6, .ref a6), (5, .ref a5), (0, .ref (ad 0 100)), (1, .int p1), (2, .int p2), (3, .int p3), (4, .int p4)]) hx hb dX11_knew_86 hl (by decide) rfl (fun ls hl => ?_)
            refine lv_iload hx hb dX11_knew_88 (lv_at hl 8 rfl) ?_
            refine lv_aload_n hx hb dX11_knew_90 rfl (lv_at hl 4 rfl) ?_
            refine xgC E hw (c1 := 11) (t := (4, 100)) rfl ky_0_100 fo_11_4 rfl qf_11_31 dX11_knew_91 ?_
            refine xgI E hw (c1 := 3) rfl ky_4_100 fo_3_3 qf_11_154 dX11_knew_94 ?_
            refine lv_isub hx hb dX11_knew_97 ?_
            have hq := h
            clear h
            refine xcSI (As := [.int (p4 - (zI z15 4 3))]) (rest := []) E hw hA (c_X3_held l D ad cs sk z15 (p4 - (zI z15 4 3)) _ hq) kc_11_232 yo_X3_held ⟨Nat.le_of_ble_eq_true rfl, Nat.le_of_ble_eq_true rfl⟩ rfl hl.1 rfl (Nat.le_of_ble_eq_true rfl) dX11_knew_98 ⟨Nat.le_of_ble_eq_true rfl, Nat.le_of_ble_eq_true rfl⟩ (fun r18 z17 H locs h hw => ?_)
            refine lv_istore (lv' := [(9, .int r18), (8, .int r16), (7, .int r12), (6, .ref a6), (5, .ref a5), (0, .ref (ad 0 100)), (1, .int p1), (2, .int p2), (3, .int p3), (4, .int p4)]) hx hb dX11_knew_101 hl (by decide) rfl (fun ls hl => ?_)
            refine lv_iload hx hb dX11_knew_103 (lv_at hl 2 rfl) ?_
            refine lv_aload_n hx hb dX11_knew_105 rfl (lv_at hl 5 rfl) ?_
            refine xgC E hw (c1 := 11) (t := (4, 100)) rfl ky_0_100 fo_11_4 rfl qf_11_31 dX11_knew_106 ?_
            refine lv_aload hx hb dX11_knew_109 (lv_at hl 4 rfl) ?_
            refine lv_iload hx hb dX11_knew_111 (lv_at hl 1 rfl) ?_
            refine lv_iload hx hb dX11_knew_113 (lv_at hl 0 rfl) ?_
            have hq := h
            clear h
            refine xcVI (As := [.ref a5, .int r16, .int r18]) (rest := [.int r12]) E hw hA (c_X3_offFrom l D ad cs sk z17 4 a5 r16 r18 _ is_4 hq) kc_11_173 yo_X3_offFrom ⟨Nat.le_of_ble_eq_true rfl, Nat.le_of_ble_eq_true rfl⟩ (xrc E hw ky_4_100 rfl) rfl hl.1 rfl (Nat.le_of_ble_eq_true rfl) dX11_knew_115 ⟨Nat.le_of_ble_eq_true rfl, Nat.le_of_ble_eq_true rfl⟩ (fun r20 z19 H locs h hw => ?_)
            refine lv_isub hx hb dX11_knew_118 ?_
            exact hret (r12 - r20) z19 H locs 119 ls hw rfl h dX11_knew_119
          · replace h := h.2 c10
            refine lv_ldc (v := -1000000001) hx hb hown (h0 _ qk_11_76) dX11_knew_44 ?_
            exact hret (-1000000001 : Int32) z8 H locs 46 ls hw rfl h dX11_knew_46
  exact b00 s.heap [] hw
def V_X11_two_169 (post : Int32 → ZS → Prop) (rr110 : ZS → Int32 → Int32 → Prop) (z : ZS) (v8 : Int32) (v9 : Int32) : Prop := V_X3_goOn z 4 (1 : Int32) (fun z32 => V_X3_goOn z32 5 (1 : Int32) (fun z34 => (∀ t36 : Int32, t36 = v9 + (1 : Int32) → rr110 z34 v8 t36)))
def V_X11_two_165 (post : Int32 → ZS → Prop) (rr110 : ZS → Int32 → Int32 → Prop) (z : ZS) (v9 : Int32) (v10 : Int32) : Prop := V_X11_two_169 post rr110 z v10 v9
def V_X11_two_110 (post : Int32 → ZS → Prop) : Nat → ZS → Int32 → Int32 → Prop
  | 0, _, _, _ => False
  | (n + 1), z, v8, v9 => (((400 : Int32) ≤ v9 → post v8 z) ∧ (¬ (400 : Int32) ≤ v9 → V_X3_hasLanded z 4 (fun r24 z23 => ((¬ r24 = 0 → post v8 z23) ∧ (r24 = 0 → V_X3_hasLanded z23 5 (fun r27 z26 => ((¬ r27 = 0 → post v8 z26) ∧ (r27 = 0 → V_X3_apartFrom z26 4 5 (fun r30 z29 => ((v8 = (-4 : Int32) → V_X11_two_165 post (V_X11_two_110 post n) z29 v9 r30) ∧ (¬ v8 = (-4 : Int32) → ((v8 ≤ r30 → V_X11_two_169 post (V_X11_two_110 post n) z29 v8 v9) ∧ (¬ v8 ≤ r30 → V_X11_two_165 post (V_X11_two_110 post n) z29 v9 r30)))))))))))))
def V_X11_two (z : ZS) (p1 : Int32) (p2 : Int32) (p3 : Int32) (p4 : Int32) (p5 : Int32) (post : Int32 → ZS → Prop) : Prop := V_X0_fallerAt z 1 p1 (fun r2 z1 => V_X0_fallerAt z1 1 p2 (fun r4 z3 => ((r2 = none → post (-1 : Int32) z3) ∧ (∀ a5 : Nat, r2 = some a5 → ((r4 = none → post (-1 : Int32) z3) ∧ (∀ a6 : Nat, r4 = some a6 → ((p1 = p2 → post (-1 : Int32) z3) ∧ (¬ p1 = p2 → V_X11_isGap z3 p3 (fun r9 z8 => ((r9 = 0 → post (-1 : Int32) z8) ∧ (¬ r9 = 0 → V_X11_isPlace z8 p4 p5 (fun r12 z11 => ((¬ r12 = 0 → V_X3_begin z11 4 a5 p4 p5 (1 : Int32) (fun z14 => V_X3_goOn z14 4 p3 (fun z16 => V_X3_held z16 (p4 + ((zI z16 1 3) * p3)) (fun r19 z18 => V_X3_begin z18 5 a6 r19 p5 (1 : Int32) (fun z20 => (∃ n38 : Nat, V_X11_two_110 post n38 z20 (-4 : Int32) (0 : Int32))))))) ∧ (r12 = 0 → post (-1 : Int32) z11))))))))))))))
set_option maxHeartbeats 4000000 in
set_option maxRecDepth 100000 in
theorem c_X11_two (l : Launch) (D : va_G) (ad : Nat → Nat → Nat) (cs : Nat → ClassId) (sk : (Nat → Nat) × (Nat → Nat)) (z : ZS) (p1 : Int32) (p2 : Int32) (p3 : Int32) (p4 : Int32) (p5 : Int32) (post : Int32 → ZS → Prop) (h : V_X11_two z p1 p2 p3 p4 p5 post) : MI l D ad cs sk yX11_two cX11_two 11 .int (rmq 5 0 0) [.ref (ad 0 100), .int p1, .int p2, .int p3, .int p4, .int p5] z post := by
  refine MI.of RX11 rfl (by decide) (Nat.le_of_ble_eq_true rfl) ?_
  intro p e s m args below meth c A Q E hw hA hret ls hl
  have hx := E.1.1
  have hb := E.1.2.1
  have hml := E.1.2.2.1
  have hown := E.1.2.2.2.1
  have h0 := E.1.2.2.2.2
  have hl : lv_has ls 11 [(0, .ref (ad 0 100)), (1, .int p1), (2, .int p2), (3, .int p3), (4, .int p4), (5, .int p5)] := hl
  unfold V_X11_two at h
  have b110 : ∀ (n : Nat) (z : ZS) (v8 : Int32) (v9 : Int32), ∀ (H : Heap) (locs : List Loc), OW D ad cs A s.heap z H locs → ∀ ls : Array Slot, lv_has ls 11 [(0, .ref (ad 0 100)), (8, .int v8), (9, .int v9)] → V_X11_two_110 post n z v8 v9 → W p l e (rmq 5 0 0) s m args below meth c H locs 0 0 Q (F0 m 110 ls []) := by
    intro n
    induction n with
    | zero =>
      intro z v8 v9 H locs hw ls hl h
      exact h.elim
    | succ n110x ih110 =>
      have b169 : ∀ (z : ZS) (v8 : Int32) (v9 : Int32), ∀ (H : Heap) (locs : List Loc), OW D ad cs A s.heap z H locs → ∀ ls : Array Slot, lv_has ls 11 [(0, .ref (ad 0 100)), (8, .int v8), (9, .int v9)] → V_X11_two_169 post (V_X11_two_110 post n110x) z v8 v9 → W p l e (rmq 5 0 0) s m args below meth c H locs 0 0 Q (F0 m 169 ls []) := by
        intro z v8 v9 H locs hw ls hl h
        unfold V_X11_two_169 at h
        refine lv_aload_n hx hb dX11_two_169 rfl (lv_at hl 0 rfl) ?_
        refine xgC E hw (c1 := 11) (t := (4, 100)) rfl ky_0_100 fo_11_4 rfl qf_11_31 dX11_two_170 ?_
        refine lv_iconst (v := 1) hx hb dX11_two_173 (by decide) ?_
        have hq := h
        clear h
        refine xcVV (As := [.int (1 : Int32)]) (rest := []) E hw hA (c_X3_goOn l D ad cs sk z 4 (1 : Int32) _ is_4 hq) kc_11_147 yo_X3_goOn ⟨Nat.le_of_ble_eq_true rfl, Nat.le_of_ble_eq_true rfl⟩ (xrc E hw ky_4_100 rfl) rfl hl.1 rfl (Nat.le_of_ble_eq_true rfl) dX11_two_174 ⟨Nat.le_of_ble_eq_true rfl, Nat.le_of_ble_eq_true rfl⟩ (fun z32 H locs h hw => ?_)
        refine lv_aload_n hx hb dX11_two_177 rfl (lv_at hl 0 rfl) ?_
        refine xgC E hw (c1 := 11) (t := (5, 100)) rfl ky_0_100 fo_11_5 rfl qf_11_35 dX11_two_178 ?_
        refine lv_iconst (v := 1) hx hb dX11_two_181 (by decide) ?_
        have hq := h
        clear h
        refine xcVV (As := [.int (1 : Int32)]) (rest := []) E hw hA (c_X3_goOn l D ad cs sk z32 5 (1 : Int32) _ is_5 hq) kc_11_147 yo_X3_goOn ⟨Nat.le_of_ble_eq_true rfl, Nat.le_of_ble_eq_true rfl⟩ (xrc E hw ky_5_100 rfl) rfl hl.1 rfl (Nat.le_of_ble_eq_true rfl) dX11_two_182 ⟨Nat.le_of_ble_eq_true rfl, Nat.le_of_ble_eq_true rfl⟩ (fun z34 H locs h hw => ?_)
        obtain ⟨t36, et36⟩ : ∃ y : Int32, y = v9 + (1 : Int32) := ⟨_, rfl⟩
        replace h := h t36 et36
        refine lv_iinc (v := t36) (lv' := [(9, .int t36), (0, .ref (ad 0 100)), (8, .int v8)]) hx hb dX11_two_185 hl (k := 2) rfl (by rw [et36]; rfl) (by decide) rfl (fun ls hl => ?_)
        refine lv_goto (tgt := 110) hx hb dX11_two_188 (by decide) ?_
        exact ih110 z34 v8 t36 H locs hw ls (lv_sub hl [1, 2, 0] rfl) h
      have b165 : ∀ (z : ZS) (v9 : Int32) (v10 : Int32), ∀ (H : Heap) (locs : List Loc), OW D ad cs A s.heap z H locs → ∀ ls : Array Slot, lv_has ls 11 [(0, .ref (ad 0 100)), (9, .int v9), (10, .int v10)] → V_X11_two_165 post (V_X11_two_110 post n110x) z v9 v10 → W p l e (rmq 5 0 0) s m args below meth c H locs 0 0 Q (F0 m 165 ls []) := by
        intro z v9 v10 H locs hw ls hl h
        unfold V_X11_two_165 at h
        refine lv_iload hx hb dX11_two_165 (lv_at hl 2 rfl) ?_
        refine lv_istore (lv' := [(8, .int v10), (0, .ref (ad 0 100)), (9, .int v9), (10, .int v10)]) hx hb dX11_two_167 hl (by decide) rfl (fun ls hl => ?_)
        exact b169 z v10 v9 H locs hw ls (lv_sub hl [1, 0, 2] rfl) h
      intro z v8 v9 H locs hw ls hl h
      unfold V_X11_two_110 at h
      refine lv_iload hx hb dX11_two_110 (lv_at hl 2 rfl) ?_
      refine lv_sipush (v := 400) hx hb dX11_two_112 (by decide) ?_
      refine lv_icmp_ge (tgt := 191) hx hb dX11_two_115 (by decide) (fun c22 => ?_) (fun c22 => ?_)
      · replace h := h.1 c22
        refine lv_iload hx hb dX11_two_191 (lv_at hl 1 rfl) ?_
        exact hret v8 z H locs 193 ls hw rfl h dX11_two_193
      · replace h := h.2 c22
        refine lv_aload_n hx hb dX11_two_118 rfl (lv_at hl 0 rfl) ?_
        refine xgC E hw (c1 := 11) (t := (4, 100)) rfl ky_0_100 fo_11_4 rfl qf_11_31 dX11_two_119 ?_
        have hq := h
        clear h
        refine xcVI (As := []) (rest := []) E hw hA (c_X3_hasLanded l D ad cs sk z 4 _ is_4 hq) kc_11_235 yo_X3_hasLanded ⟨Nat.le_of_ble_eq_true rfl, Nat.le_of_ble_eq_true rfl⟩ (xrc E hw ky_4_100 rfl) rfl hl.1 rfl (Nat.le_of_ble_eq_true rfl) dX11_two_122 ⟨Nat.le_of_ble_eq_true rfl, Nat.le_of_ble_eq_true rfl⟩ (fun r24 z23 H locs h hw => ?_)
        refine lv_if_ne (tgt := 191) hx hb dX11_two_125 (by decide) (fun c25 => ?_) (fun c25 => ?_)
        · replace h := h.1 c25
          refine lv_iload hx hb dX11_two_191 (lv_at hl 1 rfl) ?_
          exact hret v8 z23 H locs 193 ls hw rfl h dX11_two_193
        · replace h := h.2 c25
          refine lv_aload_n hx hb dX11_two_128 rfl (lv_at hl 0 rfl) ?_
          refine xgC E hw (c1 := 11) (t := (5, 100)) rfl ky_0_100 fo_11_5 rfl qf_11_35 dX11_two_129 ?_
          have hq := h
          clear h
          refine xcVI (As := []) (rest := []) E hw hA (c_X3_hasLanded l D ad cs sk z23 5 _ is_5 hq) kc_11_235 yo_X3_hasLanded ⟨Nat.le_of_ble_eq_true rfl, Nat.le_of_ble_eq_true rfl⟩ (xrc E hw ky_5_100 rfl) rfl hl.1 rfl (Nat.le_of_ble_eq_true rfl) dX11_two_132 ⟨Nat.le_of_ble_eq_true rfl, Nat.le_of_ble_eq_true rfl⟩ (fun r27 z26 H locs h hw => ?_)
          refine lv_if_ne (tgt := 191) hx hb dX11_two_135 (by decide) (fun c28 => ?_) (fun c28 => ?_)
          · replace h := h.1 c28
            refine lv_iload hx hb dX11_two_191 (lv_at hl 1 rfl) ?_
            exact hret v8 z26 H locs 193 ls hw rfl h dX11_two_193
          · replace h := h.2 c28
            refine lv_aload_n hx hb dX11_two_138 rfl (lv_at hl 0 rfl) ?_
            refine xgC E hw (c1 := 11) (t := (4, 100)) rfl ky_0_100 fo_11_4 rfl qf_11_31 dX11_two_139 ?_
            refine lv_aload_n hx hb dX11_two_142 rfl (lv_at hl 0 rfl) ?_
            refine xgC E hw (c1 := 11) (t := (5, 100)) rfl ky_0_100 fo_11_5 rfl qf_11_35 dX11_two_143 ?_
            have hq := h
            clear h
            refine xcVI (As := [.ref (ad 5 100)]) (rest := []) E hw hA (c_X3_apartFrom l D ad cs sk z26 4 5 _ is_4 is_5 hq) kc_11_239 yo_X3_apartFrom ⟨Nat.le_of_ble_eq_true rfl, Nat.le_of_ble_eq_true rfl⟩ (xrc E hw ky_4_100 rfl) rfl hl.1 rfl (Nat.le_of_ble_eq_true rfl) dX11_two_146 ⟨Nat.le_of_ble_eq_true rfl, Nat.le_of_ble_eq_true rfl⟩ (fun r30 z29 H locs h hw => ?_)
            refine lv_istore (lv' := [(10, .int r30), (0, .ref (ad 0 100)), (8, .int v8), (9, .int v9)]) hx hb dX11_two_149 hl (by decide) rfl (fun ls hl => ?_)
            refine lv_iload hx hb dX11_two_151 (lv_at hl 2 rfl) ?_
            refine lv_bipush (v := -4) hx hb dX11_two_153 (by decide) ?_
            refine lv_icmp_eq (tgt := 165) hx hb dX11_two_155 (by decide) (fun c31 => ?_) (fun c31 => ?_)
            · replace h := h.1 c31
              exact b165 z29 v9 r30 H locs hw ls (lv_sub hl [1, 3, 0] rfl) h
            · replace h := h.2 c31
              refine lv_iload hx hb dX11_two_158 (lv_at hl 0 rfl) ?_
              refine lv_iload hx hb dX11_two_160 (lv_at hl 2 rfl) ?_
              refine lv_icmp_ge (tgt := 169) hx hb dX11_two_162 (by decide) (fun c37 => ?_) (fun c37 => ?_)
              · replace h := h.1 c37
                exact b169 z29 v8 v9 H locs hw ls (lv_sub hl [1, 2, 3] rfl) h
              · replace h := h.2 c37
                exact b165 z29 v9 r30 H locs hw ls (lv_sub hl [1, 3, 0] rfl) h
  have b00 : ∀ (H : Heap) (locs : List Loc), OW D ad cs A s.heap z H locs → W p l e (rmq 5 0 0) s m args below meth c H locs 0 0 Q (F0 m 0 ls []) := by
    intro H locs hw
    refine lv_aload_n hx hb dX11_two_0 rfl (lv_at hl 0 rfl) ?_
    refine xgC E hw (c1 := 11) (t := (1, 100)) rfl ky_0_100 fo_11_0 rfl qf_11_10 dX11_two_1 ?_
    refine lv_iload_n hx hb dX11_two_4 rfl (lv_at hl 1 rfl) ?_
    have hq := h
    clear h
    refine xcVA (As := [.int p1]) (rest := []) E hw hA (c_X0_fallerAt l D ad cs sk z 1 p1 _ is_1 hq) kc_11_97 yo_X0_fallerAt ⟨Nat.le_of_ble_eq_true rfl, Nat.le_of_ble_eq_true rfl⟩ (xrc E hw ky_1_100 rfl) rfl hl.1 rfl (Nat.le_of_ble_eq_true rfl) dX11_two_5 ⟨Nat.le_of_ble_eq_true rfl, Nat.le_of_ble_eq_true rfl⟩ (fun r2 z1 H locs h hw => ?_)
    refine xsqastore (lv' := [(6, va_rf r2), (0, .ref (ad 0 100)), (1, .int p1), (2, .int p2), (3, .int p3), (4, .int p4), (5, .int p5)]) hx hb dX11_two_8 hl (by decide) rfl (fun ls hl => ?_)
    refine lv_aload_n hx hb dX11_two_10 rfl (lv_at hl 1 rfl) ?_
    refine xgC E hw (c1 := 11) (t := (1, 100)) rfl ky_0_100 fo_11_0 rfl qf_11_10 dX11_two_11 ?_
    refine lv_iload_n hx hb dX11_two_14 rfl (lv_at hl 3 rfl) ?_
    have hq := h
    clear h
    refine xcVA (As := [.int p2]) (rest := []) E hw hA (c_X0_fallerAt l D ad cs sk z1 1 p2 _ is_1 hq) kc_11_97 yo_X0_fallerAt ⟨Nat.le_of_ble_eq_true rfl, Nat.le_of_ble_eq_true rfl⟩ (xrc E hw ky_1_100 rfl) rfl hl.1 rfl (Nat.le_of_ble_eq_true rfl) dX11_two_15 ⟨Nat.le_of_ble_eq_true rfl, Nat.le_of_ble_eq_true rfl⟩ (fun r4 z3 H locs h hw => ?_)
    refine xsqastore (lv' := [(7, va_rf r4), (6, va_rf r2), (0, .ref (ad 0 100)), (1, .int p1), (2, .int p2), (3, .int p3), (4, .int p4), (5, .int p5)]) hx hb dX11_two_18 hl (by decide) (by simp [cat_rf]) (fun ls hl => ?_)
    refine xlqaload hx hb dX11_two_20 (lv_at hl 1 rfl) ?_
    refine xnul (tgt := 52) hx hb dX11_two_22 (by decide) (fun ea5 => ?_) (fun a5 ea5 => ?_)
    · replace h := h.1 ea5
      subst ea5
      have hl : lv_has ls 11 [(7, va_rf r4), (6, .null), (0, .ref (ad 0 100)), (1, .int p1), (2, .int p2), (3, .int p3), (4, .int p4), (5, .int p5)] := hl
      refine lv_iconst (v := -1) hx hb dX11_two_52 (by decide) ?_
      exact hret (-1 : Int32) z3 H locs 53 ls hw rfl h dX11_two_53
    · replace h := h.2 a5 ea5
      subst ea5
      have hl : lv_has ls 11 [(7, va_rf r4), (6, .ref a5), (0, .ref (ad 0 100)), (1, .int p1), (2, .int p2), (3, .int p3), (4, .int p4), (5, .int p5)] := hl
      refine xlqaload hx hb dX11_two_25 (lv_at hl 0 rfl) ?_
      refine xnul (tgt := 52) hx hb dX11_two_27 (by decide) (fun ea6 => ?_) (fun a6 ea6 => ?_)
      · replace h := h.1 ea6
        subst ea6
        have hl : lv_has ls 11 [(7, .null), (6, .ref a5), (0, .ref (ad 0 100)), (1, .int p1), (2, .int p2), (3, .int p3), (4, .int p4), (5, .int p5)] := hl
        refine lv_iconst (v := -1) hx hb dX11_two_52 (by decide) ?_
        exact hret (-1 : Int32) z3 H locs 53 ls hw rfl h dX11_two_53
      · replace h := h.2 a6 ea6
        subst ea6
        have hl : lv_has ls 11 [(7, .ref a6), (6, .ref a5), (0, .ref (ad 0 100)), (1, .int p1), (2, .int p2), (3, .int p3), (4, .int p4), (5, .int p5)] := hl
        refine lv_iload_n hx hb dX11_two_30 rfl (lv_at hl 3 rfl) ?_
        refine lv_iload_n hx hb dX11_two_31 rfl (lv_at hl 4 rfl) ?_
        refine lv_icmp_eq (tgt := 52) hx hb dX11_two_32 (by decide) (fun c7 => ?_) (fun c7 => ?_)
        · replace h := h.1 c7
          refine lv_iconst (v := -1) hx hb dX11_two_52 (by decide) ?_
          exact hret (-1 : Int32) z3 H locs 53 ls hw rfl h dX11_two_53
        · replace h := h.2 c7
          refine lv_iload_n hx hb dX11_two_35 rfl (lv_at hl 5 rfl) ?_
          have hq := h
          clear h
          refine xcSI (As := [.int p3]) (rest := []) E hw hA (c_X11_isGap l D ad cs sk z3 p3 _ hq) kc_11_177 yo_X11_isGap ⟨Nat.le_of_ble_eq_true rfl, Nat.le_of_ble_eq_true rfl⟩ rfl hl.1 rfl (Nat.le_of_ble_eq_true rfl) dX11_two_36 ⟨Nat.le_of_ble_eq_true rfl, Nat.le_of_ble_eq_true rfl⟩ (fun r9 z8 H locs h hw => ?_)
          refine lv_if_eq (tgt := 52) hx hb dX11_two_39 (by decide) (fun c10 => ?_) (fun c10 => ?_)
          · replace h := h.1 c10
            refine lv_iconst (v := -1) hx hb dX11_two_52 (by decide) ?_
            exact hret (-1 : Int32) z8 H locs 53 ls hw rfl h dX11_two_53
          · replace h := h.2 c10
            refine lv_iload hx hb dX11_two_42 (lv_at hl 6 rfl) ?_
            refine lv_iload hx hb dX11_two_44 (lv_at hl 7 rfl) ?_
            have hq := h
            clear h
            refine xcSI (As := [.int p4, .int p5]) (rest := []) E hw hA (c_X11_isPlace l D ad cs sk z8 p4 p5 _ hq) kc_11_125 yo_X11_isPlace ⟨Nat.le_of_ble_eq_true rfl, Nat.le_of_ble_eq_true rfl⟩ rfl hl.1 rfl (Nat.le_of_ble_eq_true rfl) dX11_two_46 ⟨Nat.le_of_ble_eq_true rfl, Nat.le_of_ble_eq_true rfl⟩ (fun r12 z11 H locs h hw => ?_)
            refine lv_if_ne (tgt := 54) hx hb dX11_two_49 (by decide) (fun c13 => ?_) (fun c13 => ?_)
            · replace h := h.1 c13
              refine lv_aload_n hx hb dX11_two_54 rfl (lv_at hl 2 rfl) ?_
              refine xgC E hw (c1 := 11) (t := (4, 100)) rfl ky_0_100 fo_11_4 rfl qf_11_31 dX11_two_55 ?_
              refine lv_aload hx hb dX11_two_58 (lv_at hl 1 rfl) ?_
              refine lv_iload hx hb dX11_two_60 (lv_at hl 6 rfl) ?_
              refine lv_iload hx hb dX11_two_62 (lv_at hl 7 rfl) ?_
              refine lv_iconst (v := 1) hx hb dX11_two_64 (by decide) ?_
              have hq := h
              clear h
              refine xcVV (As := [.ref a5, .int p4, .int p5, .int (1 : Int32)]) (rest := []) E hw hA (c_X3_begin l D ad cs sk z11 4 a5 p4 p5 (1 : Int32) _ is_4 hq) kc_11_143 yo_X3_begin ⟨Nat.le_of_ble_eq_true rfl, Nat.le_of_ble_eq_true rfl⟩ (xrc E hw ky_4_100 rfl) rfl hl.1 rfl (Nat.le_of_ble_eq_true rfl) dX11_two_65 ⟨Nat.le_of_ble_eq_true rfl, Nat.le_of_ble_eq_true rfl⟩ (fun z14 H locs h hw => ?_)
              refine lv_aload_n hx hb dX11_two_68 rfl (lv_at hl 2 rfl) ?_
              refine xgC E hw (c1 := 11) (t := (4, 100)) rfl ky_0_100 fo_11_4 rfl qf_11_31 dX11_two_69 ?_
              refine lv_iload_n hx hb dX11_two_72 rfl (lv_at hl 5 rfl) ?_
              have hq := h
              clear h
              refine xcVV (As := [.int p3]) (rest := []) E hw hA (c_X3_goOn l D ad cs sk z14 4 p3 _ is_4 hq) kc_11_147 yo_X3_goOn ⟨Nat.le_of_ble_eq_true rfl, Nat.le_of_ble_eq_true rfl⟩ (xrc E hw ky_4_100 rfl) rfl hl.1 rfl (Nat.le_of_ble_eq_true rfl) dX11_two_73 ⟨Nat.le_of_ble_eq_true rfl, Nat.le_of_ble_eq_true rfl⟩ (fun z16 H locs h hw => ?_)
              refine lv_aload_n hx hb dX11_two_76 rfl (lv_at hl 2 rfl) ?_
              refine xgC E hw (c1 := 11) (t := (5, 100)) rfl ky_0_100 fo_11_5 rfl qf_11_35 dX11_two_77 ?_
              refine lv_aload hx hb dX11_two_80 (lv_at hl 0 rfl) ?_
              refine lv_iload hx hb dX11_two_82 (lv_at hl 6 rfl) ?_
              refine lv_aload_n hx hb dX11_two_84 rfl (lv_at hl 2 rfl) ?_
              refine xgC E hw (c1 := 11) (t := (1, 100)) rfl ky_0_100 fo_11_0 rfl qf_11_10 dX11_two_85 ?_
              refine xgI E hw (c1 := 0) rfl ky_1_100 fo_0_3 qf_11_91 dX11_two_88 ?_
              refine lv_iload_n hx hb dX11_two_91 rfl (lv_at hl 5 rfl) ?_
              refine lv_imul hx hb dX11_two_92 ?_
              refine lv_iadd hx hb dX11_two_93 ?_
              have hq := h
              clear h
              refine xcSI (As := [.int (p4 + ((zI z16 1 3) * p3))]) (rest := [.ref a6, .ref (ad 5 100)]) E hw hA (c_X3_held l D ad cs sk z16 (p4 + ((zI z16 1 3) * p3)) _ hq) kc_11_232 yo_X3_held ⟨Nat.le_of_ble_eq_true rfl, Nat.le_of_ble_eq_true rfl⟩ rfl hl.1 rfl (Nat.le_of_ble_eq_true rfl) dX11_two_94 ⟨Nat.le_of_ble_eq_true rfl, Nat.le_of_ble_eq_true rfl⟩ (fun r19 z18 H locs h hw => ?_)
              refine lv_iload hx hb dX11_two_97 (lv_at hl 7 rfl) ?_
              refine lv_iconst (v := 1) hx hb dX11_two_99 (by decide) ?_
              have hq := h
              clear h
              refine xcVV (As := [.ref a6, .int r19, .int p5, .int (1 : Int32)]) (rest := []) E hw hA (c_X3_begin l D ad cs sk z18 5 a6 r19 p5 (1 : Int32) _ is_5 hq) kc_11_143 yo_X3_begin ⟨Nat.le_of_ble_eq_true rfl, Nat.le_of_ble_eq_true rfl⟩ (xrc E hw ky_5_100 rfl) rfl hl.1 rfl (Nat.le_of_ble_eq_true rfl) dX11_two_100 ⟨Nat.le_of_ble_eq_true rfl, Nat.le_of_ble_eq_true rfl⟩ (fun z20 H locs h hw => ?_)
              refine lv_bipush (v := -4) hx hb dX11_two_103 (by decide) ?_
              refine lv_istore (lv' := [(8, .int (-4 : Int32)), (7, .ref a6), (6, .ref a5), (0, .ref (ad 0 100)), (1, .int p1), (2, .int p2), (3, .int p3), (4, .int p4), (5, .int p5)]) hx hb dX11_two_105 hl (by decide) rfl (fun ls hl => ?_)
              refine lv_iconst (v := 0) hx hb dX11_two_107 (by decide) ?_
              refine lv_istore (lv' := [(9, .int (0 : Int32)), (8, .int (-4 : Int32)), (7, .ref a6), (6, .ref a5), (0, .ref (ad 0 100)), (1, .int p1), (2, .int p2), (3, .int p3), (4, .int p4), (5, .int p5)]) hx hb dX11_two_108 hl (by decide) rfl (fun ls hl => ?_)
              obtain ⟨n38, h⟩ := h
              exact b110 n38 z20 (-4 : Int32) (0 : Int32) H locs hw ls (lv_sub hl [4, 1, 0] rfl) h
            · replace h := h.2 c13
              refine lv_iconst (v := -1) hx hb dX11_two_52 (by decide) ?_
              exact hret (-1 : Int32) z11 H locs 53 ls hw rfl h dX11_two_53
  exact b00 s.heap [] hw
def V_X11_habits_142 (post : Int32 → ZS → Prop) (rr70 : ZS → Int32 → Int32 → Int32 → Int32 → Int32 → Int32 → Int32 → Int32 → Int32 → Prop) (z : ZS) (v2 : Int32) (v3 : Int32) (v4 : Int32) (v5 : Int32) (v6 : Int32) (v7 : Int32) (v8 : Int32) (v9 : Int32) (v10 : Int32) : Prop := (∀ t21 : Int32, t21 = v10 + (1 : Int32) → rr70 z v2 v3 v4 v5 v6 v7 v8 v9 t21)
def V_X11_habits_70 (post : Int32 → ZS → Prop) : Nat → ZS → Int32 → Int32 → Int32 → Int32 → Int32 → Int32 → Int32 → Int32 → Int32 → Prop
  | 0, _, _, _, _, _, _, _, _, _, _ => False
  | (n + 1), z, v2, v3, v4, v5, v6, v7, v8, v9, v10 => (((8 : Int32) ≤ v10 → post v9 z) ∧ (¬ (8 : Int32) ≤ v10 → V_X4_ofKind z v10 (0 : Int32) v7 v8 (fun q16 z17 => V_X3_offFrom z17 4 q16 v2 v3 (fun r19 z18 => ((v6 < (if 0 ≤ ((zI z18 4 2) - v4) then ((zI z18 4 2) - v4) else 0 - ((zI z18 4 2) - v4)) → V_X11_habits_142 post (V_X11_habits_70 post n) z18 v2 v3 v4 v5 v6 v7 v8 v9 v10) ∧ (¬ v6 < (if 0 ≤ ((zI z18 4 2) - v4) then ((zI z18 4 2) - v4) else 0 - ((zI z18 4 2) - v4)) → ((v6 < (if 0 ≤ ((zI z18 4 3) - v5) then ((zI z18 4 3) - v5) else 0 - ((zI z18 4 3) - v5)) → V_X11_habits_142 post (V_X11_habits_70 post n) z18 v2 v3 v4 v5 v6 v7 v8 v9 v10) ∧ (¬ v6 < (if 0 ≤ ((zI z18 4 3) - v5) then ((zI z18 4 3) - v5) else 0 - ((zI z18 4 3) - v5)) → (∀ t23 : Int32, t23 = (v9 ||| ((1 : Int32) <<< (v10 &&& 31))) → V_X11_habits_142 post (V_X11_habits_70 post n) z18 v2 v3 v4 v5 v6 v7 v8 t23 v10)))))))))
def V_X11_habits (z : ZS) (p1 : Int32) (p2 : Int32) (p3 : Int32) (p4 : Int32) (p5 : Int32) (p6 : Int32) (post : Int32 → ZS → Prop) : Prop := (∀ t1 : Int32, t1 = (p1 / (100 : Int32)) → (∀ t2 : Int32, t2 = (p1 - p1 / (100 : Int32) * (100 : Int32)) → ((p1 < 0 → post (-1 : Int32) z) ∧ (¬ p1 < 0 → (((9 : Int32) < t1 → post (-1 : Int32) z) ∧ (¬ (9 : Int32) < t1 → ((t2 ≤ (20 : Int32) → V_X11_isPlace z p2 p3 (fun r7 z6 => ((r7 = 0 → post (-1 : Int32) z6) ∧ (¬ r7 = 0 → V_X11_isPlace z6 p4 p5 (fun r10 z9 => ((r10 = 0 → post (-1 : Int32) z9) ∧ (¬ r10 = 0 → V_X11_isFrom z9 (0 : Int32) p6 (9999 : Int32) (fun r13 z12 => ((¬ r13 = 0 → (∃ n24 : Nat, n24 ≤ 9 ∧ V_X11_habits_70 post n24 z12 p2 p3 p4 p5 p6 t1 t2 (0 : Int32) (0 : Int32))) ∧ (r13 = 0 → post (-1 : Int32) z12)))))))))) ∧ (¬ t2 ≤ (20 : Int32) → post (-1 : Int32) z))))))))
set_option maxHeartbeats 4000000 in
set_option maxRecDepth 100000 in
theorem c_X11_habits (l : Launch) (D : va_G) (ad : Nat → Nat → Nat) (cs : Nat → ClassId) (sk : (Nat → Nat) × (Nat → Nat)) (z : ZS) (p1 : Int32) (p2 : Int32) (p3 : Int32) (p4 : Int32) (p5 : Int32) (p6 : Int32) (post : Int32 → ZS → Prop) (h : V_X11_habits z p1 p2 p3 p4 p5 p6 post) : MI l D ad cs sk yX11_habits cX11_habits 11 .int (rmq 6 9 72) [.ref (ad 0 100), .int p1, .int p2, .int p3, .int p4, .int p5, .int p6] z post := by
  refine MI.of RX11 rfl (by decide) (Nat.le_of_ble_eq_true rfl) ?_
  intro p e s m args below meth c A Q E hw hA hret ls hl
  have hx := E.1.1
  have hb := E.1.2.1
  have hml := E.1.2.2.1
  have hown := E.1.2.2.2.1
  have h0 := E.1.2.2.2.2
  have hl : lv_has ls 11 [(0, .ref (ad 0 100)), (1, .int p1), (2, .int p2), (3, .int p3), (4, .int p4), (5, .int p5), (6, .int p6)] := hl
  unfold V_X11_habits at h
  have b70 : ∀ (n : Nat), n ≤ 9 → ∀ (z : ZS) (v2 : Int32) (v3 : Int32) (v4 : Int32) (v5 : Int32) (v6 : Int32) (v7 : Int32) (v8 : Int32) (v9 : Int32) (v10 : Int32), ∀ (H : Heap) (locs : List Loc), OW D ad cs A s.heap z H locs → ∀ ls : Array Slot, lv_has ls 11 [(0, .ref (ad 0 100)), (2, .int v2), (3, .int v3), (4, .int v4), (5, .int v5), (6, .int v6), (7, .int v7), (8, .int v8), (9, .int v9), (10, .int v10)] → V_X11_habits_70 post n z v2 v3 v4 v5 v6 v7 v8 v9 v10 → W p l e (rmq 6 9 72) s m args below meth c H locs ((9 - n) * 1) ((9 - n) * 8) Q (F0 m 70 ls []) := by
    intro n
    induction n with
    | zero =>
      intro hN
      intro z v2 v3 v4 v5 v6 v7 v8 v9 v10 H locs hw ls hl h
      exact h.elim
    | succ n70x ih70 =>
      intro hN
      have b142 : ∀ (z : ZS) (v2 : Int32) (v3 : Int32) (v4 : Int32) (v5 : Int32) (v6 : Int32) (v7 : Int32) (v8 : Int32) (v9 : Int32) (v10 : Int32), ∀ (H : Heap) (locs : List Loc), OW D ad cs A s.heap z H locs → ∀ ls : Array Slot, lv_has ls 11 [(0, .ref (ad 0 100)), (2, .int v2), (3, .int v3), (4, .int v4), (5, .int v5), (6, .int v6), (7, .int v7), (8, .int v8), (9, .int v9), (10, .int v10)] → V_X11_habits_142 post (V_X11_habits_70 post n70x) z v2 v3 v4 v5 v6 v7 v8 v9 v10 → W p l e (rmq 6 9 72) s m args below meth c H locs ((9 - n70x) * 1) ((9 - n70x) * 8) Q (F0 m 142 ls []) := by
        intro z v2 v3 v4 v5 v6 v7 v8 v9 v10 H locs hw ls hl h
        unfold V_X11_habits_142 at h
        obtain ⟨t21, et21⟩ : ∃ y : Int32, y = v10 + (1 : Int32) := ⟨_, rfl⟩
        replace h := h t21 et21
        refine lv_iinc (v := t21) (lv' := [(10, .int t21), (0, .ref (ad 0 100)), (2, .int v2), (3, .int v3), (4, .int v4), (5, .int v5), (6, .int v6), (7, .int v7), (8, .int v8), (9, .int v9)]) hx hb dX11_habits_142 hl (k := 9) rfl (by rw [et21]; rfl) (by decide) rfl (fun ls hl => ?_)
        refine lv_goto (tgt := 70) hx hb dX11_habits_145 (by decide) ?_
        exact W.widen (by first | omega | (simp only [rmq]; omega)) (by first | omega | (simp only [rmq]; omega)) (ih70 (by omega) z v2 v3 v4 v5 v6 v7 v8 v9 t21 H locs hw ls (lv_sub hl [1, 2, 3, 4, 5, 6, 7, 8, 9, 0] rfl) h)
      intro z v2 v3 v4 v5 v6 v7 v8 v9 v10 H locs hw ls hl h
      unfold V_X11_habits_70 at h
      refine lv_iload hx hb dX11_habits_70 (lv_at hl 9 rfl) ?_
      refine lv_bipush (v := 8) hx hb dX11_habits_72 (by decide) ?_
      refine lv_icmp_ge (tgt := 148) hx hb dX11_habits_74 (by decide) (fun c15 => ?_) (fun c15 => ?_)
      · replace h := h.1 c15
        refine lv_iload hx hb dX11_habits_148 (lv_at hl 8 rfl) ?_
        exact W.widen (by first | omega | (simp only [rmq]; omega)) (by first | omega | (simp only [rmq]; omega)) (hret v9 z H locs 150 ls hw rfl h dX11_habits_150)
      · replace h := h.2 c15
        refine lv_aload_n hx hb dX11_habits_77 rfl (lv_at hl 0 rfl) ?_
        refine xgC E hw (c1 := 11) (t := (4, 100)) rfl ky_0_100 fo_11_4 rfl qf_11_31 dX11_habits_78 ?_
        refine lv_iload hx hb dX11_habits_81 (lv_at hl 9 rfl) ?_
        refine lv_iconst (v := 0) hx hb dX11_habits_83 (by decide) ?_
        refine lv_iload hx hb dX11_habits_84 (lv_at hl 6 rfl) ?_
        refine lv_iload hx hb dX11_habits_86 (lv_at hl 7 rfl) ?_
        have hq := h
        clear h
        refine xcSA (As := [.int v10, .int (0 : Int32), .int v7, .int v8]) (rest := [.ref (ad 4 100)]) E hw hA (c_X4_ofKind l D ad cs sk z v10 (0 : Int32) v7 v8 _ hq) kc_11_243 yo_X4_ofKind ⟨Nat.le_of_ble_eq_true rfl, Nat.le_of_ble_eq_true rfl⟩ rfl hl.1 rfl (Nat.le_of_ble_eq_true rfl) dX11_habits_88 ⟨by simp only [rmq]; omega, by simp only [rmq]; omega⟩ (fun r z17 H locs h hw => ?_)
        obtain ⟨q16, rfl, h⟩ := h
        refine lv_iload_n hx hb dX11_habits_91 rfl (lv_at hl 1 rfl) ?_
        refine lv_iload_n hx hb dX11_habits_92 rfl (lv_at hl 2 rfl) ?_
        have hq := h
        clear h
        refine xcVI (As := [.ref q16, .int v2, .int v3]) (rest := []) E hw hA (c_X3_offFrom l D ad cs sk z17 4 q16 v2 v3 _ is_4 hq) kc_11_173 yo_X3_offFrom ⟨Nat.le_of_ble_eq_true rfl, Nat.le_of_ble_eq_true rfl⟩ (xrc E hw ky_4_100 rfl) rfl hl.1 rfl (Nat.le_of_ble_eq_true rfl) dX11_habits_93 ⟨by simp only [rmq]; omega, by simp only [rmq]; omega⟩ (fun r19 z18 H locs h hw => ?_)
        refine lv_pop hx hb dX11_habits_96 rfl ?_
        refine lv_aload_n hx hb dX11_habits_97 rfl (lv_at hl 0 rfl) ?_
        refine xgC E hw (c1 := 11) (t := (4, 100)) rfl ky_0_100 fo_11_4 rfl qf_11_31 dX11_habits_98 ?_
        refine xgI E hw (c1 := 3) rfl ky_4_100 fo_3_2 qf_11_151 dX11_habits_101 ?_
        refine lv_iload hx hb dX11_habits_104 (lv_at hl 3 rfl) ?_
        refine lv_isub hx hb dX11_habits_106 ?_
        refine va_mabs hx hb (hml.trans hl.1.symm) hown (h0 _ qm_11_225) (h0 _ qs_ib_Math_abs_name) (h0 _ qn_Math) (h0 _ qc_Math_abs) (Nat.le_of_ble_eq_true rfl) (Nat.le_of_ble_eq_true rfl) (by simp only [rmq]; omega) (by simp only [rmq]; omega) dX11_habits_107 ?_
        refine lv_iload hx hb dX11_habits_110 (lv_at hl 5 rfl) ?_
        refine lv_icmp_gt (tgt := 142) hx hb dX11_habits_112 (by decide) (fun c20 => ?_) (fun c20 => ?_)
        · replace h := h.1 c20
          exact W.widen (by first | omega | (simp only [rmq]; omega)) (by first | omega | (simp only [rmq]; omega)) (b142 z18 v2 v3 v4 v5 v6 v7 v8 v9 v10 H locs hw ls (lv_sub hl [0, 1, 2, 3, 4, 5, 6, 7, 8, 9] rfl) h)
        · replace h := h.2 c20
          refine lv_aload_n hx hb dX11_habits_115 rfl (lv_at hl 0 rfl) ?_
          refine xgC E hw (c1 := 11) (t := (4, 100)) rfl ky_0_100 fo_11_4 rfl qf_11_31 dX11_habits_116 ?_
          refine xgI E hw (c1 := 3) rfl ky_4_100 fo_3_3 qf_11_154 dX11_habits_119 ?_
          refine lv_iload hx hb dX11_habits_122 (lv_at hl 4 rfl) ?_
          refine lv_isub hx hb dX11_habits_124 ?_
          refine va_mabs hx hb (hml.trans hl.1.symm) hown (h0 _ qm_11_225) (h0 _ qs_ib_Math_abs_name) (h0 _ qn_Math) (h0 _ qc_Math_abs) (Nat.le_of_ble_eq_true rfl) (Nat.le_of_ble_eq_true rfl) (by simp only [rmq]; omega) (by simp only [rmq]; omega) dX11_habits_125 ?_
          refine lv_iload hx hb dX11_habits_128 (lv_at hl 5 rfl) ?_
          refine lv_icmp_gt (tgt := 142) hx hb dX11_habits_130 (by decide) (fun c22 => ?_) (fun c22 => ?_)
          · replace h := h.1 c22
            exact W.widen (by first | omega | (simp only [rmq]; omega)) (by first | omega | (simp only [rmq]; omega)) (b142 z18 v2 v3 v4 v5 v6 v7 v8 v9 v10 H locs hw ls (lv_sub hl [0, 1, 2, 3, 4, 5, 6, 7, 8, 9] rfl) h)
          · replace h := h.2 c22
            refine lv_iload hx hb dX11_habits_133 (lv_at hl 8 rfl) ?_
            refine lv_iconst (v := 1) hx hb dX11_habits_135 (by decide) ?_
            refine lv_iload hx hb dX11_habits_136 (lv_at hl 9 rfl) ?_
            refine lv_ishl hx hb dX11_habits_138 ?_
            refine lv_ior hx hb dX11_habits_139 ?_
            refine lv_topi (fun t23 et23 => ?_)
            replace h := h t23 et23
            refine lv_istore (lv' := [(9, .int t23), (0, .ref (ad 0 100)), (2, .int v2), (3, .int v3), (4, .int v4), (5, .int v5), (6, .int v6), (7, .int v7), (8, .int v8), (10, .int v10)]) hx hb dX11_habits_140 hl (by decide) rfl (fun ls hl => ?_)
            exact W.widen (by first | omega | (simp only [rmq]; omega)) (by first | omega | (simp only [rmq]; omega)) (b142 z18 v2 v3 v4 v5 v6 v7 v8 t23 v10 H locs hw ls (lv_sub hl [1, 2, 3, 4, 5, 6, 7, 8, 0, 9] rfl) h)
  have b00 : ∀ (H : Heap) (locs : List Loc), OW D ad cs A s.heap z H locs → W p l e (rmq 6 9 72) s m args below meth c H locs 0 0 Q (F0 m 0 ls []) := by
    intro H locs hw
    refine lv_iload_n hx hb dX11_habits_0 rfl (lv_at hl 1 rfl) ?_
    refine lv_bipush (v := 100) hx hb dX11_habits_1 (by decide) ?_
    refine lv_idiv hx hb dX11_habits_3 (by decide) ?_
    refine lv_topi (fun t1 et1 => ?_)
    replace h := h t1 et1
    refine lv_istore (lv' := [(7, .int t1), (0, .ref (ad 0 100)), (1, .int p1), (2, .int p2), (3, .int p3), (4, .int p4), (5, .int p5), (6, .int p6)]) hx hb dX11_habits_4 hl (by decide) rfl (fun ls hl => ?_)
    refine lv_iload_n hx hb dX11_habits_6 rfl (lv_at hl 2 rfl) ?_
    refine lv_bipush (v := 100) hx hb dX11_habits_7 (by decide) ?_
    refine lv_irem hx hb dX11_habits_9 (by decide) ?_
    refine lv_topi (fun t2 et2 => ?_)
    replace h := h t2 et2
    refine lv_istore (lv' := [(8, .int t2), (7, .int t1), (0, .ref (ad 0 100)), (1, .int p1), (2, .int p2), (3, .int p3), (4, .int p4), (5, .int p5), (6, .int p6)]) hx hb dX11_habits_10 hl (by decide) rfl (fun ls hl => ?_)
    refine lv_iload_n hx hb dX11_habits_12 rfl (lv_at hl 3 rfl) ?_
    refine lv_if_lt (tgt := 30) hx hb dX11_habits_13 (by decide) (fun c3 => ?_) (fun c3 => ?_)
    · replace h := h.1 c3
      refine lv_iconst (v := -1) hx hb dX11_habits_30 (by decide) ?_
      exact W.widen (by first | omega | (simp only [rmq]; omega)) (by first | omega | (simp only [rmq]; omega)) (hret (-1 : Int32) z H locs 31 ls hw rfl h dX11_habits_31)
    · replace h := h.2 c3
      refine lv_iload hx hb dX11_habits_16 (lv_at hl 1 rfl) ?_
      refine lv_bipush (v := 9) hx hb dX11_habits_18 (by decide) ?_
      refine lv_icmp_gt (tgt := 30) hx hb dX11_habits_20 (by decide) (fun c4 => ?_) (fun c4 => ?_)
      · replace h := h.1 c4
        refine lv_iconst (v := -1) hx hb dX11_habits_30 (by decide) ?_
        exact W.widen (by first | omega | (simp only [rmq]; omega)) (by first | omega | (simp only [rmq]; omega)) (hret (-1 : Int32) z H locs 31 ls hw rfl h dX11_habits_31)
      · replace h := h.2 c4
        refine lv_iload hx hb dX11_habits_23 (lv_at hl 0 rfl) ?_
        refine lv_bipush (v := 20) hx hb dX11_habits_25 (by decide) ?_
        refine lv_icmp_le (tgt := 32) hx hb dX11_habits_27 (by decide) (fun c5 => ?_) (fun c5 => ?_)
        · replace h := h.1 c5
          refine lv_iload_n hx hb dX11_habits_32 rfl (lv_at hl 4 rfl) ?_
          refine lv_iload_n hx hb dX11_habits_33 rfl (lv_at hl 5 rfl) ?_
          have hq := h
          clear h
          refine xcSI (As := [.int p2, .int p3]) (rest := []) E hw hA (c_X11_isPlace l D ad cs sk z p2 p3 _ hq) kc_11_125 yo_X11_isPlace ⟨Nat.le_of_ble_eq_true rfl, Nat.le_of_ble_eq_true rfl⟩ rfl hl.1 rfl (Nat.le_of_ble_eq_true rfl) dX11_habits_34 ⟨by simp only [rmq]; omega, by simp only [rmq]; omega⟩ (fun r7 z6 H locs h hw => ?_)
          refine lv_if_eq (tgt := 62) hx hb dX11_habits_37 (by decide) (fun c8 => ?_) (fun c8 => ?_)
          · replace h := h.1 c8
            refine lv_iconst (v := -1) hx hb dX11_habits_62 (by decide) ?_
            exact W.widen (by first | omega | (simp only [rmq]; omega)) (by first | omega | (simp only [rmq]; omega)) (hret (-1 : Int32) z6 H locs 63 ls hw rfl h dX11_habits_63)
          · replace h := h.2 c8
            refine lv_iload hx hb dX11_habits_40 (lv_at hl 6 rfl) ?_
            refine lv_iload hx hb dX11_habits_42 (lv_at hl 7 rfl) ?_
            have hq := h
            clear h
            refine xcSI (As := [.int p4, .int p5]) (rest := []) E hw hA (c_X11_isPlace l D ad cs sk z6 p4 p5 _ hq) kc_11_125 yo_X11_isPlace ⟨Nat.le_of_ble_eq_true rfl, Nat.le_of_ble_eq_true rfl⟩ rfl hl.1 rfl (Nat.le_of_ble_eq_true rfl) dX11_habits_44 ⟨by simp only [rmq]; omega, by simp only [rmq]; omega⟩ (fun r10 z9 H locs h hw => ?_)
            refine lv_if_eq (tgt := 62) hx hb dX11_habits_47 (by decide) (fun c11 => ?_) (fun c11 => ?_)
            · replace h := h.1 c11
              refine lv_iconst (v := -1) hx hb dX11_habits_62 (by decide) ?_
              exact W.widen (by first | omega | (simp only [rmq]; omega)) (by first | omega | (simp only [rmq]; omega)) (hret (-1 : Int32) z9 H locs 63 ls hw rfl h dX11_habits_63)
            · replace h := h.2 c11
              refine lv_iconst (v := 0) hx hb dX11_habits_50 (by decide) ?_
              refine lv_iload hx hb dX11_habits_51 (lv_at hl 8 rfl) ?_
              refine lv_sipush (v := 9999) hx hb dX11_habits_53 (by decide) ?_
              have hq := h
              clear h
              refine xcSI (As := [.int (0 : Int32), .int p6, .int (9999 : Int32)]) (rest := []) E hw hA (c_X11_isFrom l D ad cs sk z9 (0 : Int32) p6 (9999 : Int32) _ hq) kc_11_83 yo_X11_isFrom ⟨Nat.le_of_ble_eq_true rfl, Nat.le_of_ble_eq_true rfl⟩ rfl hl.1 rfl (Nat.le_of_ble_eq_true rfl) dX11_habits_56 ⟨by simp only [rmq]; omega, by simp only [rmq]; omega⟩ (fun r13 z12 H locs h hw => ?_)
              refine lv_if_ne (tgt := 64) hx hb dX11_habits_59 (by decide) (fun c14 => ?_) (fun c14 => ?_)
              · replace h := h.1 c14
                refine lv_iconst (v := 0) hx hb dX11_habits_64 (by decide) ?_
                refine lv_istore (lv' := [(9, .int (0 : Int32)), (8, .int t2), (7, .int t1), (0, .ref (ad 0 100)), (1, .int p1), (2, .int p2), (3, .int p3), (4, .int p4), (5, .int p5), (6, .int p6)]) hx hb dX11_habits_65 hl (by decide) rfl (fun ls hl => ?_)
                refine lv_iconst (v := 0) hx hb dX11_habits_67 (by decide) ?_
                refine lv_istore (lv' := [(10, .int (0 : Int32)), (9, .int (0 : Int32)), (8, .int t2), (7, .int t1), (0, .ref (ad 0 100)), (1, .int p1), (2, .int p2), (3, .int p3), (4, .int p4), (5, .int p5), (6, .int p6)]) hx hb dX11_habits_68 hl (by decide) rfl (fun ls hl => ?_)
                obtain ⟨n24, hN, h⟩ := h
                exact W.widen (by first | omega | (simp only [rmq]; omega)) (by first | omega | (simp only [rmq]; omega)) (b70 n24 hN z12 p2 p3 p4 p5 p6 t1 t2 (0 : Int32) (0 : Int32) H locs hw ls (lv_sub hl [4, 6, 7, 8, 9, 10, 3, 2, 1, 0] rfl) h)
              · replace h := h.2 c14
                refine lv_iconst (v := -1) hx hb dX11_habits_62 (by decide) ?_
                exact W.widen (by first | omega | (simp only [rmq]; omega)) (by first | omega | (simp only [rmq]; omega)) (hret (-1 : Int32) z12 H locs 63 ls hw rfl h dX11_habits_63)
        · replace h := h.2 c5
          refine lv_iconst (v := -1) hx hb dX11_habits_30 (by decide) ?_
          exact W.widen (by first | omega | (simp only [rmq]; omega)) (by first | omega | (simp only [rmq]; omega)) (hret (-1 : Int32) z H locs 31 ls hw rfl h dX11_habits_31)
  exact b00 s.heap [] hw
def V_X11_crates_97 (post : Int32 → ZS → Prop) (rr37 : ZS → Int32 → Int32 → Int32 → Int32 → Nat → Int32 → Int32 → Prop) : Nat → ZS → Int32 → Int32 → Int32 → Int32 → Nat → Int32 → Int32 → Int32 → Prop
  | 0, _, _, _, _, _, _, _, _, _ => False
  | (n + 1), z, v1, v2, v3, v4, v5, v6, v7, v8 => ((v7 ≤ v8 → (∀ t17 : Int32, t17 = v7 + (1 : Int32) → rr37 z v1 v2 v3 v4 v5 v6 t17)) ∧ (¬ v7 ≤ v8 → (vp_in v7 5 ∧ (vp_in v8 5 ∧ (vp_in v7 5 ∧ (vp_in v8 5 ∧ (∀ t18 : Int32, t18 = ((if 0 ≤ ((zR z 0 9 (Int32.toNatClampNeg v7)) - (zR z 0 9 (Int32.toNatClampNeg v8))) then ((zR z 0 9 (Int32.toNatClampNeg v7)) - (zR z 0 9 (Int32.toNatClampNeg v8))) else 0 - ((zR z 0 9 (Int32.toNatClampNeg v7)) - (zR z 0 9 (Int32.toNatClampNeg v8)))) + (if 0 ≤ ((zR z 0 10 (Int32.toNatClampNeg v7)) - (zR z 0 10 (Int32.toNatClampNeg v8))) then ((zR z 0 10 (Int32.toNatClampNeg v7)) - (zR z 0 10 (Int32.toNatClampNeg v8))) else 0 - ((zR z 0 10 (Int32.toNatClampNeg v7)) - (zR z 0 10 (Int32.toNatClampNeg v8))))) → (∀ t19 : Int32, t19 = (if v6 < t18 then t18 else v6) → (∀ t20 : Int32, t20 = v8 + (1 : Int32) → (V_X11_crates_97 post rr37 n) z v1 v2 v3 v4 v5 t19 v7 t20)))))))))
def V_X11_crates_37 (post : Int32 → ZS → Prop) : Nat → ZS → Int32 → Int32 → Int32 → Int32 → Nat → Int32 → Int32 → Prop
  | 0, _, _, _, _, _, _, _, _ => False
  | (n + 1), z, v1, v2, v3, v4, v5, v6, v7 => ((v1 ≤ v7 → post v6 z) ∧ (¬ v1 ≤ v7 → V_X3_begin z 4 v5 v2 v3 (v4 + v7) (fun z10 => V_X3_land z10 4 (fun z12 => (vp_in v7 5 ∧ ∀ z14 : ZS, z14 = wR z12 0 9 (Int32.toNatClampNeg v7) (zI z12 4 2) → (vp_in v7 5 ∧ ∀ z15 : ZS, z15 = wR z14 0 10 (Int32.toNatClampNeg v7) (zI z14 4 3) → (∃ n21 : Nat, V_X11_crates_97 post (V_X11_crates_37 post n) n21 z15 v1 v2 v3 v4 v5 v6 v7 (0 : Int32))))))))
def V_X11_crates (z : ZS) (p1 : Int32) (p2 : Int32) (p3 : Int32) (p4 : Int32) (post : Int32 → ZS → Prop) : Prop := V_X11_isFrom z (1 : Int32) p1 (5 : Int32) (fun r2 z1 => ((r2 = 0 → post (-1 : Int32) z1) ∧ (¬ r2 = 0 → V_X11_isPlace z1 p2 p3 (fun r5 z4 => ((¬ r5 = 0 → (∀ q7 : Nat, q7 ∉ zP z4 → (∀ z8 : ZS, z8 = wP z4 q7 1 (fdat_1 (0 : Int32) (0 : Int32) (0 : Int32)) → (∃ n22 : Nat, V_X11_crates_37 post n22 z8 p1 p2 p3 p4 q7 (0 : Int32) (0 : Int32))))) ∧ (r5 = 0 → post (-1 : Int32) z4))))))
set_option maxHeartbeats 4000000 in
set_option maxRecDepth 100000 in
theorem c_X11_crates (l : Launch) (D : va_G) (ad : Nat → Nat → Nat) (cs : Nat → ClassId) (sk : (Nat → Nat) × (Nat → Nat)) (z : ZS) (p1 : Int32) (p2 : Int32) (p3 : Int32) (p4 : Int32) (post : Int32 → ZS → Prop) (h : V_X11_crates z p1 p2 p3 p4 post) : MI l D ad cs sk yX11_crates cX11_crates 10 .int (rmq 6 1 8) [.ref (ad 0 100), .int p1, .int p2, .int p3, .int p4] z post := by
  refine MI.of RX11 rfl (by decide) (Nat.le_of_ble_eq_true rfl) ?_
  intro p e s m args below meth c A Q E hw hA hret ls hl
  have hx := E.1.1
  have hb := E.1.2.1
  have hml := E.1.2.2.1
  have hown := E.1.2.2.2.1
  have h0 := E.1.2.2.2.2
  have hl : lv_has ls 10 [(0, .ref (ad 0 100)), (1, .int p1), (2, .int p2), (3, .int p3), (4, .int p4)] := hl
  unfold V_X11_crates at h
  have b37 : ∀ (n : Nat) (z : ZS) (v1 : Int32) (v2 : Int32) (v3 : Int32) (v4 : Int32) (v5 : Nat) (v6 : Int32) (v7 : Int32), ∀ (H : Heap) (locs : List Loc), OW D ad cs A s.heap z H locs → ∀ ls : Array Slot, lv_has ls 10 [(0, .ref (ad 0 100)), (1, .int v1), (2, .int v2), (3, .int v3), (4, .int v4), (5, .ref v5), (6, .int v6), (7, .int v7)] → V_X11_crates_37 post n z v1 v2 v3 v4 v5 v6 v7 → W p l e (rmq 6 1 8) s m args below meth c H locs 1 8 Q (F0 m 37 ls []) := by
    intro n
    induction n with
    | zero =>
      intro z v1 v2 v3 v4 v5 v6 v7 H locs hw ls hl h
      exact h.elim
    | succ n37x ih37 =>
      have b97 : ∀ (n : Nat) (z : ZS) (v1 : Int32) (v2 : Int32) (v3 : Int32) (v4 : Int32) (v5 : Nat) (v6 : Int32) (v7 : Int32) (v8 : Int32), ∀ (H : Heap) (locs : List Loc), OW D ad cs A s.heap z H locs → ∀ ls : Array Slot, lv_has ls 10 [(0, .ref (ad 0 100)), (1, .int v1), (2, .int v2), (3, .int v3), (4, .int v4), (5, .ref v5), (6, .int v6), (7, .int v7), (8, .int v8)] → V_X11_crates_97 post (V_X11_crates_37 post n37x) n z v1 v2 v3 v4 v5 v6 v7 v8 → W p l e (rmq 6 1 8) s m args below meth c H locs 1 8 Q (F0 m 97 ls []) := by
        intro n
        induction n with
        | zero =>
          intro z v1 v2 v3 v4 v5 v6 v7 v8 H locs hw ls hl h
          exact h.elim
        | succ n97x ih97 =>
          intro z v1 v2 v3 v4 v5 v6 v7 v8 H locs hw ls hl h
          unfold V_X11_crates_97 at h
          refine lv_iload hx hb dX11_crates_97 (lv_at hl 8 rfl) ?_
          refine lv_iload hx hb dX11_crates_99 (lv_at hl 7 rfl) ?_
          refine lv_icmp_ge (tgt := 158) hx hb dX11_crates_101 (by decide) (fun c16 => ?_) (fun c16 => ?_)
          · replace h := h.1 c16
            obtain ⟨t17, et17⟩ : ∃ y : Int32, y = v7 + (1 : Int32) := ⟨_, rfl⟩
            replace h := h t17 et17
            refine lv_iinc (v := t17) (lv' := [(7, .int t17), (0, .ref (ad 0 100)), (1, .int v1), (2, .int v2), (3, .int v3), (4, .int v4), (5, .ref v5), (6, .int v6), (8, .int v8)]) hx hb dX11_crates_158 hl (k := 7) rfl (by rw [et17]; rfl) (by decide) rfl (fun ls hl => ?_)
            refine lv_goto (tgt := 37) hx hb dX11_crates_161 (by decide) ?_
            exact W.widen (by decide) (by decide) (ih37 z v1 v2 v3 v4 v5 v6 t17 H locs hw ls (lv_sub hl [1, 2, 3, 4, 5, 6, 7, 0] rfl) h)
          · replace h := h.2 c16
            refine lv_aload_n hx hb dX11_crates_104 rfl (lv_at hl 0 rfl) ?_
            refine xgC E hw (c1 := 11) (t := (0, 9)) rfl ky_0_100 fo_11_9 rfl qf_11_51 dX11_crates_105 ?_
            refine lv_iload hx hb dX11_crates_108 (lv_at hl 7 rfl) ?_
            obtain ⟨hi, h⟩ := h
            refine xal E hw ky_0_9 ka_0_9 hi dX11_crates_110 ?_
            refine lv_aload_n hx hb dX11_crates_111 rfl (lv_at hl 0 rfl) ?_
            refine xgC E hw (c1 := 11) (t := (0, 9)) rfl ky_0_100 fo_11_9 rfl qf_11_51 dX11_crates_112 ?_
            refine lv_iload hx hb dX11_crates_115 (lv_at hl 8 rfl) ?_
            obtain ⟨hi, h⟩ := h
            refine xal E hw ky_0_9 ka_0_9 hi dX11_crates_117 ?_
            refine lv_isub hx hb dX11_crates_118 ?_
            refine va_mabs hx hb (hml.trans hl.1.symm) hown (h0 _ qm_11_225) (h0 _ qs_ib_Math_abs_name) (h0 _ qn_Math) (h0 _ qc_Math_abs) (Nat.le_of_ble_eq_true rfl) (Nat.le_of_ble_eq_true rfl) (Nat.le_of_ble_eq_true rfl) (Nat.le_of_ble_eq_true rfl) dX11_crates_119 ?_
            refine lv_aload_n hx hb dX11_crates_122 rfl (lv_at hl 0 rfl) ?_
            refine xgC E hw (c1 := 11) (t := (0, 10)) rfl ky_0_100 fo_11_10 rfl qf_11_54 dX11_crates_123 ?_
            refine lv_iload hx hb dX11_crates_126 (lv_at hl 7 rfl) ?_
            obtain ⟨hi, h⟩ := h
            refine xal E hw ky_0_10 ka_0_10 hi dX11_crates_128 ?_
            refine lv_aload_n hx hb dX11_crates_129 rfl (lv_at hl 0 rfl) ?_
            refine xgC E hw (c1 := 11) (t := (0, 10)) rfl ky_0_100 fo_11_10 rfl qf_11_54 dX11_crates_130 ?_
            refine lv_iload hx hb dX11_crates_133 (lv_at hl 8 rfl) ?_
            obtain ⟨hi, h⟩ := h
            refine xal E hw ky_0_10 ka_0_10 hi dX11_crates_135 ?_
            refine lv_isub hx hb dX11_crates_136 ?_
            refine va_mabs hx hb (hml.trans hl.1.symm) hown (h0 _ qm_11_225) (h0 _ qs_ib_Math_abs_name) (h0 _ qn_Math) (h0 _ qc_Math_abs) (Nat.le_of_ble_eq_true rfl) (Nat.le_of_ble_eq_true rfl) (Nat.le_of_ble_eq_true rfl) (Nat.le_of_ble_eq_true rfl) dX11_crates_137 ?_
            refine lv_iadd hx hb dX11_crates_140 ?_
            refine lv_topi (fun t18 et18 => ?_)
            replace h := h t18 et18
            refine lv_istore (lv' := [(9, .int t18), (0, .ref (ad 0 100)), (1, .int v1), (2, .int v2), (3, .int v3), (4, .int v4), (5, .ref v5), (6, .int v6), (7, .int v7), (8, .int v8)]) hx hb dX11_crates_141 hl (by decide) rfl (fun ls hl => ?_)
            refine lv_iload hx hb dX11_crates_143 (lv_at hl 7 rfl) ?_
            refine lv_iload hx hb dX11_crates_145 (lv_at hl 0 rfl) ?_
            refine va_mmax hx hb (hml.trans hl.1.symm) hown (h0 _ qm_11_252) (h0 _ qs_ib_Math_max_name) (h0 _ qn_Math) (h0 _ qc_Math_max) (Nat.le_of_ble_eq_true rfl) (Nat.le_of_ble_eq_true rfl) (Nat.le_of_ble_eq_true rfl) (Nat.le_of_ble_eq_true rfl) dX11_crates_147 ?_
            refine lv_topi (fun t19 et19 => ?_)
            replace h := h t19 et19
            refine lv_istore (lv' := [(6, .int t19), (9, .int t18), (0, .ref (ad 0 100)), (1, .int v1), (2, .int v2), (3, .int v3), (4, .int v4), (5, .ref v5), (7, .int v7), (8, .int v8)]) hx hb dX11_crates_150 hl (by decide) rfl (fun ls hl => ?_)
            obtain ⟨t20, et20⟩ : ∃ y : Int32, y = v8 + (1 : Int32) := ⟨_, rfl⟩
            replace h := h t20 et20
            refine lv_iinc (v := t20) (lv' := [(8, .int t20), (6, .int t19), (9, .int t18), (0, .ref (ad 0 100)), (1, .int v1), (2, .int v2), (3, .int v3), (4, .int v4), (5, .ref v5), (7, .int v7)]) hx hb dX11_crates_152 hl (k := 9) rfl (by rw [et20]; rfl) (by decide) rfl (fun ls hl => ?_)
            refine lv_goto (tgt := 97) hx hb dX11_crates_155 (by decide) ?_
            exact W.widen (by decide) (by decide) (ih97 z v1 v2 v3 v4 v5 t19 v7 t20 H locs hw ls (lv_sub hl [3, 4, 5, 6, 7, 8, 1, 9, 0] rfl) h)
      intro z v1 v2 v3 v4 v5 v6 v7 H locs hw ls hl h
      unfold V_X11_crates_37 at h
      refine lv_iload hx hb dX11_crates_37 (lv_at hl 7 rfl) ?_
      refine lv_iload_n hx hb dX11_crates_39 rfl (lv_at hl 1 rfl) ?_
      refine lv_icmp_ge (tgt := 164) hx hb dX11_crates_40 (by decide) (fun c9 => ?_) (fun c9 => ?_)
      · replace h := h.1 c9
        refine lv_iload hx hb dX11_crates_164 (lv_at hl 6 rfl) ?_
        exact W.widen (by decide) (by decide) (hret v6 z H locs 166 ls hw rfl h dX11_crates_166)
      · replace h := h.2 c9
        refine lv_aload_n hx hb dX11_crates_43 rfl (lv_at hl 0 rfl) ?_
        refine xgC E hw (c1 := 11) (t := (4, 100)) rfl ky_0_100 fo_11_4 rfl qf_11_31 dX11_crates_44 ?_
        refine lv_aload hx hb dX11_crates_47 (lv_at hl 5 rfl) ?_
        refine lv_iload_n hx hb dX11_crates_49 rfl (lv_at hl 2 rfl) ?_
        refine lv_iload_n hx hb dX11_crates_50 rfl (lv_at hl 3 rfl) ?_
        refine lv_iload hx hb dX11_crates_51 (lv_at hl 4 rfl) ?_
        refine lv_iload hx hb dX11_crates_53 (lv_at hl 7 rfl) ?_
        refine lv_iadd hx hb dX11_crates_55 ?_
        have hq := h
        clear h
        refine xcVV (As := [.ref v5, .int v2, .int v3, .int (v4 + v7)]) (rest := []) E hw hA (c_X3_begin l D ad cs sk z 4 v5 v2 v3 (v4 + v7) _ is_4 hq) kc_11_143 yo_X3_begin ⟨Nat.le_of_ble_eq_true rfl, Nat.le_of_ble_eq_true rfl⟩ (xrc E hw ky_4_100 rfl) rfl hl.1 rfl (Nat.le_of_ble_eq_true rfl) dX11_crates_56 ⟨Nat.le_of_ble_eq_true rfl, Nat.le_of_ble_eq_true rfl⟩ (fun z10 H locs h hw => ?_)
        refine lv_aload_n hx hb dX11_crates_59 rfl (lv_at hl 0 rfl) ?_
        refine xgC E hw (c1 := 11) (t := (4, 100)) rfl ky_0_100 fo_11_4 rfl qf_11_31 dX11_crates_60 ?_
        have hq := h
        clear h
        refine xcVV (As := []) (rest := []) E hw hA (c_X3_land l D ad cs sk z10 4 _ is_4 hq) kc_11_167 yo_X3_land ⟨Nat.le_of_ble_eq_true rfl, Nat.le_of_ble_eq_true rfl⟩ (xrc E hw ky_4_100 rfl) rfl hl.1 rfl (Nat.le_of_ble_eq_true rfl) dX11_crates_63 ⟨Nat.le_of_ble_eq_true rfl, Nat.le_of_ble_eq_true rfl⟩ (fun z12 H locs h hw => ?_)
        refine lv_aload_n hx hb dX11_crates_66 rfl (lv_at hl 0 rfl) ?_
        refine xgC E hw (c1 := 11) (t := (0, 9)) rfl ky_0_100 fo_11_9 rfl qf_11_51 dX11_crates_67 ?_
        refine lv_iload hx hb dX11_crates_70 (lv_at hl 7 rfl) ?_
        refine lv_aload_n hx hb dX11_crates_72 rfl (lv_at hl 0 rfl) ?_
        refine xgC E hw (c1 := 11) (t := (4, 100)) rfl ky_0_100 fo_11_4 rfl qf_11_31 dX11_crates_73 ?_
        refine xgI E hw (c1 := 3) rfl ky_4_100 fo_3_2 qf_11_151 dX11_crates_76 ?_
        obtain ⟨hi, h⟩ := h
        refine xas E hw ky_0_9 ka_0_9 hi dX11_crates_79 (fun z14 ez14 H locs hw => ?_)
        replace h := h z14 ez14
        refine lv_aload_n hx hb dX11_crates_80 rfl (lv_at hl 0 rfl) ?_
        refine xgC E hw (c1 := 11) (t := (0, 10)) rfl ky_0_100 fo_11_10 rfl qf_11_54 dX11_crates_81 ?_
        refine lv_iload hx hb dX11_crates_84 (lv_at hl 7 rfl) ?_
        refine lv_aload_n hx hb dX11_crates_86 rfl (lv_at hl 0 rfl) ?_
        refine xgC E hw (c1 := 11) (t := (4, 100)) rfl ky_0_100 fo_11_4 rfl qf_11_31 dX11_crates_87 ?_
        refine xgI E hw (c1 := 3) rfl ky_4_100 fo_3_3 qf_11_154 dX11_crates_90 ?_
        obtain ⟨hi, h⟩ := h
        refine xas E hw ky_0_10 ka_0_10 hi dX11_crates_93 (fun z15 ez15 H locs hw => ?_)
        replace h := h z15 ez15
        refine lv_iconst (v := 0) hx hb dX11_crates_94 (by decide) ?_
        refine lv_istore (lv' := [(8, .int (0 : Int32)), (0, .ref (ad 0 100)), (1, .int v1), (2, .int v2), (3, .int v3), (4, .int v4), (5, .ref v5), (6, .int v6), (7, .int v7)]) hx hb dX11_crates_95 hl (by decide) rfl (fun ls hl => ?_)
        obtain ⟨n21, h⟩ := h
        exact W.widen (by decide) (by decide) (b97 n21 z15 v1 v2 v3 v4 v5 v6 v7 (0 : Int32) H locs hw ls (lv_sub hl [1, 2, 3, 4, 5, 6, 7, 8, 0] rfl) h)
  have b00 : ∀ (H : Heap) (locs : List Loc), OW D ad cs A s.heap z H locs → W p l e (rmq 6 1 8) s m args below meth c H locs 0 0 Q (F0 m 0 ls []) := by
    intro H locs hw
    refine lv_iconst (v := 1) hx hb dX11_crates_0 (by decide) ?_
    refine lv_iload_n hx hb dX11_crates_1 rfl (lv_at hl 1 rfl) ?_
    refine lv_iconst (v := 5) hx hb dX11_crates_2 (by decide) ?_
    have hq := h
    clear h
    refine xcSI (As := [.int (1 : Int32), .int p1, .int (5 : Int32)]) (rest := []) E hw hA (c_X11_isFrom l D ad cs sk z (1 : Int32) p1 (5 : Int32) _ hq) kc_11_83 yo_X11_isFrom ⟨Nat.le_of_ble_eq_true rfl, Nat.le_of_ble_eq_true rfl⟩ rfl hl.1 rfl (Nat.le_of_ble_eq_true rfl) dX11_crates_3 ⟨Nat.le_of_ble_eq_true rfl, Nat.le_of_ble_eq_true rfl⟩ (fun r2 z1 H locs h hw => ?_)
    refine lv_if_eq (tgt := 17) hx hb dX11_crates_6 (by decide) (fun c3 => ?_) (fun c3 => ?_)
    · replace h := h.1 c3
      refine lv_iconst (v := -1) hx hb dX11_crates_17 (by decide) ?_
      exact W.widen (by decide) (by decide) (hret (-1 : Int32) z1 H locs 18 ls hw rfl h dX11_crates_18)
    · replace h := h.2 c3
      refine lv_iload_n hx hb dX11_crates_9 rfl (lv_at hl 2 rfl) ?_
      refine lv_iload_n hx hb dX11_crates_10 rfl (lv_at hl 3 rfl) ?_
      have hq := h
      clear h
      refine xcSI (As := [.int p2, .int p3]) (rest := []) E hw hA (c_X11_isPlace l D ad cs sk z1 p2 p3 _ hq) kc_11_125 yo_X11_isPlace ⟨Nat.le_of_ble_eq_true rfl, Nat.le_of_ble_eq_true rfl⟩ rfl hl.1 rfl (Nat.le_of_ble_eq_true rfl) dX11_crates_11 ⟨Nat.le_of_ble_eq_true rfl, Nat.le_of_ble_eq_true rfl⟩ (fun r5 z4 H locs h hw => ?_)
      refine lv_if_ne (tgt := 19) hx hb dX11_crates_14 (by decide) (fun c6 => ?_) (fun c6 => ?_)
      · replace h := h.1 c6
        refine xqn (c1 := 8) E hw hA cF_8 (C := RX8) (T := TX8) rfl rfl kw_11_247 (Nat.le_of_ble_eq_true rfl) (Nat.le_of_ble_eq_true rfl) dX11_crates_19 (fun q7 H hnq7 hw => ?_)
        replace h := h q7 hnq7
        refine lv_dup hx hb dX11_crates_22 rfl ?_
        refine lv_iconst (v := 0) hx hb dX11_crates_23 (by decide) ?_
        refine lv_iconst (v := 0) hx hb dX11_crates_24 (by decide) ?_
        refine lv_iconst (v := 0) hx hb dX11_crates_25 (by decide) ?_
        refine xqc (As := [.int (0 : Int32), .int (0 : Int32), .int (0 : Int32)]) (rest := [.ref q7]) E hw hA (c_X8_init l D ad cs sk z4 q7 (0 : Int32) (0 : Int32) (0 : Int32) 8 cF_8) kq_11_249 rfl yo_X8_init ⟨Nat.le_of_ble_eq_true rfl, Nat.le_of_ble_eq_true rfl⟩ rfl hl.1 rfl (Nat.le_of_ble_eq_true rfl) dX11_crates_26 ⟨Nat.le_of_ble_eq_true rfl, Nat.le_of_ble_eq_true rfl⟩ (fun H locs hw => ?_)
        replace hw := xqw (k := 1) (f := (fdat_1 (0 : Int32) (0 : Int32) (0 : Int32))) hnq7 hw rfl rfl
        obtain ⟨z8, ez8⟩ : ∃ y : ZS, y = wP z4 q7 1 (fdat_1 (0 : Int32) (0 : Int32) (0 : Int32)) := ⟨_, rfl⟩
        rw [← ez8] at hw
        replace h := h z8 ez8
        refine lv_astore (lv' := [(5, .ref q7), (0, .ref (ad 0 100)), (1, .int p1), (2, .int p2), (3, .int p3), (4, .int p4)]) hx hb dX11_crates_29 hl (by decide) rfl (fun ls hl => ?_)
        refine lv_iconst (v := 0) hx hb dX11_crates_31 (by decide) ?_
        refine lv_istore (lv' := [(6, .int (0 : Int32)), (5, .ref q7), (0, .ref (ad 0 100)), (1, .int p1), (2, .int p2), (3, .int p3), (4, .int p4)]) hx hb dX11_crates_32 hl (by decide) rfl (fun ls hl => ?_)
        refine lv_iconst (v := 0) hx hb dX11_crates_34 (by decide) ?_
        refine lv_istore (lv' := [(7, .int (0 : Int32)), (6, .int (0 : Int32)), (5, .ref q7), (0, .ref (ad 0 100)), (1, .int p1), (2, .int p2), (3, .int p3), (4, .int p4)]) hx hb dX11_crates_35 hl (by decide) rfl (fun ls hl => ?_)
        obtain ⟨n22, h⟩ := h
        exact W.widen (by decide) (by decide) (b37 n22 z8 p1 p2 p3 p4 q7 (0 : Int32) (0 : Int32) H locs hw ls (lv_sub hl [3, 4, 5, 6, 7, 2, 1, 0] rfl) h)
      · replace h := h.2 c6
        refine lv_iconst (v := -1) hx hb dX11_crates_17 (by decide) ?_
        exact W.widen (by decide) (by decide) (hret (-1 : Int32) z4 H locs 18 ls hw rfl h dX11_crates_18)
  exact b00 s.heap [] hw
