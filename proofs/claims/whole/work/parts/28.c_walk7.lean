def V_X11_refusalOfLoad_28 (p1 : Nat) (post : Int32 → ZS → Prop) : Nat → ZS → Int32 → Prop
  | 0, _, _ => False
  | (n + 1), z, v3 => (((zI z p1 3) ≤ v3 → post (0 : Int32) z) ∧ (¬ (zI z p1 3) ≤ v3 → V_X9_valueAt z p1 v3 (fun r9 z8 => V_X0_fallerAt z8 1 r9 (fun r11 z10 => ((r11 = none → post (-13 : Int32) z10) ∧ (∀ a12 : Nat, r11 = some a12 → (∀ t13 : Int32, t13 = v3 + (1 : Int32) → (V_X11_refusalOfLoad_28 p1 post n) z10 t13)))))))
def V_X11_refusalOfLoad (z : ZS) (p1 : Nat) (post : Int32 → ZS → Prop) : Prop := V_X11_refusalOfBytes z p1 (fun r2 z1 => ((r2 = 0 → V_X11_isFrom z1 (1 : Int32) (zI z1 p1 3) (5 : Int32) (fun r5 z4 => ((¬ r5 = 0 → (∃ n14 : Nat, V_X11_refusalOfLoad_28 p1 post n14 z4 (0 : Int32))) ∧ (r5 = 0 → post (-13 : Int32) z4)))) ∧ (¬ r2 = 0 → post r2 z1)))
set_option maxHeartbeats 4000000 in
set_option maxRecDepth 100000 in
theorem c_X11_refusalOfLoad (l : Launch) (D : va_G) (ad : Nat → Nat → Nat) (cs : Nat → ClassId) (sk : (Nat → Nat) × (Nat → Nat)) (z : ZS) (p1 : Nat) (post : Int32 → ZS → Prop) (hp1 : isS p1) (h : V_X11_refusalOfLoad z p1 post) : MI l D ad cs sk yX11_refusalOfLoad cX11_refusalOfLoad 4 .int (rmq 3 0 0) [.ref (ad 0 100), .ref (ad p1 100)] z post := by
  refine MI.of RX11 rfl (by decide) (Nat.le_of_ble_eq_true rfl) ?_
  intro p e s m args below meth c A Q E hw hA hret ls hl
  have hx := E.1.1
  have hb := E.1.2.1
  have hml := E.1.2.2.1
  have hown := E.1.2.2.2.1
  have h0 := E.1.2.2.2.2
  have hl : lv_has ls 4 [(0, .ref (ad 0 100)), (1, .ref (ad p1 100))] := hl
  unfold V_X11_refusalOfLoad at h
  have b28 : ∀ (n : Nat) (z : ZS) (v3 : Int32), ∀ (H : Heap) (locs : List Loc), OW D ad cs A s.heap z H locs → ∀ ls : Array Slot, lv_has ls 4 [(0, .ref (ad 0 100)), (1, .ref (ad p1 100)), (3, .int v3)] → V_X11_refusalOfLoad_28 p1 post n z v3 → W p l e (rmq 3 0 0) s m args below meth c H locs 0 0 Q (F0 m 28 ls []) := by
    intro n
    induction n with
    | zero =>
      intro z v3 H locs hw ls hl h
      exact h.elim
    | succ n28x ih28 =>
      intro z v3 H locs hw ls hl h
      unfold V_X11_refusalOfLoad_28 at h
      refine lv_iload_n hx hb dX11_refusalOfLoad_28 rfl (lv_at hl 2 rfl) ?_
      refine lv_aload_n hx hb dX11_refusalOfLoad_29 rfl (lv_at hl 1 rfl) ?_
      refine xgI E hw (c1 := 9) (ciisS hp1) (kyisS_100 hp1) fo_9_3 qf_11_189 dX11_refusalOfLoad_30 ?_
      refine lv_icmp_ge (tgt := 60) hx hb dX11_refusalOfLoad_33 (by decide) (fun c7 => ?_) (fun c7 => ?_)
      · replace h := h.1 c7
        refine lv_iconst (v := 0) hx hb dX11_refusalOfLoad_60 (by decide) ?_
        exact hret (0 : Int32) z H locs 61 ls hw rfl h dX11_refusalOfLoad_61
      · replace h := h.2 c7
        refine lv_aload_n hx hb dX11_refusalOfLoad_36 rfl (lv_at hl 0 rfl) ?_
        refine xgC E hw (c1 := 11) (t := (1, 100)) rfl ky_0_100 fo_11_0 rfl qf_11_10 dX11_refusalOfLoad_37 ?_
        refine lv_aload_n hx hb dX11_refusalOfLoad_40 rfl (lv_at hl 1 rfl) ?_
        refine lv_iload_n hx hb dX11_refusalOfLoad_41 rfl (lv_at hl 2 rfl) ?_
        have hq := h
        clear h
        refine xcVI (As := [.int v3]) (rest := [.ref (ad 1 100)]) E hw hA (c_X9_valueAt l D ad cs sk z p1 v3 _ hp1 hq) kc_11_258 yo_X9_valueAt ⟨Nat.le_of_ble_eq_true rfl, Nat.le_of_ble_eq_true rfl⟩ (xrc E hw (kyisS_100 hp1) (ciisS hp1)) rfl hl.1 rfl (Nat.le_of_ble_eq_true rfl) dX11_refusalOfLoad_42 ⟨Nat.le_of_ble_eq_true rfl, Nat.le_of_ble_eq_true rfl⟩ (fun r9 z8 H locs h hw => ?_)
        have hq := h
        clear h
        refine xcVA (As := [.int r9]) (rest := []) E hw hA (c_X0_fallerAt l D ad cs sk z8 1 r9 _ is_1 hq) kc_11_97 yo_X0_fallerAt ⟨Nat.le_of_ble_eq_true rfl, Nat.le_of_ble_eq_true rfl⟩ (xrc E hw ky_1_100 rfl) rfl hl.1 rfl (Nat.le_of_ble_eq_true rfl) dX11_refusalOfLoad_45 ⟨Nat.le_of_ble_eq_true rfl, Nat.le_of_ble_eq_true rfl⟩ (fun r11 z10 H locs h hw => ?_)
        refine xnnl (tgt := 54) hx hb dX11_refusalOfLoad_48 (by decide) (fun ea12 => ?_) (fun a12 ea12 => ?_)
        · replace h := h.1 ea12
          subst ea12
          have hl : lv_has ls 4 [(0, .ref (ad 0 100)), (1, .ref (ad p1 100)), (3, .int v3)] := hl
          refine lv_bipush (v := -13) hx hb dX11_refusalOfLoad_51 (by decide) ?_
          exact hret (-13 : Int32) z10 H locs 53 ls hw rfl h dX11_refusalOfLoad_53
        · replace h := h.2 a12 ea12
          subst ea12
          have hl : lv_has ls 4 [(0, .ref (ad 0 100)), (1, .ref (ad p1 100)), (3, .int v3)] := hl
          obtain ⟨t13, et13⟩ : ∃ y : Int32, y = v3 + (1 : Int32) := ⟨_, rfl⟩
          replace h := h t13 et13
          refine lv_iinc (v := t13) (lv' := [(3, .int t13), (0, .ref (ad 0 100)), (1, .ref (ad p1 100))]) hx hb dX11_refusalOfLoad_54 hl (k := 2) rfl (by rw [et13]; rfl) (by decide) rfl (fun ls hl => ?_)
          refine lv_goto (tgt := 28) hx hb dX11_refusalOfLoad_57 (by decide) ?_
          exact ih28 z10 t13 H locs hw ls (lv_sub hl [1, 2, 0] rfl) h
  have b00 : ∀ (H : Heap) (locs : List Loc), OW D ad cs A s.heap z H locs → W p l e (rmq 3 0 0) s m args below meth c H locs 0 0 Q (F0 m 0 ls []) := by
    intro H locs hw
    refine lv_aload_n hx hb dX11_refusalOfLoad_0 rfl (lv_at hl 1 rfl) ?_
    have hq := h
    clear h
    refine xcSI (As := [.ref (ad p1 100)]) (rest := []) E hw hA (c_X11_refusalOfBytes l D ad cs sk z p1 _ hp1 hq) kc_11_62 yo_X11_refusalOfBytes ⟨Nat.le_of_ble_eq_true rfl, Nat.le_of_ble_eq_true rfl⟩ rfl hl.1 rfl (Nat.le_of_ble_eq_true rfl) dX11_refusalOfLoad_1 ⟨Nat.le_of_ble_eq_true rfl, Nat.le_of_ble_eq_true rfl⟩ (fun r2 z1 H locs h hw => ?_)
    refine lv_istore_n (lv' := [(2, .int r2), (0, .ref (ad 0 100)), (1, .ref (ad p1 100))]) hx hb dX11_refusalOfLoad_4 rfl hl (by decide) rfl (fun ls hl => ?_)
    refine lv_iload_n hx hb dX11_refusalOfLoad_5 rfl (lv_at hl 0 rfl) ?_
    refine lv_if_eq (tgt := 11) hx hb dX11_refusalOfLoad_6 (by decide) (fun c3 => ?_) (fun c3 => ?_)
    · replace h := h.1 c3
      refine lv_iconst (v := 1) hx hb dX11_refusalOfLoad_11 (by decide) ?_
      refine lv_aload_n hx hb dX11_refusalOfLoad_12 rfl (lv_at hl 2 rfl) ?_
      refine xgI E hw (c1 := 9) (ciisS hp1) (kyisS_100 hp1) fo_9_3 qf_11_189 dX11_refusalOfLoad_13 ?_
      refine lv_iconst (v := 5) hx hb dX11_refusalOfLoad_16 (by decide) ?_
      have hq := h
      clear h
      refine xcSI (As := [.int (1 : Int32), .int (zI z1 p1 3), .int (5 : Int32)]) (rest := []) E hw hA (c_X11_isFrom l D ad cs sk z1 (1 : Int32) (zI z1 p1 3) (5 : Int32) _ hq) kc_11_83 yo_X11_isFrom ⟨Nat.le_of_ble_eq_true rfl, Nat.le_of_ble_eq_true rfl⟩ rfl hl.1 rfl (Nat.le_of_ble_eq_true rfl) dX11_refusalOfLoad_17 ⟨Nat.le_of_ble_eq_true rfl, Nat.le_of_ble_eq_true rfl⟩ (fun r5 z4 H locs h hw => ?_)
      refine lv_if_ne (tgt := 26) hx hb dX11_refusalOfLoad_20 (by decide) (fun c6 => ?_) (fun c6 => ?_)
      · replace h := h.1 c6
        refine lv_iconst (v := 0) hx hb dX11_refusalOfLoad_26 (by decide) ?_
        refine lv_istore_n (lv' := [(3, .int (0 : Int32)), (2, .int r2), (0, .ref (ad 0 100)), (1, .ref (ad p1 100))]) hx hb dX11_refusalOfLoad_27 rfl hl (by decide) rfl (fun ls hl => ?_)
        obtain ⟨n14, h⟩ := h
        exact b28 n14 z4 (0 : Int32) H locs hw ls (lv_sub hl [2, 3, 0] rfl) h
      · replace h := h.2 c6
        refine lv_bipush (v := -13) hx hb dX11_refusalOfLoad_23 (by decide) ?_
        exact hret (-13 : Int32) z4 H locs 25 ls hw rfl h dX11_refusalOfLoad_25
    · replace h := h.2 c3
      refine lv_iload_n hx hb dX11_refusalOfLoad_9 rfl (lv_at hl 0 rfl) ?_
      exact hret r2 z1 H locs 10 ls hw rfl h dX11_refusalOfLoad_10
  exact b00 s.heap [] hw
def V_X11_load (z : ZS) (p1 : Int32) (p2 : Int32) (p3 : Int32) (p4 : Int32) (p5 : Int32) (post : Int32 → ZS → Prop) : Prop := V_X11_shelfAt z p1 (fun r2o z1 => ((r2o = none → post (-1 : Int32) z1) ∧ (∀ a3 : Nat, r2o = some a3 → isS a3 ∧ V_X11_isPlace z1 p2 p3 (fun r5 z4 => ((r5 = 0 → post (-1 : Int32) z4) ∧ (¬ r5 = 0 → V_X11_isGap z4 p4 (fun r8 z7 => ((r8 = 0 → post (-1 : Int32) z7) ∧ (¬ r8 = 0 → V_X11_isFrom z7 (0 : Int32) p5 (60000 : Int32) (fun r11 z10 => ((¬ r11 = 0 → V_X11_refusalOfLoad z10 a3 (fun r14 z13 => ((r14 = 0 → V_X11_loadWithin z13 a3 p2 p3 p4 p5 (fun r17 z16 => post r17 z16)) ∧ (¬ r14 = 0 → post r14 z13)))) ∧ (r11 = 0 → post (-1 : Int32) z10))))))))))))
set_option maxHeartbeats 4000000 in
set_option maxRecDepth 100000 in
theorem c_X11_load (l : Launch) (D : va_G) (ad : Nat → Nat → Nat) (cs : Nat → ClassId) (sk : (Nat → Nat) × (Nat → Nat)) (z : ZS) (p1 : Int32) (p2 : Int32) (p3 : Int32) (p4 : Int32) (p5 : Int32) (post : Int32 → ZS → Prop) (h : V_X11_load z p1 p2 p3 p4 p5 post) : MI l D ad cs sk yX11_load cX11_load 8 .int (rmq 7 0 0) [.ref (ad 0 100), .int p1, .int p2, .int p3, .int p4, .int p5] z post := by
  refine MI.of RX11 rfl (by decide) (Nat.le_of_ble_eq_true rfl) ?_
  intro p e s m args below meth c A Q E hw hA hret ls hl
  have hx := E.1.1
  have hb := E.1.2.1
  have hml := E.1.2.2.1
  have hown := E.1.2.2.2.1
  have h0 := E.1.2.2.2.2
  have hl : lv_has ls 8 [(0, .ref (ad 0 100)), (1, .int p1), (2, .int p2), (3, .int p3), (4, .int p4), (5, .int p5)] := hl
  unfold V_X11_load at h
  have b00 : ∀ (H : Heap) (locs : List Loc), OW D ad cs A s.heap z H locs → W p l e (rmq 7 0 0) s m args below meth c H locs 0 0 Q (F0 m 0 ls []) := by
    intro H locs hw
    refine lv_aload_n hx hb dX11_load_0 rfl (lv_at hl 0 rfl) ?_
    refine lv_iload_n hx hb dX11_load_1 rfl (lv_at hl 1 rfl) ?_
    have hq := h
    clear h
    refine xcVA (As := [.int p1]) (rest := []) E hw hA (c_X11_shelfAt l D ad cs sk z p1 _ hq) kc_11_58 yo_X11_shelfAt ⟨Nat.le_of_ble_eq_true rfl, Nat.le_of_ble_eq_true rfl⟩ (xrc E hw ky_0_100 rfl) rfl hl.1 rfl (Nat.le_of_ble_eq_true rfl) dX11_load_2 ⟨Nat.le_of_ble_eq_true rfl, Nat.le_of_ble_eq_true rfl⟩ (fun r2 z1 H locs h hw => ?_)
    obtain ⟨r2o, rfl, h⟩ := h
    refine xsqastore (lv' := [(6, va_rf (Option.map (fun o => ad o 100) r2o)), (0, .ref (ad 0 100)), (1, .int p1), (2, .int p2), (3, .int p3), (4, .int p4), (5, .int p5)]) hx hb dX11_load_5 hl (by decide) rfl (fun ls hl => ?_)
    refine xlqaload hx hb dX11_load_7 (lv_at hl 0 rfl) ?_
    refine xnulo (tgt := 39) hx hb dX11_load_9 (by decide) (fun ea3 => ?_) (fun a3 ea3 => ?_)
    · replace h := h.1 ea3
      subst ea3
      have hl : lv_has ls 8 [(6, .null), (0, .ref (ad 0 100)), (1, .int p1), (2, .int p2), (3, .int p3), (4, .int p4), (5, .int p5)] := hl
      refine lv_iconst (v := -1) hx hb dX11_load_39 (by decide) ?_
      exact hret (-1 : Int32) z1 H locs 40 ls hw rfl h dX11_load_40
    · replace h := h.2 a3 ea3
      obtain ⟨ha3, h⟩ := h
      subst ea3
      have hl : lv_has ls 8 [(6, .ref (ad a3 100)), (0, .ref (ad 0 100)), (1, .int p1), (2, .int p2), (3, .int p3), (4, .int p4), (5, .int p5)] := hl
      refine lv_iload_n hx hb dX11_load_12 rfl (lv_at hl 3 rfl) ?_
      refine lv_iload_n hx hb dX11_load_13 rfl (lv_at hl 4 rfl) ?_
      have hq := h
      clear h
      refine xcSI (As := [.int p2, .int p3]) (rest := []) E hw hA (c_X11_isPlace l D ad cs sk z1 p2 p3 _ hq) kc_11_125 yo_X11_isPlace ⟨Nat.le_of_ble_eq_true rfl, Nat.le_of_ble_eq_true rfl⟩ rfl hl.1 rfl (Nat.le_of_ble_eq_true rfl) dX11_load_14 ⟨Nat.le_of_ble_eq_true rfl, Nat.le_of_ble_eq_true rfl⟩ (fun r5 z4 H locs h hw => ?_)
      refine lv_if_eq (tgt := 39) hx hb dX11_load_17 (by decide) (fun c6 => ?_) (fun c6 => ?_)
      · replace h := h.1 c6
        refine lv_iconst (v := -1) hx hb dX11_load_39 (by decide) ?_
        exact hret (-1 : Int32) z4 H locs 40 ls hw rfl h dX11_load_40
      · replace h := h.2 c6
        refine lv_iload hx hb dX11_load_20 (lv_at hl 5 rfl) ?_
        have hq := h
        clear h
        refine xcSI (As := [.int p4]) (rest := []) E hw hA (c_X11_isGap l D ad cs sk z4 p4 _ hq) kc_11_177 yo_X11_isGap ⟨Nat.le_of_ble_eq_true rfl, Nat.le_of_ble_eq_true rfl⟩ rfl hl.1 rfl (Nat.le_of_ble_eq_true rfl) dX11_load_22 ⟨Nat.le_of_ble_eq_true rfl, Nat.le_of_ble_eq_true rfl⟩ (fun r8 z7 H locs h hw => ?_)
        refine lv_if_eq (tgt := 39) hx hb dX11_load_25 (by decide) (fun c9 => ?_) (fun c9 => ?_)
        · replace h := h.1 c9
          refine lv_iconst (v := -1) hx hb dX11_load_39 (by decide) ?_
          exact hret (-1 : Int32) z7 H locs 40 ls hw rfl h dX11_load_40
        · replace h := h.2 c9
          refine lv_iconst (v := 0) hx hb dX11_load_28 (by decide) ?_
          refine lv_iload hx hb dX11_load_29 (lv_at hl 6 rfl) ?_
          refine lv_ldc (v := 60000) hx hb hown (h0 _ qk_11_180) dX11_load_31 ?_
          have hq := h
          clear h
          refine xcSI (As := [.int (0 : Int32), .int p5, .int (60000 : Int32)]) (rest := []) E hw hA (c_X11_isFrom l D ad cs sk z7 (0 : Int32) p5 (60000 : Int32) _ hq) kc_11_83 yo_X11_isFrom ⟨Nat.le_of_ble_eq_true rfl, Nat.le_of_ble_eq_true rfl⟩ rfl hl.1 rfl (Nat.le_of_ble_eq_true rfl) dX11_load_33 ⟨Nat.le_of_ble_eq_true rfl, Nat.le_of_ble_eq_true rfl⟩ (fun r11 z10 H locs h hw => ?_)
          refine lv_if_ne (tgt := 41) hx hb dX11_load_36 (by decide) (fun c12 => ?_) (fun c12 => ?_)
          · replace h := h.1 c12
            refine lv_aload_n hx hb dX11_load_41 rfl (lv_at hl 1 rfl) ?_
            refine lv_aload hx hb dX11_load_42 (lv_at hl 0 rfl) ?_
            have hq := h
            clear h
            refine xcVI (As := [.ref (ad a3 100)]) (rest := []) E hw hA (c_X11_refusalOfLoad l D ad cs sk z10 a3 _ ha3 hq) kc_11_181 yo_X11_refusalOfLoad ⟨Nat.le_of_ble_eq_true rfl, Nat.le_of_ble_eq_true rfl⟩ (xrc E hw ky_0_100 rfl) rfl hl.1 rfl (Nat.le_of_ble_eq_true rfl) dX11_load_44 ⟨Nat.le_of_ble_eq_true rfl, Nat.le_of_ble_eq_true rfl⟩ (fun r14 z13 H locs h hw => ?_)
            refine lv_istore (lv' := [(7, .int r14), (6, .ref (ad a3 100)), (0, .ref (ad 0 100)), (1, .int p1), (2, .int p2), (3, .int p3), (4, .int p4), (5, .int p5)]) hx hb dX11_load_47 hl (by decide) rfl (fun ls hl => ?_)
            refine lv_iload hx hb dX11_load_49 (lv_at hl 0 rfl) ?_
            refine lv_if_eq (tgt := 57) hx hb dX11_load_51 (by decide) (fun c15 => ?_) (fun c15 => ?_)
            · replace h := h.1 c15
              refine lv_aload_n hx hb dX11_load_57 rfl (lv_at hl 2 rfl) ?_
              refine lv_aload hx hb dX11_load_58 (lv_at hl 1 rfl) ?_
              refine lv_iload_n hx hb dX11_load_60 rfl (lv_at hl 4 rfl) ?_
              refine lv_iload_n hx hb dX11_load_61 rfl (lv_at hl 5 rfl) ?_
              refine lv_iload hx hb dX11_load_62 (lv_at hl 6 rfl) ?_
              refine lv_iload hx hb dX11_load_64 (lv_at hl 7 rfl) ?_
              have hq := h
              clear h
              refine xcVI (As := [.ref (ad a3 100), .int p2, .int p3, .int p4, .int p5]) (rest := []) E hw hA (c_X11_loadWithin l D ad cs sk z13 a3 p2 p3 p4 p5 _ ha3 hq) kc_11_184 yo_X11_loadWithin ⟨Nat.le_of_ble_eq_true rfl, Nat.le_of_ble_eq_true rfl⟩ (xrc E hw ky_0_100 rfl) rfl hl.1 rfl (Nat.le_of_ble_eq_true rfl) dX11_load_66 ⟨Nat.le_of_ble_eq_true rfl, Nat.le_of_ble_eq_true rfl⟩ (fun r17 z16 H locs h hw => ?_)
              exact hret r17 z16 H locs 69 ls hw rfl h dX11_load_69
            · replace h := h.2 c15
              refine lv_iload hx hb dX11_load_54 (lv_at hl 0 rfl) ?_
              exact hret r14 z13 H locs 56 ls hw rfl h dX11_load_56
          · replace h := h.2 c12
            refine lv_iconst (v := -1) hx hb dX11_load_39 (by decide) ?_
            exact hret (-1 : Int32) z10 H locs 40 ls hw rfl h dX11_load_40
  exact b00 s.heap [] hw
def V_X11_bestLoad_162 (post : Int32 → ZS → Prop) (z : ZS) (v4 : Int32) (v7 : Int32) (v8 : Int32) (v9 : Int32) : Prop := ((¬ v4 = 0 → ((¬ v4 = (1 : Int32) → post v7 z) ∧ (v4 = (1 : Int32) → post v9 z))) ∧ (v4 = 0 → post v8 z))
def V_X11_bestLoad_156 (post : Int32 → ZS → Prop) (rr74 : ZS → Int32 → Int32 → Int32 → Nat → Int32 → Int32 → Int32 → Int32 → Prop) (z : ZS) (v2 : Int32) (v3 : Int32) (v4 : Int32) (v5 : Nat) (v7 : Int32) (v8 : Int32) (v9 : Int32) (v10 : Int32) : Prop := (∀ t21 : Int32, t21 = v10 + (1 : Int32) → rr74 z v2 v3 v4 v5 v7 v8 v9 t21)
def V_X11_bestLoad_147 (post : Int32 → ZS → Prop) (rr74 : ZS → Int32 → Int32 → Int32 → Nat → Int32 → Int32 → Int32 → Int32 → Prop) (rr96 : ZS → Int32 → Int32 → Int32 → Nat → Int32 → Int32 → Int32 → Int32 → Int32 → Prop) (z : ZS) (v2 : Int32) (v3 : Int32) (v4 : Int32) (v5 : Nat) (v7 : Int32) (v8 : Int32) (v9 : Int32) (v10 : Int32) (v11 : Int32) : Prop := (∀ t26 : Int32, t26 = v11 + (1000 : Int32) → rr96 z v2 v3 v4 v5 v7 v8 v9 v10 t26)
def V_X11_bestLoad_96 (post : Int32 → ZS → Prop) (rr74 : ZS → Int32 → Int32 → Int32 → Nat → Int32 → Int32 → Int32 → Int32 → Prop) : Nat → ZS → Int32 → Int32 → Int32 → Nat → Int32 → Int32 → Int32 → Int32 → Int32 → Prop
  | 0, _, _, _, _, _, _, _, _, _, _ => False
  | (n + 1), z, v2, v3, v4, v5, v7, v8, v9, v10, v11 => (((10000 : Int32) < v11 → V_X11_bestLoad_156 post rr74 z v2 v3 v4 v5 v7 v8 v9 v10) ∧ (¬ (10000 : Int32) < v11 → (((zI z v5 3) ≤ v7 → V_X11_bestLoad_156 post rr74 z v2 v3 v4 v5 v7 v8 v9 v10) ∧ (¬ (zI z v5 3) ≤ v7 → V_X11_loadWithin z v5 v11 v2 v10 v3 (fun r24 z23 => ((r24 ≤ v7 → V_X11_bestLoad_147 post rr74 (V_X11_bestLoad_96 post rr74 n) z23 v2 v3 v4 v5 v7 v8 v9 v10 v11) ∧ (¬ r24 ≤ v7 → V_X11_bestLoad_147 post rr74 (V_X11_bestLoad_96 post rr74 n) z23 v2 v3 v4 v5 r24 v11 v10 v10 v11)))))))
def V_X11_bestLoad_74 (post : Int32 → ZS → Prop) : Nat → ZS → Int32 → Int32 → Int32 → Nat → Int32 → Int32 → Int32 → Int32 → Prop
  | 0, _, _, _, _, _, _, _, _, _ => False
  | (n + 1), z, v2, v3, v4, v5, v7, v8, v9, v10 => (((10 : Int32) < v10 → V_X11_bestLoad_162 post z v4 v7 v8 v9) ∧ (¬ (10 : Int32) < v10 → (((zI z v5 3) ≤ v7 → V_X11_bestLoad_162 post z v4 v7 v8 v9) ∧ (¬ (zI z v5 3) ≤ v7 → (∃ n27 : Nat, V_X11_bestLoad_96 post (V_X11_bestLoad_74 post n) n27 z v2 v3 v4 v5 v7 v8 v9 v10 (-10000 : Int32))))))
def V_X11_bestLoad (z : ZS) (p1 : Int32) (p2 : Int32) (p3 : Int32) (p4 : Int32) (post : Int32 → ZS → Prop) : Prop := V_X11_shelfAt z p1 (fun r2o z1 => ((r2o = none → post (-1000000001 : Int32) z1) ∧ (∀ a3 : Nat, r2o = some a3 → isS a3 ∧ V_X11_isPlace z1 (0 : Int32) p2 (fun r5 z4 => ((r5 = 0 → post (-1000000001 : Int32) z4) ∧ (¬ r5 = 0 → V_X11_isFrom z4 (0 : Int32) p3 (60000 : Int32) (fun r8 z7 => ((r8 = 0 → post (-1000000001 : Int32) z7) ∧ (¬ r8 = 0 → V_X11_isFrom z7 (0 : Int32) p4 (2 : Int32) (fun r11 z10 => ((¬ r11 = 0 → V_X11_refusalOfLoad z10 a3 (fun r14 z13 => ((r14 = 0 → (∃ n28 : Nat, V_X11_bestLoad_74 post n28 z13 p2 p3 p4 a3 (-1 : Int32) (0 : Int32) (0 : Int32) (1 : Int32))) ∧ (¬ r14 = 0 → post ((-1000000000 : Int32) + r14) z13)))) ∧ (r11 = 0 → post (-1000000001 : Int32) z10))))))))))))
set_option maxHeartbeats 4000000 in
set_option maxRecDepth 100000 in
theorem c_X11_bestLoad (l : Launch) (D : va_G) (ad : Nat → Nat → Nat) (cs : Nat → ClassId) (sk : (Nat → Nat) × (Nat → Nat)) (z : ZS) (p1 : Int32) (p2 : Int32) (p3 : Int32) (p4 : Int32) (post : Int32 → ZS → Prop) (h : V_X11_bestLoad z p1 p2 p3 p4 post) : MI l D ad cs sk yX11_bestLoad cX11_bestLoad 13 .int (rmq 7 0 0) [.ref (ad 0 100), .int p1, .int p2, .int p3, .int p4] z post := by
  refine MI.of RX11 rfl (by decide) (Nat.le_of_ble_eq_true rfl) ?_
  intro p e s m args below meth c A Q E hw hA hret ls hl
  have hx := E.1.1
  have hb := E.1.2.1
  have hml := E.1.2.2.1
  have hown := E.1.2.2.2.1
  have h0 := E.1.2.2.2.2
  have hl : lv_has ls 13 [(0, .ref (ad 0 100)), (1, .int p1), (2, .int p2), (3, .int p3), (4, .int p4)] := hl
  unfold V_X11_bestLoad at h
  have b162 : ∀ (z : ZS) (v4 : Int32) (v7 : Int32) (v8 : Int32) (v9 : Int32), ∀ (H : Heap) (locs : List Loc), OW D ad cs A s.heap z H locs → ∀ ls : Array Slot, lv_has ls 13 [(4, .int v4), (7, .int v7), (8, .int v8), (9, .int v9)] → V_X11_bestLoad_162 post z v4 v7 v8 v9 → W p l e (rmq 7 0 0) s m args below meth c H locs 0 0 Q (F0 m 162 ls []) := by
    intro z v4 v7 v8 v9 H locs hw ls hl h
    unfold V_X11_bestLoad_162 at h
    refine lv_iload hx hb dX11_bestLoad_162 (lv_at hl 0 rfl) ?_
    refine lv_if_ne (tgt := 172) hx hb dX11_bestLoad_164 (by decide) (fun c17 => ?_) (fun c17 => ?_)
    · replace h := h.1 c17
      refine lv_iload hx hb dX11_bestLoad_172 (lv_at hl 0 rfl) ?_
      refine lv_iconst (v := 1) hx hb dX11_bestLoad_174 (by decide) ?_
      refine lv_icmp_ne (tgt := 183) hx hb dX11_bestLoad_175 (by decide) (fun c18 => ?_) (fun c18 => ?_)
      · replace h := h.1 c18
        refine lv_iload hx hb dX11_bestLoad_183 (lv_at hl 1 rfl) ?_
        exact hret v7 z H locs 185 ls hw rfl h dX11_bestLoad_185
      · replace h := h.2 c18
        refine lv_iload hx hb dX11_bestLoad_178 (lv_at hl 3 rfl) ?_
        refine lv_goto (tgt := 185) hx hb dX11_bestLoad_180 (by decide) ?_
        exact hret v9 z H locs 185 ls hw rfl h dX11_bestLoad_185
    · replace h := h.2 c17
      refine lv_iload hx hb dX11_bestLoad_167 (lv_at hl 2 rfl) ?_
      refine lv_goto (tgt := 185) hx hb dX11_bestLoad_169 (by decide) ?_
      exact hret v8 z H locs 185 ls hw rfl h dX11_bestLoad_185
  have b74 : ∀ (n : Nat) (z : ZS) (v2 : Int32) (v3 : Int32) (v4 : Int32) (v5 : Nat) (v7 : Int32) (v8 : Int32) (v9 : Int32) (v10 : Int32), isS v5 → ∀ (H : Heap) (locs : List Loc), OW D ad cs A s.heap z H locs → ∀ ls : Array Slot, lv_has ls 13 [(0, .ref (ad 0 100)), (2, .int v2), (3, .int v3), (4, .int v4), (5, .ref (ad v5 100)), (7, .int v7), (8, .int v8), (9, .int v9), (10, .int v10)] → V_X11_bestLoad_74 post n z v2 v3 v4 v5 v7 v8 v9 v10 → W p l e (rmq 7 0 0) s m args below meth c H locs 0 0 Q (F0 m 74 ls []) := by
    intro n
    induction n with
    | zero =>
      intro z v2 v3 v4 v5 v7 v8 v9 v10 hv5 H locs hw ls hl h
      exact h.elim
    | succ n74x ih74 =>
      have b156 : ∀ (z : ZS) (v2 : Int32) (v3 : Int32) (v4 : Int32) (v5 : Nat) (v7 : Int32) (v8 : Int32) (v9 : Int32) (v10 : Int32), isS v5 → ∀ (H : Heap) (locs : List Loc), OW D ad cs A s.heap z H locs → ∀ ls : Array Slot, lv_has ls 13 [(0, .ref (ad 0 100)), (2, .int v2), (3, .int v3), (4, .int v4), (5, .ref (ad v5 100)), (7, .int v7), (8, .int v8), (9, .int v9), (10, .int v10)] → V_X11_bestLoad_156 post (V_X11_bestLoad_74 post n74x) z v2 v3 v4 v5 v7 v8 v9 v10 → W p l e (rmq 7 0 0) s m args below meth c H locs 0 0 Q (F0 m 156 ls []) := by
        intro z v2 v3 v4 v5 v7 v8 v9 v10 hv5 H locs hw ls hl h
        unfold V_X11_bestLoad_156 at h
        obtain ⟨t21, et21⟩ : ∃ y : Int32, y = v10 + (1 : Int32) := ⟨_, rfl⟩
        replace h := h t21 et21
        refine lv_iinc (v := t21) (lv' := [(10, .int t21), (0, .ref (ad 0 100)), (2, .int v2), (3, .int v3), (4, .int v4), (5, .ref (ad v5 100)), (7, .int v7), (8, .int v8), (9, .int v9)]) hx hb dX11_bestLoad_156 hl (k := 8) rfl (by rw [et21]; rfl) (by decide) rfl (fun ls hl => ?_)
        refine lv_goto (tgt := 74) hx hb dX11_bestLoad_159 (by decide) ?_
        exact ih74 z v2 v3 v4 v5 v7 v8 v9 t21 hv5 H locs hw ls (lv_sub hl [1, 2, 3, 4, 5, 6, 7, 8, 0] rfl) h
      have b96 : ∀ (n : Nat) (z : ZS) (v2 : Int32) (v3 : Int32) (v4 : Int32) (v5 : Nat) (v7 : Int32) (v8 : Int32) (v9 : Int32) (v10 : Int32) (v11 : Int32), isS v5 → ∀ (H : Heap) (locs : List Loc), OW D ad cs A s.heap z H locs → ∀ ls : Array Slot, lv_has ls 13 [(0, .ref (ad 0 100)), (2, .int v2), (3, .int v3), (4, .int v4), (5, .ref (ad v5 100)), (7, .int v7), (8, .int v8), (9, .int v9), (10, .int v10), (11, .int v11)] → V_X11_bestLoad_96 post (V_X11_bestLoad_74 post n74x) n z v2 v3 v4 v5 v7 v8 v9 v10 v11 → W p l e (rmq 7 0 0) s m args below meth c H locs 0 0 Q (F0 m 96 ls []) := by
        intro n
        induction n with
        | zero =>
          intro z v2 v3 v4 v5 v7 v8 v9 v10 v11 hv5 H locs hw ls hl h
          exact h.elim
        | succ n96x ih96 =>
          have b147 : ∀ (z : ZS) (v2 : Int32) (v3 : Int32) (v4 : Int32) (v5 : Nat) (v7 : Int32) (v8 : Int32) (v9 : Int32) (v10 : Int32) (v11 : Int32), isS v5 → ∀ (H : Heap) (locs : List Loc), OW D ad cs A s.heap z H locs → ∀ ls : Array Slot, lv_has ls 13 [(0, .ref (ad 0 100)), (2, .int v2), (3, .int v3), (4, .int v4), (5, .ref (ad v5 100)), (7, .int v7), (8, .int v8), (9, .int v9), (10, .int v10), (11, .int v11)] → V_X11_bestLoad_147 post (V_X11_bestLoad_74 post n74x) (V_X11_bestLoad_96 post (V_X11_bestLoad_74 post n74x) n96x) z v2 v3 v4 v5 v7 v8 v9 v10 v11 → W p l e (rmq 7 0 0) s m args below meth c H locs 0 0 Q (F0 m 147 ls []) := by
            intro z v2 v3 v4 v5 v7 v8 v9 v10 v11 hv5 H locs hw ls hl h
            unfold V_X11_bestLoad_147 at h
            obtain ⟨t26, et26⟩ : ∃ y : Int32, y = v11 + (1000 : Int32) := ⟨_, rfl⟩
            replace h := h t26 et26
            refine lv_iincW (v := t26) (lv' := [(11, .int t26), (0, .ref (ad 0 100)), (2, .int v2), (3, .int v3), (4, .int v4), (5, .ref (ad v5 100)), (7, .int v7), (8, .int v8), (9, .int v9), (10, .int v10)]) hx hb dX11_bestLoad_147 hl (k := 9) rfl (by rw [et26]; rfl) (by decide) rfl (fun ls hl => ?_)
            refine lv_goto (tgt := 96) hx hb dX11_bestLoad_153 (by decide) ?_
            exact ih96 z v2 v3 v4 v5 v7 v8 v9 v10 t26 hv5 H locs hw ls (lv_sub hl [1, 2, 3, 4, 5, 6, 7, 8, 9, 0] rfl) h
          intro z v2 v3 v4 v5 v7 v8 v9 v10 v11 hv5 H locs hw ls hl h
          unfold V_X11_bestLoad_96 at h
          refine lv_iload hx hb dX11_bestLoad_96 (lv_at hl 9 rfl) ?_
          refine lv_sipush (v := 10000) hx hb dX11_bestLoad_98 (by decide) ?_
          refine lv_icmp_gt (tgt := 156) hx hb dX11_bestLoad_101 (by decide) (fun c20 => ?_) (fun c20 => ?_)
          · replace h := h.1 c20
            exact b156 z v2 v3 v4 v5 v7 v8 v9 v10 hv5 H locs hw ls (lv_sub hl [0, 1, 2, 3, 4, 5, 6, 7, 8] rfl) h
          · replace h := h.2 c20
            refine lv_iload hx hb dX11_bestLoad_104 (lv_at hl 5 rfl) ?_
            refine lv_aload hx hb dX11_bestLoad_106 (lv_at hl 4 rfl) ?_
            refine xgI E hw (c1 := 9) (ciisS hv5) (kyisS_100 hv5) fo_9_3 qf_11_189 dX11_bestLoad_108 ?_
            refine lv_icmp_ge (tgt := 156) hx hb dX11_bestLoad_111 (by decide) (fun c22 => ?_) (fun c22 => ?_)
            · replace h := h.1 c22
              exact b156 z v2 v3 v4 v5 v7 v8 v9 v10 hv5 H locs hw ls (lv_sub hl [0, 1, 2, 3, 4, 5, 6, 7, 8] rfl) h
            · replace h := h.2 c22
              refine lv_aload_n hx hb dX11_bestLoad_114 rfl (lv_at hl 0 rfl) ?_
              refine lv_aload hx hb dX11_bestLoad_115 (lv_at hl 4 rfl) ?_
              refine lv_iload hx hb dX11_bestLoad_117 (lv_at hl 9 rfl) ?_
              refine lv_iload_n hx hb dX11_bestLoad_119 rfl (lv_at hl 1 rfl) ?_
              refine lv_iload hx hb dX11_bestLoad_120 (lv_at hl 8 rfl) ?_
              refine lv_iload_n hx hb dX11_bestLoad_122 rfl (lv_at hl 2 rfl) ?_
              have hq := h
              clear h
              refine xcVI (As := [.ref (ad v5 100), .int v11, .int v2, .int v10, .int v3]) (rest := []) E hw hA (c_X11_loadWithin l D ad cs sk z v5 v11 v2 v10 v3 _ hv5 hq) kc_11_184 yo_X11_loadWithin ⟨Nat.le_of_ble_eq_true rfl, Nat.le_of_ble_eq_true rfl⟩ (xrc E hw ky_0_100 rfl) rfl hl.1 rfl (Nat.le_of_ble_eq_true rfl) dX11_bestLoad_123 ⟨Nat.le_of_ble_eq_true rfl, Nat.le_of_ble_eq_true rfl⟩ (fun r24 z23 H locs h hw => ?_)
              refine lv_istore (lv' := [(12, .int r24), (0, .ref (ad 0 100)), (2, .int v2), (3, .int v3), (4, .int v4), (5, .ref (ad v5 100)), (7, .int v7), (8, .int v8), (9, .int v9), (10, .int v10), (11, .int v11)]) hx hb dX11_bestLoad_126 hl (by decide) rfl (fun ls hl => ?_)
              refine lv_iload hx hb dX11_bestLoad_128 (lv_at hl 0 rfl) ?_
              refine lv_iload hx hb dX11_bestLoad_130 (lv_at hl 6 rfl) ?_
              refine lv_icmp_le (tgt := 147) hx hb dX11_bestLoad_132 (by decide) (fun c25 => ?_) (fun c25 => ?_)
              · replace h := h.1 c25
                exact b147 z23 v2 v3 v4 v5 v7 v8 v9 v10 v11 hv5 H locs hw ls (lv_sub hl [1, 2, 3, 4, 5, 6, 7, 8, 9, 10] rfl) h
              · replace h := h.2 c25
                refine lv_iload hx hb dX11_bestLoad_135 (lv_at hl 0 rfl) ?_
                refine lv_istore (lv' := [(7, .int r24), (12, .int r24), (0, .ref (ad 0 100)), (2, .int v2), (3, .int v3), (4, .int v4), (5, .ref (ad v5 100)), (8, .int v8), (9, .int v9), (10, .int v10), (11, .int v11)]) hx hb dX11_bestLoad_137 hl (by decide) rfl (fun ls hl => ?_)
                refine lv_iload hx hb dX11_bestLoad_139 (lv_at hl 10 rfl) ?_
                refine lv_istore (lv' := [(8, .int v11), (7, .int r24), (12, .int r24), (0, .ref (ad 0 100)), (2, .int v2), (3, .int v3), (4, .int v4), (5, .ref (ad v5 100)), (9, .int v9), (10, .int v10), (11, .int v11)]) hx hb dX11_bestLoad_141 hl (by decide) rfl (fun ls hl => ?_)
                refine lv_iload hx hb dX11_bestLoad_143 (lv_at hl 9 rfl) ?_
                refine lv_istore (lv' := [(9, .int v10), (8, .int v11), (7, .int r24), (12, .int r24), (0, .ref (ad 0 100)), (2, .int v2), (3, .int v3), (4, .int v4), (5, .ref (ad v5 100)), (10, .int v10), (11, .int v11)]) hx hb dX11_bestLoad_145 hl (by decide) rfl (fun ls hl => ?_)
                exact b147 z23 v2 v3 v4 v5 r24 v11 v10 v10 v11 hv5 H locs hw ls (lv_sub hl [4, 5, 6, 7, 8, 2, 1, 0, 9, 10] rfl) h
      intro z v2 v3 v4 v5 v7 v8 v9 v10 hv5 H locs hw ls hl h
      unfold V_X11_bestLoad_74 at h
      refine lv_iload hx hb dX11_bestLoad_74 (lv_at hl 8 rfl) ?_
      refine lv_bipush (v := 10) hx hb dX11_bestLoad_76 (by decide) ?_
      refine lv_icmp_gt (tgt := 162) hx hb dX11_bestLoad_78 (by decide) (fun c16 => ?_) (fun c16 => ?_)
      · replace h := h.1 c16
        exact b162 z v4 v7 v8 v9 H locs hw ls (lv_sub hl [3, 5, 6, 7] rfl) h
      · replace h := h.2 c16
        refine lv_iload hx hb dX11_bestLoad_81 (lv_at hl 5 rfl) ?_
        refine lv_aload hx hb dX11_bestLoad_83 (lv_at hl 4 rfl) ?_
        refine xgI E hw (c1 := 9) (ciisS hv5) (kyisS_100 hv5) fo_9_3 qf_11_189 dX11_bestLoad_85 ?_
        refine lv_icmp_ge (tgt := 162) hx hb dX11_bestLoad_88 (by decide) (fun c19 => ?_) (fun c19 => ?_)
        · replace h := h.1 c19
          exact b162 z v4 v7 v8 v9 H locs hw ls (lv_sub hl [3, 5, 6, 7] rfl) h
        · replace h := h.2 c19
          refine lv_sipush (v := -10000) hx hb dX11_bestLoad_91 (by decide) ?_
          refine lv_istore (lv' := [(11, .int (-10000 : Int32)), (0, .ref (ad 0 100)), (2, .int v2), (3, .int v3), (4, .int v4), (5, .ref (ad v5 100)), (7, .int v7), (8, .int v8), (9, .int v9), (10, .int v10)]) hx hb dX11_bestLoad_94 hl (by decide) rfl (fun ls hl => ?_)
          obtain ⟨n27, h⟩ := h
          exact b96 n27 z v2 v3 v4 v5 v7 v8 v9 v10 (-10000 : Int32) hv5 H locs hw ls (lv_sub hl [1, 2, 3, 4, 5, 6, 7, 8, 9, 0] rfl) h
  have b00 : ∀ (H : Heap) (locs : List Loc), OW D ad cs A s.heap z H locs → W p l e (rmq 7 0 0) s m args below meth c H locs 0 0 Q (F0 m 0 ls []) := by
    intro H locs hw
    refine lv_aload_n hx hb dX11_bestLoad_0 rfl (lv_at hl 0 rfl) ?_
    refine lv_iload_n hx hb dX11_bestLoad_1 rfl (lv_at hl 1 rfl) ?_
    have hq := h
    clear h
    refine xcVA (As := [.int p1]) (rest := []) E hw hA (c_X11_shelfAt l D ad cs sk z p1 _ hq) kc_11_58 yo_X11_shelfAt ⟨Nat.le_of_ble_eq_true rfl, Nat.le_of_ble_eq_true rfl⟩ (xrc E hw ky_0_100 rfl) rfl hl.1 rfl (Nat.le_of_ble_eq_true rfl) dX11_bestLoad_2 ⟨Nat.le_of_ble_eq_true rfl, Nat.le_of_ble_eq_true rfl⟩ (fun r2 z1 H locs h hw => ?_)
    obtain ⟨r2o, rfl, h⟩ := h
    refine xsqastore (lv' := [(5, va_rf (Option.map (fun o => ad o 100) r2o)), (0, .ref (ad 0 100)), (1, .int p1), (2, .int p2), (3, .int p3), (4, .int p4)]) hx hb dX11_bestLoad_5 hl (by decide) rfl (fun ls hl => ?_)
    refine xlqaload hx hb dX11_bestLoad_7 (lv_at hl 0 rfl) ?_
    refine xnulo (tgt := 40) hx hb dX11_bestLoad_9 (by decide) (fun ea3 => ?_) (fun a3 ea3 => ?_)
    · replace h := h.1 ea3
      subst ea3
      have hl : lv_has ls 13 [(5, .null), (0, .ref (ad 0 100)), (1, .int p1), (2, .int p2), (3, .int p3), (4, .int p4)] := hl
      refine lv_ldc (v := -1000000001) hx hb hown (h0 _ qk_11_76) dX11_bestLoad_40 ?_
      exact hret (-1000000001 : Int32) z1 H locs 42 ls hw rfl h dX11_bestLoad_42
    · replace h := h.2 a3 ea3
      obtain ⟨ha3, h⟩ := h
      subst ea3
      have hl : lv_has ls 13 [(5, .ref (ad a3 100)), (0, .ref (ad 0 100)), (1, .int p1), (2, .int p2), (3, .int p3), (4, .int p4)] := hl
      refine lv_iconst (v := 0) hx hb dX11_bestLoad_12 (by decide) ?_
      refine lv_iload_n hx hb dX11_bestLoad_13 rfl (lv_at hl 3 rfl) ?_
      have hq := h
      clear h
      refine xcSI (As := [.int (0 : Int32), .int p2]) (rest := []) E hw hA (c_X11_isPlace l D ad cs sk z1 (0 : Int32) p2 _ hq) kc_11_125 yo_X11_isPlace ⟨Nat.le_of_ble_eq_true rfl, Nat.le_of_ble_eq_true rfl⟩ rfl hl.1 rfl (Nat.le_of_ble_eq_true rfl) dX11_bestLoad_14 ⟨Nat.le_of_ble_eq_true rfl, Nat.le_of_ble_eq_true rfl⟩ (fun r5 z4 H locs h hw => ?_)
      refine lv_if_eq (tgt := 40) hx hb dX11_bestLoad_17 (by decide) (fun c6 => ?_) (fun c6 => ?_)
      · replace h := h.1 c6
        refine lv_ldc (v := -1000000001) hx hb hown (h0 _ qk_11_76) dX11_bestLoad_40 ?_
        exact hret (-1000000001 : Int32) z4 H locs 42 ls hw rfl h dX11_bestLoad_42
      · replace h := h.2 c6
        refine lv_iconst (v := 0) hx hb dX11_bestLoad_20 (by decide) ?_
        refine lv_iload_n hx hb dX11_bestLoad_21 rfl (lv_at hl 4 rfl) ?_
        refine lv_ldc (v := 60000) hx hb hown (h0 _ qk_11_180) dX11_bestLoad_22 ?_
        have hq := h
        clear h
        refine xcSI (As := [.int (0 : Int32), .int p3, .int (60000 : Int32)]) (rest := []) E hw hA (c_X11_isFrom l D ad cs sk z4 (0 : Int32) p3 (60000 : Int32) _ hq) kc_11_83 yo_X11_isFrom ⟨Nat.le_of_ble_eq_true rfl, Nat.le_of_ble_eq_true rfl⟩ rfl hl.1 rfl (Nat.le_of_ble_eq_true rfl) dX11_bestLoad_24 ⟨Nat.le_of_ble_eq_true rfl, Nat.le_of_ble_eq_true rfl⟩ (fun r8 z7 H locs h hw => ?_)
        refine lv_if_eq (tgt := 40) hx hb dX11_bestLoad_27 (by decide) (fun c9 => ?_) (fun c9 => ?_)
        · replace h := h.1 c9
          refine lv_ldc (v := -1000000001) hx hb hown (h0 _ qk_11_76) dX11_bestLoad_40 ?_
          exact hret (-1000000001 : Int32) z7 H locs 42 ls hw rfl h dX11_bestLoad_42
        · replace h := h.2 c9
          refine lv_iconst (v := 0) hx hb dX11_bestLoad_30 (by decide) ?_
          refine lv_iload hx hb dX11_bestLoad_31 (lv_at hl 5 rfl) ?_
          refine lv_iconst (v := 2) hx hb dX11_bestLoad_33 (by decide) ?_
          have hq := h
          clear h
          refine xcSI (As := [.int (0 : Int32), .int p4, .int (2 : Int32)]) (rest := []) E hw hA (c_X11_isFrom l D ad cs sk z7 (0 : Int32) p4 (2 : Int32) _ hq) kc_11_83 yo_X11_isFrom ⟨Nat.le_of_ble_eq_true rfl, Nat.le_of_ble_eq_true rfl⟩ rfl hl.1 rfl (Nat.le_of_ble_eq_true rfl) dX11_bestLoad_34 ⟨Nat.le_of_ble_eq_true rfl, Nat.le_of_ble_eq_true rfl⟩ (fun r11 z10 H locs h hw => ?_)
          refine lv_if_ne (tgt := 43) hx hb dX11_bestLoad_37 (by decide) (fun c12 => ?_) (fun c12 => ?_)
          · replace h := h.1 c12
            refine lv_aload_n hx hb dX11_bestLoad_43 rfl (lv_at hl 1 rfl) ?_
            refine lv_aload hx hb dX11_bestLoad_44 (lv_at hl 0 rfl) ?_
            have hq := h
            clear h
            refine xcVI (As := [.ref (ad a3 100)]) (rest := []) E hw hA (c_X11_refusalOfLoad l D ad cs sk z10 a3 _ ha3 hq) kc_11_181 yo_X11_refusalOfLoad ⟨Nat.le_of_ble_eq_true rfl, Nat.le_of_ble_eq_true rfl⟩ (xrc E hw ky_0_100 rfl) rfl hl.1 rfl (Nat.le_of_ble_eq_true rfl) dX11_bestLoad_46 ⟨Nat.le_of_ble_eq_true rfl, Nat.le_of_ble_eq_true rfl⟩ (fun r14 z13 H locs h hw => ?_)
            refine lv_istore (lv' := [(6, .int r14), (5, .ref (ad a3 100)), (0, .ref (ad 0 100)), (1, .int p1), (2, .int p2), (3, .int p3), (4, .int p4)]) hx hb dX11_bestLoad_49 hl (by decide) rfl (fun ls hl => ?_)
            refine lv_iload hx hb dX11_bestLoad_51 (lv_at hl 0 rfl) ?_
            refine lv_if_eq (tgt := 62) hx hb dX11_bestLoad_53 (by decide) (fun c15 => ?_) (fun c15 => ?_)
            · replace h := h.1 c15
              refine lv_iconst (v := -1) hx hb dX11_bestLoad_62 (by decide) ?_
              refine lv_istore (lv' := [(7, .int (-1 : Int32)), (6, .int r14), (5, .ref (ad a3 100)), (0, .ref (ad 0 100)), (1, .int p1), (2, .int p2), (3, .int p3), (4, .int p4)]) hx hb dX11_bestLoad_63 hl (by decide) rfl (fun ls hl => ?_)
              refine lv_iconst (v := 0) hx hb dX11_bestLoad_65 (by decide) ?_
              refine lv_istore (lv' := [(8, .int (0 : Int32)), (7, .int (-1 : Int32)), (6, .int r14), (5, .ref (ad a3 100)), (0, .ref (ad 0 100)), (1, .int p1), (2, .int p2), (3, .int p3), (4, .int p4)]) hx hb dX11_bestLoad_66 hl (by decide) rfl (fun ls hl => ?_)
              refine lv_iconst (v := 0) hx hb dX11_bestLoad_68 (by decide) ?_
              refine lv_istore (lv' := [(9, .int (0 : Int32)), (8, .int (0 : Int32)), (7, .int (-1 : Int32)), (6, .int r14), (5, .ref (ad a3 100)), (0, .ref (ad 0 100)), (1, .int p1), (2, .int p2), (3, .int p3), (4, .int p4)]) hx hb dX11_bestLoad_69 hl (by decide) rfl (fun ls hl => ?_)
              refine lv_iconst (v := 1) hx hb dX11_bestLoad_71 (by decide) ?_
              refine lv_istore (lv' := [(10, .int (1 : Int32)), (9, .int (0 : Int32)), (8, .int (0 : Int32)), (7, .int (-1 : Int32)), (6, .int r14), (5, .ref (ad a3 100)), (0, .ref (ad 0 100)), (1, .int p1), (2, .int p2), (3, .int p3), (4, .int p4)]) hx hb dX11_bestLoad_72 hl (by decide) rfl (fun ls hl => ?_)
              obtain ⟨n28, h⟩ := h
              exact b74 n28 z13 p2 p3 p4 a3 (-1 : Int32) (0 : Int32) (0 : Int32) (1 : Int32) ha3 H locs hw ls (lv_sub hl [6, 8, 9, 10, 5, 3, 2, 1, 0] rfl) h
            · replace h := h.2 c15
              refine lv_ldc (v := -1000000000) hx hb hown (h0 _ qk_11_188) dX11_bestLoad_56 ?_
              refine lv_iload hx hb dX11_bestLoad_58 (lv_at hl 0 rfl) ?_
              refine lv_iadd hx hb dX11_bestLoad_60 ?_
              exact hret ((-1000000000 : Int32) + r14) z13 H locs 61 ls hw rfl h dX11_bestLoad_61
          · replace h := h.2 c12
            refine lv_ldc (v := -1000000001) hx hb hown (h0 _ qk_11_76) dX11_bestLoad_40 ?_
            exact hret (-1000000001 : Int32) z10 H locs 42 ls hw rfl h dX11_bestLoad_42
  exact b00 s.heap [] hw
def V_X11_digitsOfOrder_7 (post : Int32 → ZS → Prop) : Nat → ZS → Int32 → Int32 → Int32 → Int32 → Prop
  | 0, _, _, _, _, _ => False
  | (n + 1), z, v1, v2, v3, v4 => ((v1 ≤ v4 → post v2 z) ∧ (¬ v1 ≤ v4 → (vp_in v4 5 ∧ (∀ t2 : Int32, t2 = (v2 + ((zR z 0 8 (Int32.toNatClampNeg v4)) * v3)) → (∀ t3 : Int32, t3 = (v3 * (10 : Int32)) → (∀ t4 : Int32, t4 = v4 + (1 : Int32) → (V_X11_digitsOfOrder_7 post n) z v1 t2 t3 t4))))))
def V_X11_digitsOfOrder (z : ZS) (p1 : Int32) (post : Int32 → ZS → Prop) : Prop := (∃ n5 : Nat, V_X11_digitsOfOrder_7 post n5 z p1 (0 : Int32) (1 : Int32) (0 : Int32))
set_option maxHeartbeats 4000000 in
set_option maxRecDepth 100000 in
theorem c_X11_digitsOfOrder (l : Launch) (D : va_G) (ad : Nat → Nat → Nat) (cs : Nat → ClassId) (sk : (Nat → Nat) × (Nat → Nat)) (z : ZS) (p1 : Int32) (post : Int32 → ZS → Prop) (h : V_X11_digitsOfOrder z p1 post) : MI l D ad cs sk yX11_digitsOfOrder cX11_digitsOfOrder 5 .int (rmq 0 0 0) [.ref (ad 0 100), .int p1] z post := by
  refine MI.of RX11 rfl (by decide) (Nat.le_of_ble_eq_true rfl) ?_
  intro p e s m args below meth c A Q E hw hA hret ls hl
  have hx := E.1.1
  have hb := E.1.2.1
  have hml := E.1.2.2.1
  have hown := E.1.2.2.2.1
  have h0 := E.1.2.2.2.2
  have hl : lv_has ls 5 [(0, .ref (ad 0 100)), (1, .int p1)] := hl
  unfold V_X11_digitsOfOrder at h
  have b7 : ∀ (n : Nat) (z : ZS) (v1 : Int32) (v2 : Int32) (v3 : Int32) (v4 : Int32), ∀ (H : Heap) (locs : List Loc), OW D ad cs A s.heap z H locs → ∀ ls : Array Slot, lv_has ls 5 [(0, .ref (ad 0 100)), (1, .int v1), (2, .int v2), (3, .int v3), (4, .int v4)] → V_X11_digitsOfOrder_7 post n z v1 v2 v3 v4 → W p l e (rmq 0 0 0) s m args below meth c H locs 0 0 Q (F0 m 7 ls []) := by
    intro n
    induction n with
    | zero =>
      intro z v1 v2 v3 v4 H locs hw ls hl h
      exact h.elim
    | succ n7x ih7 =>
      intro z v1 v2 v3 v4 H locs hw ls hl h
      unfold V_X11_digitsOfOrder_7 at h
      refine lv_iload hx hb dX11_digitsOfOrder_7 (lv_at hl 4 rfl) ?_
      refine lv_iload_n hx hb dX11_digitsOfOrder_9 rfl (lv_at hl 1 rfl) ?_
      refine lv_icmp_ge (tgt := 36) hx hb dX11_digitsOfOrder_10 (by decide) (fun c1 => ?_) (fun c1 => ?_)
      · replace h := h.1 c1
        refine lv_iload_n hx hb dX11_digitsOfOrder_36 rfl (lv_at hl 2 rfl) ?_
        exact hret v2 z H locs 37 ls hw rfl h dX11_digitsOfOrder_37
      · replace h := h.2 c1
        refine lv_iload_n hx hb dX11_digitsOfOrder_13 rfl (lv_at hl 2 rfl) ?_
        refine lv_aload_n hx hb dX11_digitsOfOrder_14 rfl (lv_at hl 0 rfl) ?_
        refine xgC E hw (c1 := 11) (t := (0, 8)) rfl ky_0_100 fo_11_8 rfl qf_11_48 dX11_digitsOfOrder_15 ?_
        refine lv_iload hx hb dX11_digitsOfOrder_18 (lv_at hl 4 rfl) ?_
        obtain ⟨hi, h⟩ := h
        refine xal E hw ky_0_8 ka_0_8 hi dX11_digitsOfOrder_20 ?_
        refine lv_iload_n hx hb dX11_digitsOfOrder_21 rfl (lv_at hl 3 rfl) ?_
        refine lv_imul hx hb dX11_digitsOfOrder_22 ?_
        refine lv_iadd hx hb dX11_digitsOfOrder_23 ?_
        refine lv_topi (fun t2 et2 => ?_)
        replace h := h t2 et2
        refine lv_istore_n (lv' := [(2, .int t2), (0, .ref (ad 0 100)), (1, .int v1), (3, .int v3), (4, .int v4)]) hx hb dX11_digitsOfOrder_24 rfl hl (by decide) rfl (fun ls hl => ?_)
        refine lv_iload_n hx hb dX11_digitsOfOrder_25 rfl (lv_at hl 3 rfl) ?_
        refine lv_bipush (v := 10) hx hb dX11_digitsOfOrder_26 (by decide) ?_
        refine lv_imul hx hb dX11_digitsOfOrder_28 ?_
        refine lv_topi (fun t3 et3 => ?_)
        replace h := h t3 et3
        refine lv_istore_n (lv' := [(3, .int t3), (2, .int t2), (0, .ref (ad 0 100)), (1, .int v1), (4, .int v4)]) hx hb dX11_digitsOfOrder_29 rfl hl (by decide) rfl (fun ls hl => ?_)
        obtain ⟨t4, et4⟩ : ∃ y : Int32, y = v4 + (1 : Int32) := ⟨_, rfl⟩
        replace h := h t4 et4
        refine lv_iinc (v := t4) (lv' := [(4, .int t4), (3, .int t3), (2, .int t2), (0, .ref (ad 0 100)), (1, .int v1)]) hx hb dX11_digitsOfOrder_30 hl (k := 4) rfl (by rw [et4]; rfl) (by decide) rfl (fun ls hl => ?_)
        refine lv_goto (tgt := 7) hx hb dX11_digitsOfOrder_33 (by decide) ?_
        exact ih7 z v1 t2 t3 t4 H locs hw ls (lv_sub hl [3, 4, 2, 1, 0] rfl) h
  have b00 : ∀ (H : Heap) (locs : List Loc), OW D ad cs A s.heap z H locs → W p l e (rmq 0 0 0) s m args below meth c H locs 0 0 Q (F0 m 0 ls []) := by
    intro H locs hw
    refine lv_iconst (v := 0) hx hb dX11_digitsOfOrder_0 (by decide) ?_
    refine lv_istore_n (lv' := [(2, .int (0 : Int32)), (0, .ref (ad 0 100)), (1, .int p1)]) hx hb dX11_digitsOfOrder_1 rfl hl (by decide) rfl (fun ls hl => ?_)
    refine lv_iconst (v := 1) hx hb dX11_digitsOfOrder_2 (by decide) ?_
    refine lv_istore_n (lv' := [(3, .int (1 : Int32)), (2, .int (0 : Int32)), (0, .ref (ad 0 100)), (1, .int p1)]) hx hb dX11_digitsOfOrder_3 rfl hl (by decide) rfl (fun ls hl => ?_)
    refine lv_iconst (v := 0) hx hb dX11_digitsOfOrder_4 (by decide) ?_
    refine lv_istore (lv' := [(4, .int (0 : Int32)), (3, .int (1 : Int32)), (2, .int (0 : Int32)), (0, .ref (ad 0 100)), (1, .int p1)]) hx hb dX11_digitsOfOrder_5 hl (by decide) rfl (fun ls hl => ?_)
    obtain ⟨n5, h⟩ := h
    exact b7 n5 z p1 (0 : Int32) (1 : Int32) (0 : Int32) H locs hw ls (lv_sub hl [3, 4, 2, 1, 0] rfl) h
  exact b00 s.heap [] hw
def V_X11_swapPlaces (z : ZS) (p1 : Int32) (p2 : Int32) (post : ZS → Prop) : Prop := (vp_in p1 5 ∧ (∀ t1 : Int32, t1 = (zR z 0 8 (Int32.toNatClampNeg p1)) → (vp_in p2 5 ∧ (vp_in p1 5 ∧ ∀ z2 : ZS, z2 = wR z 0 8 (Int32.toNatClampNeg p1) (zR z 0 8 (Int32.toNatClampNeg p2)) → (vp_in p2 5 ∧ ∀ z3 : ZS, z3 = wR z2 0 8 (Int32.toNatClampNeg p2) t1 → post z3)))))
set_option maxHeartbeats 4000000 in
set_option maxRecDepth 100000 in
theorem c_X11_swapPlaces (l : Launch) (D : va_G) (ad : Nat → Nat → Nat) (cs : Nat → ClassId) (sk : (Nat → Nat) × (Nat → Nat)) (z : ZS) (p1 : Int32) (p2 : Int32) (post : ZS → Prop) (h : V_X11_swapPlaces z p1 p2 post) : MV l D ad cs sk yX11_swapPlaces cX11_swapPlaces 4 (rmq 0 0 0) [.ref (ad 0 100), .int p1, .int p2] z post := by
  refine MV.of RX11 rfl (by decide) (Nat.le_of_ble_eq_true rfl) ?_
  intro p e s m args below meth c A Q E hw hA hret ls hl
  have hx := E.1.1
  have hb := E.1.2.1
  have hml := E.1.2.2.1
  have hown := E.1.2.2.2.1
  have h0 := E.1.2.2.2.2
  have hl : lv_has ls 4 [(0, .ref (ad 0 100)), (1, .int p1), (2, .int p2)] := hl
  unfold V_X11_swapPlaces at h
  have b00 : ∀ (H : Heap) (locs : List Loc), OW D ad cs A s.heap z H locs → W p l e (rmq 0 0 0) s m args below meth c H locs 0 0 Q (F0 m 0 ls []) := by
    intro H locs hw
    refine lv_aload_n hx hb dX11_swapPlaces_0 rfl (lv_at hl 0 rfl) ?_
    refine xgC E hw (c1 := 11) (t := (0, 8)) rfl ky_0_100 fo_11_8 rfl qf_11_48 dX11_swapPlaces_1 ?_
    refine lv_iload_n hx hb dX11_swapPlaces_4 rfl (lv_at hl 1 rfl) ?_
    obtain ⟨hi, h⟩ := h
    refine xal E hw ky_0_8 ka_0_8 hi dX11_swapPlaces_5 ?_
    refine lv_topi (fun t1 et1 => ?_)
    replace h := h t1 et1
    refine lv_istore_n (lv' := [(3, .int t1), (0, .ref (ad 0 100)), (1, .int p1), (2, .int p2)]) hx hb dX11_swapPlaces_6 rfl hl (by decide) rfl (fun ls hl => ?_)
    refine lv_aload_n hx hb dX11_swapPlaces_7 rfl (lv_at hl 1 rfl) ?_
    refine xgC E hw (c1 := 11) (t := (0, 8)) rfl ky_0_100 fo_11_8 rfl qf_11_48 dX11_swapPlaces_8 ?_
    refine lv_iload_n hx hb dX11_swapPlaces_11 rfl (lv_at hl 2 rfl) ?_
    refine lv_aload_n hx hb dX11_swapPlaces_12 rfl (lv_at hl 1 rfl) ?_
    refine xgC E hw (c1 := 11) (t := (0, 8)) rfl ky_0_100 fo_11_8 rfl qf_11_48 dX11_swapPlaces_13 ?_
    refine lv_iload_n hx hb dX11_swapPlaces_16 rfl (lv_at hl 3 rfl) ?_
    obtain ⟨hi, h⟩ := h
    refine xal E hw ky_0_8 ka_0_8 hi dX11_swapPlaces_17 ?_
    obtain ⟨hi, h⟩ := h
    refine xas E hw ky_0_8 ka_0_8 hi dX11_swapPlaces_18 (fun z2 ez2 H locs hw => ?_)
    replace h := h z2 ez2
    refine lv_aload_n hx hb dX11_swapPlaces_19 rfl (lv_at hl 1 rfl) ?_
    refine xgC E hw (c1 := 11) (t := (0, 8)) rfl ky_0_100 fo_11_8 rfl qf_11_48 dX11_swapPlaces_20 ?_
    refine lv_iload_n hx hb dX11_swapPlaces_23 rfl (lv_at hl 3 rfl) ?_
    refine lv_iload_n hx hb dX11_swapPlaces_24 rfl (lv_at hl 0 rfl) ?_
    obtain ⟨hi, h⟩ := h
    refine xas E hw ky_0_8 ka_0_8 hi dX11_swapPlaces_25 (fun z3 ez3 H locs hw => ?_)
    replace h := h z3 ez3
    exact hret z3 H locs 26 ls hw h dX11_swapPlaces_26
  exact b00 s.heap [] hw
def V_X11_nextOrder_93 (post : Int32 → ZS → Prop) : Nat → ZS → Int32 → Int32 → Prop
  | 0, _, _, _ => False
  | (n + 1), z, v4, v5 => ((v5 ≤ v4 → post (1 : Int32) z) ∧ (¬ v5 ≤ v4 → V_X11_swapPlaces z v4 v5 (fun z12 => (∀ t14 : Int32, t14 = v4 + (1 : Int32) → (∀ t15 : Int32, t15 = v5 + (-1 : Int32) → (V_X11_nextOrder_93 post n) z12 t14 t15)))))
def V_X11_nextOrder_71 (post : Int32 → ZS → Prop) (rr46 : ZS → Int32 → Int32 → Int32 → Int32 → Prop) (z : ZS) (v1 : Int32) (v2 : Int32) (v3 : Int32) (v4 : Int32) : Prop := (∀ t18 : Int32, t18 = v4 + (1 : Int32) → rr46 z v1 v2 v3 t18)
def V_X11_nextOrder_46 (post : Int32 → ZS → Prop) : Nat → ZS → Int32 → Int32 → Int32 → Int32 → Prop
  | 0, _, _, _, _, _ => False
  | (n + 1), z, v1, v2, v3, v4 => ((v1 ≤ v4 → V_X11_swapPlaces z v2 v3 (fun z7 => (∀ t9 : Int32, t9 = (v2 + (1 : Int32)) → (∀ t10 : Int32, t10 = (v1 - (1 : Int32)) → (∃ n16 : Nat, V_X11_nextOrder_93 post n16 z7 t9 t10))))) ∧ (¬ v1 ≤ v4 → (vp_in v4 5 ∧ (vp_in v2 5 ∧ (((zR z 0 8 (Int32.toNatClampNeg v4)) ≤ (zR z 0 8 (Int32.toNatClampNeg v2)) → V_X11_nextOrder_71 post (V_X11_nextOrder_46 post n) z v1 v2 v3 v4) ∧ (¬ (zR z 0 8 (Int32.toNatClampNeg v4)) ≤ (zR z 0 8 (Int32.toNatClampNeg v2)) → V_X11_nextOrder_71 post (V_X11_nextOrder_46 post n) z v1 v2 v4 v4))))))
def V_X11_nextOrder_31 (post : Int32 → ZS → Prop) (z : ZS) (v1 : Int32) (v2 : Int32) : Prop := ((0 ≤ v2 → (∀ t4 : Int32, t4 = (v2 + (1 : Int32)) → (∀ t5 : Int32, t5 = (v2 + (2 : Int32)) → (∃ n19 : Nat, V_X11_nextOrder_46 post n19 z v1 v2 t4 t5)))) ∧ (¬ 0 ≤ v2 → post (0 : Int32) z))
def V_X11_nextOrder_4 (post : Int32 → ZS → Prop) : Nat → ZS → Int32 → Int32 → Prop
  | 0, _, _, _ => False
  | (n + 1), z, v1, v2 => ((v2 < 0 → V_X11_nextOrder_31 post z v1 v2) ∧ (¬ v2 < 0 → (vp_in v2 5 ∧ (vp_in (v2 + (1 : Int32)) 5 ∧ (((zR z 0 8 (Int32.toNatClampNeg v2)) ≤ (zR z 0 8 (Int32.toNatClampNeg (v2 + (1 : Int32)))) → V_X11_nextOrder_31 post z v1 v2) ∧ (¬ (zR z 0 8 (Int32.toNatClampNeg v2)) ≤ (zR z 0 8 (Int32.toNatClampNeg (v2 + (1 : Int32)))) → (∀ t21 : Int32, t21 = v2 + (-1 : Int32) → (V_X11_nextOrder_4 post n) z v1 t21)))))))
def V_X11_nextOrder (z : ZS) (p1 : Int32) (post : Int32 → ZS → Prop) : Prop := (∀ t1 : Int32, t1 = (p1 - (2 : Int32)) → (∃ n22 : Nat, V_X11_nextOrder_4 post n22 z p1 t1))
set_option maxHeartbeats 4000000 in
set_option maxRecDepth 100000 in
theorem c_X11_nextOrder (l : Launch) (D : va_G) (ad : Nat → Nat → Nat) (cs : Nat → ClassId) (sk : (Nat → Nat) × (Nat → Nat)) (z : ZS) (p1 : Int32) (post : Int32 → ZS → Prop) (h : V_X11_nextOrder z p1 post) : MI l D ad cs sk yX11_nextOrder cX11_nextOrder 6 .boolean (rmq 1 0 0) [.ref (ad 0 100), .int p1] z post := by
  refine MI.of RX11 rfl (by decide) (Nat.le_of_ble_eq_true rfl) ?_
  intro p e s m args below meth c A Q E hw hA hret ls hl
  have hx := E.1.1
  have hb := E.1.2.1
  have hml := E.1.2.2.1
  have hown := E.1.2.2.2.1
  have h0 := E.1.2.2.2.2
  have hl : lv_has ls 6 [(0, .ref (ad 0 100)), (1, .int p1)] := hl
  unfold V_X11_nextOrder at h
  have b93 : ∀ (n : Nat) (z : ZS) (v4 : Int32) (v5 : Int32), ∀ (H : Heap) (locs : List Loc), OW D ad cs A s.heap z H locs → ∀ ls : Array Slot, lv_has ls 6 [(0, .ref (ad 0 100)), (4, .int v4), (5, .int v5)] → V_X11_nextOrder_93 post n z v4 v5 → W p l e (rmq 1 0 0) s m args below meth c H locs 0 0 Q (F0 m 93 ls []) := by
    intro n
    induction n with
    | zero =>
      intro z v4 v5 H locs hw ls hl h
      exact h.elim
    | succ n93x ih93 =>
      intro z v4 v5 H locs hw ls hl h
      unfold V_X11_nextOrder_93 at h
      refine lv_iload hx hb dX11_nextOrder_93 (lv_at hl 1 rfl) ?_
      refine lv_iload hx hb dX11_nextOrder_95 (lv_at hl 2 rfl) ?_
      refine lv_icmp_ge (tgt := 117) hx hb dX11_nextOrder_97 (by decide) (fun c11 => ?_) (fun c11 => ?_)
      · replace h := h.1 c11
        refine lv_iconst (v := 1) hx hb dX11_nextOrder_117 (by decide) ?_
        exact hret (1 : Int32) z H locs 118 ls hw rfl h dX11_nextOrder_118
      · replace h := h.2 c11
        refine lv_aload_n hx hb dX11_nextOrder_100 rfl (lv_at hl 0 rfl) ?_
        refine lv_iload hx hb dX11_nextOrder_101 (lv_at hl 1 rfl) ?_
        refine lv_iload hx hb dX11_nextOrder_103 (lv_at hl 2 rfl) ?_
        have hq := h
        clear h
        refine xcVV (As := [.int v4, .int v5]) (rest := []) E hw hA (c_X11_swapPlaces l D ad cs sk z v4 v5 _ hq) kc_11_337 yo_X11_swapPlaces ⟨Nat.le_of_ble_eq_true rfl, Nat.le_of_ble_eq_true rfl⟩ (xrc E hw ky_0_100 rfl) rfl hl.1 rfl (Nat.le_of_ble_eq_true rfl) dX11_nextOrder_105 ⟨Nat.le_of_ble_eq_true rfl, Nat.le_of_ble_eq_true rfl⟩ (fun z12 H locs h hw => ?_)
        obtain ⟨t14, et14⟩ : ∃ y : Int32, y = v4 + (1 : Int32) := ⟨_, rfl⟩
        replace h := h t14 et14
        refine lv_iinc (v := t14) (lv' := [(4, .int t14), (0, .ref (ad 0 100)), (5, .int v5)]) hx hb dX11_nextOrder_108 hl (k := 1) rfl (by rw [et14]; rfl) (by decide) rfl (fun ls hl => ?_)
        obtain ⟨t15, et15⟩ : ∃ y : Int32, y = v5 + (-1 : Int32) := ⟨_, rfl⟩
        replace h := h t15 et15
        refine lv_iinc (v := t15) (lv' := [(5, .int t15), (4, .int t14), (0, .ref (ad 0 100))]) hx hb dX11_nextOrder_111 hl (k := 2) rfl (by rw [et15]; rfl) (by decide) rfl (fun ls hl => ?_)
        refine lv_goto (tgt := 93) hx hb dX11_nextOrder_114 (by decide) ?_
        exact ih93 z12 t14 t15 H locs hw ls (lv_sub hl [2, 1, 0] rfl) h
  have b46 : ∀ (n : Nat) (z : ZS) (v1 : Int32) (v2 : Int32) (v3 : Int32) (v4 : Int32), ∀ (H : Heap) (locs : List Loc), OW D ad cs A s.heap z H locs → ∀ ls : Array Slot, lv_has ls 6 [(0, .ref (ad 0 100)), (1, .int v1), (2, .int v2), (3, .int v3), (4, .int v4)] → V_X11_nextOrder_46 post n z v1 v2 v3 v4 → W p l e (rmq 1 0 0) s m args below meth c H locs 0 0 Q (F0 m 46 ls []) := by
    intro n
    induction n with
    | zero =>
      intro z v1 v2 v3 v4 H locs hw ls hl h
      exact h.elim
    | succ n46x ih46 =>
      have b71 : ∀ (z : ZS) (v1 : Int32) (v2 : Int32) (v3 : Int32) (v4 : Int32), ∀ (H : Heap) (locs : List Loc), OW D ad cs A s.heap z H locs → ∀ ls : Array Slot, lv_has ls 6 [(0, .ref (ad 0 100)), (1, .int v1), (2, .int v2), (3, .int v3), (4, .int v4)] → V_X11_nextOrder_71 post (V_X11_nextOrder_46 post n46x) z v1 v2 v3 v4 → W p l e (rmq 1 0 0) s m args below meth c H locs 0 0 Q (F0 m 71 ls []) := by
        intro z v1 v2 v3 v4 H locs hw ls hl h
        unfold V_X11_nextOrder_71 at h
        obtain ⟨t18, et18⟩ : ∃ y : Int32, y = v4 + (1 : Int32) := ⟨_, rfl⟩
        replace h := h t18 et18
        refine lv_iinc (v := t18) (lv' := [(4, .int t18), (0, .ref (ad 0 100)), (1, .int v1), (2, .int v2), (3, .int v3)]) hx hb dX11_nextOrder_71 hl (k := 4) rfl (by rw [et18]; rfl) (by decide) rfl (fun ls hl => ?_)
        refine lv_goto (tgt := 46) hx hb dX11_nextOrder_74 (by decide) ?_
        exact ih46 z v1 v2 v3 t18 H locs hw ls (lv_sub hl [1, 2, 3, 4, 0] rfl) h
      intro z v1 v2 v3 v4 H locs hw ls hl h
      unfold V_X11_nextOrder_46 at h
      refine lv_iload hx hb dX11_nextOrder_46 (lv_at hl 4 rfl) ?_
      refine lv_iload_n hx hb dX11_nextOrder_48 rfl (lv_at hl 1 rfl) ?_
      refine lv_icmp_ge (tgt := 77) hx hb dX11_nextOrder_49 (by decide) (fun c6 => ?_) (fun c6 => ?_)
      · replace h := h.1 c6
        refine lv_aload_n hx hb dX11_nextOrder_77 rfl (lv_at hl 0 rfl) ?_
        refine lv_iload_n hx hb dX11_nextOrder_78 rfl (lv_at hl 2 rfl) ?_
        refine lv_iload_n hx hb dX11_nextOrder_79 rfl (lv_at hl 3 rfl) ?_
        have hq := h
        clear h
        refine xcVV (As := [.int v2, .int v3]) (rest := []) E hw hA (c_X11_swapPlaces l D ad cs sk z v2 v3 _ hq) kc_11_337 yo_X11_swapPlaces ⟨Nat.le_of_ble_eq_true rfl, Nat.le_of_ble_eq_true rfl⟩ (xrc E hw ky_0_100 rfl) rfl hl.1 rfl (Nat.le_of_ble_eq_true rfl) dX11_nextOrder_80 ⟨Nat.le_of_ble_eq_true rfl, Nat.le_of_ble_eq_true rfl⟩ (fun z7 H locs h hw => ?_)
        refine lv_iload_n hx hb dX11_nextOrder_83 rfl (lv_at hl 2 rfl) ?_
        refine lv_iconst (v := 1) hx hb dX11_nextOrder_84 (by decide) ?_
        refine lv_iadd hx hb dX11_nextOrder_85 ?_
        refine lv_topi (fun t9 et9 => ?_)
        replace h := h t9 et9
        refine lv_istore (lv' := [(4, .int t9), (0, .ref (ad 0 100)), (1, .int v1), (2, .int v2), (3, .int v3)]) hx hb dX11_nextOrder_86 hl (by decide) rfl (fun ls hl => ?_)
        refine lv_iload_n hx hb dX11_nextOrder_88 rfl (lv_at hl 2 rfl) ?_
        refine lv_iconst (v := 1) hx hb dX11_nextOrder_89 (by decide) ?_
        refine lv_isub hx hb dX11_nextOrder_90 ?_
        refine lv_topi (fun t10 et10 => ?_)
        replace h := h t10 et10
        refine lv_istore (lv' := [(5, .int t10), (4, .int t9), (0, .ref (ad 0 100)), (1, .int v1), (2, .int v2), (3, .int v3)]) hx hb dX11_nextOrder_91 hl (by decide) rfl (fun ls hl => ?_)
        obtain ⟨n16, h⟩ := h
        exact b93 n16 z7 t9 t10 H locs hw ls (lv_sub hl [2, 1, 0] rfl) h
      · replace h := h.2 c6
        refine lv_aload_n hx hb dX11_nextOrder_52 rfl (lv_at hl 0 rfl) ?_
        refine xgC E hw (c1 := 11) (t := (0, 8)) rfl ky_0_100 fo_11_8 rfl qf_11_48 dX11_nextOrder_53 ?_
        refine lv_iload hx hb dX11_nextOrder_56 (lv_at hl 4 rfl) ?_
        obtain ⟨hi, h⟩ := h
        refine xal E hw ky_0_8 ka_0_8 hi dX11_nextOrder_58 ?_
        refine lv_aload_n hx hb dX11_nextOrder_59 rfl (lv_at hl 0 rfl) ?_
        refine xgC E hw (c1 := 11) (t := (0, 8)) rfl ky_0_100 fo_11_8 rfl qf_11_48 dX11_nextOrder_60 ?_
        refine lv_iload_n hx hb dX11_nextOrder_63 rfl (lv_at hl 2 rfl) ?_
        obtain ⟨hi, h⟩ := h
        refine xal E hw ky_0_8 ka_0_8 hi dX11_nextOrder_64 ?_
        refine lv_icmp_le (tgt := 71) hx hb dX11_nextOrder_65 (by decide) (fun c17 => ?_) (fun c17 => ?_)
        · replace h := h.1 c17
          exact b71 z v1 v2 v3 v4 H locs hw ls (lv_sub hl [0, 1, 2, 3, 4] rfl) h
        · replace h := h.2 c17
          refine lv_iload hx hb dX11_nextOrder_68 (lv_at hl 4 rfl) ?_
          refine lv_istore_n (lv' := [(3, .int v4), (0, .ref (ad 0 100)), (1, .int v1), (2, .int v2), (4, .int v4)]) hx hb dX11_nextOrder_70 rfl hl (by decide) rfl (fun ls hl => ?_)
          exact b71 z v1 v2 v4 v4 H locs hw ls (lv_sub hl [1, 2, 3, 0, 4] rfl) h
  have b31 : ∀ (z : ZS) (v1 : Int32) (v2 : Int32), ∀ (H : Heap) (locs : List Loc), OW D ad cs A s.heap z H locs → ∀ ls : Array Slot, lv_has ls 6 [(0, .ref (ad 0 100)), (1, .int v1), (2, .int v2)] → V_X11_nextOrder_31 post z v1 v2 → W p l e (rmq 1 0 0) s m args below meth c H locs 0 0 Q (F0 m 31 ls []) := by
    intro z v1 v2 H locs hw ls hl h
    unfold V_X11_nextOrder_31 at h
    refine lv_iload_n hx hb dX11_nextOrder_31 rfl (lv_at hl 2 rfl) ?_
    refine lv_if_ge (tgt := 37) hx hb dX11_nextOrder_32 (by decide) (fun c3 => ?_) (fun c3 => ?_)
    · replace h := h.1 c3
      refine lv_iload_n hx hb dX11_nextOrder_37 rfl (lv_at hl 2 rfl) ?_
      refine lv_iconst (v := 1) hx hb dX11_nextOrder_38 (by decide) ?_
      refine lv_iadd hx hb dX11_nextOrder_39 ?_
      refine lv_topi (fun t4 et4 => ?_)
      replace h := h t4 et4
      refine lv_istore_n (lv' := [(3, .int t4), (0, .ref (ad 0 100)), (1, .int v1), (2, .int v2)]) hx hb dX11_nextOrder_40 rfl hl (by decide) rfl (fun ls hl => ?_)
      refine lv_iload_n hx hb dX11_nextOrder_41 rfl (lv_at hl 3 rfl) ?_
      refine lv_iconst (v := 2) hx hb dX11_nextOrder_42 (by decide) ?_
      refine lv_iadd hx hb dX11_nextOrder_43 ?_
      refine lv_topi (fun t5 et5 => ?_)
      replace h := h t5 et5
      refine lv_istore (lv' := [(4, .int t5), (3, .int t4), (0, .ref (ad 0 100)), (1, .int v1), (2, .int v2)]) hx hb dX11_nextOrder_44 hl (by decide) rfl (fun ls hl => ?_)
      obtain ⟨n19, h⟩ := h
      exact b46 n19 z v1 v2 t4 t5 H locs hw ls (lv_sub hl [2, 3, 4, 1, 0] rfl) h
    · replace h := h.2 c3
      refine lv_iconst (v := 0) hx hb dX11_nextOrder_35 (by decide) ?_
      exact hret (0 : Int32) z H locs 36 ls hw rfl h dX11_nextOrder_36
  have b4 : ∀ (n : Nat) (z : ZS) (v1 : Int32) (v2 : Int32), ∀ (H : Heap) (locs : List Loc), OW D ad cs A s.heap z H locs → ∀ ls : Array Slot, lv_has ls 6 [(0, .ref (ad 0 100)), (1, .int v1), (2, .int v2)] → V_X11_nextOrder_4 post n z v1 v2 → W p l e (rmq 1 0 0) s m args below meth c H locs 0 0 Q (F0 m 4 ls []) := by
    intro n
    induction n with
    | zero =>
      intro z v1 v2 H locs hw ls hl h
      exact h.elim
    | succ n4x ih4 =>
      intro z v1 v2 H locs hw ls hl h
      unfold V_X11_nextOrder_4 at h
      refine lv_iload_n hx hb dX11_nextOrder_4 rfl (lv_at hl 2 rfl) ?_
      refine lv_if_lt (tgt := 31) hx hb dX11_nextOrder_5 (by decide) (fun c2 => ?_) (fun c2 => ?_)
      · replace h := h.1 c2
        exact b31 z v1 v2 H locs hw ls (lv_sub hl [0, 1, 2] rfl) h
      · replace h := h.2 c2
        refine lv_aload_n hx hb dX11_nextOrder_8 rfl (lv_at hl 0 rfl) ?_
        refine xgC E hw (c1 := 11) (t := (0, 8)) rfl ky_0_100 fo_11_8 rfl qf_11_48 dX11_nextOrder_9 ?_
        refine lv_iload_n hx hb dX11_nextOrder_12 rfl (lv_at hl 2 rfl) ?_
        obtain ⟨hi, h⟩ := h
        refine xal E hw ky_0_8 ka_0_8 hi dX11_nextOrder_13 ?_
        refine lv_aload_n hx hb dX11_nextOrder_14 rfl (lv_at hl 0 rfl) ?_
        refine xgC E hw (c1 := 11) (t := (0, 8)) rfl ky_0_100 fo_11_8 rfl qf_11_48 dX11_nextOrder_15 ?_
        refine lv_iload_n hx hb dX11_nextOrder_18 rfl (lv_at hl 2 rfl) ?_
        refine lv_iconst (v := 1) hx hb dX11_nextOrder_19 (by decide) ?_
        refine lv_iadd hx hb dX11_nextOrder_20 ?_
        obtain ⟨hi, h⟩ := h
        refine xal E hw ky_0_8 ka_0_8 hi dX11_nextOrder_21 ?_
        refine lv_icmp_le (tgt := 31) hx hb dX11_nextOrder_22 (by decide) (fun c20 => ?_) (fun c20 => ?_)
        · replace h := h.1 c20
          exact b31 z v1 v2 H locs hw ls (lv_sub hl [0, 1, 2] rfl) h
        · replace h := h.2 c20
          obtain ⟨t21, et21⟩ : ∃ y : Int32, y = v2 + (-1 : Int32) := ⟨_, rfl⟩
          replace h := h t21 et21
          refine lv_iinc (v := t21) (lv' := [(2, .int t21), (0, .ref (ad 0 100)), (1, .int v1)]) hx hb dX11_nextOrder_25 hl (k := 2) rfl (by rw [et21]; rfl) (by decide) rfl (fun ls hl => ?_)
          refine lv_goto (tgt := 4) hx hb dX11_nextOrder_28 (by decide) ?_
          exact ih4 z v1 t21 H locs hw ls (lv_sub hl [1, 2, 0] rfl) h
  have b00 : ∀ (H : Heap) (locs : List Loc), OW D ad cs A s.heap z H locs → W p l e (rmq 1 0 0) s m args below meth c H locs 0 0 Q (F0 m 0 ls []) := by
    intro H locs hw
    refine lv_iload_n hx hb dX11_nextOrder_0 rfl (lv_at hl 1 rfl) ?_
    refine lv_iconst (v := 2) hx hb dX11_nextOrder_1 (by decide) ?_
    refine lv_isub hx hb dX11_nextOrder_2 ?_
    refine lv_topi (fun t1 et1 => ?_)
    replace h := h t1 et1
    refine lv_istore_n (lv' := [(2, .int t1), (0, .ref (ad 0 100)), (1, .int p1)]) hx hb dX11_nextOrder_3 rfl hl (by decide) rfl (fun ls hl => ?_)
    obtain ⟨n22, h⟩ := h
    exact b4 n22 z p1 t1 H locs hw ls (lv_sub hl [1, 2, 0] rfl) h
  exact b00 s.heap [] hw
