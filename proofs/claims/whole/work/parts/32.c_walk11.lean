def V_X11_judge_121 (post : Int32 → ZS → Prop) (rr68 : ZS → Int32 → Nat → Nat → Int32 → Prop) (z : ZS) (v2 : Int32) (v4 : Nat) (v5 : Nat) (v7 : Int32) : Prop := (∀ t20 : Int32, t20 = v7 + (1 : Int32) → rr68 z v2 v4 v5 t20)
def V_X11_judge_68 (post : Int32 → ZS → Prop) : Nat → ZS → Int32 → Nat → Nat → Int32 → Prop
  | 0, _, _, _, _, _ => False
  | (n + 1), z, v2, v4, v5, v7 => (((zI z v5 3) ≤ v7 → post (-4 : Int32) z) ∧ (¬ (zI z v5 3) ≤ v7 → V_X9_valueAt z v5 v7 (fun r16 z15 => V_X9_leastOfSort z15 v5 (fun r18 z17 => ((r16 = r18 → V_X11_judge_121 post (V_X11_judge_68 post n) z17 v2 v4 v5 v7) ∧ (¬ r16 = r18 → V_X3_offFrom z17 4 v4 (v7 * (1000 : Int32)) v2 (fun r22 z21 => ((r16 = r22 → V_X11_judge_121 post (V_X11_judge_68 post n) z21 v2 v4 v5 v7) ∧ (¬ r16 = r22 → post v7 z21)))))))))
def V_X11_judge (z : ZS) (p1 : Int32) (p2 : Int32) (p3 : Int32) (post : Int32 → ZS → Prop) : Prop := V_X0_fallerAt z 1 p1 (fun r2 z1 => V_X11_shelfAt z1 p3 (fun r4o z3 => ((r2 = none → post (-1 : Int32) z3) ∧ (∀ a5 : Nat, r2 = some a5 → ((r4o = none → post (-1 : Int32) z3) ∧ (∀ a6 : Nat, r4o = some a6 → isS a6 ∧ V_X11_isPlace z3 (0 : Int32) p2 (fun r8 z7 => ((¬ r8 = 0 → V_X11_refusalOfRow z7 a6 (fun r11 z10 => ((r11 = 0 → (((zI z10 a6 3) ≤ (31 : Int32) → (∃ n24 : Nat, V_X11_judge_68 post n24 z10 p2 a5 a6 (0 : Int32))) ∧ (¬ (zI z10 a6 3) ≤ (31 : Int32) → post (-13 : Int32) z10))) ∧ (¬ r11 = 0 → post r11 z10)))) ∧ (r8 = 0 → post (-1 : Int32) z7)))))))))
set_option maxHeartbeats 4000000 in
set_option maxRecDepth 100000 in
theorem c_X11_judge (l : Launch) (D : va_G) (ad : Nat → Nat → Nat) (cs : Nat → ClassId) (sk : (Nat → Nat) × (Nat → Nat)) (z : ZS) (p1 : Int32) (p2 : Int32) (p3 : Int32) (post : Int32 → ZS → Prop) (h : V_X11_judge z p1 p2 p3 post) : MI l D ad cs sk yX11_judge cX11_judge 9 .int (rmq 6 0 0) [.ref (ad 0 100), .int p1, .int p2, .int p3] z post := by
  refine MI.of RX11 rfl (by decide) (Nat.le_of_ble_eq_true rfl) ?_
  intro p e s m args below meth c A Q E hw hA hret ls hl
  have hx := E.1.1
  have hb := E.1.2.1
  have hml := E.1.2.2.1
  have hown := E.1.2.2.2.1
  have h0 := E.1.2.2.2.2
  have hl : lv_has ls 9 [(0, .ref (ad 0 100)), (1, .int p1), (2, .int p2), (3, .int p3)] := hl
  unfold V_X11_judge at h
  have b68 : ∀ (n : Nat) (z : ZS) (v2 : Int32) (v4 : Nat) (v5 : Nat) (v7 : Int32), isS v5 → ∀ (H : Heap) (locs : List Loc), OW D ad cs A s.heap z H locs → ∀ ls : Array Slot, lv_has ls 9 [(0, .ref (ad 0 100)), (2, .int v2), (4, .ref v4), (5, .ref (ad v5 100)), (7, .int v7)] → V_X11_judge_68 post n z v2 v4 v5 v7 → W p l e (rmq 6 0 0) s m args below meth c H locs 0 0 Q (F0 m 68 ls []) := by
    intro n
    induction n with
    | zero =>
      intro z v2 v4 v5 v7 hv5 H locs hw ls hl h
      exact h.elim
    | succ n68x ih68 =>
      have b121 : ∀ (z : ZS) (v2 : Int32) (v4 : Nat) (v5 : Nat) (v7 : Int32), isS v5 → ∀ (H : Heap) (locs : List Loc), OW D ad cs A s.heap z H locs → ∀ ls : Array Slot, lv_has ls 9 [(0, .ref (ad 0 100)), (2, .int v2), (4, .ref v4), (5, .ref (ad v5 100)), (7, .int v7)] → V_X11_judge_121 post (V_X11_judge_68 post n68x) z v2 v4 v5 v7 → W p l e (rmq 6 0 0) s m args below meth c H locs 0 0 Q (F0 m 121 ls []) := by
        intro z v2 v4 v5 v7 hv5 H locs hw ls hl h
        unfold V_X11_judge_121 at h
        obtain ⟨t20, et20⟩ : ∃ y : Int32, y = v7 + (1 : Int32) := ⟨_, rfl⟩
        replace h := h t20 et20
        refine lv_iinc (v := t20) (lv' := [(7, .int t20), (0, .ref (ad 0 100)), (2, .int v2), (4, .ref v4), (5, .ref (ad v5 100))]) hx hb dX11_judge_121 hl (k := 4) rfl (by rw [et20]; rfl) (by decide) rfl (fun ls hl => ?_)
        refine lv_goto (tgt := 68) hx hb dX11_judge_124 (by decide) ?_
        exact ih68 z v2 v4 v5 t20 hv5 H locs hw ls (lv_sub hl [1, 2, 3, 4, 0] rfl) h
      intro z v2 v4 v5 v7 hv5 H locs hw ls hl h
      unfold V_X11_judge_68 at h
      refine lv_iload hx hb dX11_judge_68 (lv_at hl 4 rfl) ?_
      refine lv_aload hx hb dX11_judge_70 (lv_at hl 3 rfl) ?_
      refine xgI E hw (c1 := 9) (ciisS hv5) (kyisS_100 hv5) fo_9_3 qf_11_189 dX11_judge_72 ?_
      refine lv_icmp_ge (tgt := 127) hx hb dX11_judge_75 (by decide) (fun c14 => ?_) (fun c14 => ?_)
      · replace h := h.1 c14
        refine lv_bipush (v := -4) hx hb dX11_judge_127 (by decide) ?_
        exact hret (-4 : Int32) z H locs 129 ls hw rfl h dX11_judge_129
      · replace h := h.2 c14
        refine lv_aload hx hb dX11_judge_78 (lv_at hl 3 rfl) ?_
        refine lv_iload hx hb dX11_judge_80 (lv_at hl 4 rfl) ?_
        have hq := h
        clear h
        refine xcVI (As := [.int v7]) (rest := []) E hw hA (c_X9_valueAt l D ad cs sk z v5 v7 _ hv5 hq) kc_11_258 yo_X9_valueAt ⟨Nat.le_of_ble_eq_true rfl, Nat.le_of_ble_eq_true rfl⟩ (xrc E hw (kyisS_100 hv5) (ciisS hv5)) rfl hl.1 rfl (Nat.le_of_ble_eq_true rfl) dX11_judge_82 ⟨Nat.le_of_ble_eq_true rfl, Nat.le_of_ble_eq_true rfl⟩ (fun r16 z15 H locs h hw => ?_)
        refine lv_istore (lv' := [(8, .int r16), (0, .ref (ad 0 100)), (2, .int v2), (4, .ref v4), (5, .ref (ad v5 100)), (7, .int v7)]) hx hb dX11_judge_85 hl (by decide) rfl (fun ls hl => ?_)
        refine lv_iload hx hb dX11_judge_87 (lv_at hl 0 rfl) ?_
        refine lv_aload hx hb dX11_judge_89 (lv_at hl 4 rfl) ?_
        have hq := h
        clear h
        refine xcVI (As := []) (rest := [.int r16]) E hw hA (c_X9_leastOfSort l D ad cs sk z15 v5 _ hv5 hq) kc_11_261 yo_X9_leastOfSort ⟨Nat.le_of_ble_eq_true rfl, Nat.le_of_ble_eq_true rfl⟩ (xrc E hw (kyisS_100 hv5) (ciisS hv5)) rfl hl.1 rfl (Nat.le_of_ble_eq_true rfl) dX11_judge_91 ⟨Nat.le_of_ble_eq_true rfl, Nat.le_of_ble_eq_true rfl⟩ (fun r18 z17 H locs h hw => ?_)
        refine lv_icmp_eq (tgt := 121) hx hb dX11_judge_94 (by decide) (fun c19 => ?_) (fun c19 => ?_)
        · replace h := h.1 c19
          exact b121 z17 v2 v4 v5 v7 hv5 H locs hw ls (lv_sub hl [1, 2, 3, 4, 5] rfl) h
        · replace h := h.2 c19
          refine lv_iload hx hb dX11_judge_97 (lv_at hl 0 rfl) ?_
          refine lv_aload_n hx hb dX11_judge_99 rfl (lv_at hl 1 rfl) ?_
          refine xgC E hw (c1 := 11) (t := (4, 100)) rfl ky_0_100 fo_11_4 rfl qf_11_31 dX11_judge_100 ?_
          refine lv_aload hx hb dX11_judge_103 (lv_at hl 3 rfl) ?_
          refine lv_iload hx hb dX11_judge_105 (lv_at hl 5 rfl) ?_
          refine lv_sipush (v := 1000) hx hb dX11_judge_107 (by decide) ?_
          refine lv_imul hx hb dX11_judge_110 ?_
          refine lv_iload_n hx hb dX11_judge_111 rfl (lv_at hl 2 rfl) ?_
          have hq := h
          clear h
          refine xcVI (As := [.ref v4, .int (v7 * (1000 : Int32)), .int v2]) (rest := [.int r16]) E hw hA (c_X3_offFrom l D ad cs sk z17 4 v4 (v7 * (1000 : Int32)) v2 _ is_4 hq) kc_11_173 yo_X3_offFrom ⟨Nat.le_of_ble_eq_true rfl, Nat.le_of_ble_eq_true rfl⟩ (xrc E hw ky_4_100 rfl) rfl hl.1 rfl (Nat.le_of_ble_eq_true rfl) dX11_judge_112 ⟨Nat.le_of_ble_eq_true rfl, Nat.le_of_ble_eq_true rfl⟩ (fun r22 z21 H locs h hw => ?_)
          refine lv_icmp_eq (tgt := 121) hx hb dX11_judge_115 (by decide) (fun c23 => ?_) (fun c23 => ?_)
          · replace h := h.1 c23
            exact b121 z21 v2 v4 v5 v7 hv5 H locs hw ls (lv_sub hl [1, 2, 3, 4, 5] rfl) h
          · replace h := h.2 c23
            refine lv_iload hx hb dX11_judge_118 (lv_at hl 5 rfl) ?_
            exact hret v7 z21 H locs 120 ls hw rfl h dX11_judge_120
  have b00 : ∀ (H : Heap) (locs : List Loc), OW D ad cs A s.heap z H locs → W p l e (rmq 6 0 0) s m args below meth c H locs 0 0 Q (F0 m 0 ls []) := by
    intro H locs hw
    refine lv_aload_n hx hb dX11_judge_0 rfl (lv_at hl 0 rfl) ?_
    refine xgC E hw (c1 := 11) (t := (1, 100)) rfl ky_0_100 fo_11_0 rfl qf_11_10 dX11_judge_1 ?_
    refine lv_iload_n hx hb dX11_judge_4 rfl (lv_at hl 1 rfl) ?_
    have hq := h
    clear h
    refine xcVA (As := [.int p1]) (rest := []) E hw hA (c_X0_fallerAt l D ad cs sk z 1 p1 _ is_1 hq) kc_11_97 yo_X0_fallerAt ⟨Nat.le_of_ble_eq_true rfl, Nat.le_of_ble_eq_true rfl⟩ (xrc E hw ky_1_100 rfl) rfl hl.1 rfl (Nat.le_of_ble_eq_true rfl) dX11_judge_5 ⟨Nat.le_of_ble_eq_true rfl, Nat.le_of_ble_eq_true rfl⟩ (fun r2 z1 H locs h hw => ?_)
    refine xsqastore (lv' := [(4, va_rf r2), (0, .ref (ad 0 100)), (1, .int p1), (2, .int p2), (3, .int p3)]) hx hb dX11_judge_8 hl (by decide) rfl (fun ls hl => ?_)
    refine lv_aload_n hx hb dX11_judge_10 rfl (lv_at hl 1 rfl) ?_
    refine lv_iload_n hx hb dX11_judge_11 rfl (lv_at hl 4 rfl) ?_
    have hq := h
    clear h
    refine xcVA (As := [.int p3]) (rest := []) E hw hA (c_X11_shelfAt l D ad cs sk z1 p3 _ hq) kc_11_58 yo_X11_shelfAt ⟨Nat.le_of_ble_eq_true rfl, Nat.le_of_ble_eq_true rfl⟩ (xrc E hw ky_0_100 rfl) rfl hl.1 rfl (Nat.le_of_ble_eq_true rfl) dX11_judge_12 ⟨Nat.le_of_ble_eq_true rfl, Nat.le_of_ble_eq_true rfl⟩ (fun r4 z3 H locs h hw => ?_)
    obtain ⟨r4o, rfl, h⟩ := h
    refine xsqastore (lv' := [(5, va_rf (Option.map (fun o => ad o 100) r4o)), (4, va_rf r2), (0, .ref (ad 0 100)), (1, .int p1), (2, .int p2), (3, .int p3)]) hx hb dX11_judge_15 hl (by decide) (by simp [cat_rf]) (fun ls hl => ?_)
    refine xlqaload hx hb dX11_judge_17 (lv_at hl 1 rfl) ?_
    refine xnul (tgt := 35) hx hb dX11_judge_19 (by decide) (fun ea5 => ?_) (fun a5 ea5 => ?_)
    · replace h := h.1 ea5
      subst ea5
      have hl : lv_has ls 9 [(5, va_rf (Option.map (fun o => ad o 100) r4o)), (4, .null), (0, .ref (ad 0 100)), (1, .int p1), (2, .int p2), (3, .int p3)] := hl
      refine lv_iconst (v := -1) hx hb dX11_judge_35 (by decide) ?_
      exact hret (-1 : Int32) z3 H locs 36 ls hw rfl h dX11_judge_36
    · replace h := h.2 a5 ea5
      subst ea5
      have hl : lv_has ls 9 [(5, va_rf (Option.map (fun o => ad o 100) r4o)), (4, .ref a5), (0, .ref (ad 0 100)), (1, .int p1), (2, .int p2), (3, .int p3)] := hl
      refine xlqaload hx hb dX11_judge_22 (lv_at hl 0 rfl) ?_
      refine xnulo (tgt := 35) hx hb dX11_judge_24 (by decide) (fun ea6 => ?_) (fun a6 ea6 => ?_)
      · replace h := h.1 ea6
        subst ea6
        have hl : lv_has ls 9 [(5, .null), (4, .ref a5), (0, .ref (ad 0 100)), (1, .int p1), (2, .int p2), (3, .int p3)] := hl
        refine lv_iconst (v := -1) hx hb dX11_judge_35 (by decide) ?_
        exact hret (-1 : Int32) z3 H locs 36 ls hw rfl h dX11_judge_36
      · replace h := h.2 a6 ea6
        obtain ⟨ha6, h⟩ := h
        subst ea6
        have hl : lv_has ls 9 [(5, .ref (ad a6 100)), (4, .ref a5), (0, .ref (ad 0 100)), (1, .int p1), (2, .int p2), (3, .int p3)] := hl
        refine lv_iconst (v := 0) hx hb dX11_judge_27 (by decide) ?_
        refine lv_iload_n hx hb dX11_judge_28 rfl (lv_at hl 4 rfl) ?_
        have hq := h
        clear h
        refine xcSI (As := [.int (0 : Int32), .int p2]) (rest := []) E hw hA (c_X11_isPlace l D ad cs sk z3 (0 : Int32) p2 _ hq) kc_11_125 yo_X11_isPlace ⟨Nat.le_of_ble_eq_true rfl, Nat.le_of_ble_eq_true rfl⟩ rfl hl.1 rfl (Nat.le_of_ble_eq_true rfl) dX11_judge_29 ⟨Nat.le_of_ble_eq_true rfl, Nat.le_of_ble_eq_true rfl⟩ (fun r8 z7 H locs h hw => ?_)
        refine lv_if_ne (tgt := 37) hx hb dX11_judge_32 (by decide) (fun c9 => ?_) (fun c9 => ?_)
        · replace h := h.1 c9
          refine lv_aload hx hb dX11_judge_37 (lv_at hl 0 rfl) ?_
          have hq := h
          clear h
          refine xcSI (As := [.ref (ad a6 100)]) (rest := []) E hw hA (c_X11_refusalOfRow l D ad cs sk z7 a6 _ ha6 hq) kc_11_255 yo_X11_refusalOfRow ⟨Nat.le_of_ble_eq_true rfl, Nat.le_of_ble_eq_true rfl⟩ rfl hl.1 rfl (Nat.le_of_ble_eq_true rfl) dX11_judge_39 ⟨Nat.le_of_ble_eq_true rfl, Nat.le_of_ble_eq_true rfl⟩ (fun r11 z10 H locs h hw => ?_)
          refine lv_istore (lv' := [(6, .int r11), (5, .ref (ad a6 100)), (4, .ref a5), (0, .ref (ad 0 100)), (1, .int p1), (2, .int p2), (3, .int p3)]) hx hb dX11_judge_42 hl (by decide) rfl (fun ls hl => ?_)
          refine lv_iload hx hb dX11_judge_44 (lv_at hl 0 rfl) ?_
          refine lv_if_eq (tgt := 52) hx hb dX11_judge_46 (by decide) (fun c12 => ?_) (fun c12 => ?_)
          · replace h := h.1 c12
            refine lv_aload hx hb dX11_judge_52 (lv_at hl 1 rfl) ?_
            refine xgI E hw (c1 := 9) (ciisS ha6) (kyisS_100 ha6) fo_9_3 qf_11_189 dX11_judge_54 ?_
            refine lv_bipush (v := 31) hx hb dX11_judge_57 (by decide) ?_
            refine lv_icmp_le (tgt := 65) hx hb dX11_judge_59 (by decide) (fun c13 => ?_) (fun c13 => ?_)
            · replace h := h.1 c13
              refine lv_iconst (v := 0) hx hb dX11_judge_65 (by decide) ?_
              refine lv_istore (lv' := [(7, .int (0 : Int32)), (6, .int r11), (5, .ref (ad a6 100)), (4, .ref a5), (0, .ref (ad 0 100)), (1, .int p1), (2, .int p2), (3, .int p3)]) hx hb dX11_judge_66 hl (by decide) rfl (fun ls hl => ?_)
              obtain ⟨n24, h⟩ := h
              exact b68 n24 z10 p2 a5 a6 (0 : Int32) ha6 H locs hw ls (lv_sub hl [4, 6, 3, 2, 0] rfl) h
            · replace h := h.2 c13
              refine lv_bipush (v := -13) hx hb dX11_judge_62 (by decide) ?_
              exact hret (-13 : Int32) z10 H locs 64 ls hw rfl h dX11_judge_64
          · replace h := h.2 c12
            refine lv_iload hx hb dX11_judge_49 (lv_at hl 0 rfl) ?_
            exact hret r11 z10 H locs 51 ls hw rfl h dX11_judge_51
        · replace h := h.2 c9
          refine lv_iconst (v := -1) hx hb dX11_judge_35 (by decide) ?_
          exact hret (-1 : Int32) z7 H locs 36 ls hw rfl h dX11_judge_36
  exact b00 s.heap [] hw
def V_X11_image (z : ZS) (post : Int32 → ZS → Prop) : Prop := V_X0_become z 3 1 (fun z1 => (∀ z3 : ZS, z3 = wI z1 0 3 (1 : Int32) → post (zI z3 1 6) z3))
set_option maxHeartbeats 4000000 in
set_option maxRecDepth 100000 in
theorem c_X11_image (l : Launch) (D : va_G) (ad : Nat → Nat → Nat) (cs : Nat → ClassId) (sk : (Nat → Nat) × (Nat → Nat)) (z : ZS) (post : Int32 → ZS → Prop) (h : V_X11_image z post) : MI l D ad cs sk yX11_image cX11_image 1 .int (rmq 2 0 0) [.ref (ad 0 100)] z post := by
  refine MI.of RX11 rfl (by decide) (Nat.le_of_ble_eq_true rfl) ?_
  intro p e s m args below meth c A Q E hw hA hret ls hl
  have hx := E.1.1
  have hb := E.1.2.1
  have hml := E.1.2.2.1
  have hown := E.1.2.2.2.1
  have h0 := E.1.2.2.2.2
  have hl : lv_has ls 1 [(0, .ref (ad 0 100))] := hl
  unfold V_X11_image at h
  have b00 : ∀ (H : Heap) (locs : List Loc), OW D ad cs A s.heap z H locs → W p l e (rmq 2 0 0) s m args below meth c H locs 0 0 Q (F0 m 0 ls []) := by
    intro H locs hw
    refine lv_aload_n hx hb dX11_image_0 rfl (lv_at hl 0 rfl) ?_
    refine xgC E hw (c1 := 11) (t := (3, 100)) rfl ky_0_100 fo_11_2 rfl qf_11_19 dX11_image_1 ?_
    refine lv_aload_n hx hb dX11_image_4 rfl (lv_at hl 0 rfl) ?_
    refine xgC E hw (c1 := 11) (t := (1, 100)) rfl ky_0_100 fo_11_0 rfl qf_11_10 dX11_image_5 ?_
    have hq := h
    clear h
    refine xcVV (As := [.ref (ad 1 100)]) (rest := []) E hw hA (c_X0_become l D ad cs sk z 3 1 _ is_3 is_1 hq) kc_11_66 yo_X0_become ⟨Nat.le_of_ble_eq_true rfl, Nat.le_of_ble_eq_true rfl⟩ (xrc E hw ky_3_100 rfl) rfl hl.1 rfl (Nat.le_of_ble_eq_true rfl) dX11_image_8 ⟨Nat.le_of_ble_eq_true rfl, Nat.le_of_ble_eq_true rfl⟩ (fun z1 H locs h hw => ?_)
    refine lv_aload_n hx hb dX11_image_11 rfl (lv_at hl 0 rfl) ?_
    refine lv_iconst (v := 1) hx hb dX11_image_12 (by decide) ?_
    refine xpI E hw (c1 := 11) rfl ky_0_100 fp_11_3 rfl rfl qf_11_22 dX11_image_13 (fun z3 ez3 H locs hw => ?_)
    replace h := h z3 ez3
    refine lv_aload_n hx hb dX11_image_16 rfl (lv_at hl 0 rfl) ?_
    refine xgC E hw (c1 := 11) (t := (1, 100)) rfl ky_0_100 fo_11_0 rfl qf_11_10 dX11_image_17 ?_
    refine xgI E hw (c1 := 0) rfl ky_1_100 fo_0_6 qf_11_264 dX11_image_20 ?_
    exact hret (zI z3 1 6) z3 H locs 23 ls hw rfl h dX11_image_23
  exact b00 s.heap [] hw
def V_X11_restore (z : ZS) (post : Int32 → ZS → Prop) : Prop := ((¬ (zI z 0 3) = 0 → V_X0_become z 1 3 (fun z2 => post (zI z2 1 6) z2)) ∧ ((zI z 0 3) = 0 → post (-3 : Int32) z))
set_option maxHeartbeats 4000000 in
set_option maxRecDepth 100000 in
theorem c_X11_restore (l : Launch) (D : va_G) (ad : Nat → Nat → Nat) (cs : Nat → ClassId) (sk : (Nat → Nat) × (Nat → Nat)) (z : ZS) (post : Int32 → ZS → Prop) (h : V_X11_restore z post) : MI l D ad cs sk yX11_restore cX11_restore 1 .int (rmq 2 0 0) [.ref (ad 0 100)] z post := by
  refine MI.of RX11 rfl (by decide) (Nat.le_of_ble_eq_true rfl) ?_
  intro p e s m args below meth c A Q E hw hA hret ls hl
  have hx := E.1.1
  have hb := E.1.2.1
  have hml := E.1.2.2.1
  have hown := E.1.2.2.2.1
  have h0 := E.1.2.2.2.2
  have hl : lv_has ls 1 [(0, .ref (ad 0 100))] := hl
  unfold V_X11_restore at h
  have b00 : ∀ (H : Heap) (locs : List Loc), OW D ad cs A s.heap z H locs → W p l e (rmq 2 0 0) s m args below meth c H locs 0 0 Q (F0 m 0 ls []) := by
    intro H locs hw
    refine lv_aload_n hx hb dX11_restore_0 rfl (lv_at hl 0 rfl) ?_
    refine xgI E hw (c1 := 11) rfl ky_0_100 fo_11_3 qf_11_22 dX11_restore_1 ?_
    refine lv_if_ne (tgt := 10) hx hb dX11_restore_4 (by decide) (fun c1 => ?_) (fun c1 => ?_)
    · replace h := h.1 c1
      refine lv_aload_n hx hb dX11_restore_10 rfl (lv_at hl 0 rfl) ?_
      refine xgC E hw (c1 := 11) (t := (1, 100)) rfl ky_0_100 fo_11_0 rfl qf_11_10 dX11_restore_11 ?_
      refine lv_aload_n hx hb dX11_restore_14 rfl (lv_at hl 0 rfl) ?_
      refine xgC E hw (c1 := 11) (t := (3, 100)) rfl ky_0_100 fo_11_2 rfl qf_11_19 dX11_restore_15 ?_
      have hq := h
      clear h
      refine xcVV (As := [.ref (ad 3 100)]) (rest := []) E hw hA (c_X0_become l D ad cs sk z 1 3 _ is_1 is_3 hq) kc_11_66 yo_X0_become ⟨Nat.le_of_ble_eq_true rfl, Nat.le_of_ble_eq_true rfl⟩ (xrc E hw ky_1_100 rfl) rfl hl.1 rfl (Nat.le_of_ble_eq_true rfl) dX11_restore_18 ⟨Nat.le_of_ble_eq_true rfl, Nat.le_of_ble_eq_true rfl⟩ (fun z2 H locs h hw => ?_)
      refine lv_aload_n hx hb dX11_restore_21 rfl (lv_at hl 0 rfl) ?_
      refine xgC E hw (c1 := 11) (t := (1, 100)) rfl ky_0_100 fo_11_0 rfl qf_11_10 dX11_restore_22 ?_
      refine xgI E hw (c1 := 0) rfl ky_1_100 fo_0_6 qf_11_264 dX11_restore_25 ?_
      exact hret (zI z2 1 6) z2 H locs 28 ls hw rfl h dX11_restore_28
    · replace h := h.2 c1
      refine lv_bipush (v := -3) hx hb dX11_restore_7 (by decide) ?_
      exact hret (-3 : Int32) z H locs 9 ls hw rfl h dX11_restore_9
  exact b00 s.heap [] hw
def V_X11_count (z : ZS) (p1 : Int32) (post : Int32 → ZS → Prop) : Prop := ((p1 = (0 : Int32) → post (zI z 1 6) z) ∧ (¬ p1 = (0 : Int32) → ((p1 = (1 : Int32) → post (zI z 1 8) z) ∧ (¬ p1 = (1 : Int32) → ((p1 = (2 : Int32) → V_X0_windyLayers z 1 (fun r9 z8 => post r9 z8)) ∧ (¬ p1 = (2 : Int32) → ((p1 = (3 : Int32) → post (zI z 1 2) z) ∧ (¬ p1 = (3 : Int32) → ((p1 = (4 : Int32) → post (zI z 1 3) z) ∧ (¬ p1 = (4 : Int32) → ((p1 = (5 : Int32) → post (zI z 1 4) z) ∧ (¬ p1 = (5 : Int32) → post (-1 : Int32) z))))))))))))
set_option maxHeartbeats 4000000 in
set_option maxRecDepth 100000 in
theorem c_X11_count (l : Launch) (D : va_G) (ad : Nat → Nat → Nat) (cs : Nat → ClassId) (sk : (Nat → Nat) × (Nat → Nat)) (z : ZS) (p1 : Int32) (post : Int32 → ZS → Prop) (h : V_X11_count z p1 post) : MI l D ad cs sk yX11_count cX11_count 2 .int (rmq 1 0 0) [.ref (ad 0 100), .int p1] z post := by
  refine MI.of RX11 rfl (by decide) (Nat.le_of_ble_eq_true rfl) ?_
  intro p e s m args below meth c A Q E hw hA hret ls hl
  have hx := E.1.1
  have hb := E.1.2.1
  have hml := E.1.2.2.1
  have hown := E.1.2.2.2.1
  have h0 := E.1.2.2.2.2
  have hl : lv_has ls 2 [(0, .ref (ad 0 100)), (1, .int p1)] := hl
  unfold V_X11_count at h
  have b00 : ∀ (H : Heap) (locs : List Loc), OW D ad cs A s.heap z H locs → W p l e (rmq 1 0 0) s m args below meth c H locs 0 0 Q (F0 m 0 ls []) := by
    intro H locs hw
    refine lv_iload_n hx hb dX11_count_0 rfl (lv_at hl 1 rfl) ?_
    by_cases c1 : p1 = (0 : Int32)
    · replace h := h.1 c1
      refine lv_tableIn (tgt := 40) hx hb dX11_count_1 (by rw [c1]; decide) (by rw [c1]; decide) (by rw [c1]; rfl) (by decide) ?_
      refine lv_aload_n hx hb dX11_count_40 rfl (lv_at hl 0 rfl) ?_
      refine xgC E hw (c1 := 11) (t := (1, 100)) rfl ky_0_100 fo_11_0 rfl qf_11_10 dX11_count_41 ?_
      refine xgI E hw (c1 := 0) rfl ky_1_100 fo_0_6 qf_11_264 dX11_count_44 ?_
      exact hret (zI z 1 6) z H locs 47 ls hw rfl h dX11_count_47
    · replace h := h.2 c1
      by_cases c2 : p1 = (1 : Int32)
      · replace h := h.1 c2
        refine lv_tableIn (tgt := 48) hx hb dX11_count_1 (by rw [c2]; decide) (by rw [c2]; decide) (by rw [c2]; rfl) (by decide) ?_
        refine lv_aload_n hx hb dX11_count_48 rfl (lv_at hl 0 rfl) ?_
        refine xgC E hw (c1 := 11) (t := (1, 100)) rfl ky_0_100 fo_11_0 rfl qf_11_10 dX11_count_49 ?_
        refine xgI E hw (c1 := 0) rfl ky_1_100 fo_0_8 qf_11_267 dX11_count_52 ?_
        exact hret (zI z 1 8) z H locs 55 ls hw rfl h dX11_count_55
      · replace h := h.2 c2
        by_cases c3 : p1 = (2 : Int32)
        · replace h := h.1 c3
          refine lv_tableIn (tgt := 56) hx hb dX11_count_1 (by rw [c3]; decide) (by rw [c3]; decide) (by rw [c3]; rfl) (by decide) ?_
          refine lv_aload_n hx hb dX11_count_56 rfl (lv_at hl 0 rfl) ?_
          refine xgC E hw (c1 := 11) (t := (1, 100)) rfl ky_0_100 fo_11_0 rfl qf_11_10 dX11_count_57 ?_
          have hq := h
          clear h
          refine xcVI (As := []) (rest := []) E hw hA (c_X0_windyLayers l D ad cs sk z 1 _ is_1 hq) kc_11_270 yo_X0_windyLayers ⟨Nat.le_of_ble_eq_true rfl, Nat.le_of_ble_eq_true rfl⟩ (xrc E hw ky_1_100 rfl) rfl hl.1 rfl (Nat.le_of_ble_eq_true rfl) dX11_count_60 ⟨Nat.le_of_ble_eq_true rfl, Nat.le_of_ble_eq_true rfl⟩ (fun r9 z8 H locs h hw => ?_)
          exact hret r9 z8 H locs 63 ls hw rfl h dX11_count_63
        · replace h := h.2 c3
          by_cases c4 : p1 = (3 : Int32)
          · replace h := h.1 c4
            refine lv_tableIn (tgt := 64) hx hb dX11_count_1 (by rw [c4]; decide) (by rw [c4]; decide) (by rw [c4]; rfl) (by decide) ?_
            refine lv_aload_n hx hb dX11_count_64 rfl (lv_at hl 0 rfl) ?_
            refine xgC E hw (c1 := 11) (t := (1, 100)) rfl ky_0_100 fo_11_0 rfl qf_11_10 dX11_count_65 ?_
            refine xgI E hw (c1 := 0) rfl ky_1_100 fo_0_2 qf_11_87 dX11_count_68 ?_
            exact hret (zI z 1 2) z H locs 71 ls hw rfl h dX11_count_71
          · replace h := h.2 c4
            by_cases c5 : p1 = (4 : Int32)
            · replace h := h.1 c5
              refine lv_tableIn (tgt := 72) hx hb dX11_count_1 (by rw [c5]; decide) (by rw [c5]; decide) (by rw [c5]; rfl) (by decide) ?_
              refine lv_aload_n hx hb dX11_count_72 rfl (lv_at hl 0 rfl) ?_
              refine xgC E hw (c1 := 11) (t := (1, 100)) rfl ky_0_100 fo_11_0 rfl qf_11_10 dX11_count_73 ?_
              refine xgI E hw (c1 := 0) rfl ky_1_100 fo_0_3 qf_11_91 dX11_count_76 ?_
              exact hret (zI z 1 3) z H locs 79 ls hw rfl h dX11_count_79
            · replace h := h.2 c5
              by_cases c6 : p1 = (5 : Int32)
              · replace h := h.1 c6
                refine lv_tableIn (tgt := 80) hx hb dX11_count_1 (by rw [c6]; decide) (by rw [c6]; decide) (by rw [c6]; rfl) (by decide) ?_
                refine lv_aload_n hx hb dX11_count_80 rfl (lv_at hl 0 rfl) ?_
                refine xgC E hw (c1 := 11) (t := (1, 100)) rfl ky_0_100 fo_11_0 rfl qf_11_10 dX11_count_81 ?_
                refine xgI E hw (c1 := 0) rfl ky_1_100 fo_0_4 qf_11_94 dX11_count_84 ?_
                exact hret (zI z 1 4) z H locs 87 ls hw rfl h dX11_count_87
              · replace h := h.2 c6
                refine lv_tableOut (tgt := 88) hx hb dX11_count_1 (by have n0 := lv_neT c1 (by decide : ((0 : Int32) : Int32).toInt = 0); have n1 := lv_neT c2 (by decide : ((1 : Int32) : Int32).toInt = 1); have n2 := lv_neT c3 (by decide : ((2 : Int32) : Int32).toInt = 2); have n3 := lv_neT c4 (by decide : ((3 : Int32) : Int32).toInt = 3); have n4 := lv_neT c5 (by decide : ((4 : Int32) : Int32).toInt = 4); have n5 := lv_neT c6 (by decide : ((5 : Int32) : Int32).toInt = 5); omega) (by decide) ?_
                refine lv_iconst (v := -1) hx hb dX11_count_88 (by decide) ?_
                exact hret (-1 : Int32) z H locs 89 ls hw rfl h dX11_count_89
  exact b00 s.heap [] hw
def V_X11_keep (z : ZS) (p1 : Int32) (p2 : Int32) (p3 : Int32) (post : Int32 → ZS → Prop) : Prop := V_X11_shelfAt z p1 (fun r2o z1 => ((r2o = none → post (-1 : Int32) z1) ∧ (∀ a3 : Nat, r2o = some a3 → isS a3 ∧ V_X11_isFrom z1 (0 : Int32) p2 (1 : Int32) (fun r5 z4 => ((¬ r5 = 0 → ((¬ p2 = 0 → V_X0_fallerAt z4 1 p3 (fun r9 z8 => ((r9 = none → post (-1 : Int32) z8) ∧ (∀ a10 : Nat, r9 = some a10 → V_X9_hold z8 a3 a10 (fun z11 => post (0 : Int32) z11))))) ∧ (p2 = 0 → V_X9_empty z4 a3 (fun z13 => post (0 : Int32) z13)))) ∧ (r5 = 0 → post (-1 : Int32) z4))))))
set_option maxHeartbeats 4000000 in
set_option maxRecDepth 100000 in
theorem c_X11_keep (l : Launch) (D : va_G) (ad : Nat → Nat → Nat) (cs : Nat → ClassId) (sk : (Nat → Nat) × (Nat → Nat)) (z : ZS) (p1 : Int32) (p2 : Int32) (p3 : Int32) (post : Int32 → ZS → Prop) (h : V_X11_keep z p1 p2 p3 post) : MI l D ad cs sk yX11_keep cX11_keep 6 .int (rmq 2 0 0) [.ref (ad 0 100), .int p1, .int p2, .int p3] z post := by
  refine MI.of RX11 rfl (by decide) (Nat.le_of_ble_eq_true rfl) ?_
  intro p e s m args below meth c A Q E hw hA hret ls hl
  have hx := E.1.1
  have hb := E.1.2.1
  have hml := E.1.2.2.1
  have hown := E.1.2.2.2.1
  have h0 := E.1.2.2.2.2
  have hl : lv_has ls 6 [(0, .ref (ad 0 100)), (1, .int p1), (2, .int p2), (3, .int p3)] := hl
  unfold V_X11_keep at h
  have b00 : ∀ (H : Heap) (locs : List Loc), OW D ad cs A s.heap z H locs → W p l e (rmq 2 0 0) s m args below meth c H locs 0 0 Q (F0 m 0 ls []) := by
    intro H locs hw
    refine lv_aload_n hx hb dX11_keep_0 rfl (lv_at hl 0 rfl) ?_
    refine lv_iload_n hx hb dX11_keep_1 rfl (lv_at hl 1 rfl) ?_
    have hq := h
    clear h
    refine xcVA (As := [.int p1]) (rest := []) E hw hA (c_X11_shelfAt l D ad cs sk z p1 _ hq) kc_11_58 yo_X11_shelfAt ⟨Nat.le_of_ble_eq_true rfl, Nat.le_of_ble_eq_true rfl⟩ (xrc E hw ky_0_100 rfl) rfl hl.1 rfl (Nat.le_of_ble_eq_true rfl) dX11_keep_2 ⟨Nat.le_of_ble_eq_true rfl, Nat.le_of_ble_eq_true rfl⟩ (fun r2 z1 H locs h hw => ?_)
    obtain ⟨r2o, rfl, h⟩ := h
    refine xsqastore (lv' := [(4, va_rf (Option.map (fun o => ad o 100) r2o)), (0, .ref (ad 0 100)), (1, .int p1), (2, .int p2), (3, .int p3)]) hx hb dX11_keep_5 hl (by decide) rfl (fun ls hl => ?_)
    refine xlqaload hx hb dX11_keep_7 (lv_at hl 0 rfl) ?_
    refine xnulo (tgt := 21) hx hb dX11_keep_9 (by decide) (fun ea3 => ?_) (fun a3 ea3 => ?_)
    · replace h := h.1 ea3
      subst ea3
      have hl : lv_has ls 6 [(4, .null), (0, .ref (ad 0 100)), (1, .int p1), (2, .int p2), (3, .int p3)] := hl
      refine lv_iconst (v := -1) hx hb dX11_keep_21 (by decide) ?_
      exact hret (-1 : Int32) z1 H locs 22 ls hw rfl h dX11_keep_22
    · replace h := h.2 a3 ea3
      obtain ⟨ha3, h⟩ := h
      subst ea3
      have hl : lv_has ls 6 [(4, .ref (ad a3 100)), (0, .ref (ad 0 100)), (1, .int p1), (2, .int p2), (3, .int p3)] := hl
      refine lv_iconst (v := 0) hx hb dX11_keep_12 (by decide) ?_
      refine lv_iload_n hx hb dX11_keep_13 rfl (lv_at hl 3 rfl) ?_
      refine lv_iconst (v := 1) hx hb dX11_keep_14 (by decide) ?_
      have hq := h
      clear h
      refine xcSI (As := [.int (0 : Int32), .int p2, .int (1 : Int32)]) (rest := []) E hw hA (c_X11_isFrom l D ad cs sk z1 (0 : Int32) p2 (1 : Int32) _ hq) kc_11_83 yo_X11_isFrom ⟨Nat.le_of_ble_eq_true rfl, Nat.le_of_ble_eq_true rfl⟩ rfl hl.1 rfl (Nat.le_of_ble_eq_true rfl) dX11_keep_15 ⟨Nat.le_of_ble_eq_true rfl, Nat.le_of_ble_eq_true rfl⟩ (fun r5 z4 H locs h hw => ?_)
      refine lv_if_ne (tgt := 23) hx hb dX11_keep_18 (by decide) (fun c6 => ?_) (fun c6 => ?_)
      · replace h := h.1 c6
        refine lv_iload_n hx hb dX11_keep_23 rfl (lv_at hl 3 rfl) ?_
        refine lv_if_ne (tgt := 34) hx hb dX11_keep_24 (by decide) (fun c7 => ?_) (fun c7 => ?_)
        · replace h := h.1 c7
          refine lv_aload_n hx hb dX11_keep_34 rfl (lv_at hl 1 rfl) ?_
          refine xgC E hw (c1 := 11) (t := (1, 100)) rfl ky_0_100 fo_11_0 rfl qf_11_10 dX11_keep_35 ?_
          refine lv_iload_n hx hb dX11_keep_38 rfl (lv_at hl 4 rfl) ?_
          have hq := h
          clear h
          refine xcVA (As := [.int p3]) (rest := []) E hw hA (c_X0_fallerAt l D ad cs sk z4 1 p3 _ is_1 hq) kc_11_97 yo_X0_fallerAt ⟨Nat.le_of_ble_eq_true rfl, Nat.le_of_ble_eq_true rfl⟩ (xrc E hw ky_1_100 rfl) rfl hl.1 rfl (Nat.le_of_ble_eq_true rfl) dX11_keep_39 ⟨Nat.le_of_ble_eq_true rfl, Nat.le_of_ble_eq_true rfl⟩ (fun r9 z8 H locs h hw => ?_)
          refine xsqastore (lv' := [(5, va_rf r9), (4, .ref (ad a3 100)), (0, .ref (ad 0 100)), (1, .int p1), (2, .int p2), (3, .int p3)]) hx hb dX11_keep_42 hl (by decide) rfl (fun ls hl => ?_)
          refine xlqaload hx hb dX11_keep_44 (lv_at hl 0 rfl) ?_
          refine xnnl (tgt := 51) hx hb dX11_keep_46 (by decide) (fun ea10 => ?_) (fun a10 ea10 => ?_)
          · replace h := h.1 ea10
            subst ea10
            have hl : lv_has ls 6 [(5, .null), (4, .ref (ad a3 100)), (0, .ref (ad 0 100)), (1, .int p1), (2, .int p2), (3, .int p3)] := hl
            refine lv_iconst (v := -1) hx hb dX11_keep_49 (by decide) ?_
            exact hret (-1 : Int32) z8 H locs 50 ls hw rfl h dX11_keep_50
          · replace h := h.2 a10 ea10
            subst ea10
            have hl : lv_has ls 6 [(5, .ref a10), (4, .ref (ad a3 100)), (0, .ref (ad 0 100)), (1, .int p1), (2, .int p2), (3, .int p3)] := hl
            refine lv_aload hx hb dX11_keep_51 (lv_at hl 1 rfl) ?_
            refine lv_aload hx hb dX11_keep_53 (lv_at hl 0 rfl) ?_
            have hq := h
            clear h
            refine xcVV (As := [.ref a10]) (rest := []) E hw hA (c_X9_hold l D ad cs sk z8 a3 a10 _ ha3 hq) kc_11_276 yo_X9_hold ⟨Nat.le_of_ble_eq_true rfl, Nat.le_of_ble_eq_true rfl⟩ (xrc E hw (kyisS_100 ha3) (ciisS ha3)) rfl hl.1 rfl (Nat.le_of_ble_eq_true rfl) dX11_keep_55 ⟨Nat.le_of_ble_eq_true rfl, Nat.le_of_ble_eq_true rfl⟩ (fun z11 H locs h hw => ?_)
            refine lv_iconst (v := 0) hx hb dX11_keep_58 (by decide) ?_
            exact hret (0 : Int32) z11 H locs 59 ls hw rfl h dX11_keep_59
        · replace h := h.2 c7
          refine lv_aload hx hb dX11_keep_27 (lv_at hl 0 rfl) ?_
          have hq := h
          clear h
          refine xcVV (As := []) (rest := []) E hw hA (c_X9_empty l D ad cs sk z4 a3 _ ha3 hq) kc_11_273 yo_X9_empty ⟨Nat.le_of_ble_eq_true rfl, Nat.le_of_ble_eq_true rfl⟩ (xrc E hw (kyisS_100 ha3) (ciisS ha3)) rfl hl.1 rfl (Nat.le_of_ble_eq_true rfl) dX11_keep_29 ⟨Nat.le_of_ble_eq_true rfl, Nat.le_of_ble_eq_true rfl⟩ (fun z13 H locs h hw => ?_)
          refine lv_iconst (v := 0) hx hb dX11_keep_32 (by decide) ?_
          exact hret (0 : Int32) z13 H locs 33 ls hw rfl h dX11_keep_33
      · replace h := h.2 c6
        refine lv_iconst (v := -1) hx hb dX11_keep_21 (by decide) ?_
        exact hret (-1 : Int32) z4 H locs 22 ls hw rfl h dX11_keep_22
  exact b00 s.heap [] hw
def V_X11_row (z : ZS) (p1 : Int32) (p2 : Int32) (p3 : Int32) (post : Int32 → ZS → Prop) : Prop := V_X11_shelfAt z p1 (fun r2o z1 => ((r2o = none → post (-1 : Int32) z1) ∧ (∀ a3 : Nat, r2o = some a3 → isS a3 ∧ V_X11_isFrom z1 (0 : Int32) p2 (2 : Int32) (fun r5 z4 => ((r5 = 0 → post (-1 : Int32) z4) ∧ (¬ r5 = 0 → ((p3 ≤ (100 : Int32) → ((0 ≤ p3 → V_X9_holdRow z4 a3 p2 p3 (fun z9 => post (0 : Int32) z9)) ∧ (¬ 0 ≤ p3 → post (-14 : Int32) z4))) ∧ (¬ p3 ≤ (100 : Int32) → post (-1 : Int32) z4))))))))
set_option maxHeartbeats 4000000 in
set_option maxRecDepth 100000 in
theorem c_X11_row (l : Launch) (D : va_G) (ad : Nat → Nat → Nat) (cs : Nat → ClassId) (sk : (Nat → Nat) × (Nat → Nat)) (z : ZS) (p1 : Int32) (p2 : Int32) (p3 : Int32) (post : Int32 → ZS → Prop) (h : V_X11_row z p1 p2 p3 post) : MI l D ad cs sk yX11_row cX11_row 5 .int (rmq 2 0 0) [.ref (ad 0 100), .int p1, .int p2, .int p3] z post := by
  refine MI.of RX11 rfl (by decide) (Nat.le_of_ble_eq_true rfl) ?_
  intro p e s m args below meth c A Q E hw hA hret ls hl
  have hx := E.1.1
  have hb := E.1.2.1
  have hml := E.1.2.2.1
  have hown := E.1.2.2.2.1
  have h0 := E.1.2.2.2.2
  have hl : lv_has ls 5 [(0, .ref (ad 0 100)), (1, .int p1), (2, .int p2), (3, .int p3)] := hl
  unfold V_X11_row at h
  have b00 : ∀ (H : Heap) (locs : List Loc), OW D ad cs A s.heap z H locs → W p l e (rmq 2 0 0) s m args below meth c H locs 0 0 Q (F0 m 0 ls []) := by
    intro H locs hw
    refine lv_aload_n hx hb dX11_row_0 rfl (lv_at hl 0 rfl) ?_
    refine lv_iload_n hx hb dX11_row_1 rfl (lv_at hl 1 rfl) ?_
    have hq := h
    clear h
    refine xcVA (As := [.int p1]) (rest := []) E hw hA (c_X11_shelfAt l D ad cs sk z p1 _ hq) kc_11_58 yo_X11_shelfAt ⟨Nat.le_of_ble_eq_true rfl, Nat.le_of_ble_eq_true rfl⟩ (xrc E hw ky_0_100 rfl) rfl hl.1 rfl (Nat.le_of_ble_eq_true rfl) dX11_row_2 ⟨Nat.le_of_ble_eq_true rfl, Nat.le_of_ble_eq_true rfl⟩ (fun r2 z1 H locs h hw => ?_)
    obtain ⟨r2o, rfl, h⟩ := h
    refine xsqastore (lv' := [(4, va_rf (Option.map (fun o => ad o 100) r2o)), (0, .ref (ad 0 100)), (1, .int p1), (2, .int p2), (3, .int p3)]) hx hb dX11_row_5 hl (by decide) rfl (fun ls hl => ?_)
    refine xlqaload hx hb dX11_row_7 (lv_at hl 0 rfl) ?_
    refine xnulo (tgt := 27) hx hb dX11_row_9 (by decide) (fun ea3 => ?_) (fun a3 ea3 => ?_)
    · replace h := h.1 ea3
      subst ea3
      have hl : lv_has ls 5 [(4, .null), (0, .ref (ad 0 100)), (1, .int p1), (2, .int p2), (3, .int p3)] := hl
      refine lv_iconst (v := -1) hx hb dX11_row_27 (by decide) ?_
      exact hret (-1 : Int32) z1 H locs 28 ls hw rfl h dX11_row_28
    · replace h := h.2 a3 ea3
      obtain ⟨ha3, h⟩ := h
      subst ea3
      have hl : lv_has ls 5 [(4, .ref (ad a3 100)), (0, .ref (ad 0 100)), (1, .int p1), (2, .int p2), (3, .int p3)] := hl
      refine lv_iconst (v := 0) hx hb dX11_row_12 (by decide) ?_
      refine lv_iload_n hx hb dX11_row_13 rfl (lv_at hl 3 rfl) ?_
      refine lv_iconst (v := 2) hx hb dX11_row_14 (by decide) ?_
      have hq := h
      clear h
      refine xcSI (As := [.int (0 : Int32), .int p2, .int (2 : Int32)]) (rest := []) E hw hA (c_X11_isFrom l D ad cs sk z1 (0 : Int32) p2 (2 : Int32) _ hq) kc_11_83 yo_X11_isFrom ⟨Nat.le_of_ble_eq_true rfl, Nat.le_of_ble_eq_true rfl⟩ rfl hl.1 rfl (Nat.le_of_ble_eq_true rfl) dX11_row_15 ⟨Nat.le_of_ble_eq_true rfl, Nat.le_of_ble_eq_true rfl⟩ (fun r5 z4 H locs h hw => ?_)
      refine lv_if_eq (tgt := 27) hx hb dX11_row_18 (by decide) (fun c6 => ?_) (fun c6 => ?_)
      · replace h := h.1 c6
        refine lv_iconst (v := -1) hx hb dX11_row_27 (by decide) ?_
        exact hret (-1 : Int32) z4 H locs 28 ls hw rfl h dX11_row_28
      · replace h := h.2 c6
        refine lv_iload_n hx hb dX11_row_21 rfl (lv_at hl 4 rfl) ?_
        refine lv_bipush (v := 100) hx hb dX11_row_22 (by decide) ?_
        refine lv_icmp_le (tgt := 29) hx hb dX11_row_24 (by decide) (fun c7 => ?_) (fun c7 => ?_)
        · replace h := h.1 c7
          refine lv_iload_n hx hb dX11_row_29 rfl (lv_at hl 4 rfl) ?_
          refine lv_if_ge (tgt := 36) hx hb dX11_row_30 (by decide) (fun c8 => ?_) (fun c8 => ?_)
          · replace h := h.1 c8
            refine lv_aload hx hb dX11_row_36 (lv_at hl 0 rfl) ?_
            refine lv_iload_n hx hb dX11_row_38 rfl (lv_at hl 3 rfl) ?_
            refine lv_iload_n hx hb dX11_row_39 rfl (lv_at hl 4 rfl) ?_
            have hq := h
            clear h
            refine xcVV (As := [.int p2, .int p3]) (rest := []) E hw hA (c_X9_holdRow l D ad cs sk z4 a3 p2 p3 _ ha3 hq) kc_11_280 yo_X9_holdRow ⟨Nat.le_of_ble_eq_true rfl, Nat.le_of_ble_eq_true rfl⟩ (xrc E hw (kyisS_100 ha3) (ciisS ha3)) rfl hl.1 rfl (Nat.le_of_ble_eq_true rfl) dX11_row_40 ⟨Nat.le_of_ble_eq_true rfl, Nat.le_of_ble_eq_true rfl⟩ (fun z9 H locs h hw => ?_)
            refine lv_iconst (v := 0) hx hb dX11_row_43 (by decide) ?_
            exact hret (0 : Int32) z9 H locs 44 ls hw rfl h dX11_row_44
          · replace h := h.2 c8
            refine lv_bipush (v := -14) hx hb dX11_row_33 (by decide) ?_
            exact hret (-14 : Int32) z4 H locs 35 ls hw rfl h dX11_row_35
        · replace h := h.2 c7
          refine lv_iconst (v := -1) hx hb dX11_row_27 (by decide) ?_
          exact hret (-1 : Int32) z4 H locs 28 ls hw rfl h dX11_row_28
  exact b00 s.heap [] hw
def V_X11_put (z : ZS) (p1 : Int32) (p2 : Int32) (p3 : Int32) (post : Int32 → ZS → Prop) : Prop := V_X11_shelfAt z p1 (fun r2o z1 => ((r2o = none → post (-1 : Int32) z1) ∧ (∀ a3 : Nat, r2o = some a3 → isS a3 ∧ V_X11_refusalOfRow z1 a3 (fun r5 z4 => ((r5 = 0 → V_X9_hasPlaces z4 a3 p2 (1 : Int32) (fun r8 z7 => ((¬ r8 = 0 → V_X9_store z7 a3 p2 p3 (fun z10 => post (0 : Int32) z10)) ∧ (r8 = 0 → post (-13 : Int32) z7)))) ∧ (¬ r5 = 0 → post r5 z4))))))
set_option maxHeartbeats 4000000 in
set_option maxRecDepth 100000 in
theorem c_X11_put (l : Launch) (D : va_G) (ad : Nat → Nat → Nat) (cs : Nat → ClassId) (sk : (Nat → Nat) × (Nat → Nat)) (z : ZS) (p1 : Int32) (p2 : Int32) (p3 : Int32) (post : Int32 → ZS → Prop) (h : V_X11_put z p1 p2 p3 post) : MI l D ad cs sk yX11_put cX11_put 6 .int (rmq 2 0 0) [.ref (ad 0 100), .int p1, .int p2, .int p3] z post := by
  refine MI.of RX11 rfl (by decide) (Nat.le_of_ble_eq_true rfl) ?_
  intro p e s m args below meth c A Q E hw hA hret ls hl
  have hx := E.1.1
  have hb := E.1.2.1
  have hml := E.1.2.2.1
  have hown := E.1.2.2.2.1
  have h0 := E.1.2.2.2.2
  have hl : lv_has ls 6 [(0, .ref (ad 0 100)), (1, .int p1), (2, .int p2), (3, .int p3)] := hl
  unfold V_X11_put at h
  have b00 : ∀ (H : Heap) (locs : List Loc), OW D ad cs A s.heap z H locs → W p l e (rmq 2 0 0) s m args below meth c H locs 0 0 Q (F0 m 0 ls []) := by
    intro H locs hw
    refine lv_aload_n hx hb dX11_put_0 rfl (lv_at hl 0 rfl) ?_
    refine lv_iload_n hx hb dX11_put_1 rfl (lv_at hl 1 rfl) ?_
    have hq := h
    clear h
    refine xcVA (As := [.int p1]) (rest := []) E hw hA (c_X11_shelfAt l D ad cs sk z p1 _ hq) kc_11_58 yo_X11_shelfAt ⟨Nat.le_of_ble_eq_true rfl, Nat.le_of_ble_eq_true rfl⟩ (xrc E hw ky_0_100 rfl) rfl hl.1 rfl (Nat.le_of_ble_eq_true rfl) dX11_put_2 ⟨Nat.le_of_ble_eq_true rfl, Nat.le_of_ble_eq_true rfl⟩ (fun r2 z1 H locs h hw => ?_)
    obtain ⟨r2o, rfl, h⟩ := h
    refine xsqastore (lv' := [(4, va_rf (Option.map (fun o => ad o 100) r2o)), (0, .ref (ad 0 100)), (1, .int p1), (2, .int p2), (3, .int p3)]) hx hb dX11_put_5 hl (by decide) rfl (fun ls hl => ?_)
    refine xlqaload hx hb dX11_put_7 (lv_at hl 0 rfl) ?_
    refine xnnlo (tgt := 14) hx hb dX11_put_9 (by decide) (fun ea3 => ?_) (fun a3 ea3 => ?_)
    · replace h := h.1 ea3
      subst ea3
      have hl : lv_has ls 6 [(4, .null), (0, .ref (ad 0 100)), (1, .int p1), (2, .int p2), (3, .int p3)] := hl
      refine lv_iconst (v := -1) hx hb dX11_put_12 (by decide) ?_
      exact hret (-1 : Int32) z1 H locs 13 ls hw rfl h dX11_put_13
    · replace h := h.2 a3 ea3
      obtain ⟨ha3, h⟩ := h
      subst ea3
      have hl : lv_has ls 6 [(4, .ref (ad a3 100)), (0, .ref (ad 0 100)), (1, .int p1), (2, .int p2), (3, .int p3)] := hl
      refine lv_aload hx hb dX11_put_14 (lv_at hl 0 rfl) ?_
      have hq := h
      clear h
      refine xcSI (As := [.ref (ad a3 100)]) (rest := []) E hw hA (c_X11_refusalOfRow l D ad cs sk z1 a3 _ ha3 hq) kc_11_255 yo_X11_refusalOfRow ⟨Nat.le_of_ble_eq_true rfl, Nat.le_of_ble_eq_true rfl⟩ rfl hl.1 rfl (Nat.le_of_ble_eq_true rfl) dX11_put_16 ⟨Nat.le_of_ble_eq_true rfl, Nat.le_of_ble_eq_true rfl⟩ (fun r5 z4 H locs h hw => ?_)
      refine lv_istore (lv' := [(5, .int r5), (4, .ref (ad a3 100)), (0, .ref (ad 0 100)), (1, .int p1), (2, .int p2), (3, .int p3)]) hx hb dX11_put_19 hl (by decide) rfl (fun ls hl => ?_)
      refine lv_iload hx hb dX11_put_21 (lv_at hl 0 rfl) ?_
      refine lv_if_eq (tgt := 29) hx hb dX11_put_23 (by decide) (fun c6 => ?_) (fun c6 => ?_)
      · replace h := h.1 c6
        refine lv_aload hx hb dX11_put_29 (lv_at hl 1 rfl) ?_
        refine lv_iload_n hx hb dX11_put_31 rfl (lv_at hl 4 rfl) ?_
        refine lv_iconst (v := 1) hx hb dX11_put_32 (by decide) ?_
        have hq := h
        clear h
        refine xcVI (As := [.int p2, .int (1 : Int32)]) (rest := []) E hw hA (c_X9_hasPlaces l D ad cs sk z4 a3 p2 (1 : Int32) _ ha3 hq) kc_11_283 yo_X9_hasPlaces ⟨Nat.le_of_ble_eq_true rfl, Nat.le_of_ble_eq_true rfl⟩ (xrc E hw (kyisS_100 ha3) (ciisS ha3)) rfl hl.1 rfl (Nat.le_of_ble_eq_true rfl) dX11_put_33 ⟨Nat.le_of_ble_eq_true rfl, Nat.le_of_ble_eq_true rfl⟩ (fun r8 z7 H locs h hw => ?_)
        refine lv_if_ne (tgt := 42) hx hb dX11_put_36 (by decide) (fun c9 => ?_) (fun c9 => ?_)
        · replace h := h.1 c9
          refine lv_aload hx hb dX11_put_42 (lv_at hl 1 rfl) ?_
          refine lv_iload_n hx hb dX11_put_44 rfl (lv_at hl 4 rfl) ?_
          refine lv_iload_n hx hb dX11_put_45 rfl (lv_at hl 5 rfl) ?_
          have hq := h
          clear h
          refine xcVV (As := [.int p2, .int p3]) (rest := []) E hw hA (c_X9_store l D ad cs sk z7 a3 p2 p3 _ ha3 hq) kc_11_286 yo_X9_store ⟨Nat.le_of_ble_eq_true rfl, Nat.le_of_ble_eq_true rfl⟩ (xrc E hw (kyisS_100 ha3) (ciisS ha3)) rfl hl.1 rfl (Nat.le_of_ble_eq_true rfl) dX11_put_46 ⟨Nat.le_of_ble_eq_true rfl, Nat.le_of_ble_eq_true rfl⟩ (fun z10 H locs h hw => ?_)
          refine lv_iconst (v := 0) hx hb dX11_put_49 (by decide) ?_
          exact hret (0 : Int32) z10 H locs 50 ls hw rfl h dX11_put_50
        · replace h := h.2 c9
          refine lv_bipush (v := -13) hx hb dX11_put_39 (by decide) ?_
          exact hret (-13 : Int32) z7 H locs 41 ls hw rfl h dX11_put_41
      · replace h := h.2 c6
        refine lv_iload hx hb dX11_put_26 (lv_at hl 0 rfl) ?_
        exact hret r5 z4 H locs 28 ls hw rfl h dX11_put_28
  exact b00 s.heap [] hw
def V_X11_copy (z : ZS) (p1 : Int32) (p2 : Int32) (p3 : Int32) (p4 : Int32) (p5 : Int32) (post : Int32 → ZS → Prop) : Prop := V_X11_shelfAt z p1 (fun r2o z1 => V_X11_shelfAt z1 p3 (fun r4o z3 => ((r2o = none → post (-1 : Int32) z3) ∧ (∀ a5 : Nat, r2o = some a5 → isS a5 ∧ ((r4o = none → post (-1 : Int32) z3) ∧ (∀ a6 : Nat, r4o = some a6 → isS a6 ∧ V_X9_isEmpty z3 a5 (fun r8 z7 => ((¬ r8 = 0 → post (-11 : Int32) z7) ∧ (r8 = 0 → V_X9_isEmpty z7 a6 (fun r11 z10 => ((r11 = 0 → (((zI z10 a5 1) = 0 → post (-12 : Int32) z10) ∧ (¬ (zI z10 a5 1) = 0 → (((zI z10 a6 1) = 0 → post (-12 : Int32) z10) ∧ (¬ (zI z10 a6 1) = 0 → (((zI z10 a5 2) = (zI z10 a6 2) → V_X9_hasPlaces z10 a5 p2 p5 (fun r17 z16 => ((r17 = 0 → post (-13 : Int32) z16) ∧ (¬ r17 = 0 → V_X9_hasPlaces z16 a6 p4 p5 (fun r20 z19 => ((¬ r20 = 0 → (¬ p2 < 0 ∧ ¬ p4 < 0 ∧ ¬ p5 < 0 ∧ Int32.toNatClampNeg p2 + Int32.toNatClampNeg p5 ≤ 100 ∧ Int32.toNatClampNeg p4 + Int32.toNatClampNeg p5 ≤ 100 ∧ (∀ z22 : ZS, z22 = wA z19 a6 4 (va_cpy (zR z19 a5 4) (zR z19 a6 4) (Int32.toNatClampNeg p2) (Int32.toNatClampNeg p4) (Int32.toNatClampNeg p5)) → post p5 z22))) ∧ (r20 = 0 → post (-13 : Int32) z19))))))) ∧ (¬ (zI z10 a5 2) = (zI z10 a6 2) → post (-12 : Int32) z10))))))) ∧ (¬ r11 = 0 → post (-11 : Int32) z10))))))))))))
set_option maxHeartbeats 4000000 in
set_option maxRecDepth 100000 in
theorem c_X11_copy (l : Launch) (D : va_G) (ad : Nat → Nat → Nat) (cs : Nat → ClassId) (sk : (Nat → Nat) × (Nat → Nat)) (z : ZS) (p1 : Int32) (p2 : Int32) (p3 : Int32) (p4 : Int32) (p5 : Int32) (post : Int32 → ZS → Prop) (h : V_X11_copy z p1 p2 p3 p4 p5 post) : MI l D ad cs sk yX11_copy cX11_copy 8 .int (rmq 2 0 0) [.ref (ad 0 100), .int p1, .int p2, .int p3, .int p4, .int p5] z post := by
  refine MI.of RX11 rfl (by decide) (Nat.le_of_ble_eq_true rfl) ?_
  intro p e s m args below meth c A Q E hw hA hret ls hl
  have hx := E.1.1
  have hb := E.1.2.1
  have hml := E.1.2.2.1
  have hown := E.1.2.2.2.1
  have h0 := E.1.2.2.2.2
  have hl : lv_has ls 8 [(0, .ref (ad 0 100)), (1, .int p1), (2, .int p2), (3, .int p3), (4, .int p4), (5, .int p5)] := hl
  unfold V_X11_copy at h
  have b00 : ∀ (H : Heap) (locs : List Loc), OW D ad cs A s.heap z H locs → W p l e (rmq 2 0 0) s m args below meth c H locs 0 0 Q (F0 m 0 ls []) := by
    intro H locs hw
    refine lv_aload_n hx hb dX11_copy_0 rfl (lv_at hl 0 rfl) ?_
    refine lv_iload_n hx hb dX11_copy_1 rfl (lv_at hl 1 rfl) ?_
    have hq := h
    clear h
    refine xcVA (As := [.int p1]) (rest := []) E hw hA (c_X11_shelfAt l D ad cs sk z p1 _ hq) kc_11_58 yo_X11_shelfAt ⟨Nat.le_of_ble_eq_true rfl, Nat.le_of_ble_eq_true rfl⟩ (xrc E hw ky_0_100 rfl) rfl hl.1 rfl (Nat.le_of_ble_eq_true rfl) dX11_copy_2 ⟨Nat.le_of_ble_eq_true rfl, Nat.le_of_ble_eq_true rfl⟩ (fun r2 z1 H locs h hw => ?_)
    obtain ⟨r2o, rfl, h⟩ := h
    refine xsqastore (lv' := [(6, va_rf (Option.map (fun o => ad o 100) r2o)), (0, .ref (ad 0 100)), (1, .int p1), (2, .int p2), (3, .int p3), (4, .int p4), (5, .int p5)]) hx hb dX11_copy_5 hl (by decide) rfl (fun ls hl => ?_)
    refine lv_aload_n hx hb dX11_copy_7 rfl (lv_at hl 1 rfl) ?_
    refine lv_iload_n hx hb dX11_copy_8 rfl (lv_at hl 4 rfl) ?_
    have hq := h
    clear h
    refine xcVA (As := [.int p3]) (rest := []) E hw hA (c_X11_shelfAt l D ad cs sk z1 p3 _ hq) kc_11_58 yo_X11_shelfAt ⟨Nat.le_of_ble_eq_true rfl, Nat.le_of_ble_eq_true rfl⟩ (xrc E hw ky_0_100 rfl) rfl hl.1 rfl (Nat.le_of_ble_eq_true rfl) dX11_copy_9 ⟨Nat.le_of_ble_eq_true rfl, Nat.le_of_ble_eq_true rfl⟩ (fun r4 z3 H locs h hw => ?_)
    obtain ⟨r4o, rfl, h⟩ := h
    refine xsqastore (lv' := [(7, va_rf (Option.map (fun o => ad o 100) r4o)), (6, va_rf (Option.map (fun o => ad o 100) r2o)), (0, .ref (ad 0 100)), (1, .int p1), (2, .int p2), (3, .int p3), (4, .int p4), (5, .int p5)]) hx hb dX11_copy_12 hl (by decide) (by simp [cat_rf]) (fun ls hl => ?_)
    refine xlqaload hx hb dX11_copy_14 (lv_at hl 1 rfl) ?_
    refine xnulo (tgt := 24) hx hb dX11_copy_16 (by decide) (fun ea5 => ?_) (fun a5 ea5 => ?_)
    · replace h := h.1 ea5
      subst ea5
      have hl : lv_has ls 8 [(7, va_rf (Option.map (fun o => ad o 100) r4o)), (6, .null), (0, .ref (ad 0 100)), (1, .int p1), (2, .int p2), (3, .int p3), (4, .int p4), (5, .int p5)] := hl
      refine lv_iconst (v := -1) hx hb dX11_copy_24 (by decide) ?_
      exact hret (-1 : Int32) z3 H locs 25 ls hw rfl h dX11_copy_25
    · replace h := h.2 a5 ea5
      obtain ⟨ha5, h⟩ := h
      subst ea5
      have hl : lv_has ls 8 [(7, va_rf (Option.map (fun o => ad o 100) r4o)), (6, .ref (ad a5 100)), (0, .ref (ad 0 100)), (1, .int p1), (2, .int p2), (3, .int p3), (4, .int p4), (5, .int p5)] := hl
      refine xlqaload hx hb dX11_copy_19 (lv_at hl 0 rfl) ?_
      refine xnnlo (tgt := 26) hx hb dX11_copy_21 (by decide) (fun ea6 => ?_) (fun a6 ea6 => ?_)
      · replace h := h.1 ea6
        subst ea6
        have hl : lv_has ls 8 [(7, .null), (6, .ref (ad a5 100)), (0, .ref (ad 0 100)), (1, .int p1), (2, .int p2), (3, .int p3), (4, .int p4), (5, .int p5)] := hl
        refine lv_iconst (v := -1) hx hb dX11_copy_24 (by decide) ?_
        exact hret (-1 : Int32) z3 H locs 25 ls hw rfl h dX11_copy_25
      · replace h := h.2 a6 ea6
        obtain ⟨ha6, h⟩ := h
        subst ea6
        have hl : lv_has ls 8 [(7, .ref (ad a6 100)), (6, .ref (ad a5 100)), (0, .ref (ad 0 100)), (1, .int p1), (2, .int p2), (3, .int p3), (4, .int p4), (5, .int p5)] := hl
        refine lv_aload hx hb dX11_copy_26 (lv_at hl 1 rfl) ?_
        have hq := h
        clear h
        refine xcVI (As := []) (rest := []) E hw hA (c_X9_isEmpty l D ad cs sk z3 a5 _ ha5 hq) kc_11_306 yo_X9_isEmpty ⟨Nat.le_of_ble_eq_true rfl, Nat.le_of_ble_eq_true rfl⟩ (xrc E hw (kyisS_100 ha5) (ciisS ha5)) rfl hl.1 rfl (Nat.le_of_ble_eq_true rfl) dX11_copy_28 ⟨Nat.le_of_ble_eq_true rfl, Nat.le_of_ble_eq_true rfl⟩ (fun r8 z7 H locs h hw => ?_)
        refine lv_if_ne (tgt := 42) hx hb dX11_copy_31 (by decide) (fun c9 => ?_) (fun c9 => ?_)
        · replace h := h.1 c9
          refine lv_bipush (v := -11) hx hb dX11_copy_42 (by decide) ?_
          exact hret (-11 : Int32) z7 H locs 44 ls hw rfl h dX11_copy_44
        · replace h := h.2 c9
          refine lv_aload hx hb dX11_copy_34 (lv_at hl 0 rfl) ?_
          have hq := h
          clear h
          refine xcVI (As := []) (rest := []) E hw hA (c_X9_isEmpty l D ad cs sk z7 a6 _ ha6 hq) kc_11_306 yo_X9_isEmpty ⟨Nat.le_of_ble_eq_true rfl, Nat.le_of_ble_eq_true rfl⟩ (xrc E hw (kyisS_100 ha6) (ciisS ha6)) rfl hl.1 rfl (Nat.le_of_ble_eq_true rfl) dX11_copy_36 ⟨Nat.le_of_ble_eq_true rfl, Nat.le_of_ble_eq_true rfl⟩ (fun r11 z10 H locs h hw => ?_)
          refine lv_if_eq (tgt := 45) hx hb dX11_copy_39 (by decide) (fun c12 => ?_) (fun c12 => ?_)
          · replace h := h.1 c12
            refine lv_aload hx hb dX11_copy_45 (lv_at hl 1 rfl) ?_
            refine xgI E hw (c1 := 9) (ciisS ha5) (kyisS_100 ha5) fo_9_1 qf_11_296 dX11_copy_47 ?_
            refine lv_if_eq (tgt := 74) hx hb dX11_copy_50 (by decide) (fun c13 => ?_) (fun c13 => ?_)
            · replace h := h.1 c13
              refine lv_bipush (v := -12) hx hb dX11_copy_74 (by decide) ?_
              exact hret (-12 : Int32) z10 H locs 76 ls hw rfl h dX11_copy_76
            · replace h := h.2 c13
              refine lv_aload hx hb dX11_copy_53 (lv_at hl 0 rfl) ?_
              refine xgI E hw (c1 := 9) (ciisS ha6) (kyisS_100 ha6) fo_9_1 qf_11_296 dX11_copy_55 ?_
              refine lv_if_eq (tgt := 74) hx hb dX11_copy_58 (by decide) (fun c14 => ?_) (fun c14 => ?_)
              · replace h := h.1 c14
                refine lv_bipush (v := -12) hx hb dX11_copy_74 (by decide) ?_
                exact hret (-12 : Int32) z10 H locs 76 ls hw rfl h dX11_copy_76
              · replace h := h.2 c14
                refine lv_aload hx hb dX11_copy_61 (lv_at hl 1 rfl) ?_
                refine xgI E hw (c1 := 9) (ciisS ha5) (kyisS_100 ha5) fo_9_2 qf_11_309 dX11_copy_63 ?_
                refine lv_aload hx hb dX11_copy_66 (lv_at hl 0 rfl) ?_
                refine xgI E hw (c1 := 9) (ciisS ha6) (kyisS_100 ha6) fo_9_2 qf_11_309 dX11_copy_68 ?_
                refine lv_icmp_eq (tgt := 77) hx hb dX11_copy_71 (by decide) (fun c15 => ?_) (fun c15 => ?_)
                · replace h := h.1 c15
                  refine lv_aload hx hb dX11_copy_77 (lv_at hl 1 rfl) ?_
                  refine lv_iload_n hx hb dX11_copy_79 rfl (lv_at hl 4 rfl) ?_
                  refine lv_iload hx hb dX11_copy_80 (lv_at hl 7 rfl) ?_
                  have hq := h
                  clear h
                  refine xcVI (As := [.int p2, .int p5]) (rest := []) E hw hA (c_X9_hasPlaces l D ad cs sk z10 a5 p2 p5 _ ha5 hq) kc_11_283 yo_X9_hasPlaces ⟨Nat.le_of_ble_eq_true rfl, Nat.le_of_ble_eq_true rfl⟩ (xrc E hw (kyisS_100 ha5) (ciisS ha5)) rfl hl.1 rfl (Nat.le_of_ble_eq_true rfl) dX11_copy_82 ⟨Nat.le_of_ble_eq_true rfl, Nat.le_of_ble_eq_true rfl⟩ (fun r17 z16 H locs h hw => ?_)
                  refine lv_if_eq (tgt := 100) hx hb dX11_copy_85 (by decide) (fun c18 => ?_) (fun c18 => ?_)
                  · replace h := h.1 c18
                    refine lv_bipush (v := -13) hx hb dX11_copy_100 (by decide) ?_
                    exact hret (-13 : Int32) z16 H locs 102 ls hw rfl h dX11_copy_102
                  · replace h := h.2 c18
                    refine lv_aload hx hb dX11_copy_88 (lv_at hl 0 rfl) ?_
                    refine lv_iload hx hb dX11_copy_90 (lv_at hl 6 rfl) ?_
                    refine lv_iload hx hb dX11_copy_92 (lv_at hl 7 rfl) ?_
                    have hq := h
                    clear h
                    refine xcVI (As := [.int p4, .int p5]) (rest := []) E hw hA (c_X9_hasPlaces l D ad cs sk z16 a6 p4 p5 _ ha6 hq) kc_11_283 yo_X9_hasPlaces ⟨Nat.le_of_ble_eq_true rfl, Nat.le_of_ble_eq_true rfl⟩ (xrc E hw (kyisS_100 ha6) (ciisS ha6)) rfl hl.1 rfl (Nat.le_of_ble_eq_true rfl) dX11_copy_94 ⟨Nat.le_of_ble_eq_true rfl, Nat.le_of_ble_eq_true rfl⟩ (fun r20 z19 H locs h hw => ?_)
                    refine lv_if_ne (tgt := 103) hx hb dX11_copy_97 (by decide) (fun c21 => ?_) (fun c21 => ?_)
                    · replace h := h.1 c21
                      refine lv_aload hx hb dX11_copy_103 (lv_at hl 1 rfl) ?_
                      refine xgC E hw (c1 := 9) (t := (a5, 4)) (ciisS ha5) (kyisS_100 ha5) fo_9_4 rfl qf_11_312 dX11_copy_105 ?_
                      refine lv_iload_n hx hb dX11_copy_108 rfl (lv_at hl 4 rfl) ?_
                      refine lv_aload hx hb dX11_copy_109 (lv_at hl 0 rfl) ?_
                      refine xgC E hw (c1 := 9) (t := (a6, 4)) (ciisS ha6) (kyisS_100 ha6) fo_9_4 rfl qf_11_312 dX11_copy_111 ?_
                      refine lv_iload hx hb dX11_copy_114 (lv_at hl 6 rfl) ?_
                      refine lv_iload hx hb dX11_copy_116 (lv_at hl 7 rfl) ?_
                      obtain ⟨hc1, hc2, hc3, hc4, hc5, h⟩ := h
                      refine xcp E hw hl.1 (kyisS_4 ha5) (kaisS_4 ha5) (kyisS_4 ha6) (kaisS_4 ha6) hc1 hc2 hc3 hc4 hc5 kz_11_315 (Nat.le_of_ble_eq_true rfl) (Nat.le_of_ble_eq_true rfl) dX11_copy_118 (fun z22 ez22 H locs hw => ?_)
                      replace h := h z22 ez22
                      refine lv_iload hx hb dX11_copy_121 (lv_at hl 7 rfl) ?_
                      exact hret p5 z22 H locs 123 ls hw rfl h dX11_copy_123
                    · replace h := h.2 c21
                      refine lv_bipush (v := -13) hx hb dX11_copy_100 (by decide) ?_
                      exact hret (-13 : Int32) z19 H locs 102 ls hw rfl h dX11_copy_102
                · replace h := h.2 c15
                  refine lv_bipush (v := -12) hx hb dX11_copy_74 (by decide) ?_
                  exact hret (-12 : Int32) z10 H locs 76 ls hw rfl h dX11_copy_76
          · replace h := h.2 c12
            refine lv_bipush (v := -11) hx hb dX11_copy_42 (by decide) ?_
            exact hret (-11 : Int32) z10 H locs 44 ls hw rfl h dX11_copy_44
  exact b00 s.heap [] hw
def V_X11_care (z : ZS) (p1 : Int32) (post : Int32 → ZS → Prop) : Prop := V_X11_shelfAt z p1 (fun r2o z1 => ((r2o = none → post (-1 : Int32) z1) ∧ (∀ a3 : Nat, r2o = some a3 → isS a3 ∧ (∀ t4 : Option Nat, t4 = (zG z1 a3 0) → ((t4 = none → (((zI z1 a3 1) = 0 → post (-11 : Int32) z1) ∧ (¬ (zI z1 a3 1) = 0 → post (-12 : Int32) z1))) ∧ (∀ a5 : Nat, t4 = some a5 → (a5 ∈ zP z1 ∧ post (zF z1 a5 7) z1)))))))
set_option maxHeartbeats 4000000 in
set_option maxRecDepth 100000 in
theorem c_X11_care (l : Launch) (D : va_G) (ad : Nat → Nat → Nat) (cs : Nat → ClassId) (sk : (Nat → Nat) × (Nat → Nat)) (z : ZS) (p1 : Int32) (post : Int32 → ZS → Prop) (h : V_X11_care z p1 post) : MI l D ad cs sk yX11_care cX11_care 4 .int (rmq 2 0 0) [.ref (ad 0 100), .int p1] z post := by
  refine MI.of RX11 rfl (by decide) (Nat.le_of_ble_eq_true rfl) ?_
  intro p e s m args below meth c A Q E hw hA hret ls hl
  have hx := E.1.1
  have hb := E.1.2.1
  have hml := E.1.2.2.1
  have hown := E.1.2.2.2.1
  have h0 := E.1.2.2.2.2
  have hl : lv_has ls 4 [(0, .ref (ad 0 100)), (1, .int p1)] := hl
  unfold V_X11_care at h
  have b00 : ∀ (H : Heap) (locs : List Loc), OW D ad cs A s.heap z H locs → W p l e (rmq 2 0 0) s m args below meth c H locs 0 0 Q (F0 m 0 ls []) := by
    intro H locs hw
    refine lv_aload_n hx hb dX11_care_0 rfl (lv_at hl 0 rfl) ?_
    refine lv_iload_n hx hb dX11_care_1 rfl (lv_at hl 1 rfl) ?_
    have hq := h
    clear h
    refine xcVA (As := [.int p1]) (rest := []) E hw hA (c_X11_shelfAt l D ad cs sk z p1 _ hq) kc_11_58 yo_X11_shelfAt ⟨Nat.le_of_ble_eq_true rfl, Nat.le_of_ble_eq_true rfl⟩ (xrc E hw ky_0_100 rfl) rfl hl.1 rfl (Nat.le_of_ble_eq_true rfl) dX11_care_2 ⟨Nat.le_of_ble_eq_true rfl, Nat.le_of_ble_eq_true rfl⟩ (fun r2 z1 H locs h hw => ?_)
    obtain ⟨r2o, rfl, h⟩ := h
    refine xsqastore_n (lv' := [(2, va_rf (Option.map (fun o => ad o 100) r2o)), (0, .ref (ad 0 100)), (1, .int p1)]) hx hb dX11_care_5 rfl hl (by decide) rfl (fun ls hl => ?_)
    refine xlqaload_n hx hb dX11_care_6 rfl (lv_at hl 0 rfl) ?_
    refine xnnlo (tgt := 12) hx hb dX11_care_7 (by decide) (fun ea3 => ?_) (fun a3 ea3 => ?_)
    · replace h := h.1 ea3
      subst ea3
      have hl : lv_has ls 4 [(2, .null), (0, .ref (ad 0 100)), (1, .int p1)] := hl
      refine lv_iconst (v := -1) hx hb dX11_care_10 (by decide) ?_
      exact hret (-1 : Int32) z1 H locs 11 ls hw rfl h dX11_care_11
    · replace h := h.2 a3 ea3
      obtain ⟨ha3, h⟩ := h
      subst ea3
      have hl : lv_has ls 4 [(2, .ref (ad a3 100)), (0, .ref (ad 0 100)), (1, .int p1)] := hl
      refine lv_aload_n hx hb dX11_care_12 rfl (lv_at hl 0 rfl) ?_
      refine xgG E hw (c1 := 9) (ciisS ha3) (kyisS_100 ha3) fo_9_0 qf_11_321 dX11_care_13 ?_
      refine xtopq (fun t4 et4 => ?_)
      replace h := h t4 et4
      refine xsqastore_n (lv' := [(3, va_rf t4), (2, .ref (ad a3 100)), (0, .ref (ad 0 100)), (1, .int p1)]) hx hb dX11_care_16 rfl hl (by decide) rfl (fun ls hl => ?_)
      refine xlqaload_n hx hb dX11_care_17 rfl (lv_at hl 0 rfl) ?_
      refine xnnl (tgt := 36) hx hb dX11_care_18 (by decide) (fun ea5 => ?_) (fun a5 ea5 => ?_)
      · replace h := h.1 ea5
        subst ea5
        have hl : lv_has ls 4 [(3, .null), (2, .ref (ad a3 100)), (0, .ref (ad 0 100)), (1, .int p1)] := hl
        refine lv_aload_n hx hb dX11_care_21 rfl (lv_at hl 1 rfl) ?_
        refine xgI E hw (c1 := 9) (ciisS ha3) (kyisS_100 ha3) fo_9_1 qf_11_296 dX11_care_22 ?_
        refine lv_if_eq (tgt := 33) hx hb dX11_care_25 (by decide) (fun c6 => ?_) (fun c6 => ?_)
        · replace h := h.1 c6
          refine lv_bipush (v := -11) hx hb dX11_care_33 (by decide) ?_
          exact hret (-11 : Int32) z1 H locs 35 ls hw rfl h dX11_care_35
        · replace h := h.2 c6
          refine lv_bipush (v := -12) hx hb dX11_care_28 (by decide) ?_
          refine lv_goto (tgt := 35) hx hb dX11_care_30 (by decide) ?_
          exact hret (-12 : Int32) z1 H locs 35 ls hw rfl h dX11_care_35
      · replace h := h.2 a5 ea5
        subst ea5
        have hl : lv_has ls 4 [(3, .ref a5), (2, .ref (ad a3 100)), (0, .ref (ad 0 100)), (1, .int p1)] := hl
        refine lv_aload_n hx hb dX11_care_36 rfl (lv_at hl 0 rfl) ?_
        obtain ⟨hm, h⟩ := h
        refine xgF E hw hm (k := 7) (ref := "TenYards$Faller") (by decide) qf_11_325 (Or.inl rfl) dX11_care_37 ?_
        exact hret (zF z1 a5 7) z1 H locs 40 ls hw rfl h dX11_care_40
  exact b00 s.heap [] hw
