def V_X11_mean_140 (post : Int32 → ZS → Prop) (z : ZS) (v6 : Int32) (v8 : Int32) (s0 : Int32) : Prop := (¬ v8 = 0 ∧ post ((s0 - v6) / v8) z)
def V_X11_mean_81 (post : Int32 → ZS → Prop) (z : ZS) (v4 : Int32) (s0 : Int32) : Prop := (∀ t14 : Int32, t14 = (zI z 4 5) → V_X3_land z 4 (fun z15 => (∀ t17 : Int32, t17 = ((zI z15 4 5) - t14) → ((0 < t17 → ((v4 = 0 → V_X11_mean_140 post z15 s0 t17 (zI z15 4 2)) ∧ (¬ v4 = 0 → V_X11_mean_140 post z15 s0 t17 (zI z15 4 3)))) ∧ (¬ 0 < t17 → post (0 : Int32) z15)))))
def V_X11_mean (z : ZS) (p1 : Int32) (p2 : Int32) (p3 : Int32) (p4 : Int32) (post : Int32 → ZS → Prop) : Prop := V_X0_fallerAt z 1 p1 (fun r2 z1 => ((r2 = none → post (-1000000001 : Int32) z1) ∧ (∀ a3 : Nat, r2 = some a3 → V_X11_isPlace z1 p2 p3 (fun r5 z4 => ((¬ r5 = 0 → V_X3_begin z4 4 a3 p2 p3 (1 : Int32) (fun z7 => V_X3_holdWay z7 4 (0 : Int32) (0 : Int32) (fun z9 => (a3 ∈ zP z9 ∧ V_X3_goOn z9 4 (zF z9 a3 2) (fun z11 => ((p4 = 0 → V_X11_mean_81 post z11 p4 (zI z11 4 2)) ∧ (¬ p4 = 0 → V_X11_mean_81 post z11 p4 (zI z11 4 3)))))))) ∧ (r5 = 0 → post (-1000000001 : Int32) z4))))))
set_option maxHeartbeats 4000000 in
set_option maxRecDepth 100000 in
theorem c_X11_mean (l : Launch) (D : va_G) (ad : Nat → Nat → Nat) (cs : Nat → ClassId) (sk : (Nat → Nat) × (Nat → Nat)) (z : ZS) (p1 : Int32) (p2 : Int32) (p3 : Int32) (p4 : Int32) (post : Int32 → ZS → Prop) (h : V_X11_mean z p1 p2 p3 p4 post) : MI l D ad cs sk yX11_mean cX11_mean 9 .int (rmq 6 0 0) [.ref (ad 0 100), .int p1, .int p2, .int p3, .int p4] z post := by
  refine MI.of RX11 rfl (by decide) (Nat.le_of_ble_eq_true rfl) ?_
  intro p e s m args below meth c A Q E hw hA hret ls hl
  have hx := E.1.1
  have hb := E.1.2.1
  have hml := E.1.2.2.1
  have hown := E.1.2.2.2.1
  have h0 := E.1.2.2.2.2
  have hl : lv_has ls 9 [(0, .ref (ad 0 100)), (1, .int p1), (2, .int p2), (3, .int p3), (4, .int p4)] := hl
  unfold V_X11_mean at h
  have b140 : ∀ (z : ZS) (v6 : Int32) (v8 : Int32) (s0 : Int32), ∀ (H : Heap) (locs : List Loc), OW D ad cs A s.heap z H locs → ∀ ls : Array Slot, lv_has ls 9 [(6, .int v6), (8, .int v8)] → V_X11_mean_140 post z v6 v8 s0 → W p l e (rmq 6 0 0) s m args below meth c H locs 0 0 Q (F0 m 140 ls [.int s0]) := by
    intro z v6 v8 s0 H locs hw ls hl h
    unfold V_X11_mean_140 at h
    refine lv_iload hx hb dX11_mean_140 (lv_at hl 0 rfl) ?_
    refine lv_isub hx hb dX11_mean_142 ?_
    refine lv_iload hx hb dX11_mean_143 (lv_at hl 1 rfl) ?_
    obtain ⟨hd, h⟩ := h
    refine lv_idiv hx hb dX11_mean_145 hd ?_
    exact hret ((s0 - v6) / v8) z H locs 146 ls hw rfl h dX11_mean_146
  have b81 : ∀ (z : ZS) (v4 : Int32) (s0 : Int32), ∀ (H : Heap) (locs : List Loc), OW D ad cs A s.heap z H locs → ∀ ls : Array Slot, lv_has ls 9 [(0, .ref (ad 0 100)), (4, .int v4)] → V_X11_mean_81 post z v4 s0 → W p l e (rmq 6 0 0) s m args below meth c H locs 0 0 Q (F0 m 81 ls [.int s0]) := by
    intro z v4 s0 H locs hw ls hl h
    unfold V_X11_mean_81 at h
    refine lv_istore (lv' := [(6, .int s0), (0, .ref (ad 0 100)), (4, .int v4)]) hx hb dX11_mean_81 hl (by decide) rfl (fun ls hl => ?_)
    refine lv_aload_n hx hb dX11_mean_83 rfl (lv_at hl 1 rfl) ?_
    refine xgC E hw (c1 := 11) (t := (4, 100)) rfl ky_0_100 fo_11_4 rfl qf_11_31 dX11_mean_84 ?_
    refine xgI E hw (c1 := 3) rfl ky_4_100 fo_3_5 qf_11_164 dX11_mean_87 ?_
    refine lv_topi (fun t14 et14 => ?_)
    replace h := h t14 et14
    refine lv_istore (lv' := [(7, .int t14), (6, .int s0), (0, .ref (ad 0 100)), (4, .int v4)]) hx hb dX11_mean_90 hl (by decide) rfl (fun ls hl => ?_)
    refine lv_aload_n hx hb dX11_mean_92 rfl (lv_at hl 2 rfl) ?_
    refine xgC E hw (c1 := 11) (t := (4, 100)) rfl ky_0_100 fo_11_4 rfl qf_11_31 dX11_mean_93 ?_
    have hq := h
    clear h
    refine xcVV (As := []) (rest := []) E hw hA (c_X3_land l D ad cs sk z 4 _ is_4 hq) kc_11_167 yo_X3_land ⟨Nat.le_of_ble_eq_true rfl, Nat.le_of_ble_eq_true rfl⟩ (xrc E hw ky_4_100 rfl) rfl hl.1 rfl (Nat.le_of_ble_eq_true rfl) dX11_mean_96 ⟨Nat.le_of_ble_eq_true rfl, Nat.le_of_ble_eq_true rfl⟩ (fun z15 H locs h hw => ?_)
    refine lv_aload_n hx hb dX11_mean_99 rfl (lv_at hl 2 rfl) ?_
    refine xgC E hw (c1 := 11) (t := (4, 100)) rfl ky_0_100 fo_11_4 rfl qf_11_31 dX11_mean_100 ?_
    refine xgI E hw (c1 := 3) rfl ky_4_100 fo_3_5 qf_11_164 dX11_mean_103 ?_
    refine lv_iload hx hb dX11_mean_106 (lv_at hl 0 rfl) ?_
    refine lv_isub hx hb dX11_mean_108 ?_
    refine lv_topi (fun t17 et17 => ?_)
    replace h := h t17 et17
    refine lv_istore (lv' := [(8, .int t17), (7, .int t14), (6, .int s0), (0, .ref (ad 0 100)), (4, .int v4)]) hx hb dX11_mean_109 hl (by decide) rfl (fun ls hl => ?_)
    refine lv_iload hx hb dX11_mean_111 (lv_at hl 0 rfl) ?_
    refine lv_if_gt (tgt := 118) hx hb dX11_mean_113 (by decide) (fun c18 => ?_) (fun c18 => ?_)
    · replace h := h.1 c18
      refine lv_iload hx hb dX11_mean_118 (lv_at hl 4 rfl) ?_
      refine lv_if_eq (tgt := 133) hx hb dX11_mean_120 (by decide) (fun c19 => ?_) (fun c19 => ?_)
      · replace h := h.1 c19
        refine lv_aload_n hx hb dX11_mean_133 rfl (lv_at hl 3 rfl) ?_
        refine xgC E hw (c1 := 11) (t := (4, 100)) rfl ky_0_100 fo_11_4 rfl qf_11_31 dX11_mean_134 ?_
        refine xgI E hw (c1 := 3) rfl ky_4_100 fo_3_2 qf_11_151 dX11_mean_137 ?_
        exact b140 z15 s0 t17 (zI z15 4 2) H locs hw ls (lv_sub hl [2, 0] rfl) h
      · replace h := h.2 c19
        refine lv_aload_n hx hb dX11_mean_123 rfl (lv_at hl 3 rfl) ?_
        refine xgC E hw (c1 := 11) (t := (4, 100)) rfl ky_0_100 fo_11_4 rfl qf_11_31 dX11_mean_124 ?_
        refine xgI E hw (c1 := 3) rfl ky_4_100 fo_3_3 qf_11_154 dX11_mean_127 ?_
        refine lv_goto (tgt := 140) hx hb dX11_mean_130 (by decide) ?_
        exact b140 z15 s0 t17 (zI z15 4 3) H locs hw ls (lv_sub hl [2, 0] rfl) h
    · replace h := h.2 c18
      refine lv_iconst (v := 0) hx hb dX11_mean_116 (by decide) ?_
      exact hret (0 : Int32) z15 H locs 117 ls hw rfl h dX11_mean_117
  have b00 : ∀ (H : Heap) (locs : List Loc), OW D ad cs A s.heap z H locs → W p l e (rmq 6 0 0) s m args below meth c H locs 0 0 Q (F0 m 0 ls []) := by
    intro H locs hw
    refine lv_aload_n hx hb dX11_mean_0 rfl (lv_at hl 0 rfl) ?_
    refine xgC E hw (c1 := 11) (t := (1, 100)) rfl ky_0_100 fo_11_0 rfl qf_11_10 dX11_mean_1 ?_
    refine lv_iload_n hx hb dX11_mean_4 rfl (lv_at hl 1 rfl) ?_
    have hq := h
    clear h
    refine xcVA (As := [.int p1]) (rest := []) E hw hA (c_X0_fallerAt l D ad cs sk z 1 p1 _ is_1 hq) kc_11_97 yo_X0_fallerAt ⟨Nat.le_of_ble_eq_true rfl, Nat.le_of_ble_eq_true rfl⟩ (xrc E hw ky_1_100 rfl) rfl hl.1 rfl (Nat.le_of_ble_eq_true rfl) dX11_mean_5 ⟨Nat.le_of_ble_eq_true rfl, Nat.le_of_ble_eq_true rfl⟩ (fun r2 z1 H locs h hw => ?_)
    refine xsqastore (lv' := [(5, va_rf r2), (0, .ref (ad 0 100)), (1, .int p1), (2, .int p2), (3, .int p3), (4, .int p4)]) hx hb dX11_mean_8 hl (by decide) rfl (fun ls hl => ?_)
    refine xlqaload hx hb dX11_mean_10 (lv_at hl 0 rfl) ?_
    refine xnul (tgt := 23) hx hb dX11_mean_12 (by decide) (fun ea3 => ?_) (fun a3 ea3 => ?_)
    · replace h := h.1 ea3
      subst ea3
      have hl : lv_has ls 9 [(5, .null), (0, .ref (ad 0 100)), (1, .int p1), (2, .int p2), (3, .int p3), (4, .int p4)] := hl
      refine lv_ldc (v := -1000000001) hx hb hown (h0 _ qk_11_76) dX11_mean_23 ?_
      exact hret (-1000000001 : Int32) z1 H locs 25 ls hw rfl h dX11_mean_25
    · replace h := h.2 a3 ea3
      subst ea3
      have hl : lv_has ls 9 [(5, .ref a3), (0, .ref (ad 0 100)), (1, .int p1), (2, .int p2), (3, .int p3), (4, .int p4)] := hl
      refine lv_iload_n hx hb dX11_mean_15 rfl (lv_at hl 3 rfl) ?_
      refine lv_iload_n hx hb dX11_mean_16 rfl (lv_at hl 4 rfl) ?_
      have hq := h
      clear h
      refine xcSI (As := [.int p2, .int p3]) (rest := []) E hw hA (c_X11_isPlace l D ad cs sk z1 p2 p3 _ hq) kc_11_125 yo_X11_isPlace ⟨Nat.le_of_ble_eq_true rfl, Nat.le_of_ble_eq_true rfl⟩ rfl hl.1 rfl (Nat.le_of_ble_eq_true rfl) dX11_mean_17 ⟨Nat.le_of_ble_eq_true rfl, Nat.le_of_ble_eq_true rfl⟩ (fun r5 z4 H locs h hw => ?_)
      refine lv_if_ne (tgt := 26) hx hb dX11_mean_20 (by decide) (fun c6 => ?_) (fun c6 => ?_)
      · replace h := h.1 c6
        refine lv_aload_n hx hb dX11_mean_26 rfl (lv_at hl 1 rfl) ?_
        refine xgC E hw (c1 := 11) (t := (4, 100)) rfl ky_0_100 fo_11_4 rfl qf_11_31 dX11_mean_27 ?_
        refine lv_aload hx hb dX11_mean_30 (lv_at hl 0 rfl) ?_
        refine lv_iload_n hx hb dX11_mean_32 rfl (lv_at hl 3 rfl) ?_
        refine lv_iload_n hx hb dX11_mean_33 rfl (lv_at hl 4 rfl) ?_
        refine lv_iconst (v := 1) hx hb dX11_mean_34 (by decide) ?_
        have hq := h
        clear h
        refine xcVV (As := [.ref a3, .int p2, .int p3, .int (1 : Int32)]) (rest := []) E hw hA (c_X3_begin l D ad cs sk z4 4 a3 p2 p3 (1 : Int32) _ is_4 hq) kc_11_143 yo_X3_begin ⟨Nat.le_of_ble_eq_true rfl, Nat.le_of_ble_eq_true rfl⟩ (xrc E hw ky_4_100 rfl) rfl hl.1 rfl (Nat.le_of_ble_eq_true rfl) dX11_mean_35 ⟨Nat.le_of_ble_eq_true rfl, Nat.le_of_ble_eq_true rfl⟩ (fun z7 H locs h hw => ?_)
        refine lv_aload_n hx hb dX11_mean_38 rfl (lv_at hl 1 rfl) ?_
        refine xgC E hw (c1 := 11) (t := (4, 100)) rfl ky_0_100 fo_11_4 rfl qf_11_31 dX11_mean_39 ?_
        refine lv_iconst (v := 0) hx hb dX11_mean_42 (by decide) ?_
        refine lv_iconst (v := 0) hx hb dX11_mean_43 (by decide) ?_
        have hq := h
        clear h
        refine xcVV (As := [.int (0 : Int32), .int (0 : Int32)]) (rest := []) E hw hA (c_X3_holdWay l D ad cs sk z7 4 (0 : Int32) (0 : Int32) _ is_4 hq) kc_11_160 yo_X3_holdWay ⟨Nat.le_of_ble_eq_true rfl, Nat.le_of_ble_eq_true rfl⟩ (xrc E hw ky_4_100 rfl) rfl hl.1 rfl (Nat.le_of_ble_eq_true rfl) dX11_mean_44 ⟨Nat.le_of_ble_eq_true rfl, Nat.le_of_ble_eq_true rfl⟩ (fun z9 H locs h hw => ?_)
        refine lv_aload_n hx hb dX11_mean_47 rfl (lv_at hl 1 rfl) ?_
        refine xgC E hw (c1 := 11) (t := (4, 100)) rfl ky_0_100 fo_11_4 rfl qf_11_31 dX11_mean_48 ?_
        refine lv_aload hx hb dX11_mean_51 (lv_at hl 0 rfl) ?_
        obtain ⟨hm, h⟩ := h
        refine xgF E hw hm (k := 2) (ref := "TenYards$Faller") (by decide) qf_11_109 (Or.inl rfl) dX11_mean_53 ?_
        have hq := h
        clear h
        refine xcVV (As := [.int (zF z9 a3 2)]) (rest := []) E hw hA (c_X3_goOn l D ad cs sk z9 4 (zF z9 a3 2) _ is_4 hq) kc_11_147 yo_X3_goOn ⟨Nat.le_of_ble_eq_true rfl, Nat.le_of_ble_eq_true rfl⟩ (xrc E hw ky_4_100 rfl) rfl hl.1 rfl (Nat.le_of_ble_eq_true rfl) dX11_mean_56 ⟨Nat.le_of_ble_eq_true rfl, Nat.le_of_ble_eq_true rfl⟩ (fun z11 H locs h hw => ?_)
        refine lv_iload hx hb dX11_mean_59 (lv_at hl 5 rfl) ?_
        refine lv_if_eq (tgt := 74) hx hb dX11_mean_61 (by decide) (fun c13 => ?_) (fun c13 => ?_)
        · replace h := h.1 c13
          refine lv_aload_n hx hb dX11_mean_74 rfl (lv_at hl 1 rfl) ?_
          refine xgC E hw (c1 := 11) (t := (4, 100)) rfl ky_0_100 fo_11_4 rfl qf_11_31 dX11_mean_75 ?_
          refine xgI E hw (c1 := 3) rfl ky_4_100 fo_3_2 qf_11_151 dX11_mean_78 ?_
          exact b81 z11 p4 (zI z11 4 2) H locs hw ls (lv_sub hl [1, 5] rfl) h
        · replace h := h.2 c13
          refine lv_aload_n hx hb dX11_mean_64 rfl (lv_at hl 1 rfl) ?_
          refine xgC E hw (c1 := 11) (t := (4, 100)) rfl ky_0_100 fo_11_4 rfl qf_11_31 dX11_mean_65 ?_
          refine xgI E hw (c1 := 3) rfl ky_4_100 fo_3_3 qf_11_154 dX11_mean_68 ?_
          refine lv_goto (tgt := 81) hx hb dX11_mean_71 (by decide) ?_
          exact b81 z11 p4 (zI z11 4 3) H locs hw ls (lv_sub hl [1, 5] rfl) h
      · replace h := h.2 c6
        refine lv_ldc (v := -1000000001) hx hb hown (h0 _ qk_11_76) dX11_mean_23 ?_
        exact hret (-1000000001 : Int32) z4 H locs 25 ls hw rfl h dX11_mean_25
  exact b00 s.heap [] hw
def V_X11_exit_94 (post : Int32 → ZS → Prop) (rr40 : ZS → Int32 → Nat → Int32 → Int32 → Int32 → Int32 → Prop) (rr53 : ZS → Int32 → Nat → Int32 → Int32 → Int32 → Int32 → Int32 → Prop) (z : ZS) (v2 : Int32) (v3 : Nat) (v4 : Int32) (v5 : Int32) (v6 : Int32) (v7 : Int32) (v8 : Int32) : Prop := (∀ t15 : Int32, t15 = v8 + (1000 : Int32) → rr53 z v2 v3 v4 v5 v6 v7 t15)
def V_X11_exit_53 (post : Int32 → ZS → Prop) (rr40 : ZS → Int32 → Nat → Int32 → Int32 → Int32 → Int32 → Prop) : Nat → ZS → Int32 → Nat → Int32 → Int32 → Int32 → Int32 → Int32 → Prop
  | 0, _, _, _, _, _, _, _, _ => False
  | (n + 1), z, v2, v3, v4, v5, v6, v7, v8 => (((10000 : Int32) < v8 → (∀ t11 : Int32, t11 = v7 + (1000 : Int32) → rr40 z v2 v3 v4 v5 v6 t11)) ∧ (¬ (10000 : Int32) < v8 → V_X3_offFrom z 4 v3 v7 v8 (fun r13 z12 => ((v4 ≤ r13 → V_X11_exit_94 post rr40 (V_X11_exit_53 post rr40 n) z12 v2 v3 v4 v5 v6 v7 v8) ∧ (¬ v4 ≤ r13 → V_X11_exit_94 post rr40 (V_X11_exit_53 post rr40 n) z12 v2 v3 r13 v7 v8 v7 v8)))))
def V_X11_exit_40 (post : Int32 → ZS → Prop) : Nat → ZS → Int32 → Nat → Int32 → Int32 → Int32 → Int32 → Prop
  | 0, _, _, _, _, _, _, _ => False
  | (n + 1), z, v2, v3, v4, v5, v6, v7 => (((10000 : Int32) < v7 → ((¬ v2 = 0 → ((¬ v2 = (1 : Int32) → post v4 z) ∧ (v2 = (1 : Int32) → post v6 z))) ∧ (v2 = 0 → post v5 z))) ∧ (¬ (10000 : Int32) < v7 → (∃ n16 : Nat, V_X11_exit_53 post (V_X11_exit_40 post n) n16 z v2 v3 v4 v5 v6 v7 (-10000 : Int32))))
def V_X11_exit (z : ZS) (p1 : Int32) (p2 : Int32) (post : Int32 → ZS → Prop) : Prop := V_X0_fallerAt z 1 p1 (fun r2 z1 => ((r2 = none → post (-1000000001 : Int32) z1) ∧ (∀ a3 : Nat, r2 = some a3 → V_X11_isFrom z1 (0 : Int32) p2 (2 : Int32) (fun r5 z4 => ((¬ r5 = 0 → (∃ n17 : Nat, V_X11_exit_40 post n17 z4 p2 a3 (2147483647 : Int32) (0 : Int32) (0 : Int32) (-10000 : Int32))) ∧ (r5 = 0 → post (-1000000001 : Int32) z4))))))
set_option maxHeartbeats 4000000 in
set_option maxRecDepth 100000 in
theorem c_X11_exit (l : Launch) (D : va_G) (ad : Nat → Nat → Nat) (cs : Nat → ClassId) (sk : (Nat → Nat) × (Nat → Nat)) (z : ZS) (p1 : Int32) (p2 : Int32) (post : Int32 → ZS → Prop) (h : V_X11_exit z p1 p2 post) : MI l D ad cs sk yX11_exit cX11_exit 10 .int (rmq 6 0 0) [.ref (ad 0 100), .int p1, .int p2] z post := by
  refine MI.of RX11 rfl (by decide) (Nat.le_of_ble_eq_true rfl) ?_
  intro p e s m args below meth c A Q E hw hA hret ls hl
  have hx := E.1.1
  have hb := E.1.2.1
  have hml := E.1.2.2.1
  have hown := E.1.2.2.2.1
  have h0 := E.1.2.2.2.2
  have hl : lv_has ls 10 [(0, .ref (ad 0 100)), (1, .int p1), (2, .int p2)] := hl
  unfold V_X11_exit at h
  have b40 : ∀ (n : Nat) (z : ZS) (v2 : Int32) (v3 : Nat) (v4 : Int32) (v5 : Int32) (v6 : Int32) (v7 : Int32), ∀ (H : Heap) (locs : List Loc), OW D ad cs A s.heap z H locs → ∀ ls : Array Slot, lv_has ls 10 [(0, .ref (ad 0 100)), (2, .int v2), (3, .ref v3), (4, .int v4), (5, .int v5), (6, .int v6), (7, .int v7)] → V_X11_exit_40 post n z v2 v3 v4 v5 v6 v7 → W p l e (rmq 6 0 0) s m args below meth c H locs 0 0 Q (F0 m 40 ls []) := by
    intro n
    induction n with
    | zero =>
      intro z v2 v3 v4 v5 v6 v7 H locs hw ls hl h
      exact h.elim
    | succ n40x ih40 =>
      have b53 : ∀ (n : Nat) (z : ZS) (v2 : Int32) (v3 : Nat) (v4 : Int32) (v5 : Int32) (v6 : Int32) (v7 : Int32) (v8 : Int32), ∀ (H : Heap) (locs : List Loc), OW D ad cs A s.heap z H locs → ∀ ls : Array Slot, lv_has ls 10 [(0, .ref (ad 0 100)), (2, .int v2), (3, .ref v3), (4, .int v4), (5, .int v5), (6, .int v6), (7, .int v7), (8, .int v8)] → V_X11_exit_53 post (V_X11_exit_40 post n40x) n z v2 v3 v4 v5 v6 v7 v8 → W p l e (rmq 6 0 0) s m args below meth c H locs 0 0 Q (F0 m 53 ls []) := by
        intro n
        induction n with
        | zero =>
          intro z v2 v3 v4 v5 v6 v7 v8 H locs hw ls hl h
          exact h.elim
        | succ n53x ih53 =>
          have b94 : ∀ (z : ZS) (v2 : Int32) (v3 : Nat) (v4 : Int32) (v5 : Int32) (v6 : Int32) (v7 : Int32) (v8 : Int32), ∀ (H : Heap) (locs : List Loc), OW D ad cs A s.heap z H locs → ∀ ls : Array Slot, lv_has ls 10 [(0, .ref (ad 0 100)), (2, .int v2), (3, .ref v3), (4, .int v4), (5, .int v5), (6, .int v6), (7, .int v7), (8, .int v8)] → V_X11_exit_94 post (V_X11_exit_40 post n40x) (V_X11_exit_53 post (V_X11_exit_40 post n40x) n53x) z v2 v3 v4 v5 v6 v7 v8 → W p l e (rmq 6 0 0) s m args below meth c H locs 0 0 Q (F0 m 94 ls []) := by
            intro z v2 v3 v4 v5 v6 v7 v8 H locs hw ls hl h
            unfold V_X11_exit_94 at h
            obtain ⟨t15, et15⟩ : ∃ y : Int32, y = v8 + (1000 : Int32) := ⟨_, rfl⟩
            replace h := h t15 et15
            refine lv_iincW (v := t15) (lv' := [(8, .int t15), (0, .ref (ad 0 100)), (2, .int v2), (3, .ref v3), (4, .int v4), (5, .int v5), (6, .int v6), (7, .int v7)]) hx hb dX11_exit_94 hl (k := 7) rfl (by rw [et15]; rfl) (by decide) rfl (fun ls hl => ?_)
            refine lv_goto (tgt := 53) hx hb dX11_exit_100 (by decide) ?_
            exact ih53 z v2 v3 v4 v5 v6 v7 t15 H locs hw ls (lv_sub hl [1, 2, 3, 4, 5, 6, 7, 0] rfl) h
          intro z v2 v3 v4 v5 v6 v7 v8 H locs hw ls hl h
          unfold V_X11_exit_53 at h
          refine lv_iload hx hb dX11_exit_53 (lv_at hl 7 rfl) ?_
          refine lv_sipush (v := 10000) hx hb dX11_exit_55 (by decide) ?_
          refine lv_icmp_gt (tgt := 103) hx hb dX11_exit_58 (by decide) (fun c10 => ?_) (fun c10 => ?_)
          · replace h := h.1 c10
            obtain ⟨t11, et11⟩ : ∃ y : Int32, y = v7 + (1000 : Int32) := ⟨_, rfl⟩
            replace h := h t11 et11
            refine lv_iincW (v := t11) (lv' := [(7, .int t11), (0, .ref (ad 0 100)), (2, .int v2), (3, .ref v3), (4, .int v4), (5, .int v5), (6, .int v6), (8, .int v8)]) hx hb dX11_exit_103 hl (k := 6) rfl (by rw [et11]; rfl) (by decide) rfl (fun ls hl => ?_)
            refine lv_goto (tgt := 40) hx hb dX11_exit_109 (by decide) ?_
            exact ih40 z v2 v3 v4 v5 v6 t11 H locs hw ls (lv_sub hl [1, 2, 3, 4, 5, 6, 0] rfl) h
          · replace h := h.2 c10
            refine lv_aload_n hx hb dX11_exit_61 rfl (lv_at hl 0 rfl) ?_
            refine xgC E hw (c1 := 11) (t := (4, 100)) rfl ky_0_100 fo_11_4 rfl qf_11_31 dX11_exit_62 ?_
            refine lv_aload_n hx hb dX11_exit_65 rfl (lv_at hl 2 rfl) ?_
            refine lv_iload hx hb dX11_exit_66 (lv_at hl 6 rfl) ?_
            refine lv_iload hx hb dX11_exit_68 (lv_at hl 7 rfl) ?_
            have hq := h
            clear h
            refine xcVI (As := [.ref v3, .int v7, .int v8]) (rest := []) E hw hA (c_X3_offFrom l D ad cs sk z 4 v3 v7 v8 _ is_4 hq) kc_11_173 yo_X3_offFrom ⟨Nat.le_of_ble_eq_true rfl, Nat.le_of_ble_eq_true rfl⟩ (xrc E hw ky_4_100 rfl) rfl hl.1 rfl (Nat.le_of_ble_eq_true rfl) dX11_exit_70 ⟨Nat.le_of_ble_eq_true rfl, Nat.le_of_ble_eq_true rfl⟩ (fun r13 z12 H locs h hw => ?_)
            refine lv_istore (lv' := [(9, .int r13), (0, .ref (ad 0 100)), (2, .int v2), (3, .ref v3), (4, .int v4), (5, .int v5), (6, .int v6), (7, .int v7), (8, .int v8)]) hx hb dX11_exit_73 hl (by decide) rfl (fun ls hl => ?_)
            refine lv_iload hx hb dX11_exit_75 (lv_at hl 0 rfl) ?_
            refine lv_iload hx hb dX11_exit_77 (lv_at hl 4 rfl) ?_
            refine lv_icmp_ge (tgt := 94) hx hb dX11_exit_79 (by decide) (fun c14 => ?_) (fun c14 => ?_)
            · replace h := h.1 c14
              exact b94 z12 v2 v3 v4 v5 v6 v7 v8 H locs hw ls (lv_sub hl [1, 2, 3, 4, 5, 6, 7, 8] rfl) h
            · replace h := h.2 c14
              refine lv_iload hx hb dX11_exit_82 (lv_at hl 0 rfl) ?_
              refine lv_istore (lv' := [(4, .int r13), (9, .int r13), (0, .ref (ad 0 100)), (2, .int v2), (3, .ref v3), (5, .int v5), (6, .int v6), (7, .int v7), (8, .int v8)]) hx hb dX11_exit_84 hl (by decide) rfl (fun ls hl => ?_)
              refine lv_iload hx hb dX11_exit_86 (lv_at hl 7 rfl) ?_
              refine lv_istore (lv' := [(5, .int v7), (4, .int r13), (9, .int r13), (0, .ref (ad 0 100)), (2, .int v2), (3, .ref v3), (6, .int v6), (7, .int v7), (8, .int v8)]) hx hb dX11_exit_88 hl (by decide) rfl (fun ls hl => ?_)
              refine lv_iload hx hb dX11_exit_90 (lv_at hl 8 rfl) ?_
              refine lv_istore (lv' := [(6, .int v8), (5, .int v7), (4, .int r13), (9, .int r13), (0, .ref (ad 0 100)), (2, .int v2), (3, .ref v3), (7, .int v7), (8, .int v8)]) hx hb dX11_exit_92 hl (by decide) rfl (fun ls hl => ?_)
              exact b94 z12 v2 v3 r13 v7 v8 v7 v8 H locs hw ls (lv_sub hl [4, 5, 6, 2, 1, 0, 7, 8] rfl) h
      intro z v2 v3 v4 v5 v6 v7 H locs hw ls hl h
      unfold V_X11_exit_40 at h
      refine lv_iload hx hb dX11_exit_40 (lv_at hl 6 rfl) ?_
      refine lv_sipush (v := 10000) hx hb dX11_exit_42 (by decide) ?_
      refine lv_icmp_gt (tgt := 112) hx hb dX11_exit_45 (by decide) (fun c7 => ?_) (fun c7 => ?_)
      · replace h := h.1 c7
        refine lv_iload_n hx hb dX11_exit_112 rfl (lv_at hl 1 rfl) ?_
        refine lv_if_ne (tgt := 121) hx hb dX11_exit_113 (by decide) (fun c8 => ?_) (fun c8 => ?_)
        · replace h := h.1 c8
          refine lv_iload_n hx hb dX11_exit_121 rfl (lv_at hl 1 rfl) ?_
          refine lv_iconst (v := 1) hx hb dX11_exit_122 (by decide) ?_
          refine lv_icmp_ne (tgt := 131) hx hb dX11_exit_123 (by decide) (fun c9 => ?_) (fun c9 => ?_)
          · replace h := h.1 c9
            refine lv_iload hx hb dX11_exit_131 (lv_at hl 3 rfl) ?_
            exact hret v4 z H locs 133 ls hw rfl h dX11_exit_133
          · replace h := h.2 c9
            refine lv_iload hx hb dX11_exit_126 (lv_at hl 5 rfl) ?_
            refine lv_goto (tgt := 133) hx hb dX11_exit_128 (by decide) ?_
            exact hret v6 z H locs 133 ls hw rfl h dX11_exit_133
        · replace h := h.2 c8
          refine lv_iload hx hb dX11_exit_116 (lv_at hl 4 rfl) ?_
          refine lv_goto (tgt := 133) hx hb dX11_exit_118 (by decide) ?_
          exact hret v5 z H locs 133 ls hw rfl h dX11_exit_133
      · replace h := h.2 c7
        refine lv_sipush (v := -10000) hx hb dX11_exit_48 (by decide) ?_
        refine lv_istore (lv' := [(8, .int (-10000 : Int32)), (0, .ref (ad 0 100)), (2, .int v2), (3, .ref v3), (4, .int v4), (5, .int v5), (6, .int v6), (7, .int v7)]) hx hb dX11_exit_51 hl (by decide) rfl (fun ls hl => ?_)
        obtain ⟨n16, h⟩ := h
        exact b53 n16 z v2 v3 v4 v5 v6 v7 (-10000 : Int32) H locs hw ls (lv_sub hl [1, 2, 3, 4, 5, 6, 7, 0] rfl) h
  have b00 : ∀ (H : Heap) (locs : List Loc), OW D ad cs A s.heap z H locs → W p l e (rmq 6 0 0) s m args below meth c H locs 0 0 Q (F0 m 0 ls []) := by
    intro H locs hw
    refine lv_aload_n hx hb dX11_exit_0 rfl (lv_at hl 0 rfl) ?_
    refine xgC E hw (c1 := 11) (t := (1, 100)) rfl ky_0_100 fo_11_0 rfl qf_11_10 dX11_exit_1 ?_
    refine lv_iload_n hx hb dX11_exit_4 rfl (lv_at hl 1 rfl) ?_
    have hq := h
    clear h
    refine xcVA (As := [.int p1]) (rest := []) E hw hA (c_X0_fallerAt l D ad cs sk z 1 p1 _ is_1 hq) kc_11_97 yo_X0_fallerAt ⟨Nat.le_of_ble_eq_true rfl, Nat.le_of_ble_eq_true rfl⟩ (xrc E hw ky_1_100 rfl) rfl hl.1 rfl (Nat.le_of_ble_eq_true rfl) dX11_exit_5 ⟨Nat.le_of_ble_eq_true rfl, Nat.le_of_ble_eq_true rfl⟩ (fun r2 z1 H locs h hw => ?_)
    refine xsqastore_n (lv' := [(3, va_rf r2), (0, .ref (ad 0 100)), (1, .int p1), (2, .int p2)]) hx hb dX11_exit_8 rfl hl (by decide) rfl (fun ls hl => ?_)
    refine xlqaload_n hx hb dX11_exit_9 rfl (lv_at hl 0 rfl) ?_
    refine xnul (tgt := 22) hx hb dX11_exit_10 (by decide) (fun ea3 => ?_) (fun a3 ea3 => ?_)
    · replace h := h.1 ea3
      subst ea3
      have hl : lv_has ls 10 [(3, .null), (0, .ref (ad 0 100)), (1, .int p1), (2, .int p2)] := hl
      refine lv_ldc (v := -1000000001) hx hb hown (h0 _ qk_11_76) dX11_exit_22 ?_
      exact hret (-1000000001 : Int32) z1 H locs 24 ls hw rfl h dX11_exit_24
    · replace h := h.2 a3 ea3
      subst ea3
      have hl : lv_has ls 10 [(3, .ref a3), (0, .ref (ad 0 100)), (1, .int p1), (2, .int p2)] := hl
      refine lv_iconst (v := 0) hx hb dX11_exit_13 (by decide) ?_
      refine lv_iload_n hx hb dX11_exit_14 rfl (lv_at hl 3 rfl) ?_
      refine lv_iconst (v := 2) hx hb dX11_exit_15 (by decide) ?_
      have hq := h
      clear h
      refine xcSI (As := [.int (0 : Int32), .int p2, .int (2 : Int32)]) (rest := []) E hw hA (c_X11_isFrom l D ad cs sk z1 (0 : Int32) p2 (2 : Int32) _ hq) kc_11_83 yo_X11_isFrom ⟨Nat.le_of_ble_eq_true rfl, Nat.le_of_ble_eq_true rfl⟩ rfl hl.1 rfl (Nat.le_of_ble_eq_true rfl) dX11_exit_16 ⟨Nat.le_of_ble_eq_true rfl, Nat.le_of_ble_eq_true rfl⟩ (fun r5 z4 H locs h hw => ?_)
      refine lv_if_ne (tgt := 25) hx hb dX11_exit_19 (by decide) (fun c6 => ?_) (fun c6 => ?_)
      · replace h := h.1 c6
        refine lv_ldc (v := 2147483647) hx hb hown (h0 _ qk_11_172) dX11_exit_25 ?_
        refine lv_istore (lv' := [(4, .int (2147483647 : Int32)), (3, .ref a3), (0, .ref (ad 0 100)), (1, .int p1), (2, .int p2)]) hx hb dX11_exit_27 hl (by decide) rfl (fun ls hl => ?_)
        refine lv_iconst (v := 0) hx hb dX11_exit_29 (by decide) ?_
        refine lv_istore (lv' := [(5, .int (0 : Int32)), (4, .int (2147483647 : Int32)), (3, .ref a3), (0, .ref (ad 0 100)), (1, .int p1), (2, .int p2)]) hx hb dX11_exit_30 hl (by decide) rfl (fun ls hl => ?_)
        refine lv_iconst (v := 0) hx hb dX11_exit_32 (by decide) ?_
        refine lv_istore (lv' := [(6, .int (0 : Int32)), (5, .int (0 : Int32)), (4, .int (2147483647 : Int32)), (3, .ref a3), (0, .ref (ad 0 100)), (1, .int p1), (2, .int p2)]) hx hb dX11_exit_33 hl (by decide) rfl (fun ls hl => ?_)
        refine lv_sipush (v := -10000) hx hb dX11_exit_35 (by decide) ?_
        refine lv_istore (lv' := [(7, .int (-10000 : Int32)), (6, .int (0 : Int32)), (5, .int (0 : Int32)), (4, .int (2147483647 : Int32)), (3, .ref a3), (0, .ref (ad 0 100)), (1, .int p1), (2, .int p2)]) hx hb dX11_exit_38 hl (by decide) rfl (fun ls hl => ?_)
        obtain ⟨n17, h⟩ := h
        exact b40 n17 z4 p2 a3 (2147483647 : Int32) (0 : Int32) (0 : Int32) (-10000 : Int32) H locs hw ls (lv_sub hl [5, 7, 4, 3, 2, 1, 0] rfl) h
      · replace h := h.2 c6
        refine lv_ldc (v := -1000000001) hx hb hown (h0 _ qk_11_76) dX11_exit_22 ?_
        exact hret (-1000000001 : Int32) z4 H locs 24 ls hw rfl h dX11_exit_24
  exact b00 s.heap [] hw
def V_X11_isGap (z : ZS) (p0 : Int32) (post : Int32 → ZS → Prop) : Prop := V_X11_isFrom z (1 : Int32) p0 (20 : Int32) (fun r2 z1 => (narrow .boolean (.int r2) = .int r2 ∧ post r2 z1))
set_option maxHeartbeats 4000000 in
set_option maxRecDepth 100000 in
theorem c_X11_isGap (l : Launch) (D : va_G) (ad : Nat → Nat → Nat) (cs : Nat → ClassId) (sk : (Nat → Nat) × (Nat → Nat)) (z : ZS) (p0 : Int32) (post : Int32 → ZS → Prop) (h : V_X11_isGap z p0 post) : MI l D ad cs sk yX11_isGap cX11_isGap 1 .boolean (rmq 1 0 0) [.int p0] z post := by
  refine MI.of RX11 rfl (by decide) (Nat.le_of_ble_eq_true rfl) ?_
  intro p e s m args below meth c A Q E hw hA hret ls hl
  have hx := E.1.1
  have hb := E.1.2.1
  have hml := E.1.2.2.1
  have hown := E.1.2.2.2.1
  have h0 := E.1.2.2.2.2
  have hl : lv_has ls 1 [(0, .int p0)] := hl
  unfold V_X11_isGap at h
  have b00 : ∀ (H : Heap) (locs : List Loc), OW D ad cs A s.heap z H locs → W p l e (rmq 1 0 0) s m args below meth c H locs 0 0 Q (F0 m 0 ls []) := by
    intro H locs hw
    refine lv_iconst (v := 1) hx hb dX11_isGap_0 (by decide) ?_
    refine lv_iload_n hx hb dX11_isGap_1 rfl (lv_at hl 0 rfl) ?_
    refine lv_bipush (v := 20) hx hb dX11_isGap_2 (by decide) ?_
    have hq := h
    clear h
    refine xcSI (As := [.int (1 : Int32), .int p0, .int (20 : Int32)]) (rest := []) E hw hA (c_X11_isFrom l D ad cs sk z (1 : Int32) p0 (20 : Int32) _ hq) kc_11_83 yo_X11_isFrom ⟨Nat.le_of_ble_eq_true rfl, Nat.le_of_ble_eq_true rfl⟩ rfl hl.1 rfl (Nat.le_of_ble_eq_true rfl) dX11_isGap_4 ⟨Nat.le_of_ble_eq_true rfl, Nat.le_of_ble_eq_true rfl⟩ (fun r2 z1 H locs h hw => ?_)
    exact hret r2 z1 H locs 7 ls hw h.1 h.2 dX11_isGap_7
  exact b00 s.heap [] hw
def V_X11_loadWithin_95 (p1 : Nat) (post : Int32 → ZS → Prop) (rr6 : ZS → Int32 → Int32 → Int32 → Int32 → Int32 → Int32 → Prop) (z : ZS) (v2 : Int32) (v3 : Int32) (v4 : Int32) (v5 : Int32) (v6 : Int32) (v7 : Int32) : Prop := (∀ t7 : Int32, t7 = v7 + (1 : Int32) → rr6 z v2 v3 v4 v5 v6 t7)
def V_X11_loadWithin_6 (p1 : Nat) (post : Int32 → ZS → Prop) : Nat → ZS → Int32 → Int32 → Int32 → Int32 → Int32 → Int32 → Prop
  | 0, _, _, _, _, _, _, _ => False
  | (n + 1), z, v2, v3, v4, v5, v6, v7 => (((zI z p1 3) ≤ v7 → post v6 z) ∧ (¬ (zI z p1 3) ≤ v7 → V_X9_valueAt z p1 v7 (fun r3 z2 => V_X0_fallerAt z2 1 r3 (fun r5 z4 => ((r5 = none → V_X11_loadWithin_95 p1 post (V_X11_loadWithin_6 p1 post n) z4 v2 v3 v4 v5 v6 v7) ∧ (∀ a6 : Nat, r5 = some a6 → V_X3_held z4 (v2 + ((v7 * v4) * (zI z4 1 3))) (fun r9 z8 => V_X3_offFrom z8 4 a6 r9 v3 (fun r11 z10 => ((v5 < r11 → V_X11_loadWithin_95 p1 post (V_X11_loadWithin_6 p1 post n) z10 v2 v3 v4 v5 v6 v7) ∧ (¬ v5 < r11 → V_X0_bars z10 1 (zI z10 4 2) (zI z10 4 3) (fun r14 z13 => ((¬ r14 = 0 → V_X11_loadWithin_95 p1 post (V_X11_loadWithin_6 p1 post n) z13 v2 v3 v4 v5 v6 v7) ∧ (r14 = 0 → (∀ t16 : Int32, t16 = v6 + (1 : Int32) → V_X11_loadWithin_95 p1 post (V_X11_loadWithin_6 p1 post n) z13 v2 v3 v4 v5 t16 v7))))))))))))))
def V_X11_loadWithin (z : ZS) (p1 : Nat) (p2 : Int32) (p3 : Int32) (p4 : Int32) (p5 : Int32) (post : Int32 → ZS → Prop) : Prop := (∃ n17 : Nat, V_X11_loadWithin_6 p1 post n17 z p2 p3 p4 p5 (0 : Int32) (0 : Int32))
set_option maxHeartbeats 4000000 in
set_option maxRecDepth 100000 in
theorem c_X11_loadWithin (l : Launch) (D : va_G) (ad : Nat → Nat → Nat) (cs : Nat → ClassId) (sk : (Nat → Nat) × (Nat → Nat)) (z : ZS) (p1 : Nat) (p2 : Int32) (p3 : Int32) (p4 : Int32) (p5 : Int32) (post : Int32 → ZS → Prop) (hp1 : isS p1) (h : V_X11_loadWithin z p1 p2 p3 p4 p5 post) : MI l D ad cs sk yX11_loadWithin cX11_loadWithin 9 .int (rmq 6 0 0) [.ref (ad 0 100), .ref (ad p1 100), .int p2, .int p3, .int p4, .int p5] z post := by
  refine MI.of RX11 rfl (by decide) (Nat.le_of_ble_eq_true rfl) ?_
  intro p e s m args below meth c A Q E hw hA hret ls hl
  have hx := E.1.1
  have hb := E.1.2.1
  have hml := E.1.2.2.1
  have hown := E.1.2.2.2.1
  have h0 := E.1.2.2.2.2
  have hl : lv_has ls 9 [(0, .ref (ad 0 100)), (1, .ref (ad p1 100)), (2, .int p2), (3, .int p3), (4, .int p4), (5, .int p5)] := hl
  unfold V_X11_loadWithin at h
  have b6 : ∀ (n : Nat) (z : ZS) (v2 : Int32) (v3 : Int32) (v4 : Int32) (v5 : Int32) (v6 : Int32) (v7 : Int32), ∀ (H : Heap) (locs : List Loc), OW D ad cs A s.heap z H locs → ∀ ls : Array Slot, lv_has ls 9 [(0, .ref (ad 0 100)), (1, .ref (ad p1 100)), (2, .int v2), (3, .int v3), (4, .int v4), (5, .int v5), (6, .int v6), (7, .int v7)] → V_X11_loadWithin_6 p1 post n z v2 v3 v4 v5 v6 v7 → W p l e (rmq 6 0 0) s m args below meth c H locs 0 0 Q (F0 m 6 ls []) := by
    intro n
    induction n with
    | zero =>
      intro z v2 v3 v4 v5 v6 v7 H locs hw ls hl h
      exact h.elim
    | succ n6x ih6 =>
      have b95 : ∀ (z : ZS) (v2 : Int32) (v3 : Int32) (v4 : Int32) (v5 : Int32) (v6 : Int32) (v7 : Int32), ∀ (H : Heap) (locs : List Loc), OW D ad cs A s.heap z H locs → ∀ ls : Array Slot, lv_has ls 9 [(0, .ref (ad 0 100)), (1, .ref (ad p1 100)), (2, .int v2), (3, .int v3), (4, .int v4), (5, .int v5), (6, .int v6), (7, .int v7)] → V_X11_loadWithin_95 p1 post (V_X11_loadWithin_6 p1 post n6x) z v2 v3 v4 v5 v6 v7 → W p l e (rmq 6 0 0) s m args below meth c H locs 0 0 Q (F0 m 95 ls []) := by
        intro z v2 v3 v4 v5 v6 v7 H locs hw ls hl h
        unfold V_X11_loadWithin_95 at h
        obtain ⟨t7, et7⟩ : ∃ y : Int32, y = v7 + (1 : Int32) := ⟨_, rfl⟩
        replace h := h t7 et7
        refine lv_iinc (v := t7) (lv' := [(7, .int t7), (0, .ref (ad 0 100)), (1, .ref (ad p1 100)), (2, .int v2), (3, .int v3), (4, .int v4), (5, .int v5), (6, .int v6)]) hx hb dX11_loadWithin_95 hl (k := 7) rfl (by rw [et7]; rfl) (by decide) rfl (fun ls hl => ?_)
        refine lv_goto (tgt := 6) hx hb dX11_loadWithin_98 (by decide) ?_
        exact ih6 z v2 v3 v4 v5 v6 t7 H locs hw ls (lv_sub hl [1, 2, 3, 4, 5, 6, 7, 0] rfl) h
      intro z v2 v3 v4 v5 v6 v7 H locs hw ls hl h
      unfold V_X11_loadWithin_6 at h
      refine lv_iload hx hb dX11_loadWithin_6 (lv_at hl 7 rfl) ?_
      refine lv_aload_n hx hb dX11_loadWithin_8 rfl (lv_at hl 1 rfl) ?_
      refine xgI E hw (c1 := 9) (ciisS hp1) (kyisS_100 hp1) fo_9_3 qf_11_189 dX11_loadWithin_9 ?_
      refine lv_icmp_ge (tgt := 101) hx hb dX11_loadWithin_12 (by decide) (fun c1 => ?_) (fun c1 => ?_)
      · replace h := h.1 c1
        refine lv_iload hx hb dX11_loadWithin_101 (lv_at hl 6 rfl) ?_
        exact hret v6 z H locs 103 ls hw rfl h dX11_loadWithin_103
      · replace h := h.2 c1
        refine lv_aload_n hx hb dX11_loadWithin_15 rfl (lv_at hl 0 rfl) ?_
        refine xgC E hw (c1 := 11) (t := (1, 100)) rfl ky_0_100 fo_11_0 rfl qf_11_10 dX11_loadWithin_16 ?_
        refine lv_aload_n hx hb dX11_loadWithin_19 rfl (lv_at hl 1 rfl) ?_
        refine lv_iload hx hb dX11_loadWithin_20 (lv_at hl 7 rfl) ?_
        have hq := h
        clear h
        refine xcVI (As := [.int v7]) (rest := [.ref (ad 1 100)]) E hw hA (c_X9_valueAt l D ad cs sk z p1 v7 _ hp1 hq) kc_11_258 yo_X9_valueAt ⟨Nat.le_of_ble_eq_true rfl, Nat.le_of_ble_eq_true rfl⟩ (xrc E hw (kyisS_100 hp1) (ciisS hp1)) rfl hl.1 rfl (Nat.le_of_ble_eq_true rfl) dX11_loadWithin_22 ⟨Nat.le_of_ble_eq_true rfl, Nat.le_of_ble_eq_true rfl⟩ (fun r3 z2 H locs h hw => ?_)
        have hq := h
        clear h
        refine xcVA (As := [.int r3]) (rest := []) E hw hA (c_X0_fallerAt l D ad cs sk z2 1 r3 _ is_1 hq) kc_11_97 yo_X0_fallerAt ⟨Nat.le_of_ble_eq_true rfl, Nat.le_of_ble_eq_true rfl⟩ (xrc E hw ky_1_100 rfl) rfl hl.1 rfl (Nat.le_of_ble_eq_true rfl) dX11_loadWithin_25 ⟨Nat.le_of_ble_eq_true rfl, Nat.le_of_ble_eq_true rfl⟩ (fun r5 z4 H locs h hw => ?_)
        refine xsqastore (lv' := [(8, va_rf r5), (0, .ref (ad 0 100)), (1, .ref (ad p1 100)), (2, .int v2), (3, .int v3), (4, .int v4), (5, .int v5), (6, .int v6), (7, .int v7)]) hx hb dX11_loadWithin_28 hl (by decide) rfl (fun ls hl => ?_)
        refine xlqaload hx hb dX11_loadWithin_30 (lv_at hl 0 rfl) ?_
        refine xnul (tgt := 95) hx hb dX11_loadWithin_32 (by decide) (fun ea6 => ?_) (fun a6 ea6 => ?_)
        · replace h := h.1 ea6
          subst ea6
          have hl : lv_has ls 9 [(8, .null), (0, .ref (ad 0 100)), (1, .ref (ad p1 100)), (2, .int v2), (3, .int v3), (4, .int v4), (5, .int v5), (6, .int v6), (7, .int v7)] := hl
          exact b95 z4 v2 v3 v4 v5 v6 v7 H locs hw ls (lv_sub hl [1, 2, 3, 4, 5, 6, 7, 8] rfl) h
        · replace h := h.2 a6 ea6
          subst ea6
          have hl : lv_has ls 9 [(8, .ref a6), (0, .ref (ad 0 100)), (1, .ref (ad p1 100)), (2, .int v2), (3, .int v3), (4, .int v4), (5, .int v5), (6, .int v6), (7, .int v7)] := hl
          refine lv_aload_n hx hb dX11_loadWithin_35 rfl (lv_at hl 1 rfl) ?_
          refine xgC E hw (c1 := 11) (t := (4, 100)) rfl ky_0_100 fo_11_4 rfl qf_11_31 dX11_loadWithin_36 ?_
          refine lv_aload hx hb dX11_loadWithin_39 (lv_at hl 0 rfl) ?_
          refine lv_iload_n hx hb dX11_loadWithin_41 rfl (lv_at hl 3 rfl) ?_
          refine lv_iload hx hb dX11_loadWithin_42 (lv_at hl 8 rfl) ?_
          refine lv_iload hx hb dX11_loadWithin_44 (lv_at hl 5 rfl) ?_
          refine lv_imul hx hb dX11_loadWithin_46 ?_
          refine lv_aload_n hx hb dX11_loadWithin_47 rfl (lv_at hl 1 rfl) ?_
          refine xgC E hw (c1 := 11) (t := (1, 100)) rfl ky_0_100 fo_11_0 rfl qf_11_10 dX11_loadWithin_48 ?_
          refine xgI E hw (c1 := 0) rfl ky_1_100 fo_0_3 qf_11_91 dX11_loadWithin_51 ?_
          refine lv_imul hx hb dX11_loadWithin_54 ?_
          refine lv_iadd hx hb dX11_loadWithin_55 ?_
          have hq := h
          clear h
          refine xcSI (As := [.int (v2 + ((v7 * v4) * (zI z4 1 3)))]) (rest := [.ref a6, .ref (ad 4 100)]) E hw hA (c_X3_held l D ad cs sk z4 (v2 + ((v7 * v4) * (zI z4 1 3))) _ hq) kc_11_232 yo_X3_held ⟨Nat.le_of_ble_eq_true rfl, Nat.le_of_ble_eq_true rfl⟩ rfl hl.1 rfl (Nat.le_of_ble_eq_true rfl) dX11_loadWithin_56 ⟨Nat.le_of_ble_eq_true rfl, Nat.le_of_ble_eq_true rfl⟩ (fun r9 z8 H locs h hw => ?_)
          refine lv_iload_n hx hb dX11_loadWithin_59 rfl (lv_at hl 4 rfl) ?_
          have hq := h
          clear h
          refine xcVI (As := [.ref a6, .int r9, .int v3]) (rest := []) E hw hA (c_X3_offFrom l D ad cs sk z8 4 a6 r9 v3 _ is_4 hq) kc_11_173 yo_X3_offFrom ⟨Nat.le_of_ble_eq_true rfl, Nat.le_of_ble_eq_true rfl⟩ (xrc E hw ky_4_100 rfl) rfl hl.1 rfl (Nat.le_of_ble_eq_true rfl) dX11_loadWithin_60 ⟨Nat.le_of_ble_eq_true rfl, Nat.le_of_ble_eq_true rfl⟩ (fun r11 z10 H locs h hw => ?_)
          refine lv_iload hx hb dX11_loadWithin_63 (lv_at hl 6 rfl) ?_
          refine lv_icmp_gt (tgt := 95) hx hb dX11_loadWithin_65 (by decide) (fun c12 => ?_) (fun c12 => ?_)
          · replace h := h.1 c12
            exact b95 z10 v2 v3 v4 v5 v6 v7 H locs hw ls (lv_sub hl [1, 2, 3, 4, 5, 6, 7, 8] rfl) h
          · replace h := h.2 c12
            refine lv_aload_n hx hb dX11_loadWithin_68 rfl (lv_at hl 1 rfl) ?_
            refine xgC E hw (c1 := 11) (t := (1, 100)) rfl ky_0_100 fo_11_0 rfl qf_11_10 dX11_loadWithin_69 ?_
            refine lv_aload_n hx hb dX11_loadWithin_72 rfl (lv_at hl 1 rfl) ?_
            refine xgC E hw (c1 := 11) (t := (4, 100)) rfl ky_0_100 fo_11_4 rfl qf_11_31 dX11_loadWithin_73 ?_
            refine xgI E hw (c1 := 3) rfl ky_4_100 fo_3_2 qf_11_151 dX11_loadWithin_76 ?_
            refine lv_aload_n hx hb dX11_loadWithin_79 rfl (lv_at hl 1 rfl) ?_
            refine xgC E hw (c1 := 11) (t := (4, 100)) rfl ky_0_100 fo_11_4 rfl qf_11_31 dX11_loadWithin_80 ?_
            refine xgI E hw (c1 := 3) rfl ky_4_100 fo_3_3 qf_11_154 dX11_loadWithin_83 ?_
            have hq := h
            clear h
            refine xcVI (As := [.int (zI z10 4 2), .int (zI z10 4 3)]) (rest := []) E hw hA (c_X0_bars l D ad cs sk z10 1 (zI z10 4 2) (zI z10 4 3) _ is_1 hq) kc_11_136 yo_X0_bars ⟨Nat.le_of_ble_eq_true rfl, Nat.le_of_ble_eq_true rfl⟩ (xrc E hw ky_1_100 rfl) rfl hl.1 rfl (Nat.le_of_ble_eq_true rfl) dX11_loadWithin_86 ⟨Nat.le_of_ble_eq_true rfl, Nat.le_of_ble_eq_true rfl⟩ (fun r14 z13 H locs h hw => ?_)
            refine lv_if_ne (tgt := 95) hx hb dX11_loadWithin_89 (by decide) (fun c15 => ?_) (fun c15 => ?_)
            · replace h := h.1 c15
              exact b95 z13 v2 v3 v4 v5 v6 v7 H locs hw ls (lv_sub hl [1, 2, 3, 4, 5, 6, 7, 8] rfl) h
            · replace h := h.2 c15
              obtain ⟨t16, et16⟩ : ∃ y : Int32, y = v6 + (1 : Int32) := ⟨_, rfl⟩
              replace h := h t16 et16
              refine lv_iinc (v := t16) (lv' := [(6, .int t16), (8, .ref a6), (0, .ref (ad 0 100)), (1, .ref (ad p1 100)), (2, .int v2), (3, .int v3), (4, .int v4), (5, .int v5), (7, .int v7)]) hx hb dX11_loadWithin_92 hl (k := 7) rfl (by rw [et16]; rfl) (by decide) rfl (fun ls hl => ?_)
              exact b95 z13 v2 v3 v4 v5 t16 v7 H locs hw ls (lv_sub hl [2, 3, 4, 5, 6, 7, 0, 8] rfl) h
  have b00 : ∀ (H : Heap) (locs : List Loc), OW D ad cs A s.heap z H locs → W p l e (rmq 6 0 0) s m args below meth c H locs 0 0 Q (F0 m 0 ls []) := by
    intro H locs hw
    refine lv_iconst (v := 0) hx hb dX11_loadWithin_0 (by decide) ?_
    refine lv_istore (lv' := [(6, .int (0 : Int32)), (0, .ref (ad 0 100)), (1, .ref (ad p1 100)), (2, .int p2), (3, .int p3), (4, .int p4), (5, .int p5)]) hx hb dX11_loadWithin_1 hl (by decide) rfl (fun ls hl => ?_)
    refine lv_iconst (v := 0) hx hb dX11_loadWithin_3 (by decide) ?_
    refine lv_istore (lv' := [(7, .int (0 : Int32)), (6, .int (0 : Int32)), (0, .ref (ad 0 100)), (1, .ref (ad p1 100)), (2, .int p2), (3, .int p3), (4, .int p4), (5, .int p5)]) hx hb dX11_loadWithin_4 hl (by decide) rfl (fun ls hl => ?_)
    obtain ⟨n17, h⟩ := h
    exact b6 n17 z p2 p3 p4 p5 (0 : Int32) (0 : Int32) H locs hw ls (lv_sub hl [2, 3, 4, 5, 6, 7, 1, 0] rfl) h
  exact b00 s.heap [] hw
def V_X11_refusalOfLoad_28 (p1 : Nat) (post : Int32 → ZS → Prop) : Nat → ZS → Int32 → Prop
  | 0, _, _ => False
  | (n + 1), z, v3 => (((zI z p1 3) ≤ v3 → post (0 : Int32) z) ∧ (¬ (zI z p1 3) ≤ v3 → V_X9_valueAt z p1 v3 (fun r9 z8 => V_X0_fallerAt z8 1 r9 (fun r11 z10 => ((r11 = none → post (-13 : Int32) z10) ∧ (∀ a12 : Nat, r11 = some a12 → (∀ t13 : Int32, t13 = v3 + (1 : Int32) → (V_X11_refusalOfLoad_28 p1 post n) z10 t13)))))))
def V_X11_refusalOfLoad (z : ZS) (p1 : Nat) (post : Int32 → ZS → Prop) : Prop := V_X11_refusalOfBytes z p1 (fun r2 z1 => ((r2 = 0 → V_X11_isFrom z1 (1 : Int32) (zI z1 p1 3) (5 : Int32) (fun r5 z4 => ((¬ r5 = 0 → (∃ n14 : Nat, V_X11_refusalOfLoad_28 p1 post n14 z4 (0 : Int32))) ∧ (r5 = 0 → post (-13 : Int32) z4)))) ∧ (¬ r2 = 0 → post r2 z1)))
set_option maxHeartbeats 4000000 in
set_option maxRecDepth 100000 in
theorem c_X11_refusalOfLoad (l : Launch) (D : va_G) (ad : Nat → Nat → Nat) (cs : Nat → ClassId) (sk : (Nat → Nat) × (Nat → Nat)) (z : ZS) (p1 : Nat) (post : Int32 → ZS → Prop) (hp1 : isS p1) (h : V_X11_refusalOfLoad z p1 post) : MI l D ad cs sk yX11_refusalOfLoad cX11_refusalOfLoad 4 .int (rmq 3 0 0) [.ref (ad 0 100), .ref (ad p1 100)] z post := by
  refine MI.of RX11 rfl (by decide) (Nat.le_of_ble_eq_true rfl) ?_
  intro p e s m args below meth c A Q E hw hA hret ls hl
  have hx := E.1.1
  have hb := E.1.2.1
  have hml := E.1.2.2.1
  have hown := E.1.2.2.2.1
  have h0 := E.1.2.2.2.2
  have hl : lv_has ls 4 [(0, .ref (ad 0 100)), (1, .ref (ad p1 100))] := hl
  unfold V_X11_refusalOfLoad at h
  have b28 : ∀ (n : Nat) (z : ZS) (v3 : Int32), ∀ (H : Heap) (locs : List Loc), OW D ad cs A s.heap z H locs → ∀ ls : Array Slot, lv_has ls 4 [(0, .ref (ad 0 100)), (1, .ref (ad p1 100)), (3, .int v3)] → V_X11_refusalOfLoad_28 p1 post n z v3 → W p l e (rmq 3 0 0) s m args below meth c H locs 0 0 Q (F0 m 28 ls []) := by
    intro n
    induction n with
    | zero =>
      intro z v3 H locs hw ls hl h
      exact h.elim
    | succ n28x ih28 =>
      intro z v3 H locs hw ls hl h
      unfold V_X11_refusalOfLoad_28 at h
      refine lv_iload_n hx hb dX11_refusalOfLoad_28 rfl (lv_at hl 2 rfl) ?_
      refine lv_aload_n hx hb dX11_refusalOfLoad_29 rfl (lv_at hl 1 rfl) ?_
      refine xgI E hw (c1 := 9) (ciisS hp1) (kyisS_100 hp1) fo_9_3 qf_11_189 dX11_refusalOfLoad_30 ?_
      refine lv_icmp_ge (tgt := 60) hx hb dX11_refusalOfLoad_33 (by decide) (fun c7 => ?_) (fun c7 => ?_)
      · replace h := h.1 c7
        refine lv_iconst (v := 0) hx hb dX11_refusalOfLoad_60 (by decide) ?_
        exact hret (0 : Int32) z H locs 61 ls hw rfl h dX11_refusalOfLoad_61
      · replace h := h.2 c7
        refine lv_aload_n hx hb dX11_refusalOfLoad_36 rfl (lv_at hl 0 rfl) ?_
        refine xgC E hw (c1 := 11) (t := (1, 100)) rfl ky_0_100 fo_11_0 rfl qf_11_10 dX11_refusalOfLoad_37 ?_
        refine lv_aload_n hx hb dX11_refusalOfLoad_40 rfl (lv_at hl 1 rfl) ?_
        refine lv_iload_n hx hb dX11_refusalOfLoad_41 rfl (lv_at hl 2 rfl) ?_
        have hq := h
        clear h
        refine xcVI (As := [.int v3]) (rest := [.ref (ad 1 100)]) E hw hA (c_X9_valueAt l D ad cs sk z p1 v3 _ hp1 hq) kc_11_258 yo_X9_valueAt ⟨Nat.le_of_ble_eq_true rfl, Nat.le_of_ble_eq_true rfl⟩ (xrc E hw (kyisS_100 hp1) (ciisS hp1)) rfl hl.1 rfl (Nat.le_of_ble_eq_true rfl) dX11_refusalOfLoad_42 ⟨Nat.le_of_ble_eq_true rfl, Nat.le_of_ble_eq_true rfl⟩ (fun r9 z8 H locs h hw => ?_)
        have hq := h
        clear h
        refine xcVA (As := [.int r9]) (rest := []) E hw hA (c_X0_fallerAt l D ad cs sk z8 1 r9 _ is_1 hq) kc_11_97 yo_X0_fallerAt ⟨Nat.le_of_ble_eq_true rfl, Nat.le_of_ble_eq_true rfl⟩ (xrc E hw ky_1_100 rfl) rfl hl.1 rfl (Nat.le_of_ble_eq_true rfl) dX11_refusalOfLoad_45 ⟨Nat.le_of_ble_eq_true rfl, Nat.le_of_ble_eq_true rfl⟩ (fun r11 z10 H locs h hw => ?_)
        refine xnnl (tgt := 54) hx hb dX11_refusalOfLoad_48 (by decide) (fun ea12 => ?_) (fun a12 ea12 => ?_)
        · replace h := h.1 ea12
          subst ea12
          have hl : lv_has ls 4 [(0, .ref (ad 0 100)), (1, .ref (ad p1 100)), (3, .int v3)] := hl
          refine lv_bipush (v := -13) hx hb dX11_refusalOfLoad_51 (by decide) ?_
          exact hret (-13 : Int32) z10 H locs 53 ls hw rfl h dX11_refusalOfLoad_53
        · replace h := h.2 a12 ea12
          subst ea12
          have hl : lv_has ls 4 [(0, .ref (ad 0 100)), (1, .ref (ad p1 100)), (3, .int v3)] := hl
          obtain ⟨t13, et13⟩ : ∃ y : Int32, y = v3 + (1 : Int32) := ⟨_, rfl⟩
          replace h := h t13 et13
          refine lv_iinc (v := t13) (lv' := [(3, .int t13), (0, .ref (ad 0 100)), (1, .ref (ad p1 100))]) hx hb dX11_refusalOfLoad_54 hl (k := 2) rfl (by rw [et13]; rfl) (by decide) rfl (fun ls hl => ?_)
          refine lv_goto (tgt := 28) hx hb dX11_refusalOfLoad_57 (by decide) ?_
          exact ih28 z10 t13 H locs hw ls (lv_sub hl [1, 2, 0] rfl) h
  have b00 : ∀ (H : Heap) (locs : List Loc), OW D ad cs A s.heap z H locs → W p l e (rmq 3 0 0) s m args below meth c H locs 0 0 Q (F0 m 0 ls []) := by
    intro H locs hw
    refine lv_aload_n hx hb dX11_refusalOfLoad_0 rfl (lv_at hl 1 rfl) ?_
    have hq := h
    clear h
    refine xcSI (As := [.ref (ad p1 100)]) (rest := []) E hw hA (c_X11_refusalOfBytes l D ad cs sk z p1 _ hp1 hq) kc_11_62 yo_X11_refusalOfBytes ⟨Nat.le_of_ble_eq_true rfl, Nat.le_of_ble_eq_true rfl⟩ rfl hl.1 rfl (Nat.le_of_ble_eq_true rfl) dX11_refusalOfLoad_1 ⟨Nat.le_of_ble_eq_true rfl, Nat.le_of_ble_eq_true rfl⟩ (fun r2 z1 H locs h hw => ?_)
    refine lv_istore_n (lv' := [(2, .int r2), (0, .ref (ad 0 100)), (1, .ref (ad p1 100))]) hx hb dX11_refusalOfLoad_4 rfl hl (by decide) rfl (fun ls hl => ?_)
    refine lv_iload_n hx hb dX11_refusalOfLoad_5 rfl (lv_at hl 0 rfl) ?_
    refine lv_if_eq (tgt := 11) hx hb dX11_refusalOfLoad_6 (by decide) (fun c3 => ?_) (fun c3 => ?_)
    · replace h := h.1 c3
      refine lv_iconst (v := 1) hx hb dX11_refusalOfLoad_11 (by decide) ?_
      refine lv_aload_n hx hb dX11_refusalOfLoad_12 rfl (lv_at hl 2 rfl) ?_
      refine xgI E hw (c1 := 9) (ciisS hp1) (kyisS_100 hp1) fo_9_3 qf_11_189 dX11_refusalOfLoad_13 ?_
      refine lv_iconst (v := 5) hx hb dX11_refusalOfLoad_16 (by decide) ?_
      have hq := h
      clear h
      refine xcSI (As := [.int (1 : Int32), .int (zI z1 p1 3), .int (5 : Int32)]) (rest := []) E hw hA (c_X11_isFrom l D ad cs sk z1 (1 : Int32) (zI z1 p1 3) (5 : Int32) _ hq) kc_11_83 yo_X11_isFrom ⟨Nat.le_of_ble_eq_true rfl, Nat.le_of_ble_eq_true rfl⟩ rfl hl.1 rfl (Nat.le_of_ble_eq_true rfl) dX11_refusalOfLoad_17 ⟨Nat.le_of_ble_eq_true rfl, Nat.le_of_ble_eq_true rfl⟩ (fun r5 z4 H locs h hw => ?_)
      refine lv_if_ne (tgt := 26) hx hb dX11_refusalOfLoad_20 (by decide) (fun c6 => ?_) (fun c6 => ?_)
      · replace h := h.1 c6
        refine lv_iconst (v := 0) hx hb dX11_refusalOfLoad_26 (by decide) ?_
        refine lv_istore_n (lv' := [(3, .int (0 : Int32)), (2, .int r2), (0, .ref (ad 0 100)), (1, .ref (ad p1 100))]) hx hb dX11_refusalOfLoad_27 rfl hl (by decide) rfl (fun ls hl => ?_)
        obtain ⟨n14, h⟩ := h
        exact b28 n14 z4 (0 : Int32) H locs hw ls (lv_sub hl [2, 3, 0] rfl) h
      · replace h := h.2 c6
        refine lv_bipush (v := -13) hx hb dX11_refusalOfLoad_23 (by decide) ?_
        exact hret (-13 : Int32) z4 H locs 25 ls hw rfl h dX11_refusalOfLoad_25
    · replace h := h.2 c3
      refine lv_iload_n hx hb dX11_refusalOfLoad_9 rfl (lv_at hl 0 rfl) ?_
      exact hret r2 z1 H locs 10 ls hw rfl h dX11_refusalOfLoad_10
  exact b00 s.heap [] hw
def V_X11_load (z : ZS) (p1 : Int32) (p2 : Int32) (p3 : Int32) (p4 : Int32) (p5 : Int32) (post : Int32 → ZS → Prop) : Prop := V_X11_shelfAt z p1 (fun r2o z1 => ((r2o = none → post (-1 : Int32) z1) ∧ (∀ a3 : Nat, r2o = some a3 → isS a3 ∧ V_X11_isPlace z1 p2 p3 (fun r5 z4 => ((r5 = 0 → post (-1 : Int32) z4) ∧ (¬ r5 = 0 → V_X11_isGap z4 p4 (fun r8 z7 => ((r8 = 0 → post (-1 : Int32) z7) ∧ (¬ r8 = 0 → V_X11_isFrom z7 (0 : Int32) p5 (60000 : Int32) (fun r11 z10 => ((¬ r11 = 0 → V_X11_refusalOfLoad z10 a3 (fun r14 z13 => ((r14 = 0 → V_X11_loadWithin z13 a3 p2 p3 p4 p5 (fun r17 z16 => post r17 z16)) ∧ (¬ r14 = 0 → post r14 z13)))) ∧ (r11 = 0 → post (-1 : Int32) z10))))))))))))
set_option maxHeartbeats 4000000 in
set_option maxRecDepth 100000 in
theorem c_X11_load (l : Launch) (D : va_G) (ad : Nat → Nat → Nat) (cs : Nat → ClassId) (sk : (Nat → Nat) × (Nat → Nat)) (z : ZS) (p1 : Int32) (p2 : Int32) (p3 : Int32) (p4 : Int32) (p5 : Int32) (post : Int32 → ZS → Prop) (h : V_X11_load z p1 p2 p3 p4 p5 post) : MI l D ad cs sk yX11_load cX11_load 8 .int (rmq 7 0 0) [.ref (ad 0 100), .int p1, .int p2, .int p3, .int p4, .int p5] z post := by
  refine MI.of RX11 rfl (by decide) (Nat.le_of_ble_eq_true rfl) ?_
  intro p e s m args below meth c A Q E hw hA hret ls hl
  have hx := E.1.1
  have hb := E.1.2.1
  have hml := E.1.2.2.1
  have hown := E.1.2.2.2.1
  have h0 := E.1.2.2.2.2
  have hl : lv_has ls 8 [(0, .ref (ad 0 100)), (1, .int p1), (2, .int p2), (3, .int p3), (4, .int p4), (5, .int p5)] := hl
  unfold V_X11_load at h
  have b00 : ∀ (H : Heap) (locs : List Loc), OW D ad cs A s.heap z H locs → W p l e (rmq 7 0 0) s m args below meth c H locs 0 0 Q (F0 m 0 ls []) := by
    intro H locs hw
    refine lv_aload_n hx hb dX11_load_0 rfl (lv_at hl 0 rfl) ?_
    refine lv_iload_n hx hb dX11_load_1 rfl (lv_at hl 1 rfl) ?_
    have hq := h
    clear h
    refine xcVA (As := [.int p1]) (rest := []) E hw hA (c_X11_shelfAt l D ad cs sk z p1 _ hq) kc_11_58 yo_X11_shelfAt ⟨Nat.le_of_ble_eq_true rfl, Nat.le_of_ble_eq_true rfl⟩ (xrc E hw ky_0_100 rfl) rfl hl.1 rfl (Nat.le_of_ble_eq_true rfl) dX11_load_2 ⟨Nat.le_of_ble_eq_true rfl, Nat.le_of_ble_eq_true rfl⟩ (fun r2 z1 H locs h hw => ?_)
    obtain ⟨r2o, rfl, h⟩ := h
    refine xsqastore (lv' := [(6, va_rf (Option.map (fun o => ad o 100) r2o)), (0, .ref (ad 0 100)), (1, .int p1), (2, .int p2), (3, .int p3), (4, .int p4), (5, .int p5)]) hx hb dX11_load_5 hl (by decide) rfl (fun ls hl => ?_)
    refine xlqaload hx hb dX11_load_7 (lv_at hl 0 rfl) ?_
    refine xnulo (tgt := 39) hx hb dX11_load_9 (by decide) (fun ea3 => ?_) (fun a3 ea3 => ?_)
    · replace h := h.1 ea3
      subst ea3
      have hl : lv_has ls 8 [(6, .null), (0, .ref (ad 0 100)), (1, .int p1), (2, .int p2), (3, .int p3), (4, .int p4), (5, .int p5)] := hl
      refine lv_iconst (v := -1) hx hb dX11_load_39 (by decide) ?_
      exact hret (-1 : Int32) z1 H locs 40 ls hw rfl h dX11_load_40
    · replace h := h.2 a3 ea3
      obtain ⟨ha3, h⟩ := h
      subst ea3
      have hl : lv_has ls 8 [(6, .ref (ad a3 100)), (0, .ref (ad 0 100)), (1, .int p1), (2, .int p2), (3, .int p3), (4, .int p4), (5, .int p5)] := hl
      refine lv_iload_n hx hb dX11_load_12 rfl (lv_at hl 3 rfl) ?_
      refine lv_iload_n hx hb dX11_load_13 rfl (lv_at hl 4 rfl) ?_
      have hq := h
      clear h
      refine xcSI (As := [.int p2, .int p3]) (rest := []) E hw hA (c_X11_isPlace l D ad cs sk z1 p2 p3 _ hq) kc_11_125 yo_X11_isPlace ⟨Nat.le_of_ble_eq_true rfl, Nat.le_of_ble_eq_true rfl⟩ rfl hl.1 rfl (Nat.le_of_ble_eq_true rfl) dX11_load_14 ⟨Nat.le_of_ble_eq_true rfl, Nat.le_of_ble_eq_true rfl⟩ (fun r5 z4 H locs h hw => ?_)
      refine lv_if_eq (tgt := 39) hx hb dX11_load_17 (by decide) (fun c6 => ?_) (fun c6 => ?_)
      · replace h := h.1 c6
        refine lv_iconst (v := -1) hx hb dX11_load_39 (by decide) ?_
        exact hret (-1 : Int32) z4 H locs 40 ls hw rfl h dX11_load_40
      · replace h := h.2 c6
        refine lv_iload hx hb dX11_load_20 (lv_at hl 5 rfl) ?_
        have hq := h
        clear h
        refine xcSI (As := [.int p4]) (rest := []) E hw hA (c_X11_isGap l D ad cs sk z4 p4 _ hq) kc_11_177 yo_X11_isGap ⟨Nat.le_of_ble_eq_true rfl, Nat.le_of_ble_eq_true rfl⟩ rfl hl.1 rfl (Nat.le_of_ble_eq_true rfl) dX11_load_22 ⟨Nat.le_of_ble_eq_true rfl, Nat.le_of_ble_eq_true rfl⟩ (fun r8 z7 H locs h hw => ?_)
        refine lv_if_eq (tgt := 39) hx hb dX11_load_25 (by decide) (fun c9 => ?_) (fun c9 => ?_)
        · replace h := h.1 c9
          refine lv_iconst (v := -1) hx hb dX11_load_39 (by decide) ?_
          exact hret (-1 : Int32) z7 H locs 40 ls hw rfl h dX11_load_40
        · replace h := h.2 c9
          refine lv_iconst (v := 0) hx hb dX11_load_28 (by decide) ?_
          refine lv_iload hx hb dX11_load_29 (lv_at hl 6 rfl) ?_
          refine lv_ldc (v := 60000) hx hb hown (h0 _ qk_11_180) dX11_load_31 ?_
          have hq := h
          clear h
          refine xcSI (As := [.int (0 : Int32), .int p5, .int (60000 : Int32)]) (rest := []) E hw hA (c_X11_isFrom l D ad cs sk z7 (0 : Int32) p5 (60000 : Int32) _ hq) kc_11_83 yo_X11_isFrom ⟨Nat.le_of_ble_eq_true rfl, Nat.le_of_ble_eq_true rfl⟩ rfl hl.1 rfl (Nat.le_of_ble_eq_true rfl) dX11_load_33 ⟨Nat.le_of_ble_eq_true rfl, Nat.le_of_ble_eq_true rfl⟩ (fun r11 z10 H locs h hw => ?_)
          refine lv_if_ne (tgt := 41) hx hb dX11_load_36 (by decide) (fun c12 => ?_) (fun c12 => ?_)
          · replace h := h.1 c12
            refine lv_aload_n hx hb dX11_load_41 rfl (lv_at hl 1 rfl) ?_
            refine lv_aload hx hb dX11_load_42 (lv_at hl 0 rfl) ?_
            have hq := h
            clear h
            refine xcVI (As := [.ref (ad a3 100)]) (rest := []) E hw hA (c_X11_refusalOfLoad l D ad cs sk z10 a3 _ ha3 hq) kc_11_181 yo_X11_refusalOfLoad ⟨Nat.le_of_ble_eq_true rfl, Nat.le_of_ble_eq_true rfl⟩ (xrc E hw ky_0_100 rfl) rfl hl.1 rfl (Nat.le_of_ble_eq_true rfl) dX11_load_44 ⟨Nat.le_of_ble_eq_true rfl, Nat.le_of_ble_eq_true rfl⟩ (fun r14 z13 H locs h hw => ?_)
            refine lv_istore (lv' := [(7, .int r14), (6, .ref (ad a3 100)), (0, .ref (ad 0 100)), (1, .int p1), (2, .int p2), (3, .int p3), (4, .int p4), (5, .int p5)]) hx hb dX11_load_47 hl (by decide) rfl (fun ls hl => ?_)
            refine lv_iload hx hb dX11_load_49 (lv_at hl 0 rfl) ?_
            refine lv_if_eq (tgt := 57) hx hb dX11_load_51 (by decide) (fun c15 => ?_) (fun c15 => ?_)
            · replace h := h.1 c15
              refine lv_aload_n hx hb dX11_load_57 rfl (lv_at hl 2 rfl) ?_
              refine lv_aload hx hb dX11_load_58 (lv_at hl 1 rfl) ?_
              refine lv_iload_n hx hb dX11_load_60 rfl (lv_at hl 4 rfl) ?_
              refine lv_iload_n hx hb dX11_load_61 rfl (lv_at hl 5 rfl) ?_
              refine lv_iload hx hb dX11_load_62 (lv_at hl 6 rfl) ?_
              refine lv_iload hx hb dX11_load_64 (lv_at hl 7 rfl) ?_
              have hq := h
              clear h
              refine xcVI (As := [.ref (ad a3 100), .int p2, .int p3, .int p4, .int p5]) (rest := []) E hw hA (c_X11_loadWithin l D ad cs sk z13 a3 p2 p3 p4 p5 _ ha3 hq) kc_11_184 yo_X11_loadWithin ⟨Nat.le_of_ble_eq_true rfl, Nat.le_of_ble_eq_true rfl⟩ (xrc E hw ky_0_100 rfl) rfl hl.1 rfl (Nat.le_of_ble_eq_true rfl) dX11_load_66 ⟨Nat.le_of_ble_eq_true rfl, Nat.le_of_ble_eq_true rfl⟩ (fun r17 z16 H locs h hw => ?_)
              exact hret r17 z16 H locs 69 ls hw rfl h dX11_load_69
            · replace h := h.2 c15
              refine lv_iload hx hb dX11_load_54 (lv_at hl 0 rfl) ?_
              exact hret r14 z13 H locs 56 ls hw rfl h dX11_load_56
          · replace h := h.2 c12
            refine lv_iconst (v := -1) hx hb dX11_load_39 (by decide) ?_
            exact hret (-1 : Int32) z10 H locs 40 ls hw rfl h dX11_load_40
  exact b00 s.heap [] hw
def V_X11_bestLoad_162 (post : Int32 → ZS → Prop) (z : ZS) (v4 : Int32) (v7 : Int32) (v8 : Int32) (v9 : Int32) : Prop := ((¬ v4 = 0 → ((¬ v4 = (1 : Int32) → post v7 z) ∧ (v4 = (1 : Int32) → post v9 z))) ∧ (v4 = 0 → post v8 z))
def V_X11_bestLoad_156 (post : Int32 → ZS → Prop) (rr74 : ZS → Int32 → Int32 → Int32 → Nat → Int32 → Int32 → Int32 → Int32 → Prop) (z : ZS) (v2 : Int32) (v3 : Int32) (v4 : Int32) (v5 : Nat) (v7 : Int32) (v8 : Int32) (v9 : Int32) (v10 : Int32) : Prop := (∀ t21 : Int32, t21 = v10 + (1 : Int32) → rr74 z v2 v3 v4 v5 v7 v8 v9 t21)
def V_X11_bestLoad_147 (post : Int32 → ZS → Prop) (rr74 : ZS → Int32 → Int32 → Int32 → Nat → Int32 → Int32 → Int32 → Int32 → Prop) (rr96 : ZS → Int32 → Int32 → Int32 → Nat → Int32 → Int32 → Int32 → Int32 → Int32 → Prop) (z : ZS) (v2 : Int32) (v3 : Int32) (v4 : Int32) (v5 : Nat) (v7 : Int32) (v8 : Int32) (v9 : Int32) (v10 : Int32) (v11 : Int32) : Prop := (∀ t26 : Int32, t26 = v11 + (1000 : Int32) → rr96 z v2 v3 v4 v5 v7 v8 v9 v10 t26)
def V_X11_bestLoad_96 (post : Int32 → ZS → Prop) (rr74 : ZS → Int32 → Int32 → Int32 → Nat → Int32 → Int32 → Int32 → Int32 → Prop) : Nat → ZS → Int32 → Int32 → Int32 → Nat → Int32 → Int32 → Int32 → Int32 → Int32 → Prop
  | 0, _, _, _, _, _, _, _, _, _, _ => False
  | (n + 1), z, v2, v3, v4, v5, v7, v8, v9, v10, v11 => (((10000 : Int32) < v11 → V_X11_bestLoad_156 post rr74 z v2 v3 v4 v5 v7 v8 v9 v10) ∧ (¬ (10000 : Int32) < v11 → (((zI z v5 3) ≤ v7 → V_X11_bestLoad_156 post rr74 z v2 v3 v4 v5 v7 v8 v9 v10) ∧ (¬ (zI z v5 3) ≤ v7 → V_X11_loadWithin z v5 v11 v2 v10 v3 (fun r24 z23 => ((r24 ≤ v7 → V_X11_bestLoad_147 post rr74 (V_X11_bestLoad_96 post rr74 n) z23 v2 v3 v4 v5 v7 v8 v9 v10 v11) ∧ (¬ r24 ≤ v7 → V_X11_bestLoad_147 post rr74 (V_X11_bestLoad_96 post rr74 n) z23 v2 v3 v4 v5 r24 v11 v10 v10 v11)))))))
def V_X11_bestLoad_74 (post : Int32 → ZS → Prop) : Nat → ZS → Int32 → Int32 → Int32 → Nat → Int32 → Int32 → Int32 → Int32 → Prop
  | 0, _, _, _, _, _, _, _, _, _ => False
  | (n + 1), z, v2, v3, v4, v5, v7, v8, v9, v10 => (((10 : Int32) < v10 → V_X11_bestLoad_162 post z v4 v7 v8 v9) ∧ (¬ (10 : Int32) < v10 → (((zI z v5 3) ≤ v7 → V_X11_bestLoad_162 post z v4 v7 v8 v9) ∧ (¬ (zI z v5 3) ≤ v7 → (∃ n27 : Nat, V_X11_bestLoad_96 post (V_X11_bestLoad_74 post n) n27 z v2 v3 v4 v5 v7 v8 v9 v10 (-10000 : Int32))))))
def V_X11_bestLoad (z : ZS) (p1 : Int32) (p2 : Int32) (p3 : Int32) (p4 : Int32) (post : Int32 → ZS → Prop) : Prop := V_X11_shelfAt z p1 (fun r2o z1 => ((r2o = none → post (-1000000001 : Int32) z1) ∧ (∀ a3 : Nat, r2o = some a3 → isS a3 ∧ V_X11_isPlace z1 (0 : Int32) p2 (fun r5 z4 => ((r5 = 0 → post (-1000000001 : Int32) z4) ∧ (¬ r5 = 0 → V_X11_isFrom z4 (0 : Int32) p3 (60000 : Int32) (fun r8 z7 => ((r8 = 0 → post (-1000000001 : Int32) z7) ∧ (¬ r8 = 0 → V_X11_isFrom z7 (0 : Int32) p4 (2 : Int32) (fun r11 z10 => ((¬ r11 = 0 → V_X11_refusalOfLoad z10 a3 (fun r14 z13 => ((r14 = 0 → (∃ n28 : Nat, V_X11_bestLoad_74 post n28 z13 p2 p3 p4 a3 (-1 : Int32) (0 : Int32) (0 : Int32) (1 : Int32))) ∧ (¬ r14 = 0 → post ((-1000000000 : Int32) + r14) z13)))) ∧ (r11 = 0 → post (-1000000001 : Int32) z10))))))))))))
set_option maxHeartbeats 4000000 in
set_option maxRecDepth 100000 in
theorem c_X11_bestLoad (l : Launch) (D : va_G) (ad : Nat → Nat → Nat) (cs : Nat → ClassId) (sk : (Nat → Nat) × (Nat → Nat)) (z : ZS) (p1 : Int32) (p2 : Int32) (p3 : Int32) (p4 : Int32) (post : Int32 → ZS → Prop) (h : V_X11_bestLoad z p1 p2 p3 p4 post) : MI l D ad cs sk yX11_bestLoad cX11_bestLoad 13 .int (rmq 7 0 0) [.ref (ad 0 100), .int p1, .int p2, .int p3, .int p4] z post := by
  refine MI.of RX11 rfl (by decide) (Nat.le_of_ble_eq_true rfl) ?_
  intro p e s m args below meth c A Q E hw hA hret ls hl
  have hx := E.1.1
  have hb := E.1.2.1
  have hml := E.1.2.2.1
  have hown := E.1.2.2.2.1
  have h0 := E.1.2.2.2.2
  have hl : lv_has ls 13 [(0, .ref (ad 0 100)), (1, .int p1), (2, .int p2), (3, .int p3), (4, .int p4)] := hl
  unfold V_X11_bestLoad at h
  have b162 : ∀ (z : ZS) (v4 : Int32) (v7 : Int32) (v8 : Int32) (v9 : Int32), ∀ (H : Heap) (locs : List Loc), OW D ad cs A s.heap z H locs → ∀ ls : Array Slot, lv_has ls 13 [(4, .int v4), (7, .int v7), (8, .int v8), (9, .int v9)] → V_X11_bestLoad_162 post z v4 v7 v8 v9 → W p l e (rmq 7 0 0) s m args below meth c H locs 0 0 Q (F0 m 162 ls []) := by
    intro z v4 v7 v8 v9 H locs hw ls hl h
    unfold V_X11_bestLoad_162 at h
    refine lv_iload hx hb dX11_bestLoad_162 (lv_at hl 0 rfl) ?_
    refine lv_if_ne (tgt := 172) hx hb dX11_bestLoad_164 (by decide) (fun c17 => ?_) (fun c17 => ?_)
    · replace h := h.1 c17
      refine lv_iload hx hb dX11_bestLoad_172 (lv_at hl 0 rfl) ?_
      refine lv_iconst (v := 1) hx hb dX11_bestLoad_174 (by decide) ?_
      refine lv_icmp_ne (tgt := 183) hx hb dX11_bestLoad_175 (by decide) (fun c18 => ?_) (fun c18 => ?_)
      · replace h := h.1 c18
        refine lv_iload hx hb dX11_bestLoad_183 (lv_at hl 1 rfl) ?_
        exact hret v7 z H locs 185 ls hw rfl h dX11_bestLoad_185
      · replace h := h.2 c18
        refine lv_iload hx hb dX11_bestLoad_178 (lv_at hl 3 rfl) ?_
        refine lv_goto (tgt := 185) hx hb dX11_bestLoad_180 (by decide) ?_
        exact hret v9 z H locs 185 ls hw rfl h dX11_bestLoad_185
    · replace h := h.2 c17
      refine lv_iload hx hb dX11_bestLoad_167 (lv_at hl 2 rfl) ?_
      refine lv_goto (tgt := 185) hx hb dX11_bestLoad_169 (by decide) ?_
      exact hret v8 z H locs 185 ls hw rfl h dX11_bestLoad_185
  have b74 : ∀ (n : Nat) (z : ZS) (v2 : Int32) (v3 : Int32) (v4 : Int32) (v5 : Nat) (v7 : Int32) (v8 : Int32) (v9 : Int32) (v10 : Int32), isS v5 → ∀ (H : Heap) (locs : List Loc), OW D ad cs A s.heap z H locs → ∀ ls : Array Slot, lv_has ls 13 [(0, .ref (ad 0 100)), (2, .int v2), (3, .int v3), (4, .int v4), (5, .ref (ad v5 100)), (7, .int v7), (8, .int v8), (9, .int v9), (10, .int v10)] → V_X11_bestLoad_74 post n z v2 v3 v4 v5 v7 v8 v9 v10 → W p l e (rmq 7 0 0) s m args below meth c H locs 0 0 Q (F0 m 74 ls []) := by
    intro n
    induction n with
    | zero =>
      intro z v2 v3 v4 v5 v7 v8 v9 v10 hv5 H locs hw ls hl h
      exact h.elim
    | succ n74x ih74 =>
      have b156 : ∀ (z : ZS) (v2 : Int32) (v3 : Int32) (v4 : Int32) (v5 : Nat) (v7 : Int32) (v8 : Int32) (v9 : Int32) (v10 : Int32), isS v5 → ∀ (H : Heap) (locs : List Loc), OW D ad cs A s.heap z H locs → ∀ ls : Array Slot, lv_has ls 13 [(0, .ref (ad 0 100)), (2, .int v2), (3, .int v3), (4, .int v4), (5, .ref (ad v5 100)), (7, .int v7), (8, .int v8), (9, .int v9), (10, .int v10)] → V_X11_bestLoad_156 post (V_X11_bestLoad_74 post n74x) z v2 v3 v4 v5 v7 v8 v9 v10 → W p l e (rmq 7 0 0) s m args below meth c H locs 0 0 Q (F0 m 156 ls []) := by
        intro z v2 v3 v4 v5 v7 v8 v9 v10 hv5 H locs hw ls hl h
        unfold V_X11_bestLoad_156 at h
        obtain ⟨t21, et21⟩ : ∃ y : Int32, y = v10 + (1 : Int32) := ⟨_, rfl⟩
        replace h := h t21 et21
        refine lv_iinc (v := t21) (lv' := [(10, .int t21), (0, .ref (ad 0 100)), (2, .int v2), (3, .int v3), (4, .int v4), (5, .ref (ad v5 100)), (7, .int v7), (8, .int v8), (9, .int v9)]) hx hb dX11_bestLoad_156 hl (k := 8) rfl (by rw [et21]; rfl) (by decide) rfl (fun ls hl => ?_)
        refine lv_goto (tgt := 74) hx hb dX11_bestLoad_159 (by decide) ?_
        exact ih74 z v2 v3 v4 v5 v7 v8 v9 t21 hv5 H locs hw ls (lv_sub hl [1, 2, 3, 4, 5, 6, 7, 8, 0] rfl) h
      have b96 : ∀ (n : Nat) (z : ZS) (v2 : Int32) (v3 : Int32) (v4 : Int32) (v5 : Nat) (v7 : Int32) (v8 : Int32) (v9 : Int32) (v10 : Int32) (v11 : Int32), isS v5 → ∀ (H : Heap) (locs : List Loc), OW D ad cs A s.heap z H locs → ∀ ls : Array Slot, lv_has ls 13 [(0, .ref (ad 0 100)), (2, .int v2), (3, .int v3), (4, .int v4), (5, .ref (ad v5 100)), (7, .int v7), (8, .int v8), (9, .int v9), (10, .int v10), (11, .int v11)] → V_X11_bestLoad_96 post (V_X11_bestLoad_74 post n74x) n z v2 v3 v4 v5 v7 v8 v9 v10 v11 → W p l e (rmq 7 0 0) s m args below meth c H locs 0 0 Q (F0 m 96 ls []) := by
        intro n
        induction n with
        | zero =>
          intro z v2 v3 v4 v5 v7 v8 v9 v10 v11 hv5 H locs hw ls hl h
          exact h.elim
        | succ n96x ih96 =>
          have b147 : ∀ (z : ZS) (v2 : Int32) (v3 : Int32) (v4 : Int32) (v5 : Nat) (v7 : Int32) (v8 : Int32) (v9 : Int32) (v10 : Int32) (v11 : Int32), isS v5 → ∀ (H : Heap) (locs : List Loc), OW D ad cs A s.heap z H locs → ∀ ls : Array Slot, lv_has ls 13 [(0, .ref (ad 0 100)), (2, .int v2), (3, .int v3), (4, .int v4), (5, .ref (ad v5 100)), (7, .int v7), (8, .int v8), (9, .int v9), (10, .int v10), (11, .int v11)] → V_X11_bestLoad_147 post (V_X11_bestLoad_74 post n74x) (V_X11_bestLoad_96 post (V_X11_bestLoad_74 post n74x) n96x) z v2 v3 v4 v5 v7 v8 v9 v10 v11 → W p l e (rmq 7 0 0) s m args below meth c H locs 0 0 Q (F0 m 147 ls []) := by
            intro z v2 v3 v4 v5 v7 v8 v9 v10 v11 hv5 H locs hw ls hl h
            unfold V_X11_bestLoad_147 at h
            obtain ⟨t26, et26⟩ : ∃ y : Int32, y = v11 + (1000 : Int32) := ⟨_, rfl⟩
            replace h := h t26 et26
            refine lv_iincW (v := t26) (lv' := [(11, .int t26), (0, .ref (ad 0 100)), (2, .int v2), (3, .int v3), (4, .int v4), (5, .ref (ad v5 100)), (7, .int v7), (8, .int v8), (9, .int v9), (10, .int v10)]) hx hb dX11_bestLoad_147 hl (k := 9) rfl (by rw [et26]; rfl) (by decide) rfl (fun ls hl => ?_)
            refine lv_goto (tgt := 96) hx hb dX11_bestLoad_153 (by decide) ?_
            exact ih96 z v2 v3 v4 v5 v7 v8 v9 v10 t26 hv5 H locs hw ls (lv_sub hl [1, 2, 3, 4, 5, 6, 7, 8, 9, 0] rfl) h
          intro z v2 v3 v4 v5 v7 v8 v9 v10 v11 hv5 H locs hw ls hl h
          unfold V_X11_bestLoad_96 at h
          refine lv_iload hx hb dX11_bestLoad_96 (lv_at hl 9 rfl) ?_
          refine lv_sipush (v := 10000) hx hb dX11_bestLoad_98 (by decide) ?_
          refine lv_icmp_gt (tgt := 156) hx hb dX11_bestLoad_101 (by decide) (fun c20 => ?_) (fun c20 => ?_)
          · replace h := h.1 c20
            exact b156 z v2 v3 v4 v5 v7 v8 v9 v10 hv5 H locs hw ls (lv_sub hl [0, 1, 2, 3, 4, 5, 6, 7, 8] rfl) h
          · replace h := h.2 c20
            refine lv_iload hx hb dX11_bestLoad_104 (lv_at hl 5 rfl) ?_
            refine lv_aload hx hb dX11_bestLoad_106 (lv_at hl 4 rfl) ?_
            refine xgI E hw (c1 := 9) (ciisS hv5) (kyisS_100 hv5) fo_9_3 qf_11_189 dX11_bestLoad_108 ?_
            refine lv_icmp_ge (tgt := 156) hx hb dX11_bestLoad_111 (by decide) (fun c22 => ?_) (fun c22 => ?_)
            · replace h := h.1 c22
              exact b156 z v2 v3 v4 v5 v7 v8 v9 v10 hv5 H locs hw ls (lv_sub hl [0, 1, 2, 3, 4, 5, 6, 7, 8] rfl) h
            · replace h := h.2 c22
              refine lv_aload_n hx hb dX11_bestLoad_114 rfl (lv_at hl 0 rfl) ?_
              refine lv_aload hx hb dX11_bestLoad_115 (lv_at hl 4 rfl) ?_
              refine lv_iload hx hb dX11_bestLoad_117 (lv_at hl 9 rfl) ?_
              refine lv_iload_n hx hb dX11_bestLoad_119 rfl (lv_at hl 1 rfl) ?_
              refine lv_iload hx hb dX11_bestLoad_120 (lv_at hl 8 rfl) ?_
              refine lv_iload_n hx hb dX11_bestLoad_122 rfl (lv_at hl 2 rfl) ?_
              have hq := h
              clear h
              refine xcVI (As := [.ref (ad v5 100), .int v11, .int v2, .int v10, .int v3]) (rest := []) E hw hA (c_X11_loadWithin l D ad cs sk z v5 v11 v2 v10 v3 _ hv5 hq) kc_11_184 yo_X11_loadWithin ⟨Nat.le_of_ble_eq_true rfl, Nat.le_of_ble_eq_true rfl⟩ (xrc E hw ky_0_100 rfl) rfl hl.1 rfl (Nat.le_of_ble_eq_true rfl) dX11_bestLoad_123 ⟨Nat.le_of_ble_eq_true rfl, Nat.le_of_ble_eq_true rfl⟩ (fun r24 z23 H locs h hw => ?_)
              refine lv_istore (lv' := [(12, .int r24), (0, .ref (ad 0 100)), (2, .int v2), (3, .int v3), (4, .int v4), (5, .ref (ad v5 100)), (7, .int v7), (8, .int v8), (9, .int v9), (10, .int v10), (11, .int v11)]) hx hb dX11_bestLoad_126 hl (by decide) rfl (fun ls hl => ?_)
              refine lv_iload hx hb dX11_bestLoad_128 (lv_at hl 0 rfl) ?_
              refine lv_iload hx hb dX11_bestLoad_130 (lv_at hl 6 rfl) ?_
              refine lv_icmp_le (tgt := 147) hx hb dX11_bestLoad_132 (by decide) (fun c25 => ?_) (fun c25 => ?_)
              · replace h := h.1 c25
                exact b147 z23 v2 v3 v4 v5 v7 v8 v9 v10 v11 hv5 H locs hw ls (lv_sub hl [1, 2, 3, 4, 5, 6, 7, 8, 9, 10] rfl) h
              · replace h := h.2 c25
                refine lv_iload hx hb dX11_bestLoad_135 (lv_at hl 0 rfl) ?_
                refine lv_istore (lv' := [(7, .int r24), (12, .int r24), (0, .ref (ad 0 100)), (2, .int v2), (3, .int v3), (4, .int v4), (5, .ref (ad v5 100)), (8, .int v8), (9, .int v9), (10, .int v10), (11, .int v11)]) hx hb dX11_bestLoad_137 hl (by decide) rfl (fun ls hl => ?_)
                refine lv_iload hx hb dX11_bestLoad_139 (lv_at hl 10 rfl) ?_
                refine lv_istore (lv' := [(8, .int v11), (7, .int r24), (12, .int r24), (0, .ref (ad 0 100)), (2, .int v2), (3, .int v3), (4, .int v4), (5, .ref (ad v5 100)), (9, .int v9), (10, .int v10), (11, .int v11)]) hx hb dX11_bestLoad_141 hl (by decide) rfl (fun ls hl => ?_)
                refine lv_iload hx hb dX11_bestLoad_143 (lv_at hl 9 rfl) ?_
                refine lv_istore (lv' := [(9, .int v10), (8, .int v11), (7, .int r24), (12, .int r24), (0, .ref (ad 0 100)), (2, .int v2), (3, .int v3), (4, .int v4), (5, .ref (ad v5 100)), (10, .int v10), (11, .int v11)]) hx hb dX11_bestLoad_145 hl (by decide) rfl (fun ls hl => ?_)
                exact b147 z23 v2 v3 v4 v5 r24 v11 v10 v10 v11 hv5 H locs hw ls (lv_sub hl [4, 5, 6, 7, 8, 2, 1, 0, 9, 10] rfl) h
      intro z v2 v3 v4 v5 v7 v8 v9 v10 hv5 H locs hw ls hl h
      unfold V_X11_bestLoad_74 at h
      refine lv_iload hx hb dX11_bestLoad_74 (lv_at hl 8 rfl) ?_
      refine lv_bipush (v := 10) hx hb dX11_bestLoad_76 (by decide) ?_
      refine lv_icmp_gt (tgt := 162) hx hb dX11_bestLoad_78 (by decide) (fun c16 => ?_) (fun c16 => ?_)
      · replace h := h.1 c16
        exact b162 z v4 v7 v8 v9 H locs hw ls (lv_sub hl [3, 5, 6, 7] rfl) h
      · replace h := h.2 c16
        refine lv_iload hx hb dX11_bestLoad_81 (lv_at hl 5 rfl) ?_
        refine lv_aload hx hb dX11_bestLoad_83 (lv_at hl 4 rfl) ?_
        refine xgI E hw (c1 := 9) (ciisS hv5) (kyisS_100 hv5) fo_9_3 qf_11_189 dX11_bestLoad_85 ?_
        refine lv_icmp_ge (tgt := 162) hx hb dX11_bestLoad_88 (by decide) (fun c19 => ?_) (fun c19 => ?_)
        · replace h := h.1 c19
          exact b162 z v4 v7 v8 v9 H locs hw ls (lv_sub hl [3, 5, 6, 7] rfl) h
        · replace h := h.2 c19
          refine lv_sipush (v := -10000) hx hb dX11_bestLoad_91 (by decide) ?_
          refine lv_istore (lv' := [(11, .int (-10000 : Int32)), (0, .ref (ad 0 100)), (2, .int v2), (3, .int v3), (4, .int v4), (5, .ref (ad v5 100)), (7, .int v7), (8, .int v8), (9, .int v9), (10, .int v10)]) hx hb dX11_bestLoad_94 hl (by decide) rfl (fun ls hl => ?_)
          obtain ⟨n27, h⟩ := h
          exact b96 n27 z v2 v3 v4 v5 v7 v8 v9 v10 (-10000 : Int32) hv5 H locs hw ls (lv_sub hl [1, 2, 3, 4, 5, 6, 7, 8, 9, 0] rfl) h
  have b00 : ∀ (H : Heap) (locs : List Loc), OW D ad cs A s.heap z H locs → W p l e (rmq 7 0 0) s m args below meth c H locs 0 0 Q (F0 m 0 ls []) := by
    intro H locs hw
    refine lv_aload_n hx hb dX11_bestLoad_0 rfl (lv_at hl 0 rfl) ?_
    refine lv_iload_n hx hb dX11_bestLoad_1 rfl (lv_at hl 1 rfl) ?_
    have hq := h
    clear h
    refine xcVA (As := [.int p1]) (rest := []) E hw hA (c_X11_shelfAt l D ad cs sk z p1 _ hq) kc_11_58 yo_X11_shelfAt ⟨Nat.le_of_ble_eq_true rfl, Nat.le_of_ble_eq_true rfl⟩ (xrc E hw ky_0_100 rfl) rfl hl.1 rfl (Nat.le_of_ble_eq_true rfl) dX11_bestLoad_2 ⟨Nat.le_of_ble_eq_true rfl, Nat.le_of_ble_eq_true rfl⟩ (fun r2 z1 H locs h hw => ?_)
    obtain ⟨r2o, rfl, h⟩ := h
    refine xsqastore (lv' := [(5, va_rf (Option.map (fun o => ad o 100) r2o)), (0, .ref (ad 0 100)), (1, .int p1), (2, .int p2), (3, .int p3), (4, .int p4)]) hx hb dX11_bestLoad_5 hl (by decide) rfl (fun ls hl => ?_)
    refine xlqaload hx hb dX11_bestLoad_7 (lv_at hl 0 rfl) ?_
    refine xnulo (tgt := 40) hx hb dX11_bestLoad_9 (by decide) (fun ea3 => ?_) (fun a3 ea3 => ?_)
    · replace h := h.1 ea3
      subst ea3
      have hl : lv_has ls 13 [(5, .null), (0, .ref (ad 0 100)), (1, .int p1), (2, .int p2), (3, .int p3), (4, .int p4)] := hl
      refine lv_ldc (v := -1000000001) hx hb hown (h0 _ qk_11_76) dX11_bestLoad_40 ?_
      exact hret (-1000000001 : Int32) z1 H locs 42 ls hw rfl h dX11_bestLoad_42
    · replace h := h.2 a3 ea3
      obtain ⟨ha3, h⟩ := h
      subst ea3
      have hl : lv_has ls 13 [(5, .ref (ad a3 100)), (0, .ref (ad 0 100)), (1, .int p1), (2, .int p2), (3, .int p3), (4, .int p4)] := hl
      refine lv_iconst (v := 0) hx hb dX11_bestLoad_12 (by decide) ?_
      refine lv_iload_n hx hb dX11_bestLoad_13 rfl (lv_at hl 3 rfl) ?_
      have hq := h
      clear h
      refine xcSI (As := [.int (0 : Int32), .int p2]) (rest := []) E hw hA (c_X11_isPlace l D ad cs sk z1 (0 : Int32) p2 _ hq) kc_11_125 yo_X11_isPlace ⟨Nat.le_of_ble_eq_true rfl, Nat.le_of_ble_eq_true rfl⟩ rfl hl.1 rfl (Nat.le_of_ble_eq_true rfl) dX11_bestLoad_14 ⟨Nat.le_of_ble_eq_true rfl, Nat.le_of_ble_eq_true rfl⟩ (fun r5 z4 H locs h hw => ?_)
      refine lv_if_eq (tgt := 40) hx hb dX11_bestLoad_17 (by decide) (fun c6 => ?_) (fun c6 => ?_)
      · replace h := h.1 c6
        refine lv_ldc (v := -1000000001) hx hb hown (h0 _ qk_11_76) dX11_bestLoad_40 ?_
        exact hret (-1000000001 : Int32) z4 H locs 42 ls hw rfl h dX11_bestLoad_42
      · replace h := h.2 c6
        refine lv_iconst (v := 0) hx hb dX11_bestLoad_20 (by decide) ?_
        refine lv_iload_n hx hb dX11_bestLoad_21 rfl (lv_at hl 4 rfl) ?_
        refine lv_ldc (v := 60000) hx hb hown (h0 _ qk_11_180) dX11_bestLoad_22 ?_
        have hq := h
        clear h
        refine xcSI (As := [.int (0 : Int32), .int p3, .int (60000 : Int32)]) (rest := []) E hw hA (c_X11_isFrom l D ad cs sk z4 (0 : Int32) p3 (60000 : Int32) _ hq) kc_11_83 yo_X11_isFrom ⟨Nat.le_of_ble_eq_true rfl, Nat.le_of_ble_eq_true rfl⟩ rfl hl.1 rfl (Nat.le_of_ble_eq_true rfl) dX11_bestLoad_24 ⟨Nat.le_of_ble_eq_true rfl, Nat.le_of_ble_eq_true rfl⟩ (fun r8 z7 H locs h hw => ?_)
        refine lv_if_eq (tgt := 40) hx hb dX11_bestLoad_27 (by decide) (fun c9 => ?_) (fun c9 => ?_)
        · replace h := h.1 c9
          refine lv_ldc (v := -1000000001) hx hb hown (h0 _ qk_11_76) dX11_bestLoad_40 ?_
          exact hret (-1000000001 : Int32) z7 H locs 42 ls hw rfl h dX11_bestLoad_42
        · replace h := h.2 c9
          refine lv_iconst (v := 0) hx hb dX11_bestLoad_30 (by decide) ?_
          refine lv_iload hx hb dX11_bestLoad_31 (lv_at hl 5 rfl) ?_
          refine lv_iconst (v := 2) hx hb dX11_bestLoad_33 (by decide) ?_
          have hq := h
          clear h
          refine xcSI (As := [.int (0 : Int32), .int p4, .int (2 : Int32)]) (rest := []) E hw hA (c_X11_isFrom l D ad cs sk z7 (0 : Int32) p4 (2 : Int32) _ hq) kc_11_83 yo_X11_isFrom ⟨Nat.le_of_ble_eq_true rfl, Nat.le_of_ble_eq_true rfl⟩ rfl hl.1 rfl (Nat.le_of_ble_eq_true rfl) dX11_bestLoad_34 ⟨Nat.le_of_ble_eq_true rfl, Nat.le_of_ble_eq_true rfl⟩ (fun r11 z10 H locs h hw => ?_)
          refine lv_if_ne (tgt := 43) hx hb dX11_bestLoad_37 (by decide) (fun c12 => ?_) (fun c12 => ?_)
          · replace h := h.1 c12
            refine lv_aload_n hx hb dX11_bestLoad_43 rfl (lv_at hl 1 rfl) ?_
            refine lv_aload hx hb dX11_bestLoad_44 (lv_at hl 0 rfl) ?_
            have hq := h
            clear h
            refine xcVI (As := [.ref (ad a3 100)]) (rest := []) E hw hA (c_X11_refusalOfLoad l D ad cs sk z10 a3 _ ha3 hq) kc_11_181 yo_X11_refusalOfLoad ⟨Nat.le_of_ble_eq_true rfl, Nat.le_of_ble_eq_true rfl⟩ (xrc E hw ky_0_100 rfl) rfl hl.1 rfl (Nat.le_of_ble_eq_true rfl) dX11_bestLoad_46 ⟨Nat.le_of_ble_eq_true rfl, Nat.le_of_ble_eq_true rfl⟩ (fun r14 z13 H locs h hw => ?_)
            refine lv_istore (lv' := [(6, .int r14), (5, .ref (ad a3 100)), (0, .ref (ad 0 100)), (1, .int p1), (2, .int p2), (3, .int p3), (4, .int p4)]) hx hb dX11_bestLoad_49 hl (by decide) rfl (fun ls hl => ?_)
            refine lv_iload hx hb dX11_bestLoad_51 (lv_at hl 0 rfl) ?_
            refine lv_if_eq (tgt := 62) hx hb dX11_bestLoad_53 (by decide) (fun c15 => ?_) (fun c15 => ?_)
            · replace h := h.1 c15
              refine lv_iconst (v := -1) hx hb dX11_bestLoad_62 (by decide) ?_
              refine lv_istore (lv' := [(7, .int (-1 : Int32)), (6, .int r14), (5, .ref (ad a3 100)), (0, .ref (ad 0 100)), (1, .int p1), (2, .int p2), (3, .int p3), (4, .int p4)]) hx hb dX11_bestLoad_63 hl (by decide) rfl (fun ls hl => ?_)
              refine lv_iconst (v := 0) hx hb dX11_bestLoad_65 (by decide) ?_
              refine lv_istore (lv' := [(8, .int (0 : Int32)), (7, .int (-1 : Int32)), (6, .int r14), (5, .ref (ad a3 100)), (0, .ref (ad 0 100)), (1, .int p1), (2, .int p2), (3, .int p3), (4, .int p4)]) hx hb dX11_bestLoad_66 hl (by decide) rfl (fun ls hl => ?_)
              refine lv_iconst (v := 0) hx hb dX11_bestLoad_68 (by decide) ?_
              refine lv_istore (lv' := [(9, .int (0 : Int32)), (8, .int (0 : Int32)), (7, .int (-1 : Int32)), (6, .int r14), (5, .ref (ad a3 100)), (0, .ref (ad 0 100)), (1, .int p1), (2, .int p2), (3, .int p3), (4, .int p4)]) hx hb dX11_bestLoad_69 hl (by decide) rfl (fun ls hl => ?_)
              refine lv_iconst (v := 1) hx hb dX11_bestLoad_71 (by decide) ?_
              refine lv_istore (lv' := [(10, .int (1 : Int32)), (9, .int (0 : Int32)), (8, .int (0 : Int32)), (7, .int (-1 : Int32)), (6, .int r14), (5, .ref (ad a3 100)), (0, .ref (ad 0 100)), (1, .int p1), (2, .int p2), (3, .int p3), (4, .int p4)]) hx hb dX11_bestLoad_72 hl (by decide) rfl (fun ls hl => ?_)
              obtain ⟨n28, h⟩ := h
              exact b74 n28 z13 p2 p3 p4 a3 (-1 : Int32) (0 : Int32) (0 : Int32) (1 : Int32) ha3 H locs hw ls (lv_sub hl [6, 8, 9, 10, 5, 3, 2, 1, 0] rfl) h
            · replace h := h.2 c15
              refine lv_ldc (v := -1000000000) hx hb hown (h0 _ qk_11_188) dX11_bestLoad_56 ?_
              refine lv_iload hx hb dX11_bestLoad_58 (lv_at hl 0 rfl) ?_
              refine lv_iadd hx hb dX11_bestLoad_60 ?_
              exact hret ((-1000000000 : Int32) + r14) z13 H locs 61 ls hw rfl h dX11_bestLoad_61
          · replace h := h.2 c12
            refine lv_ldc (v := -1000000001) hx hb hown (h0 _ qk_11_76) dX11_bestLoad_40 ?_
            exact hret (-1000000001 : Int32) z10 H locs 42 ls hw rfl h dX11_bestLoad_42
  exact b00 s.heap [] hw
