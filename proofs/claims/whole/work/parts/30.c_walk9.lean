def V_X11_steering_124 (post : Int32 → ZS → Prop) (rr45 : ZS → Int32 → Int32 → Int32 → Nat → Int32 → Int32 → Int32 → Prop) (z : ZS) (v2 : Int32) (v3 : Int32) (v4 : Int32) (v5 : Nat) (v6 : Int32) (v7 : Int32) (v8 : Int32) : Prop := (∀ t25 : Int32, t25 = v8 + (1 : Int32) → rr45 z v2 v3 v4 v5 v6 v7 t25)
def V_X11_steering_45 (post : Int32 → ZS → Prop) : Nat → ZS → Int32 → Int32 → Int32 → Nat → Int32 → Int32 → Int32 → Prop
  | 0, _, _, _, _, _, _, _, _ => False
  | (n + 1), z, v2, v3, v4, v5, v6, v7, v8 => (((8 : Int32) < v8 → ((¬ v4 = 0 → post v6 z) ∧ (v4 = 0 → post v7 z))) ∧ (¬ (8 : Int32) < v8 → V_X3_begin z 4 v5 v2 v3 (1 : Int32) (fun z12 => V_X11_eastOfWay z12 v8 (fun r15 z14 => (v5 ∈ zP z14 ∧ V_X11_northOfWay z14 v8 (fun r17 z16 => (v5 ∈ zP z16 ∧ V_X3_holdWay z16 4 (r15 * (zF z14 v5 6)) (r17 * (zF z16 v5 6)) (fun z18 => V_X3_land z18 4 (fun z20 => V_X3_off z20 4 (fun r23 z22 => ((v6 ≤ r23 → V_X11_steering_124 post (V_X11_steering_45 post n) z22 v2 v3 v4 v5 v6 v7 v8) ∧ (¬ v6 ≤ r23 → V_X11_steering_124 post (V_X11_steering_45 post n) z22 v2 v3 v4 v5 r23 v8 v8))))))))))))
def V_X11_steering (z : ZS) (p1 : Int32) (p2 : Int32) (p3 : Int32) (p4 : Int32) (post : Int32 → ZS → Prop) : Prop := V_X0_fallerAt z 1 p1 (fun r2 z1 => ((r2 = none → post (-1 : Int32) z1) ∧ (∀ a3 : Nat, r2 = some a3 → V_X11_isPlace z1 p2 p3 (fun r5 z4 => ((r5 = 0 → post (-1 : Int32) z4) ∧ (¬ r5 = 0 → V_X11_isFrom z4 (0 : Int32) p4 (1 : Int32) (fun r8 z7 => ((¬ r8 = 0 → (∃ n26 : Nat, V_X11_steering_45 post n26 z7 p2 p3 p4 a3 (2147483647 : Int32) (0 : Int32) (0 : Int32))) ∧ (r8 = 0 → post (-1 : Int32) z7)))))))))
set_option maxHeartbeats 4000000 in
set_option maxRecDepth 100000 in
theorem c_X11_steering (l : Launch) (D : va_G) (ad : Nat → Nat → Nat) (cs : Nat → ClassId) (sk : (Nat → Nat) × (Nat → Nat)) (z : ZS) (p1 : Int32) (p2 : Int32) (p3 : Int32) (p4 : Int32) (post : Int32 → ZS → Prop) (h : V_X11_steering z p1 p2 p3 p4 post) : MI l D ad cs sk yX11_steering cX11_steering 10 .int (rmq 6 0 0) [.ref (ad 0 100), .int p1, .int p2, .int p3, .int p4] z post := by
  refine MI.of RX11 rfl (by decide) (Nat.le_of_ble_eq_true rfl) ?_
  intro p e s m args below meth c A Q E hw hA hret ls hl
  have hx := E.1.1
  have hb := E.1.2.1
  have hml := E.1.2.2.1
  have hown := E.1.2.2.2.1
  have h0 := E.1.2.2.2.2
  have hl : lv_has ls 10 [(0, .ref (ad 0 100)), (1, .int p1), (2, .int p2), (3, .int p3), (4, .int p4)] := hl
  unfold V_X11_steering at h
  have b45 : ∀ (n : Nat) (z : ZS) (v2 : Int32) (v3 : Int32) (v4 : Int32) (v5 : Nat) (v6 : Int32) (v7 : Int32) (v8 : Int32), ∀ (H : Heap) (locs : List Loc), OW D ad cs A s.heap z H locs → ∀ ls : Array Slot, lv_has ls 10 [(0, .ref (ad 0 100)), (2, .int v2), (3, .int v3), (4, .int v4), (5, .ref v5), (6, .int v6), (7, .int v7), (8, .int v8)] → V_X11_steering_45 post n z v2 v3 v4 v5 v6 v7 v8 → W p l e (rmq 6 0 0) s m args below meth c H locs 0 0 Q (F0 m 45 ls []) := by
    intro n
    induction n with
    | zero =>
      intro z v2 v3 v4 v5 v6 v7 v8 H locs hw ls hl h
      exact h.elim
    | succ n45x ih45 =>
      have b124 : ∀ (z : ZS) (v2 : Int32) (v3 : Int32) (v4 : Int32) (v5 : Nat) (v6 : Int32) (v7 : Int32) (v8 : Int32), ∀ (H : Heap) (locs : List Loc), OW D ad cs A s.heap z H locs → ∀ ls : Array Slot, lv_has ls 10 [(0, .ref (ad 0 100)), (2, .int v2), (3, .int v3), (4, .int v4), (5, .ref v5), (6, .int v6), (7, .int v7), (8, .int v8)] → V_X11_steering_124 post (V_X11_steering_45 post n45x) z v2 v3 v4 v5 v6 v7 v8 → W p l e (rmq 6 0 0) s m args below meth c H locs 0 0 Q (F0 m 124 ls []) := by
        intro z v2 v3 v4 v5 v6 v7 v8 H locs hw ls hl h
        unfold V_X11_steering_124 at h
        obtain ⟨t25, et25⟩ : ∃ y : Int32, y = v8 + (1 : Int32) := ⟨_, rfl⟩
        replace h := h t25 et25
        refine lv_iinc (v := t25) (lv' := [(8, .int t25), (0, .ref (ad 0 100)), (2, .int v2), (3, .int v3), (4, .int v4), (5, .ref v5), (6, .int v6), (7, .int v7)]) hx hb dX11_steering_124 hl (k := 7) rfl (by rw [et25]; rfl) (by decide) rfl (fun ls hl => ?_)
        refine lv_goto (tgt := 45) hx hb dX11_steering_127 (by decide) ?_
        exact ih45 z v2 v3 v4 v5 v6 v7 t25 H locs hw ls (lv_sub hl [1, 2, 3, 4, 5, 6, 7, 0] rfl) h
      intro z v2 v3 v4 v5 v6 v7 v8 H locs hw ls hl h
      unfold V_X11_steering_45 at h
      refine lv_iload hx hb dX11_steering_45 (lv_at hl 7 rfl) ?_
      refine lv_bipush (v := 8) hx hb dX11_steering_47 (by decide) ?_
      refine lv_icmp_gt (tgt := 130) hx hb dX11_steering_49 (by decide) (fun c10 => ?_) (fun c10 => ?_)
      · replace h := h.1 c10
        refine lv_iload hx hb dX11_steering_130 (lv_at hl 3 rfl) ?_
        refine lv_if_ne (tgt := 140) hx hb dX11_steering_132 (by decide) (fun c11 => ?_) (fun c11 => ?_)
        · replace h := h.1 c11
          refine lv_iload hx hb dX11_steering_140 (lv_at hl 5 rfl) ?_
          exact hret v6 z H locs 142 ls hw rfl h dX11_steering_142
        · replace h := h.2 c11
          refine lv_iload hx hb dX11_steering_135 (lv_at hl 6 rfl) ?_
          refine lv_goto (tgt := 142) hx hb dX11_steering_137 (by decide) ?_
          exact hret v7 z H locs 142 ls hw rfl h dX11_steering_142
      · replace h := h.2 c10
        refine lv_aload_n hx hb dX11_steering_52 rfl (lv_at hl 0 rfl) ?_
        refine xgC E hw (c1 := 11) (t := (4, 100)) rfl ky_0_100 fo_11_4 rfl qf_11_31 dX11_steering_53 ?_
        refine lv_aload hx hb dX11_steering_56 (lv_at hl 4 rfl) ?_
        refine lv_iload_n hx hb dX11_steering_58 rfl (lv_at hl 1 rfl) ?_
        refine lv_iload_n hx hb dX11_steering_59 rfl (lv_at hl 2 rfl) ?_
        refine lv_iconst (v := 1) hx hb dX11_steering_60 (by decide) ?_
        have hq := h
        clear h
        refine xcVV (As := [.ref v5, .int v2, .int v3, .int (1 : Int32)]) (rest := []) E hw hA (c_X3_begin l D ad cs sk z 4 v5 v2 v3 (1 : Int32) _ is_4 hq) kc_11_143 yo_X3_begin ⟨Nat.le_of_ble_eq_true rfl, Nat.le_of_ble_eq_true rfl⟩ (xrc E hw ky_4_100 rfl) rfl hl.1 rfl (Nat.le_of_ble_eq_true rfl) dX11_steering_61 ⟨Nat.le_of_ble_eq_true rfl, Nat.le_of_ble_eq_true rfl⟩ (fun z12 H locs h hw => ?_)
        refine lv_aload_n hx hb dX11_steering_64 rfl (lv_at hl 0 rfl) ?_
        refine xgC E hw (c1 := 11) (t := (4, 100)) rfl ky_0_100 fo_11_4 rfl qf_11_31 dX11_steering_65 ?_
        refine lv_iload hx hb dX11_steering_68 (lv_at hl 7 rfl) ?_
        have hq := h
        clear h
        refine xcSI (As := [.int v8]) (rest := [.ref (ad 4 100)]) E hw hA (c_X11_eastOfWay l D ad cs sk z12 v8 _ hq) kc_11_218 yo_X11_eastOfWay ⟨Nat.le_of_ble_eq_true rfl, Nat.le_of_ble_eq_true rfl⟩ rfl hl.1 rfl (Nat.le_of_ble_eq_true rfl) dX11_steering_70 ⟨Nat.le_of_ble_eq_true rfl, Nat.le_of_ble_eq_true rfl⟩ (fun r15 z14 H locs h hw => ?_)
        refine lv_aload hx hb dX11_steering_73 (lv_at hl 4 rfl) ?_
        obtain ⟨hm, h⟩ := h
        refine xgF E hw hm (k := 6) (ref := "TenYards$Faller") (by decide) qf_11_118 (Or.inl rfl) dX11_steering_75 ?_
        refine lv_imul hx hb dX11_steering_78 ?_
        refine lv_iload hx hb dX11_steering_79 (lv_at hl 7 rfl) ?_
        have hq := h
        clear h
        refine xcSI (As := [.int v8]) (rest := [.int (r15 * (zF z14 v5 6)), .ref (ad 4 100)]) E hw hA (c_X11_northOfWay l D ad cs sk z14 v8 _ hq) kc_11_221 yo_X11_northOfWay ⟨Nat.le_of_ble_eq_true rfl, Nat.le_of_ble_eq_true rfl⟩ rfl hl.1 rfl (Nat.le_of_ble_eq_true rfl) dX11_steering_81 ⟨Nat.le_of_ble_eq_true rfl, Nat.le_of_ble_eq_true rfl⟩ (fun r17 z16 H locs h hw => ?_)
        refine lv_aload hx hb dX11_steering_84 (lv_at hl 4 rfl) ?_
        obtain ⟨hm, h⟩ := h
        refine xgF E hw hm (k := 6) (ref := "TenYards$Faller") (by decide) qf_11_118 (Or.inl rfl) dX11_steering_86 ?_
        refine lv_imul hx hb dX11_steering_89 ?_
        have hq := h
        clear h
        refine xcVV (As := [.int (r15 * (zF z14 v5 6)), .int (r17 * (zF z16 v5 6))]) (rest := []) E hw hA (c_X3_holdWay l D ad cs sk z16 4 (r15 * (zF z14 v5 6)) (r17 * (zF z16 v5 6)) _ is_4 hq) kc_11_160 yo_X3_holdWay ⟨Nat.le_of_ble_eq_true rfl, Nat.le_of_ble_eq_true rfl⟩ (xrc E hw ky_4_100 rfl) rfl hl.1 rfl (Nat.le_of_ble_eq_true rfl) dX11_steering_90 ⟨Nat.le_of_ble_eq_true rfl, Nat.le_of_ble_eq_true rfl⟩ (fun z18 H locs h hw => ?_)
        refine lv_aload_n hx hb dX11_steering_93 rfl (lv_at hl 0 rfl) ?_
        refine xgC E hw (c1 := 11) (t := (4, 100)) rfl ky_0_100 fo_11_4 rfl qf_11_31 dX11_steering_94 ?_
        have hq := h
        clear h
        refine xcVV (As := []) (rest := []) E hw hA (c_X3_land l D ad cs sk z18 4 _ is_4 hq) kc_11_167 yo_X3_land ⟨Nat.le_of_ble_eq_true rfl, Nat.le_of_ble_eq_true rfl⟩ (xrc E hw ky_4_100 rfl) rfl hl.1 rfl (Nat.le_of_ble_eq_true rfl) dX11_steering_97 ⟨Nat.le_of_ble_eq_true rfl, Nat.le_of_ble_eq_true rfl⟩ (fun z20 H locs h hw => ?_)
        refine lv_aload_n hx hb dX11_steering_100 rfl (lv_at hl 0 rfl) ?_
        refine xgC E hw (c1 := 11) (t := (4, 100)) rfl ky_0_100 fo_11_4 rfl qf_11_31 dX11_steering_101 ?_
        have hq := h
        clear h
        refine xcVI (As := []) (rest := []) E hw hA (c_X3_off l D ad cs sk z20 4 _ is_4 hq) kc_11_214 yo_X3_off ⟨Nat.le_of_ble_eq_true rfl, Nat.le_of_ble_eq_true rfl⟩ (xrc E hw ky_4_100 rfl) rfl hl.1 rfl (Nat.le_of_ble_eq_true rfl) dX11_steering_104 ⟨Nat.le_of_ble_eq_true rfl, Nat.le_of_ble_eq_true rfl⟩ (fun r23 z22 H locs h hw => ?_)
        refine lv_istore (lv' := [(9, .int r23), (0, .ref (ad 0 100)), (2, .int v2), (3, .int v3), (4, .int v4), (5, .ref v5), (6, .int v6), (7, .int v7), (8, .int v8)]) hx hb dX11_steering_107 hl (by decide) rfl (fun ls hl => ?_)
        refine lv_iload hx hb dX11_steering_109 (lv_at hl 0 rfl) ?_
        refine lv_iload hx hb dX11_steering_111 (lv_at hl 6 rfl) ?_
        refine lv_icmp_ge (tgt := 124) hx hb dX11_steering_113 (by decide) (fun c24 => ?_) (fun c24 => ?_)
        · replace h := h.1 c24
          exact b124 z22 v2 v3 v4 v5 v6 v7 v8 H locs hw ls (lv_sub hl [1, 2, 3, 4, 5, 6, 7, 8] rfl) h
        · replace h := h.2 c24
          refine lv_iload hx hb dX11_steering_116 (lv_at hl 0 rfl) ?_
          refine lv_istore (lv' := [(6, .int r23), (9, .int r23), (0, .ref (ad 0 100)), (2, .int v2), (3, .int v3), (4, .int v4), (5, .ref v5), (7, .int v7), (8, .int v8)]) hx hb dX11_steering_118 hl (by decide) rfl (fun ls hl => ?_)
          refine lv_iload hx hb dX11_steering_120 (lv_at hl 8 rfl) ?_
          refine lv_istore (lv' := [(7, .int v8), (6, .int r23), (9, .int r23), (0, .ref (ad 0 100)), (2, .int v2), (3, .int v3), (4, .int v4), (5, .ref v5), (8, .int v8)]) hx hb dX11_steering_122 hl (by decide) rfl (fun ls hl => ?_)
          exact b124 z22 v2 v3 v4 v5 r23 v8 v8 H locs hw ls (lv_sub hl [3, 4, 5, 6, 7, 1, 0, 8] rfl) h
  have b00 : ∀ (H : Heap) (locs : List Loc), OW D ad cs A s.heap z H locs → W p l e (rmq 6 0 0) s m args below meth c H locs 0 0 Q (F0 m 0 ls []) := by
    intro H locs hw
    refine lv_aload_n hx hb dX11_steering_0 rfl (lv_at hl 0 rfl) ?_
    refine xgC E hw (c1 := 11) (t := (1, 100)) rfl ky_0_100 fo_11_0 rfl qf_11_10 dX11_steering_1 ?_
    refine lv_iload_n hx hb dX11_steering_4 rfl (lv_at hl 1 rfl) ?_
    have hq := h
    clear h
    refine xcVA (As := [.int p1]) (rest := []) E hw hA (c_X0_fallerAt l D ad cs sk z 1 p1 _ is_1 hq) kc_11_97 yo_X0_fallerAt ⟨Nat.le_of_ble_eq_true rfl, Nat.le_of_ble_eq_true rfl⟩ (xrc E hw ky_1_100 rfl) rfl hl.1 rfl (Nat.le_of_ble_eq_true rfl) dX11_steering_5 ⟨Nat.le_of_ble_eq_true rfl, Nat.le_of_ble_eq_true rfl⟩ (fun r2 z1 H locs h hw => ?_)
    refine xsqastore (lv' := [(5, va_rf r2), (0, .ref (ad 0 100)), (1, .int p1), (2, .int p2), (3, .int p3), (4, .int p4)]) hx hb dX11_steering_8 hl (by decide) rfl (fun ls hl => ?_)
    refine xlqaload hx hb dX11_steering_10 (lv_at hl 0 rfl) ?_
    refine xnul (tgt := 33) hx hb dX11_steering_12 (by decide) (fun ea3 => ?_) (fun a3 ea3 => ?_)
    · replace h := h.1 ea3
      subst ea3
      have hl : lv_has ls 10 [(5, .null), (0, .ref (ad 0 100)), (1, .int p1), (2, .int p2), (3, .int p3), (4, .int p4)] := hl
      refine lv_iconst (v := -1) hx hb dX11_steering_33 (by decide) ?_
      exact hret (-1 : Int32) z1 H locs 34 ls hw rfl h dX11_steering_34
    · replace h := h.2 a3 ea3
      subst ea3
      have hl : lv_has ls 10 [(5, .ref a3), (0, .ref (ad 0 100)), (1, .int p1), (2, .int p2), (3, .int p3), (4, .int p4)] := hl
      refine lv_iload_n hx hb dX11_steering_15 rfl (lv_at hl 3 rfl) ?_
      refine lv_iload_n hx hb dX11_steering_16 rfl (lv_at hl 4 rfl) ?_
      have hq := h
      clear h
      refine xcSI (As := [.int p2, .int p3]) (rest := []) E hw hA (c_X11_isPlace l D ad cs sk z1 p2 p3 _ hq) kc_11_125 yo_X11_isPlace ⟨Nat.le_of_ble_eq_true rfl, Nat.le_of_ble_eq_true rfl⟩ rfl hl.1 rfl (Nat.le_of_ble_eq_true rfl) dX11_steering_17 ⟨Nat.le_of_ble_eq_true rfl, Nat.le_of_ble_eq_true rfl⟩ (fun r5 z4 H locs h hw => ?_)
      refine lv_if_eq (tgt := 33) hx hb dX11_steering_20 (by decide) (fun c6 => ?_) (fun c6 => ?_)
      · replace h := h.1 c6
        refine lv_iconst (v := -1) hx hb dX11_steering_33 (by decide) ?_
        exact hret (-1 : Int32) z4 H locs 34 ls hw rfl h dX11_steering_34
      · replace h := h.2 c6
        refine lv_iconst (v := 0) hx hb dX11_steering_23 (by decide) ?_
        refine lv_iload hx hb dX11_steering_24 (lv_at hl 5 rfl) ?_
        refine lv_iconst (v := 1) hx hb dX11_steering_26 (by decide) ?_
        have hq := h
        clear h
        refine xcSI (As := [.int (0 : Int32), .int p4, .int (1 : Int32)]) (rest := []) E hw hA (c_X11_isFrom l D ad cs sk z4 (0 : Int32) p4 (1 : Int32) _ hq) kc_11_83 yo_X11_isFrom ⟨Nat.le_of_ble_eq_true rfl, Nat.le_of_ble_eq_true rfl⟩ rfl hl.1 rfl (Nat.le_of_ble_eq_true rfl) dX11_steering_27 ⟨Nat.le_of_ble_eq_true rfl, Nat.le_of_ble_eq_true rfl⟩ (fun r8 z7 H locs h hw => ?_)
        refine lv_if_ne (tgt := 35) hx hb dX11_steering_30 (by decide) (fun c9 => ?_) (fun c9 => ?_)
        · replace h := h.1 c9
          refine lv_ldc (v := 2147483647) hx hb hown (h0 _ qk_11_172) dX11_steering_35 ?_
          refine lv_istore (lv' := [(6, .int (2147483647 : Int32)), (5, .ref a3), (0, .ref (ad 0 100)), (1, .int p1), (2, .int p2), (3, .int p3), (4, .int p4)]) hx hb dX11_steering_37 hl (by decide) rfl (fun ls hl => ?_)
          refine lv_iconst (v := 0) hx hb dX11_steering_39 (by decide) ?_
          refine lv_istore (lv' := [(7, .int (0 : Int32)), (6, .int (2147483647 : Int32)), (5, .ref a3), (0, .ref (ad 0 100)), (1, .int p1), (2, .int p2), (3, .int p3), (4, .int p4)]) hx hb dX11_steering_40 hl (by decide) rfl (fun ls hl => ?_)
          refine lv_iconst (v := 0) hx hb dX11_steering_42 (by decide) ?_
          refine lv_istore (lv' := [(8, .int (0 : Int32)), (7, .int (0 : Int32)), (6, .int (2147483647 : Int32)), (5, .ref a3), (0, .ref (ad 0 100)), (1, .int p1), (2, .int p2), (3, .int p3), (4, .int p4)]) hx hb dX11_steering_43 hl (by decide) rfl (fun ls hl => ?_)
          obtain ⟨n26, h⟩ := h
          exact b45 n26 z7 p2 p3 p4 a3 (2147483647 : Int32) (0 : Int32) (0 : Int32) H locs hw ls (lv_sub hl [4, 6, 7, 8, 3, 2, 1, 0] rfl) h
        · replace h := h.2 c9
          refine lv_iconst (v := -1) hx hb dX11_steering_33 (by decide) ?_
          exact hret (-1 : Int32) z7 H locs 34 ls hw rfl h dX11_steering_34
  exact b00 s.heap [] hw
def V_X11_last_52 (post : Int32 → ZS → Prop) (rr21 : ZS → Nat → Int32 → Int32 → Prop) (z : ZS) (v2 : Nat) (v3 : Int32) (v4 : Int32) : Prop := (∀ t6 : Int32, t6 = v4 + (1 : Int32) → rr21 z v2 v3 t6)
def V_X11_last_21 (post : Int32 → ZS → Prop) : Nat → ZS → Nat → Int32 → Int32 → Prop
  | 0, _, _, _, _ => False
  | (n + 1), z, v2, v3, v4 => (((20 : Int32) < v4 → post v3 z) ∧ (¬ (20 : Int32) < v4 → (v2 ∈ zP z ∧ ((((zI z 1 4) - (v4 * (zF z v2 4))) < (200 : Int32) → V_X11_last_52 post (V_X11_last_21 post n) z v2 v3 v4) ∧ (¬ ((zI z 1 4) - (v4 * (zF z v2 4))) < (200 : Int32) → V_X11_last_52 post (V_X11_last_21 post n) z v2 v4 v4)))))
def V_X11_last (z : ZS) (p1 : Int32) (post : Int32 → ZS → Prop) : Prop := V_X0_fallerAt z 1 p1 (fun r2 z1 => ((r2 = none → post (-1 : Int32) z1) ∧ (∀ a3 : Nat, r2 = some a3 → (∃ n7 : Nat, V_X11_last_21 post n7 z1 a3 (-4 : Int32) (0 : Int32)))))
set_option maxHeartbeats 4000000 in
set_option maxRecDepth 100000 in
theorem c_X11_last (l : Launch) (D : va_G) (ad : Nat → Nat → Nat) (cs : Nat → ClassId) (sk : (Nat → Nat) × (Nat → Nat)) (z : ZS) (p1 : Int32) (post : Int32 → ZS → Prop) (h : V_X11_last z p1 post) : MI l D ad cs sk yX11_last cX11_last 5 .int (rmq 1 0 0) [.ref (ad 0 100), .int p1] z post := by
  refine MI.of RX11 rfl (by decide) (Nat.le_of_ble_eq_true rfl) ?_
  intro p e s m args below meth c A Q E hw hA hret ls hl
  have hx := E.1.1
  have hb := E.1.2.1
  have hml := E.1.2.2.1
  have hown := E.1.2.2.2.1
  have h0 := E.1.2.2.2.2
  have hl : lv_has ls 5 [(0, .ref (ad 0 100)), (1, .int p1)] := hl
  unfold V_X11_last at h
  have b21 : ∀ (n : Nat) (z : ZS) (v2 : Nat) (v3 : Int32) (v4 : Int32), ∀ (H : Heap) (locs : List Loc), OW D ad cs A s.heap z H locs → ∀ ls : Array Slot, lv_has ls 5 [(0, .ref (ad 0 100)), (2, .ref v2), (3, .int v3), (4, .int v4)] → V_X11_last_21 post n z v2 v3 v4 → W p l e (rmq 1 0 0) s m args below meth c H locs 0 0 Q (F0 m 21 ls []) := by
    intro n
    induction n with
    | zero =>
      intro z v2 v3 v4 H locs hw ls hl h
      exact h.elim
    | succ n21x ih21 =>
      have b52 : ∀ (z : ZS) (v2 : Nat) (v3 : Int32) (v4 : Int32), ∀ (H : Heap) (locs : List Loc), OW D ad cs A s.heap z H locs → ∀ ls : Array Slot, lv_has ls 5 [(0, .ref (ad 0 100)), (2, .ref v2), (3, .int v3), (4, .int v4)] → V_X11_last_52 post (V_X11_last_21 post n21x) z v2 v3 v4 → W p l e (rmq 1 0 0) s m args below meth c H locs 0 0 Q (F0 m 52 ls []) := by
        intro z v2 v3 v4 H locs hw ls hl h
        unfold V_X11_last_52 at h
        obtain ⟨t6, et6⟩ : ∃ y : Int32, y = v4 + (1 : Int32) := ⟨_, rfl⟩
        replace h := h t6 et6
        refine lv_iinc (v := t6) (lv' := [(4, .int t6), (0, .ref (ad 0 100)), (2, .ref v2), (3, .int v3)]) hx hb dX11_last_52 hl (k := 3) rfl (by rw [et6]; rfl) (by decide) rfl (fun ls hl => ?_)
        refine lv_goto (tgt := 21) hx hb dX11_last_55 (by decide) ?_
        exact ih21 z v2 v3 t6 H locs hw ls (lv_sub hl [1, 2, 3, 0] rfl) h
      intro z v2 v3 v4 H locs hw ls hl h
      unfold V_X11_last_21 at h
      refine lv_iload hx hb dX11_last_21 (lv_at hl 3 rfl) ?_
      refine lv_bipush (v := 20) hx hb dX11_last_23 (by decide) ?_
      refine lv_icmp_gt (tgt := 58) hx hb dX11_last_25 (by decide) (fun c4 => ?_) (fun c4 => ?_)
      · replace h := h.1 c4
        refine lv_iload_n hx hb dX11_last_58 rfl (lv_at hl 2 rfl) ?_
        exact hret v3 z H locs 59 ls hw rfl h dX11_last_59
      · replace h := h.2 c4
        refine lv_aload_n hx hb dX11_last_28 rfl (lv_at hl 0 rfl) ?_
        refine xgC E hw (c1 := 11) (t := (1, 100)) rfl ky_0_100 fo_11_0 rfl qf_11_10 dX11_last_29 ?_
        refine xgI E hw (c1 := 0) rfl ky_1_100 fo_0_4 qf_11_94 dX11_last_32 ?_
        refine lv_iload hx hb dX11_last_35 (lv_at hl 3 rfl) ?_
        refine lv_aload_n hx hb dX11_last_37 rfl (lv_at hl 1 rfl) ?_
        obtain ⟨hm, h⟩ := h
        refine xgF E hw hm (k := 4) (ref := "TenYards$Faller") (by decide) qf_11_112 (Or.inl rfl) dX11_last_38 ?_
        refine lv_imul hx hb dX11_last_41 ?_
        refine lv_isub hx hb dX11_last_42 ?_
        refine lv_sipush (v := 200) hx hb dX11_last_43 (by decide) ?_
        refine lv_icmp_lt (tgt := 52) hx hb dX11_last_46 (by decide) (fun c5 => ?_) (fun c5 => ?_)
        · replace h := h.1 c5
          exact b52 z v2 v3 v4 H locs hw ls (lv_sub hl [0, 1, 2, 3] rfl) h
        · replace h := h.2 c5
          refine lv_iload hx hb dX11_last_49 (lv_at hl 3 rfl) ?_
          refine lv_istore_n (lv' := [(3, .int v4), (0, .ref (ad 0 100)), (2, .ref v2), (4, .int v4)]) hx hb dX11_last_51 rfl hl (by decide) rfl (fun ls hl => ?_)
          exact b52 z v2 v4 v4 H locs hw ls (lv_sub hl [1, 2, 0, 3] rfl) h
  have b00 : ∀ (H : Heap) (locs : List Loc), OW D ad cs A s.heap z H locs → W p l e (rmq 1 0 0) s m args below meth c H locs 0 0 Q (F0 m 0 ls []) := by
    intro H locs hw
    refine lv_aload_n hx hb dX11_last_0 rfl (lv_at hl 0 rfl) ?_
    refine xgC E hw (c1 := 11) (t := (1, 100)) rfl ky_0_100 fo_11_0 rfl qf_11_10 dX11_last_1 ?_
    refine lv_iload_n hx hb dX11_last_4 rfl (lv_at hl 1 rfl) ?_
    have hq := h
    clear h
    refine xcVA (As := [.int p1]) (rest := []) E hw hA (c_X0_fallerAt l D ad cs sk z 1 p1 _ is_1 hq) kc_11_97 yo_X0_fallerAt ⟨Nat.le_of_ble_eq_true rfl, Nat.le_of_ble_eq_true rfl⟩ (xrc E hw ky_1_100 rfl) rfl hl.1 rfl (Nat.le_of_ble_eq_true rfl) dX11_last_5 ⟨Nat.le_of_ble_eq_true rfl, Nat.le_of_ble_eq_true rfl⟩ (fun r2 z1 H locs h hw => ?_)
    refine xsqastore_n (lv' := [(2, va_rf r2), (0, .ref (ad 0 100)), (1, .int p1)]) hx hb dX11_last_8 rfl hl (by decide) rfl (fun ls hl => ?_)
    refine xlqaload_n hx hb dX11_last_9 rfl (lv_at hl 0 rfl) ?_
    refine xnnl (tgt := 15) hx hb dX11_last_10 (by decide) (fun ea3 => ?_) (fun a3 ea3 => ?_)
    · replace h := h.1 ea3
      subst ea3
      have hl : lv_has ls 5 [(2, .null), (0, .ref (ad 0 100)), (1, .int p1)] := hl
      refine lv_iconst (v := -1) hx hb dX11_last_13 (by decide) ?_
      exact hret (-1 : Int32) z1 H locs 14 ls hw rfl h dX11_last_14
    · replace h := h.2 a3 ea3
      subst ea3
      have hl : lv_has ls 5 [(2, .ref a3), (0, .ref (ad 0 100)), (1, .int p1)] := hl
      refine lv_bipush (v := -4) hx hb dX11_last_15 (by decide) ?_
      refine lv_istore_n (lv' := [(3, .int (-4 : Int32)), (2, .ref a3), (0, .ref (ad 0 100)), (1, .int p1)]) hx hb dX11_last_17 rfl hl (by decide) rfl (fun ls hl => ?_)
      refine lv_iconst (v := 0) hx hb dX11_last_18 (by decide) ?_
      refine lv_istore (lv' := [(4, .int (0 : Int32)), (3, .int (-4 : Int32)), (2, .ref a3), (0, .ref (ad 0 100)), (1, .int p1)]) hx hb dX11_last_19 hl (by decide) rfl (fun ls hl => ?_)
      obtain ⟨n7, h⟩ := h
      exact b21 n7 z1 a3 (-4 : Int32) (0 : Int32) H locs hw ls (lv_sub hl [3, 2, 1, 0] rfl) h
  exact b00 s.heap [] hw
def V_X11_safe_121 (post : Int32 → ZS → Prop) (rr33 : ZS → Int32 → Int32 → Int32 → Int32 → Int32 → Int32 → Prop) (rr46 : ZS → Int32 → Int32 → Int32 → Int32 → Int32 → Int32 → Int32 → Prop) (z : ZS) (v1 : Int32) (v2 : Int32) (v3 : Int32) (v4 : Int32) (v5 : Int32) (v6 : Int32) (v7 : Int32) : Prop := (∀ t12 : Int32, t12 = v7 + (100 : Int32) → rr46 z v1 v2 v3 v4 v5 v6 t12)
def V_X11_safe_119 (post : Int32 → ZS → Prop) (rr33 : ZS → Int32 → Int32 → Int32 → Int32 → Int32 → Int32 → Prop) (rr46 : ZS → Int32 → Int32 → Int32 → Int32 → Int32 → Int32 → Int32 → Prop) (z : ZS) (v1 : Int32) (v2 : Int32) (v3 : Int32) (v4 : Int32) (v6 : Int32) (v7 : Int32) (s0 : Int32) : Prop := V_X11_safe_121 post rr33 rr46 z v1 v2 v3 v4 s0 v6 v7
def V_X11_safe_46 (post : Int32 → ZS → Prop) (rr33 : ZS → Int32 → Int32 → Int32 → Int32 → Int32 → Int32 → Prop) : Nat → ZS → Int32 → Int32 → Int32 → Int32 → Int32 → Int32 → Int32 → Prop
  | 0, _, _, _, _, _, _, _, _ => False
  | (n + 1), z, v1, v2, v3, v4, v5, v6, v7 => (((3000 : Int32) < v7 → (∀ t9 : Int32, t9 = v6 + (100 : Int32) → rr33 z v1 v2 v3 v4 v5 t9)) ∧ (¬ (3000 : Int32) < v7 → (∀ t10 : Int32, t10 = ((if 0 ≤ ((v6 * (10 : Int32)) - v1) then ((v6 * (10 : Int32)) - v1) else 0 - ((v6 * (10 : Int32)) - v1)) + (if 0 ≤ ((v7 * (10 : Int32)) - v2) then ((v7 * (10 : Int32)) - v2) else 0 - ((v7 * (10 : Int32)) - v2))) → ((v4 ≤ t10 → V_X11_safe_121 post rr33 (V_X11_safe_46 post rr33 n) z v1 v2 v3 v4 v5 v6 v7) ∧ (¬ v4 ≤ t10 → V_X0_bars z 1 (v6 * (10 : Int32)) (v7 * (10 : Int32)) (fun r14 z13 => ((¬ r14 = 0 → V_X11_safe_121 post rr33 (V_X11_safe_46 post rr33 n) z13 v1 v2 v3 v4 v5 v6 v7) ∧ (r14 = 0 → ((¬ v3 = 0 → V_X11_safe_119 post rr33 (V_X11_safe_46 post rr33 n) z13 v1 v2 v3 t10 v6 v7 v7) ∧ (v3 = 0 → V_X11_safe_119 post rr33 (V_X11_safe_46 post rr33 n) z13 v1 v2 v3 t10 v6 v7 v6))))))))))
def V_X11_safe_33 (post : Int32 → ZS → Prop) : Nat → ZS → Int32 → Int32 → Int32 → Int32 → Int32 → Int32 → Prop
  | 0, _, _, _, _, _, _, _ => False
  | (n + 1), z, v1, v2, v3, v4, v5, v6 => (((3000 : Int32) < v6 → post v5 z) ∧ (¬ (3000 : Int32) < v6 → (∃ n17 : Nat, V_X11_safe_46 post (V_X11_safe_33 post n) n17 z v1 v2 v3 v4 v5 v6 (-3000 : Int32))))
def V_X11_safe (z : ZS) (p1 : Int32) (p2 : Int32) (p3 : Int32) (post : Int32 → ZS → Prop) : Prop := V_X11_isPlace z p1 p2 (fun r2 z1 => ((r2 = 0 → post (-1000000001 : Int32) z1) ∧ (¬ r2 = 0 → V_X11_isFrom z1 (0 : Int32) p3 (1 : Int32) (fun r5 z4 => ((¬ r5 = 0 → (∃ n18 : Nat, V_X11_safe_33 post n18 z4 p1 p2 p3 (2147483647 : Int32) (-1000000004 : Int32) (-3000 : Int32))) ∧ (r5 = 0 → post (-1000000001 : Int32) z4))))))
set_option maxHeartbeats 4000000 in
set_option maxRecDepth 100000 in
theorem c_X11_safe (l : Launch) (D : va_G) (ad : Nat → Nat → Nat) (cs : Nat → ClassId) (sk : (Nat → Nat) × (Nat → Nat)) (z : ZS) (p1 : Int32) (p2 : Int32) (p3 : Int32) (post : Int32 → ZS → Prop) (h : V_X11_safe z p1 p2 p3 post) : MI l D ad cs sk yX11_safe cX11_safe 9 .int (rmq 2 0 0) [.ref (ad 0 100), .int p1, .int p2, .int p3] z post := by
  refine MI.of RX11 rfl (by decide) (Nat.le_of_ble_eq_true rfl) ?_
  intro p e s m args below meth c A Q E hw hA hret ls hl
  have hx := E.1.1
  have hb := E.1.2.1
  have hml := E.1.2.2.1
  have hown := E.1.2.2.2.1
  have h0 := E.1.2.2.2.2
  have hl : lv_has ls 9 [(0, .ref (ad 0 100)), (1, .int p1), (2, .int p2), (3, .int p3)] := hl
  unfold V_X11_safe at h
  have b33 : ∀ (n : Nat) (z : ZS) (v1 : Int32) (v2 : Int32) (v3 : Int32) (v4 : Int32) (v5 : Int32) (v6 : Int32), ∀ (H : Heap) (locs : List Loc), OW D ad cs A s.heap z H locs → ∀ ls : Array Slot, lv_has ls 9 [(0, .ref (ad 0 100)), (1, .int v1), (2, .int v2), (3, .int v3), (4, .int v4), (5, .int v5), (6, .int v6)] → V_X11_safe_33 post n z v1 v2 v3 v4 v5 v6 → W p l e (rmq 2 0 0) s m args below meth c H locs 0 0 Q (F0 m 33 ls []) := by
    intro n
    induction n with
    | zero =>
      intro z v1 v2 v3 v4 v5 v6 H locs hw ls hl h
      exact h.elim
    | succ n33x ih33 =>
      have b46 : ∀ (n : Nat) (z : ZS) (v1 : Int32) (v2 : Int32) (v3 : Int32) (v4 : Int32) (v5 : Int32) (v6 : Int32) (v7 : Int32), ∀ (H : Heap) (locs : List Loc), OW D ad cs A s.heap z H locs → ∀ ls : Array Slot, lv_has ls 9 [(0, .ref (ad 0 100)), (1, .int v1), (2, .int v2), (3, .int v3), (4, .int v4), (5, .int v5), (6, .int v6), (7, .int v7)] → V_X11_safe_46 post (V_X11_safe_33 post n33x) n z v1 v2 v3 v4 v5 v6 v7 → W p l e (rmq 2 0 0) s m args below meth c H locs 0 0 Q (F0 m 46 ls []) := by
        intro n
        induction n with
        | zero =>
          intro z v1 v2 v3 v4 v5 v6 v7 H locs hw ls hl h
          exact h.elim
        | succ n46x ih46 =>
          have b121 : ∀ (z : ZS) (v1 : Int32) (v2 : Int32) (v3 : Int32) (v4 : Int32) (v5 : Int32) (v6 : Int32) (v7 : Int32), ∀ (H : Heap) (locs : List Loc), OW D ad cs A s.heap z H locs → ∀ ls : Array Slot, lv_has ls 9 [(0, .ref (ad 0 100)), (1, .int v1), (2, .int v2), (3, .int v3), (4, .int v4), (5, .int v5), (6, .int v6), (7, .int v7)] → V_X11_safe_121 post (V_X11_safe_33 post n33x) (V_X11_safe_46 post (V_X11_safe_33 post n33x) n46x) z v1 v2 v3 v4 v5 v6 v7 → W p l e (rmq 2 0 0) s m args below meth c H locs 0 0 Q (F0 m 121 ls []) := by
            intro z v1 v2 v3 v4 v5 v6 v7 H locs hw ls hl h
            unfold V_X11_safe_121 at h
            obtain ⟨t12, et12⟩ : ∃ y : Int32, y = v7 + (100 : Int32) := ⟨_, rfl⟩
            replace h := h t12 et12
            refine lv_iinc (v := t12) (lv' := [(7, .int t12), (0, .ref (ad 0 100)), (1, .int v1), (2, .int v2), (3, .int v3), (4, .int v4), (5, .int v5), (6, .int v6)]) hx hb dX11_safe_121 hl (k := 7) rfl (by rw [et12]; rfl) (by decide) rfl (fun ls hl => ?_)
            refine lv_goto (tgt := 46) hx hb dX11_safe_124 (by decide) ?_
            exact ih46 z v1 v2 v3 v4 v5 v6 t12 H locs hw ls (lv_sub hl [1, 2, 3, 4, 5, 6, 7, 0] rfl) h
          have b119 : ∀ (z : ZS) (v1 : Int32) (v2 : Int32) (v3 : Int32) (v4 : Int32) (v6 : Int32) (v7 : Int32) (s0 : Int32), ∀ (H : Heap) (locs : List Loc), OW D ad cs A s.heap z H locs → ∀ ls : Array Slot, lv_has ls 9 [(0, .ref (ad 0 100)), (1, .int v1), (2, .int v2), (3, .int v3), (4, .int v4), (6, .int v6), (7, .int v7)] → V_X11_safe_119 post (V_X11_safe_33 post n33x) (V_X11_safe_46 post (V_X11_safe_33 post n33x) n46x) z v1 v2 v3 v4 v6 v7 s0 → W p l e (rmq 2 0 0) s m args below meth c H locs 0 0 Q (F0 m 119 ls [.int s0]) := by
            intro z v1 v2 v3 v4 v6 v7 s0 H locs hw ls hl h
            unfold V_X11_safe_119 at h
            refine lv_istore (lv' := [(5, .int s0), (0, .ref (ad 0 100)), (1, .int v1), (2, .int v2), (3, .int v3), (4, .int v4), (6, .int v6), (7, .int v7)]) hx hb dX11_safe_119 hl (by decide) rfl (fun ls hl => ?_)
            exact b121 z v1 v2 v3 v4 s0 v6 v7 H locs hw ls (lv_sub hl [1, 2, 3, 4, 5, 0, 6, 7] rfl) h
          intro z v1 v2 v3 v4 v5 v6 v7 H locs hw ls hl h
          unfold V_X11_safe_46 at h
          refine lv_iload hx hb dX11_safe_46 (lv_at hl 7 rfl) ?_
          refine lv_sipush (v := 3000) hx hb dX11_safe_48 (by decide) ?_
          refine lv_icmp_gt (tgt := 127) hx hb dX11_safe_51 (by decide) (fun c8 => ?_) (fun c8 => ?_)
          · replace h := h.1 c8
            obtain ⟨t9, et9⟩ : ∃ y : Int32, y = v6 + (100 : Int32) := ⟨_, rfl⟩
            replace h := h t9 et9
            refine lv_iinc (v := t9) (lv' := [(6, .int t9), (0, .ref (ad 0 100)), (1, .int v1), (2, .int v2), (3, .int v3), (4, .int v4), (5, .int v5), (7, .int v7)]) hx hb dX11_safe_127 hl (k := 6) rfl (by rw [et9]; rfl) (by decide) rfl (fun ls hl => ?_)
            refine lv_goto (tgt := 33) hx hb dX11_safe_130 (by decide) ?_
            exact ih33 z v1 v2 v3 v4 v5 t9 H locs hw ls (lv_sub hl [1, 2, 3, 4, 5, 6, 0] rfl) h
          · replace h := h.2 c8
            refine lv_iload hx hb dX11_safe_54 (lv_at hl 6 rfl) ?_
            refine lv_bipush (v := 10) hx hb dX11_safe_56 (by decide) ?_
            refine lv_imul hx hb dX11_safe_58 ?_
            refine lv_iload_n hx hb dX11_safe_59 rfl (lv_at hl 1 rfl) ?_
            refine lv_isub hx hb dX11_safe_60 ?_
            refine va_mabs hx hb (hml.trans hl.1.symm) hown (h0 _ qm_11_225) (h0 _ qs_ib_Math_abs_name) (h0 _ qn_Math) (h0 _ qc_Math_abs) (Nat.le_of_ble_eq_true rfl) (Nat.le_of_ble_eq_true rfl) (Nat.le_of_ble_eq_true rfl) (Nat.le_of_ble_eq_true rfl) dX11_safe_61 ?_
            refine lv_iload hx hb dX11_safe_64 (lv_at hl 7 rfl) ?_
            refine lv_bipush (v := 10) hx hb dX11_safe_66 (by decide) ?_
            refine lv_imul hx hb dX11_safe_68 ?_
            refine lv_iload_n hx hb dX11_safe_69 rfl (lv_at hl 2 rfl) ?_
            refine lv_isub hx hb dX11_safe_70 ?_
            refine va_mabs hx hb (hml.trans hl.1.symm) hown (h0 _ qm_11_225) (h0 _ qs_ib_Math_abs_name) (h0 _ qn_Math) (h0 _ qc_Math_abs) (Nat.le_of_ble_eq_true rfl) (Nat.le_of_ble_eq_true rfl) (Nat.le_of_ble_eq_true rfl) (Nat.le_of_ble_eq_true rfl) dX11_safe_71 ?_
            refine lv_iadd hx hb dX11_safe_74 ?_
            refine lv_topi (fun t10 et10 => ?_)
            replace h := h t10 et10
            refine lv_istore (lv' := [(8, .int t10), (0, .ref (ad 0 100)), (1, .int v1), (2, .int v2), (3, .int v3), (4, .int v4), (5, .int v5), (6, .int v6), (7, .int v7)]) hx hb dX11_safe_75 hl (by decide) rfl (fun ls hl => ?_)
            refine lv_iload hx hb dX11_safe_77 (lv_at hl 0 rfl) ?_
            refine lv_iload hx hb dX11_safe_79 (lv_at hl 5 rfl) ?_
            refine lv_icmp_ge (tgt := 121) hx hb dX11_safe_81 (by decide) (fun c11 => ?_) (fun c11 => ?_)
            · replace h := h.1 c11
              exact b121 z v1 v2 v3 v4 v5 v6 v7 H locs hw ls (lv_sub hl [1, 2, 3, 4, 5, 6, 7, 8] rfl) h
            · replace h := h.2 c11
              refine lv_aload_n hx hb dX11_safe_84 rfl (lv_at hl 1 rfl) ?_
              refine xgC E hw (c1 := 11) (t := (1, 100)) rfl ky_0_100 fo_11_0 rfl qf_11_10 dX11_safe_85 ?_
              refine lv_iload hx hb dX11_safe_88 (lv_at hl 7 rfl) ?_
              refine lv_bipush (v := 10) hx hb dX11_safe_90 (by decide) ?_
              refine lv_imul hx hb dX11_safe_92 ?_
              refine lv_iload hx hb dX11_safe_93 (lv_at hl 8 rfl) ?_
              refine lv_bipush (v := 10) hx hb dX11_safe_95 (by decide) ?_
              refine lv_imul hx hb dX11_safe_97 ?_
              have hq := h
              clear h
              refine xcVI (As := [.int (v6 * (10 : Int32)), .int (v7 * (10 : Int32))]) (rest := []) E hw hA (c_X0_bars l D ad cs sk z 1 (v6 * (10 : Int32)) (v7 * (10 : Int32)) _ is_1 hq) kc_11_136 yo_X0_bars ⟨Nat.le_of_ble_eq_true rfl, Nat.le_of_ble_eq_true rfl⟩ (xrc E hw ky_1_100 rfl) rfl hl.1 rfl (Nat.le_of_ble_eq_true rfl) dX11_safe_98 ⟨Nat.le_of_ble_eq_true rfl, Nat.le_of_ble_eq_true rfl⟩ (fun r14 z13 H locs h hw => ?_)
              refine lv_if_ne (tgt := 121) hx hb dX11_safe_101 (by decide) (fun c15 => ?_) (fun c15 => ?_)
              · replace h := h.1 c15
                exact b121 z13 v1 v2 v3 v4 v5 v6 v7 H locs hw ls (lv_sub hl [1, 2, 3, 4, 5, 6, 7, 8] rfl) h
              · replace h := h.2 c15
                refine lv_iload hx hb dX11_safe_104 (lv_at hl 0 rfl) ?_
                refine lv_istore (lv' := [(4, .int t10), (8, .int t10), (0, .ref (ad 0 100)), (1, .int v1), (2, .int v2), (3, .int v3), (5, .int v5), (6, .int v6), (7, .int v7)]) hx hb dX11_safe_106 hl (by decide) rfl (fun ls hl => ?_)
                refine lv_iload_n hx hb dX11_safe_108 rfl (lv_at hl 5 rfl) ?_
                refine lv_if_ne (tgt := 117) hx hb dX11_safe_109 (by decide) (fun c16 => ?_) (fun c16 => ?_)
                · replace h := h.1 c16
                  refine lv_iload hx hb dX11_safe_117 (lv_at hl 8 rfl) ?_
                  exact b119 z13 v1 v2 v3 t10 v6 v7 v7 H locs hw ls (lv_sub hl [2, 3, 4, 5, 0, 7, 8] rfl) h
                · replace h := h.2 c16
                  refine lv_iload hx hb dX11_safe_112 (lv_at hl 7 rfl) ?_
                  refine lv_goto (tgt := 119) hx hb dX11_safe_114 (by decide) ?_
                  exact b119 z13 v1 v2 v3 t10 v6 v7 v6 H locs hw ls (lv_sub hl [2, 3, 4, 5, 0, 7, 8] rfl) h
      intro z v1 v2 v3 v4 v5 v6 H locs hw ls hl h
      unfold V_X11_safe_33 at h
      refine lv_iload hx hb dX11_safe_33 (lv_at hl 6 rfl) ?_
      refine lv_sipush (v := 3000) hx hb dX11_safe_35 (by decide) ?_
      refine lv_icmp_gt (tgt := 133) hx hb dX11_safe_38 (by decide) (fun c7 => ?_) (fun c7 => ?_)
      · replace h := h.1 c7
        refine lv_iload hx hb dX11_safe_133 (lv_at hl 5 rfl) ?_
        exact hret v5 z H locs 135 ls hw rfl h dX11_safe_135
      · replace h := h.2 c7
        refine lv_sipush (v := -3000) hx hb dX11_safe_41 (by decide) ?_
        refine lv_istore (lv' := [(7, .int (-3000 : Int32)), (0, .ref (ad 0 100)), (1, .int v1), (2, .int v2), (3, .int v3), (4, .int v4), (5, .int v5), (6, .int v6)]) hx hb dX11_safe_44 hl (by decide) rfl (fun ls hl => ?_)
        obtain ⟨n17, h⟩ := h
        exact b46 n17 z v1 v2 v3 v4 v5 v6 (-3000 : Int32) H locs hw ls (lv_sub hl [1, 2, 3, 4, 5, 6, 7, 0] rfl) h
  have b00 : ∀ (H : Heap) (locs : List Loc), OW D ad cs A s.heap z H locs → W p l e (rmq 2 0 0) s m args below meth c H locs 0 0 Q (F0 m 0 ls []) := by
    intro H locs hw
    refine lv_iload_n hx hb dX11_safe_0 rfl (lv_at hl 1 rfl) ?_
    refine lv_iload_n hx hb dX11_safe_1 rfl (lv_at hl 2 rfl) ?_
    have hq := h
    clear h
    refine xcSI (As := [.int p1, .int p2]) (rest := []) E hw hA (c_X11_isPlace l D ad cs sk z p1 p2 _ hq) kc_11_125 yo_X11_isPlace ⟨Nat.le_of_ble_eq_true rfl, Nat.le_of_ble_eq_true rfl⟩ rfl hl.1 rfl (Nat.le_of_ble_eq_true rfl) dX11_safe_2 ⟨Nat.le_of_ble_eq_true rfl, Nat.le_of_ble_eq_true rfl⟩ (fun r2 z1 H locs h hw => ?_)
    refine lv_if_eq (tgt := 17) hx hb dX11_safe_5 (by decide) (fun c3 => ?_) (fun c3 => ?_)
    · replace h := h.1 c3
      refine lv_ldc (v := -1000000001) hx hb hown (h0 _ qk_11_76) dX11_safe_17 ?_
      exact hret (-1000000001 : Int32) z1 H locs 19 ls hw rfl h dX11_safe_19
    · replace h := h.2 c3
      refine lv_iconst (v := 0) hx hb dX11_safe_8 (by decide) ?_
      refine lv_iload_n hx hb dX11_safe_9 rfl (lv_at hl 3 rfl) ?_
      refine lv_iconst (v := 1) hx hb dX11_safe_10 (by decide) ?_
      have hq := h
      clear h
      refine xcSI (As := [.int (0 : Int32), .int p3, .int (1 : Int32)]) (rest := []) E hw hA (c_X11_isFrom l D ad cs sk z1 (0 : Int32) p3 (1 : Int32) _ hq) kc_11_83 yo_X11_isFrom ⟨Nat.le_of_ble_eq_true rfl, Nat.le_of_ble_eq_true rfl⟩ rfl hl.1 rfl (Nat.le_of_ble_eq_true rfl) dX11_safe_11 ⟨Nat.le_of_ble_eq_true rfl, Nat.le_of_ble_eq_true rfl⟩ (fun r5 z4 H locs h hw => ?_)
      refine lv_if_ne (tgt := 20) hx hb dX11_safe_14 (by decide) (fun c6 => ?_) (fun c6 => ?_)
      · replace h := h.1 c6
        refine lv_ldc (v := 2147483647) hx hb hown (h0 _ qk_11_172) dX11_safe_20 ?_
        refine lv_istore (lv' := [(4, .int (2147483647 : Int32)), (0, .ref (ad 0 100)), (1, .int p1), (2, .int p2), (3, .int p3)]) hx hb dX11_safe_22 hl (by decide) rfl (fun ls hl => ?_)
        refine lv_ldc (v := -1000000004) hx hb hown (h0 _ qk_11_224) dX11_safe_24 ?_
        refine lv_istore (lv' := [(5, .int (-1000000004 : Int32)), (4, .int (2147483647 : Int32)), (0, .ref (ad 0 100)), (1, .int p1), (2, .int p2), (3, .int p3)]) hx hb dX11_safe_26 hl (by decide) rfl (fun ls hl => ?_)
        refine lv_sipush (v := -3000) hx hb dX11_safe_28 (by decide) ?_
        refine lv_istore (lv' := [(6, .int (-3000 : Int32)), (5, .int (-1000000004 : Int32)), (4, .int (2147483647 : Int32)), (0, .ref (ad 0 100)), (1, .int p1), (2, .int p2), (3, .int p3)]) hx hb dX11_safe_31 hl (by decide) rfl (fun ls hl => ?_)
        obtain ⟨n18, h⟩ := h
        exact b33 n18 z4 p1 p2 p3 (2147483647 : Int32) (-1000000004 : Int32) (-3000 : Int32) H locs hw ls (lv_sub hl [3, 4, 5, 6, 2, 1, 0] rfl) h
      · replace h := h.2 c6
        refine lv_ldc (v := -1000000001) hx hb hown (h0 _ qk_11_76) dX11_safe_17 ?_
        exact hret (-1000000001 : Int32) z4 H locs 19 ls hw rfl h dX11_safe_19
  exact b00 s.heap [] hw
def V_X11_goodBySeeds_59 (post : Int32 → ZS → Prop) (rr6 : ZS → Nat → Int32 → Int32 → Int32 → Int32 → Int32 → Int32 → Int32 → Int32 → Prop) (z : ZS) (v1 : Nat) (v2 : Int32) (v3 : Int32) (v4 : Int32) (v5 : Int32) (v6 : Int32) (v7 : Int32) (v8 : Int32) (v9 : Int32) : Prop := (∀ t10 : Int32, t10 = v9 + (1 : Int32) → rr6 z v1 v2 v3 v4 v5 v6 v7 v8 t10)
def V_X11_goodBySeeds_6 (post : Int32 → ZS → Prop) : Nat → ZS → Nat → Int32 → Int32 → Int32 → Int32 → Int32 → Int32 → Int32 → Int32 → Prop
  | 0, _, _, _, _, _, _, _, _, _, _ => False
  | (n + 1), z, v1, v2, v3, v4, v5, v6, v7, v8, v9 => ((v5 ≤ v9 → post v8 z) ∧ (¬ v5 ≤ v9 → V_X3_begin z 4 v1 v2 v3 (v6 + v9) (fun z2 => (∀ z4 : ZS, z4 = wI z2 4 6 v7 → V_X3_land z4 4 (fun z5 => V_X3_off z5 4 (fun r8 z7 => ((v4 < r8 → V_X11_goodBySeeds_59 post (V_X11_goodBySeeds_6 post n) z7 v1 v2 v3 v4 v5 v6 v7 v8 v9) ∧ (¬ v4 < r8 → (∀ t11 : Int32, t11 = v8 + (1 : Int32) → V_X11_goodBySeeds_59 post (V_X11_goodBySeeds_6 post n) z7 v1 v2 v3 v4 v5 v6 v7 t11 v9)))))))))
def V_X11_goodBySeeds (z : ZS) (p1 : Nat) (p2 : Int32) (p3 : Int32) (p4 : Int32) (p5 : Int32) (p6 : Int32) (p7 : Int32) (post : Int32 → ZS → Prop) : Prop := (∃ n12 : Nat, V_X11_goodBySeeds_6 post n12 z p1 p2 p3 p4 p5 p6 p7 (0 : Int32) (0 : Int32))
set_option maxHeartbeats 4000000 in
set_option maxRecDepth 100000 in
theorem c_X11_goodBySeeds (l : Launch) (D : va_G) (ad : Nat → Nat → Nat) (cs : Nat → ClassId) (sk : (Nat → Nat) × (Nat → Nat)) (z : ZS) (p1 : Nat) (p2 : Int32) (p3 : Int32) (p4 : Int32) (p5 : Int32) (p6 : Int32) (p7 : Int32) (post : Int32 → ZS → Prop) (h : V_X11_goodBySeeds z p1 p2 p3 p4 p5 p6 p7 post) : MI l D ad cs sk yX11_goodBySeeds cX11_goodBySeeds 10 .int (rmq 6 0 0) [.ref (ad 0 100), .ref p1, .int p2, .int p3, .int p4, .int p5, .int p6, .int p7] z post := by
  refine MI.of RX11 rfl (by decide) (Nat.le_of_ble_eq_true rfl) ?_
  intro p e s m args below meth c A Q E hw hA hret ls hl
  have hx := E.1.1
  have hb := E.1.2.1
  have hml := E.1.2.2.1
  have hown := E.1.2.2.2.1
  have h0 := E.1.2.2.2.2
  have hl : lv_has ls 10 [(0, .ref (ad 0 100)), (1, .ref p1), (2, .int p2), (3, .int p3), (4, .int p4), (5, .int p5), (6, .int p6), (7, .int p7)] := hl
  unfold V_X11_goodBySeeds at h
  have b6 : ∀ (n : Nat) (z : ZS) (v1 : Nat) (v2 : Int32) (v3 : Int32) (v4 : Int32) (v5 : Int32) (v6 : Int32) (v7 : Int32) (v8 : Int32) (v9 : Int32), ∀ (H : Heap) (locs : List Loc), OW D ad cs A s.heap z H locs → ∀ ls : Array Slot, lv_has ls 10 [(0, .ref (ad 0 100)), (1, .ref v1), (2, .int v2), (3, .int v3), (4, .int v4), (5, .int v5), (6, .int v6), (7, .int v7), (8, .int v8), (9, .int v9)] → V_X11_goodBySeeds_6 post n z v1 v2 v3 v4 v5 v6 v7 v8 v9 → W p l e (rmq 6 0 0) s m args below meth c H locs 0 0 Q (F0 m 6 ls []) := by
    intro n
    induction n with
    | zero =>
      intro z v1 v2 v3 v4 v5 v6 v7 v8 v9 H locs hw ls hl h
      exact h.elim
    | succ n6x ih6 =>
      have b59 : ∀ (z : ZS) (v1 : Nat) (v2 : Int32) (v3 : Int32) (v4 : Int32) (v5 : Int32) (v6 : Int32) (v7 : Int32) (v8 : Int32) (v9 : Int32), ∀ (H : Heap) (locs : List Loc), OW D ad cs A s.heap z H locs → ∀ ls : Array Slot, lv_has ls 10 [(0, .ref (ad 0 100)), (1, .ref v1), (2, .int v2), (3, .int v3), (4, .int v4), (5, .int v5), (6, .int v6), (7, .int v7), (8, .int v8), (9, .int v9)] → V_X11_goodBySeeds_59 post (V_X11_goodBySeeds_6 post n6x) z v1 v2 v3 v4 v5 v6 v7 v8 v9 → W p l e (rmq 6 0 0) s m args below meth c H locs 0 0 Q (F0 m 59 ls []) := by
        intro z v1 v2 v3 v4 v5 v6 v7 v8 v9 H locs hw ls hl h
        unfold V_X11_goodBySeeds_59 at h
        obtain ⟨t10, et10⟩ : ∃ y : Int32, y = v9 + (1 : Int32) := ⟨_, rfl⟩
        replace h := h t10 et10
        refine lv_iinc (v := t10) (lv' := [(9, .int t10), (0, .ref (ad 0 100)), (1, .ref v1), (2, .int v2), (3, .int v3), (4, .int v4), (5, .int v5), (6, .int v6), (7, .int v7), (8, .int v8)]) hx hb dX11_goodBySeeds_59 hl (k := 9) rfl (by rw [et10]; rfl) (by decide) rfl (fun ls hl => ?_)
        refine lv_goto (tgt := 6) hx hb dX11_goodBySeeds_62 (by decide) ?_
        exact ih6 z v1 v2 v3 v4 v5 v6 v7 v8 t10 H locs hw ls (lv_sub hl [1, 2, 3, 4, 5, 6, 7, 8, 9, 0] rfl) h
      intro z v1 v2 v3 v4 v5 v6 v7 v8 v9 H locs hw ls hl h
      unfold V_X11_goodBySeeds_6 at h
      refine lv_iload hx hb dX11_goodBySeeds_6 (lv_at hl 9 rfl) ?_
      refine lv_iload hx hb dX11_goodBySeeds_8 (lv_at hl 5 rfl) ?_
      refine lv_icmp_ge (tgt := 65) hx hb dX11_goodBySeeds_10 (by decide) (fun c1 => ?_) (fun c1 => ?_)
      · replace h := h.1 c1
        refine lv_iload hx hb dX11_goodBySeeds_65 (lv_at hl 8 rfl) ?_
        exact hret v8 z H locs 67 ls hw rfl h dX11_goodBySeeds_67
      · replace h := h.2 c1
        refine lv_aload_n hx hb dX11_goodBySeeds_13 rfl (lv_at hl 0 rfl) ?_
        refine xgC E hw (c1 := 11) (t := (4, 100)) rfl ky_0_100 fo_11_4 rfl qf_11_31 dX11_goodBySeeds_14 ?_
        refine lv_aload_n hx hb dX11_goodBySeeds_17 rfl (lv_at hl 1 rfl) ?_
        refine lv_iload_n hx hb dX11_goodBySeeds_18 rfl (lv_at hl 2 rfl) ?_
        refine lv_iload_n hx hb dX11_goodBySeeds_19 rfl (lv_at hl 3 rfl) ?_
        refine lv_iload hx hb dX11_goodBySeeds_20 (lv_at hl 6 rfl) ?_
        refine lv_iload hx hb dX11_goodBySeeds_22 (lv_at hl 9 rfl) ?_
        refine lv_iadd hx hb dX11_goodBySeeds_24 ?_
        have hq := h
        clear h
        refine xcVV (As := [.ref v1, .int v2, .int v3, .int (v6 + v9)]) (rest := []) E hw hA (c_X3_begin l D ad cs sk z 4 v1 v2 v3 (v6 + v9) _ is_4 hq) kc_11_143 yo_X3_begin ⟨Nat.le_of_ble_eq_true rfl, Nat.le_of_ble_eq_true rfl⟩ (xrc E hw ky_4_100 rfl) rfl hl.1 rfl (Nat.le_of_ble_eq_true rfl) dX11_goodBySeeds_25 ⟨Nat.le_of_ble_eq_true rfl, Nat.le_of_ble_eq_true rfl⟩ (fun z2 H locs h hw => ?_)
        refine lv_aload_n hx hb dX11_goodBySeeds_28 rfl (lv_at hl 0 rfl) ?_
        refine xgC E hw (c1 := 11) (t := (4, 100)) rfl ky_0_100 fo_11_4 rfl qf_11_31 dX11_goodBySeeds_29 ?_
        refine lv_iload hx hb dX11_goodBySeeds_32 (lv_at hl 7 rfl) ?_
        refine xpI E hw (c1 := 3) rfl ky_4_100 fp_3_6 rfl rfl qf_11_336 dX11_goodBySeeds_34 (fun z4 ez4 H locs hw => ?_)
        replace h := h z4 ez4
        refine lv_aload_n hx hb dX11_goodBySeeds_37 rfl (lv_at hl 0 rfl) ?_
        refine xgC E hw (c1 := 11) (t := (4, 100)) rfl ky_0_100 fo_11_4 rfl qf_11_31 dX11_goodBySeeds_38 ?_
        have hq := h
        clear h
        refine xcVV (As := []) (rest := []) E hw hA (c_X3_land l D ad cs sk z4 4 _ is_4 hq) kc_11_167 yo_X3_land ⟨Nat.le_of_ble_eq_true rfl, Nat.le_of_ble_eq_true rfl⟩ (xrc E hw ky_4_100 rfl) rfl hl.1 rfl (Nat.le_of_ble_eq_true rfl) dX11_goodBySeeds_41 ⟨Nat.le_of_ble_eq_true rfl, Nat.le_of_ble_eq_true rfl⟩ (fun z5 H locs h hw => ?_)
        refine lv_aload_n hx hb dX11_goodBySeeds_44 rfl (lv_at hl 0 rfl) ?_
        refine xgC E hw (c1 := 11) (t := (4, 100)) rfl ky_0_100 fo_11_4 rfl qf_11_31 dX11_goodBySeeds_45 ?_
        have hq := h
        clear h
        refine xcVI (As := []) (rest := []) E hw hA (c_X3_off l D ad cs sk z5 4 _ is_4 hq) kc_11_214 yo_X3_off ⟨Nat.le_of_ble_eq_true rfl, Nat.le_of_ble_eq_true rfl⟩ (xrc E hw ky_4_100 rfl) rfl hl.1 rfl (Nat.le_of_ble_eq_true rfl) dX11_goodBySeeds_48 ⟨Nat.le_of_ble_eq_true rfl, Nat.le_of_ble_eq_true rfl⟩ (fun r8 z7 H locs h hw => ?_)
        refine lv_iload hx hb dX11_goodBySeeds_51 (lv_at hl 4 rfl) ?_
        refine lv_icmp_gt (tgt := 59) hx hb dX11_goodBySeeds_53 (by decide) (fun c9 => ?_) (fun c9 => ?_)
        · replace h := h.1 c9
          exact b59 z7 v1 v2 v3 v4 v5 v6 v7 v8 v9 H locs hw ls (lv_sub hl [0, 1, 2, 3, 4, 5, 6, 7, 8, 9] rfl) h
        · replace h := h.2 c9
          obtain ⟨t11, et11⟩ : ∃ y : Int32, y = v8 + (1 : Int32) := ⟨_, rfl⟩
          replace h := h t11 et11
          refine lv_iinc (v := t11) (lv' := [(8, .int t11), (0, .ref (ad 0 100)), (1, .ref v1), (2, .int v2), (3, .int v3), (4, .int v4), (5, .int v5), (6, .int v6), (7, .int v7), (9, .int v9)]) hx hb dX11_goodBySeeds_56 hl (k := 8) rfl (by rw [et11]; rfl) (by decide) rfl (fun ls hl => ?_)
          exact b59 z7 v1 v2 v3 v4 v5 v6 v7 t11 v9 H locs hw ls (lv_sub hl [1, 2, 3, 4, 5, 6, 7, 8, 0, 9] rfl) h
  have b00 : ∀ (H : Heap) (locs : List Loc), OW D ad cs A s.heap z H locs → W p l e (rmq 6 0 0) s m args below meth c H locs 0 0 Q (F0 m 0 ls []) := by
    intro H locs hw
    refine lv_iconst (v := 0) hx hb dX11_goodBySeeds_0 (by decide) ?_
    refine lv_istore (lv' := [(8, .int (0 : Int32)), (0, .ref (ad 0 100)), (1, .ref p1), (2, .int p2), (3, .int p3), (4, .int p4), (5, .int p5), (6, .int p6), (7, .int p7)]) hx hb dX11_goodBySeeds_1 hl (by decide) rfl (fun ls hl => ?_)
    refine lv_iconst (v := 0) hx hb dX11_goodBySeeds_3 (by decide) ?_
    refine lv_istore (lv' := [(9, .int (0 : Int32)), (8, .int (0 : Int32)), (0, .ref (ad 0 100)), (1, .ref p1), (2, .int p2), (3, .int p3), (4, .int p4), (5, .int p5), (6, .int p6), (7, .int p7)]) hx hb dX11_goodBySeeds_4 hl (by decide) rfl (fun ls hl => ?_)
    obtain ⟨n12, h⟩ := h
    exact b6 n12 z p1 p2 p3 p4 p5 p6 p7 (0 : Int32) (0 : Int32) H locs hw ls (lv_sub hl [2, 3, 4, 5, 6, 7, 8, 9, 1, 0] rfl) h
  exact b00 s.heap [] hw
def V_X11_within (z : ZS) (p1 : Int32) (p2 : Int32) (p3 : Int32) (p4 : Int32) (p5 : Int32) (p6 : Int32) (post : Int32 → ZS → Prop) : Prop := V_X0_fallerAt z 1 p1 (fun r2 z1 => ((r2 = none → post (-1 : Int32) z1) ∧ (∀ a3 : Nat, r2 = some a3 → V_X11_isPlace z1 p2 p3 (fun r5 z4 => ((r5 = 0 → post (-1 : Int32) z4) ∧ (¬ r5 = 0 → V_X11_isFrom z4 (0 : Int32) p4 (60000 : Int32) (fun r8 z7 => ((r8 = 0 → post (-1 : Int32) z7) ∧ (¬ r8 = 0 → V_X11_isFrom z7 (1 : Int32) p5 (20 : Int32) (fun r11 z10 => ((¬ r11 = 0 → V_X11_goodBySeeds z10 a3 p2 p3 p4 p5 p6 (zI z10 1 2) (fun r14 z13 => post r14 z13)) ∧ (r11 = 0 → post (-1 : Int32) z10))))))))))))
set_option maxHeartbeats 4000000 in
set_option maxRecDepth 100000 in
theorem c_X11_within (l : Launch) (D : va_G) (ad : Nat → Nat → Nat) (cs : Nat → ClassId) (sk : (Nat → Nat) × (Nat → Nat)) (z : ZS) (p1 : Int32) (p2 : Int32) (p3 : Int32) (p4 : Int32) (p5 : Int32) (p6 : Int32) (post : Int32 → ZS → Prop) (h : V_X11_within z p1 p2 p3 p4 p5 p6 post) : MI l D ad cs sk yX11_within cX11_within 8 .int (rmq 7 0 0) [.ref (ad 0 100), .int p1, .int p2, .int p3, .int p4, .int p5, .int p6] z post := by
  refine MI.of RX11 rfl (by decide) (Nat.le_of_ble_eq_true rfl) ?_
  intro p e s m args below meth c A Q E hw hA hret ls hl
  have hx := E.1.1
  have hb := E.1.2.1
  have hml := E.1.2.2.1
  have hown := E.1.2.2.2.1
  have h0 := E.1.2.2.2.2
  have hl : lv_has ls 8 [(0, .ref (ad 0 100)), (1, .int p1), (2, .int p2), (3, .int p3), (4, .int p4), (5, .int p5), (6, .int p6)] := hl
  unfold V_X11_within at h
  have b00 : ∀ (H : Heap) (locs : List Loc), OW D ad cs A s.heap z H locs → W p l e (rmq 7 0 0) s m args below meth c H locs 0 0 Q (F0 m 0 ls []) := by
    intro H locs hw
    refine lv_aload_n hx hb dX11_within_0 rfl (lv_at hl 0 rfl) ?_
    refine xgC E hw (c1 := 11) (t := (1, 100)) rfl ky_0_100 fo_11_0 rfl qf_11_10 dX11_within_1 ?_
    refine lv_iload_n hx hb dX11_within_4 rfl (lv_at hl 1 rfl) ?_
    have hq := h
    clear h
    refine xcVA (As := [.int p1]) (rest := []) E hw hA (c_X0_fallerAt l D ad cs sk z 1 p1 _ is_1 hq) kc_11_97 yo_X0_fallerAt ⟨Nat.le_of_ble_eq_true rfl, Nat.le_of_ble_eq_true rfl⟩ (xrc E hw ky_1_100 rfl) rfl hl.1 rfl (Nat.le_of_ble_eq_true rfl) dX11_within_5 ⟨Nat.le_of_ble_eq_true rfl, Nat.le_of_ble_eq_true rfl⟩ (fun r2 z1 H locs h hw => ?_)
    refine xsqastore (lv' := [(7, va_rf r2), (0, .ref (ad 0 100)), (1, .int p1), (2, .int p2), (3, .int p3), (4, .int p4), (5, .int p5), (6, .int p6)]) hx hb dX11_within_8 hl (by decide) rfl (fun ls hl => ?_)
    refine xlqaload hx hb dX11_within_10 (lv_at hl 0 rfl) ?_
    refine xnul (tgt := 45) hx hb dX11_within_12 (by decide) (fun ea3 => ?_) (fun a3 ea3 => ?_)
    · replace h := h.1 ea3
      subst ea3
      have hl : lv_has ls 8 [(7, .null), (0, .ref (ad 0 100)), (1, .int p1), (2, .int p2), (3, .int p3), (4, .int p4), (5, .int p5), (6, .int p6)] := hl
      refine lv_iconst (v := -1) hx hb dX11_within_45 (by decide) ?_
      exact hret (-1 : Int32) z1 H locs 46 ls hw rfl h dX11_within_46
    · replace h := h.2 a3 ea3
      subst ea3
      have hl : lv_has ls 8 [(7, .ref a3), (0, .ref (ad 0 100)), (1, .int p1), (2, .int p2), (3, .int p3), (4, .int p4), (5, .int p5), (6, .int p6)] := hl
      refine lv_iload_n hx hb dX11_within_15 rfl (lv_at hl 3 rfl) ?_
      refine lv_iload_n hx hb dX11_within_16 rfl (lv_at hl 4 rfl) ?_
      have hq := h
      clear h
      refine xcSI (As := [.int p2, .int p3]) (rest := []) E hw hA (c_X11_isPlace l D ad cs sk z1 p2 p3 _ hq) kc_11_125 yo_X11_isPlace ⟨Nat.le_of_ble_eq_true rfl, Nat.le_of_ble_eq_true rfl⟩ rfl hl.1 rfl (Nat.le_of_ble_eq_true rfl) dX11_within_17 ⟨Nat.le_of_ble_eq_true rfl, Nat.le_of_ble_eq_true rfl⟩ (fun r5 z4 H locs h hw => ?_)
      refine lv_if_eq (tgt := 45) hx hb dX11_within_20 (by decide) (fun c6 => ?_) (fun c6 => ?_)
      · replace h := h.1 c6
        refine lv_iconst (v := -1) hx hb dX11_within_45 (by decide) ?_
        exact hret (-1 : Int32) z4 H locs 46 ls hw rfl h dX11_within_46
      · replace h := h.2 c6
        refine lv_iconst (v := 0) hx hb dX11_within_23 (by decide) ?_
        refine lv_iload hx hb dX11_within_24 (lv_at hl 5 rfl) ?_
        refine lv_ldc (v := 60000) hx hb hown (h0 _ qk_11_180) dX11_within_26 ?_
        have hq := h
        clear h
        refine xcSI (As := [.int (0 : Int32), .int p4, .int (60000 : Int32)]) (rest := []) E hw hA (c_X11_isFrom l D ad cs sk z4 (0 : Int32) p4 (60000 : Int32) _ hq) kc_11_83 yo_X11_isFrom ⟨Nat.le_of_ble_eq_true rfl, Nat.le_of_ble_eq_true rfl⟩ rfl hl.1 rfl (Nat.le_of_ble_eq_true rfl) dX11_within_28 ⟨Nat.le_of_ble_eq_true rfl, Nat.le_of_ble_eq_true rfl⟩ (fun r8 z7 H locs h hw => ?_)
        refine lv_if_eq (tgt := 45) hx hb dX11_within_31 (by decide) (fun c9 => ?_) (fun c9 => ?_)
        · replace h := h.1 c9
          refine lv_iconst (v := -1) hx hb dX11_within_45 (by decide) ?_
          exact hret (-1 : Int32) z7 H locs 46 ls hw rfl h dX11_within_46
        · replace h := h.2 c9
          refine lv_iconst (v := 1) hx hb dX11_within_34 (by decide) ?_
          refine lv_iload hx hb dX11_within_35 (lv_at hl 6 rfl) ?_
          refine lv_bipush (v := 20) hx hb dX11_within_37 (by decide) ?_
          have hq := h
          clear h
          refine xcSI (As := [.int (1 : Int32), .int p5, .int (20 : Int32)]) (rest := []) E hw hA (c_X11_isFrom l D ad cs sk z7 (1 : Int32) p5 (20 : Int32) _ hq) kc_11_83 yo_X11_isFrom ⟨Nat.le_of_ble_eq_true rfl, Nat.le_of_ble_eq_true rfl⟩ rfl hl.1 rfl (Nat.le_of_ble_eq_true rfl) dX11_within_39 ⟨Nat.le_of_ble_eq_true rfl, Nat.le_of_ble_eq_true rfl⟩ (fun r11 z10 H locs h hw => ?_)
          refine lv_if_ne (tgt := 47) hx hb dX11_within_42 (by decide) (fun c12 => ?_) (fun c12 => ?_)
          · replace h := h.1 c12
            refine lv_aload_n hx hb dX11_within_47 rfl (lv_at hl 1 rfl) ?_
            refine lv_aload hx hb dX11_within_48 (lv_at hl 0 rfl) ?_
            refine lv_iload_n hx hb dX11_within_50 rfl (lv_at hl 3 rfl) ?_
            refine lv_iload_n hx hb dX11_within_51 rfl (lv_at hl 4 rfl) ?_
            refine lv_iload hx hb dX11_within_52 (lv_at hl 5 rfl) ?_
            refine lv_iload hx hb dX11_within_54 (lv_at hl 6 rfl) ?_
            refine lv_iload hx hb dX11_within_56 (lv_at hl 7 rfl) ?_
            refine lv_aload_n hx hb dX11_within_58 rfl (lv_at hl 1 rfl) ?_
            refine xgC E hw (c1 := 11) (t := (1, 100)) rfl ky_0_100 fo_11_0 rfl qf_11_10 dX11_within_59 ?_
            refine xgI E hw (c1 := 0) rfl ky_1_100 fo_0_2 qf_11_87 dX11_within_62 ?_
            have hq := h
            clear h
            refine xcVI (As := [.ref a3, .int p2, .int p3, .int p4, .int p5, .int p6, .int (zI z10 1 2)]) (rest := []) E hw hA (c_X11_goodBySeeds l D ad cs sk z10 a3 p2 p3 p4 p5 p6 (zI z10 1 2) _ hq) kc_11_228 yo_X11_goodBySeeds ⟨Nat.le_of_ble_eq_true rfl, Nat.le_of_ble_eq_true rfl⟩ (xrc E hw ky_0_100 rfl) rfl hl.1 rfl (Nat.le_of_ble_eq_true rfl) dX11_within_65 ⟨Nat.le_of_ble_eq_true rfl, Nat.le_of_ble_eq_true rfl⟩ (fun r14 z13 H locs h hw => ?_)
            exact hret r14 z13 H locs 68 ls hw rfl h dX11_within_68
          · replace h := h.2 c12
            refine lv_iconst (v := -1) hx hb dX11_within_45 (by decide) ?_
            exact hret (-1 : Int32) z10 H locs 46 ls hw rfl h dX11_within_46
  exact b00 s.heap [] hw
def V_X11_stop_50 (post : Int32 → ZS → Prop) : Nat → ZS → Int32 → Int32 → Int32 → Int32 → Int32 → Nat → Int32 → Prop
  | 0, _, _, _, _, _, _, _, _ => False
  | (n + 1), z, v2, v3, v4, v5, v6, v7, v8 => (((30 : Int32) < v8 → post (-4 : Int32) z) ∧ (¬ (30 : Int32) < v8 → V_X11_goodBySeeds z v7 v2 v3 v4 v5 v6 v8 (fun r15 z14 => ((v5 ≤ ((2 : Int32) * r15) → (∀ t17 : Int32, t17 = v8 + (1 : Int32) → (V_X11_stop_50 post n) z14 v2 v3 v4 v5 v6 v7 t17)) ∧ (¬ v5 ≤ ((2 : Int32) * r15) → post v8 z14)))))
def V_X11_stop (z : ZS) (p1 : Int32) (p2 : Int32) (p3 : Int32) (p4 : Int32) (p5 : Int32) (p6 : Int32) (post : Int32 → ZS → Prop) : Prop := V_X0_fallerAt z 1 p1 (fun r2 z1 => ((r2 = none → post (-1 : Int32) z1) ∧ (∀ a3 : Nat, r2 = some a3 → V_X11_isPlace z1 p2 p3 (fun r5 z4 => ((r5 = 0 → post (-1 : Int32) z4) ∧ (¬ r5 = 0 → V_X11_isFrom z4 (0 : Int32) p4 (60000 : Int32) (fun r8 z7 => ((r8 = 0 → post (-1 : Int32) z7) ∧ (¬ r8 = 0 → V_X11_isFrom z7 (1 : Int32) p5 (20 : Int32) (fun r11 z10 => ((¬ r11 = 0 → (∃ n18 : Nat, V_X11_stop_50 post n18 z10 p2 p3 p4 p5 p6 a3 (0 : Int32))) ∧ (r11 = 0 → post (-1 : Int32) z10))))))))))))
set_option maxHeartbeats 4000000 in
set_option maxRecDepth 100000 in
theorem c_X11_stop (l : Launch) (D : va_G) (ad : Nat → Nat → Nat) (cs : Nat → ClassId) (sk : (Nat → Nat) × (Nat → Nat)) (z : ZS) (p1 : Int32) (p2 : Int32) (p3 : Int32) (p4 : Int32) (p5 : Int32) (p6 : Int32) (post : Int32 → ZS → Prop) (h : V_X11_stop z p1 p2 p3 p4 p5 p6 post) : MI l D ad cs sk yX11_stop cX11_stop 9 .int (rmq 7 0 0) [.ref (ad 0 100), .int p1, .int p2, .int p3, .int p4, .int p5, .int p6] z post := by
  refine MI.of RX11 rfl (by decide) (Nat.le_of_ble_eq_true rfl) ?_
  intro p e s m args below meth c A Q E hw hA hret ls hl
  have hx := E.1.1
  have hb := E.1.2.1
  have hml := E.1.2.2.1
  have hown := E.1.2.2.2.1
  have h0 := E.1.2.2.2.2
  have hl : lv_has ls 9 [(0, .ref (ad 0 100)), (1, .int p1), (2, .int p2), (3, .int p3), (4, .int p4), (5, .int p5), (6, .int p6)] := hl
  unfold V_X11_stop at h
  have b50 : ∀ (n : Nat) (z : ZS) (v2 : Int32) (v3 : Int32) (v4 : Int32) (v5 : Int32) (v6 : Int32) (v7 : Nat) (v8 : Int32), ∀ (H : Heap) (locs : List Loc), OW D ad cs A s.heap z H locs → ∀ ls : Array Slot, lv_has ls 9 [(0, .ref (ad 0 100)), (2, .int v2), (3, .int v3), (4, .int v4), (5, .int v5), (6, .int v6), (7, .ref v7), (8, .int v8)] → V_X11_stop_50 post n z v2 v3 v4 v5 v6 v7 v8 → W p l e (rmq 7 0 0) s m args below meth c H locs 0 0 Q (F0 m 50 ls []) := by
    intro n
    induction n with
    | zero =>
      intro z v2 v3 v4 v5 v6 v7 v8 H locs hw ls hl h
      exact h.elim
    | succ n50x ih50 =>
      intro z v2 v3 v4 v5 v6 v7 v8 H locs hw ls hl h
      unfold V_X11_stop_50 at h
      refine lv_iload hx hb dX11_stop_50 (lv_at hl 7 rfl) ?_
      refine lv_bipush (v := 30) hx hb dX11_stop_52 (by decide) ?_
      refine lv_icmp_gt (tgt := 89) hx hb dX11_stop_54 (by decide) (fun c13 => ?_) (fun c13 => ?_)
      · replace h := h.1 c13
        refine lv_bipush (v := -4) hx hb dX11_stop_89 (by decide) ?_
        exact hret (-4 : Int32) z H locs 91 ls hw rfl h dX11_stop_91
      · replace h := h.2 c13
        refine lv_iconst (v := 2) hx hb dX11_stop_57 (by decide) ?_
        refine lv_aload_n hx hb dX11_stop_58 rfl (lv_at hl 0 rfl) ?_
        refine lv_aload hx hb dX11_stop_59 (lv_at hl 6 rfl) ?_
        refine lv_iload_n hx hb dX11_stop_61 rfl (lv_at hl 1 rfl) ?_
        refine lv_iload_n hx hb dX11_stop_62 rfl (lv_at hl 2 rfl) ?_
        refine lv_iload hx hb dX11_stop_63 (lv_at hl 3 rfl) ?_
        refine lv_iload hx hb dX11_stop_65 (lv_at hl 4 rfl) ?_
        refine lv_iload hx hb dX11_stop_67 (lv_at hl 5 rfl) ?_
        refine lv_iload hx hb dX11_stop_69 (lv_at hl 7 rfl) ?_
        have hq := h
        clear h
        refine xcVI (As := [.ref v7, .int v2, .int v3, .int v4, .int v5, .int v6, .int v8]) (rest := [.int (2 : Int32)]) E hw hA (c_X11_goodBySeeds l D ad cs sk z v7 v2 v3 v4 v5 v6 v8 _ hq) kc_11_228 yo_X11_goodBySeeds ⟨Nat.le_of_ble_eq_true rfl, Nat.le_of_ble_eq_true rfl⟩ (xrc E hw ky_0_100 rfl) rfl hl.1 rfl (Nat.le_of_ble_eq_true rfl) dX11_stop_71 ⟨Nat.le_of_ble_eq_true rfl, Nat.le_of_ble_eq_true rfl⟩ (fun r15 z14 H locs h hw => ?_)
        refine lv_imul hx hb dX11_stop_74 ?_
        refine lv_iload hx hb dX11_stop_75 (lv_at hl 4 rfl) ?_
        refine lv_icmp_ge (tgt := 83) hx hb dX11_stop_77 (by decide) (fun c16 => ?_) (fun c16 => ?_)
        · replace h := h.1 c16
          obtain ⟨t17, et17⟩ : ∃ y : Int32, y = v8 + (1 : Int32) := ⟨_, rfl⟩
          replace h := h t17 et17
          refine lv_iinc (v := t17) (lv' := [(8, .int t17), (0, .ref (ad 0 100)), (2, .int v2), (3, .int v3), (4, .int v4), (5, .int v5), (6, .int v6), (7, .ref v7)]) hx hb dX11_stop_83 hl (k := 7) rfl (by rw [et17]; rfl) (by decide) rfl (fun ls hl => ?_)
          refine lv_goto (tgt := 50) hx hb dX11_stop_86 (by decide) ?_
          exact ih50 z14 v2 v3 v4 v5 v6 v7 t17 H locs hw ls (lv_sub hl [1, 2, 3, 4, 5, 6, 7, 0] rfl) h
        · replace h := h.2 c16
          refine lv_iload hx hb dX11_stop_80 (lv_at hl 7 rfl) ?_
          exact hret v8 z14 H locs 82 ls hw rfl h dX11_stop_82
  have b00 : ∀ (H : Heap) (locs : List Loc), OW D ad cs A s.heap z H locs → W p l e (rmq 7 0 0) s m args below meth c H locs 0 0 Q (F0 m 0 ls []) := by
    intro H locs hw
    refine lv_aload_n hx hb dX11_stop_0 rfl (lv_at hl 0 rfl) ?_
    refine xgC E hw (c1 := 11) (t := (1, 100)) rfl ky_0_100 fo_11_0 rfl qf_11_10 dX11_stop_1 ?_
    refine lv_iload_n hx hb dX11_stop_4 rfl (lv_at hl 1 rfl) ?_
    have hq := h
    clear h
    refine xcVA (As := [.int p1]) (rest := []) E hw hA (c_X0_fallerAt l D ad cs sk z 1 p1 _ is_1 hq) kc_11_97 yo_X0_fallerAt ⟨Nat.le_of_ble_eq_true rfl, Nat.le_of_ble_eq_true rfl⟩ (xrc E hw ky_1_100 rfl) rfl hl.1 rfl (Nat.le_of_ble_eq_true rfl) dX11_stop_5 ⟨Nat.le_of_ble_eq_true rfl, Nat.le_of_ble_eq_true rfl⟩ (fun r2 z1 H locs h hw => ?_)
    refine xsqastore (lv' := [(7, va_rf r2), (0, .ref (ad 0 100)), (1, .int p1), (2, .int p2), (3, .int p3), (4, .int p4), (5, .int p5), (6, .int p6)]) hx hb dX11_stop_8 hl (by decide) rfl (fun ls hl => ?_)
    refine xlqaload hx hb dX11_stop_10 (lv_at hl 0 rfl) ?_
    refine xnul (tgt := 45) hx hb dX11_stop_12 (by decide) (fun ea3 => ?_) (fun a3 ea3 => ?_)
    · replace h := h.1 ea3
      subst ea3
      have hl : lv_has ls 9 [(7, .null), (0, .ref (ad 0 100)), (1, .int p1), (2, .int p2), (3, .int p3), (4, .int p4), (5, .int p5), (6, .int p6)] := hl
      refine lv_iconst (v := -1) hx hb dX11_stop_45 (by decide) ?_
      exact hret (-1 : Int32) z1 H locs 46 ls hw rfl h dX11_stop_46
    · replace h := h.2 a3 ea3
      subst ea3
      have hl : lv_has ls 9 [(7, .ref a3), (0, .ref (ad 0 100)), (1, .int p1), (2, .int p2), (3, .int p3), (4, .int p4), (5, .int p5), (6, .int p6)] := hl
      refine lv_iload_n hx hb dX11_stop_15 rfl (lv_at hl 3 rfl) ?_
      refine lv_iload_n hx hb dX11_stop_16 rfl (lv_at hl 4 rfl) ?_
      have hq := h
      clear h
      refine xcSI (As := [.int p2, .int p3]) (rest := []) E hw hA (c_X11_isPlace l D ad cs sk z1 p2 p3 _ hq) kc_11_125 yo_X11_isPlace ⟨Nat.le_of_ble_eq_true rfl, Nat.le_of_ble_eq_true rfl⟩ rfl hl.1 rfl (Nat.le_of_ble_eq_true rfl) dX11_stop_17 ⟨Nat.le_of_ble_eq_true rfl, Nat.le_of_ble_eq_true rfl⟩ (fun r5 z4 H locs h hw => ?_)
      refine lv_if_eq (tgt := 45) hx hb dX11_stop_20 (by decide) (fun c6 => ?_) (fun c6 => ?_)
      · replace h := h.1 c6
        refine lv_iconst (v := -1) hx hb dX11_stop_45 (by decide) ?_
        exact hret (-1 : Int32) z4 H locs 46 ls hw rfl h dX11_stop_46
      · replace h := h.2 c6
        refine lv_iconst (v := 0) hx hb dX11_stop_23 (by decide) ?_
        refine lv_iload hx hb dX11_stop_24 (lv_at hl 5 rfl) ?_
        refine lv_ldc (v := 60000) hx hb hown (h0 _ qk_11_180) dX11_stop_26 ?_
        have hq := h
        clear h
        refine xcSI (As := [.int (0 : Int32), .int p4, .int (60000 : Int32)]) (rest := []) E hw hA (c_X11_isFrom l D ad cs sk z4 (0 : Int32) p4 (60000 : Int32) _ hq) kc_11_83 yo_X11_isFrom ⟨Nat.le_of_ble_eq_true rfl, Nat.le_of_ble_eq_true rfl⟩ rfl hl.1 rfl (Nat.le_of_ble_eq_true rfl) dX11_stop_28 ⟨Nat.le_of_ble_eq_true rfl, Nat.le_of_ble_eq_true rfl⟩ (fun r8 z7 H locs h hw => ?_)
        refine lv_if_eq (tgt := 45) hx hb dX11_stop_31 (by decide) (fun c9 => ?_) (fun c9 => ?_)
        · replace h := h.1 c9
          refine lv_iconst (v := -1) hx hb dX11_stop_45 (by decide) ?_
          exact hret (-1 : Int32) z7 H locs 46 ls hw rfl h dX11_stop_46
        · replace h := h.2 c9
          refine lv_iconst (v := 1) hx hb dX11_stop_34 (by decide) ?_
          refine lv_iload hx hb dX11_stop_35 (lv_at hl 6 rfl) ?_
          refine lv_bipush (v := 20) hx hb dX11_stop_37 (by decide) ?_
          have hq := h
          clear h
          refine xcSI (As := [.int (1 : Int32), .int p5, .int (20 : Int32)]) (rest := []) E hw hA (c_X11_isFrom l D ad cs sk z7 (1 : Int32) p5 (20 : Int32) _ hq) kc_11_83 yo_X11_isFrom ⟨Nat.le_of_ble_eq_true rfl, Nat.le_of_ble_eq_true rfl⟩ rfl hl.1 rfl (Nat.le_of_ble_eq_true rfl) dX11_stop_39 ⟨Nat.le_of_ble_eq_true rfl, Nat.le_of_ble_eq_true rfl⟩ (fun r11 z10 H locs h hw => ?_)
          refine lv_if_ne (tgt := 47) hx hb dX11_stop_42 (by decide) (fun c12 => ?_) (fun c12 => ?_)
          · replace h := h.1 c12
            refine lv_iconst (v := 0) hx hb dX11_stop_47 (by decide) ?_
            refine lv_istore (lv' := [(8, .int (0 : Int32)), (7, .ref a3), (0, .ref (ad 0 100)), (1, .int p1), (2, .int p2), (3, .int p3), (4, .int p4), (5, .int p5), (6, .int p6)]) hx hb dX11_stop_48 hl (by decide) rfl (fun ls hl => ?_)
            obtain ⟨n18, h⟩ := h
            exact b50 n18 z10 p2 p3 p4 p5 p6 a3 (0 : Int32) H locs hw ls (lv_sub hl [2, 4, 5, 6, 7, 8, 1, 0] rfl) h
          · replace h := h.2 c12
            refine lv_iconst (v := -1) hx hb dX11_stop_45 (by decide) ?_
            exact hret (-1 : Int32) z10 H locs 46 ls hw rfl h dX11_stop_46
  exact b00 s.heap [] hw
