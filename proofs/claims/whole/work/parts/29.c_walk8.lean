def V_X11_cone_110 (post : Int32 → ZS → Prop) (rr46 : ZS → Int32 → Int32 → Nat → Int32 → Int32 → Prop) (rr59 : ZS → Int32 → Int32 → Nat → Int32 → Int32 → Int32 → Prop) (z : ZS) (v2 : Int32) (v3 : Int32) (v4 : Nat) (v5 : Int32) (v6 : Int32) (v7 : Int32) : Prop := (∀ t22 : Int32, t22 = v7 + (500 : Int32) → rr59 z v2 v3 v4 v5 v6 t22)
def V_X11_cone_59 (post : Int32 → ZS → Prop) (rr46 : ZS → Int32 → Int32 → Nat → Int32 → Int32 → Prop) : Nat → ZS → Int32 → Int32 → Nat → Int32 → Int32 → Int32 → Prop
  | 0, _, _, _, _, _, _, _ => False
  | (n + 1), z, v2, v3, v4, v5, v6, v7 => (((5000 : Int32) < v7 → (∀ t12 : Int32, t12 = v6 + (500 : Int32) → rr46 z v2 v3 v4 v5 t12)) ∧ (¬ (5000 : Int32) < v7 → V_X3_begin z 4 v4 v6 v7 (1 : Int32) (fun z13 => V_X3_openAt z13 4 v2 (fun z15 => V_X3_land z15 4 (fun z17 => V_X3_off z17 4 (fun r20 z19 => ((v3 < r20 → V_X11_cone_110 post rr46 (V_X11_cone_59 post rr46 n) z19 v2 v3 v4 v5 v6 v7) ∧ (¬ v3 < r20 → (∀ t23 : Int32, t23 = v5 + (1 : Int32) → V_X11_cone_110 post rr46 (V_X11_cone_59 post rr46 n) z19 v2 v3 v4 t23 v6 v7)))))))))
def V_X11_cone_46 (post : Int32 → ZS → Prop) : Nat → ZS → Int32 → Int32 → Nat → Int32 → Int32 → Prop
  | 0, _, _, _, _, _, _ => False
  | (n + 1), z, v2, v3, v4, v5, v6 => (((5000 : Int32) < v6 → post v5 z) ∧ (¬ (5000 : Int32) < v6 → (∃ n24 : Nat, V_X11_cone_59 post (V_X11_cone_46 post n) n24 z v2 v3 v4 v5 v6 (-5000 : Int32))))
def V_X11_cone (z : ZS) (p1 : Int32) (p2 : Int32) (p3 : Int32) (post : Int32 → ZS → Prop) : Prop := V_X0_fallerAt z 1 p1 (fun r2 z1 => ((r2 = none → post (-1 : Int32) z1) ∧ (∀ a3 : Nat, r2 = some a3 → V_X11_isFrom z1 (1 : Int32) p2 (3000 : Int32) (fun r5 z4 => ((r5 = 0 → post (-1 : Int32) z4) ∧ (¬ r5 = 0 → V_X11_isFrom z4 (0 : Int32) p3 (60000 : Int32) (fun r8 z7 => ((¬ r8 = 0 → (∃ n25 : Nat, V_X11_cone_46 post n25 z7 p2 p3 a3 (0 : Int32) (-5000 : Int32))) ∧ (r8 = 0 → post (-1 : Int32) z7)))))))))
set_option maxHeartbeats 4000000 in
set_option maxRecDepth 100000 in
theorem c_X11_cone (l : Launch) (D : va_G) (ad : Nat → Nat → Nat) (cs : Nat → ClassId) (sk : (Nat → Nat) × (Nat → Nat)) (z : ZS) (p1 : Int32) (p2 : Int32) (p3 : Int32) (post : Int32 → ZS → Prop) (h : V_X11_cone z p1 p2 p3 post) : MI l D ad cs sk yX11_cone cX11_cone 8 .int (rmq 6 0 0) [.ref (ad 0 100), .int p1, .int p2, .int p3] z post := by
  refine MI.of RX11 rfl (by decide) (Nat.le_of_ble_eq_true rfl) ?_
  intro p e s m args below meth c A Q E hw hA hret ls hl
  have hx := E.1.1
  have hb := E.1.2.1
  have hml := E.1.2.2.1
  have hown := E.1.2.2.2.1
  have h0 := E.1.2.2.2.2
  have hl : lv_has ls 8 [(0, .ref (ad 0 100)), (1, .int p1), (2, .int p2), (3, .int p3)] := hl
  unfold V_X11_cone at h
  have b46 : ∀ (n : Nat) (z : ZS) (v2 : Int32) (v3 : Int32) (v4 : Nat) (v5 : Int32) (v6 : Int32), ∀ (H : Heap) (locs : List Loc), OW D ad cs A s.heap z H locs → ∀ ls : Array Slot, lv_has ls 8 [(0, .ref (ad 0 100)), (2, .int v2), (3, .int v3), (4, .ref v4), (5, .int v5), (6, .int v6)] → V_X11_cone_46 post n z v2 v3 v4 v5 v6 → W p l e (rmq 6 0 0) s m args below meth c H locs 0 0 Q (F0 m 46 ls []) := by
    intro n
    induction n with
    | zero =>
      intro z v2 v3 v4 v5 v6 H locs hw ls hl h
      exact h.elim
    | succ n46x ih46 =>
      have b59 : ∀ (n : Nat) (z : ZS) (v2 : Int32) (v3 : Int32) (v4 : Nat) (v5 : Int32) (v6 : Int32) (v7 : Int32), ∀ (H : Heap) (locs : List Loc), OW D ad cs A s.heap z H locs → ∀ ls : Array Slot, lv_has ls 8 [(0, .ref (ad 0 100)), (2, .int v2), (3, .int v3), (4, .ref v4), (5, .int v5), (6, .int v6), (7, .int v7)] → V_X11_cone_59 post (V_X11_cone_46 post n46x) n z v2 v3 v4 v5 v6 v7 → W p l e (rmq 6 0 0) s m args below meth c H locs 0 0 Q (F0 m 59 ls []) := by
        intro n
        induction n with
        | zero =>
          intro z v2 v3 v4 v5 v6 v7 H locs hw ls hl h
          exact h.elim
        | succ n59x ih59 =>
          have b110 : ∀ (z : ZS) (v2 : Int32) (v3 : Int32) (v4 : Nat) (v5 : Int32) (v6 : Int32) (v7 : Int32), ∀ (H : Heap) (locs : List Loc), OW D ad cs A s.heap z H locs → ∀ ls : Array Slot, lv_has ls 8 [(0, .ref (ad 0 100)), (2, .int v2), (3, .int v3), (4, .ref v4), (5, .int v5), (6, .int v6), (7, .int v7)] → V_X11_cone_110 post (V_X11_cone_46 post n46x) (V_X11_cone_59 post (V_X11_cone_46 post n46x) n59x) z v2 v3 v4 v5 v6 v7 → W p l e (rmq 6 0 0) s m args below meth c H locs 0 0 Q (F0 m 110 ls []) := by
            intro z v2 v3 v4 v5 v6 v7 H locs hw ls hl h
            unfold V_X11_cone_110 at h
            obtain ⟨t22, et22⟩ : ∃ y : Int32, y = v7 + (500 : Int32) := ⟨_, rfl⟩
            replace h := h t22 et22
            refine lv_iincW (v := t22) (lv' := [(7, .int t22), (0, .ref (ad 0 100)), (2, .int v2), (3, .int v3), (4, .ref v4), (5, .int v5), (6, .int v6)]) hx hb dX11_cone_110 hl (k := 6) rfl (by rw [et22]; rfl) (by decide) rfl (fun ls hl => ?_)
            refine lv_goto (tgt := 59) hx hb dX11_cone_116 (by decide) ?_
            exact ih59 z v2 v3 v4 v5 v6 t22 H locs hw ls (lv_sub hl [1, 2, 3, 4, 5, 6, 0] rfl) h
          intro z v2 v3 v4 v5 v6 v7 H locs hw ls hl h
          unfold V_X11_cone_59 at h
          refine lv_iload hx hb dX11_cone_59 (lv_at hl 6 rfl) ?_
          refine lv_sipush (v := 5000) hx hb dX11_cone_61 (by decide) ?_
          refine lv_icmp_gt (tgt := 119) hx hb dX11_cone_64 (by decide) (fun c11 => ?_) (fun c11 => ?_)
          · replace h := h.1 c11
            obtain ⟨t12, et12⟩ : ∃ y : Int32, y = v6 + (500 : Int32) := ⟨_, rfl⟩
            replace h := h t12 et12
            refine lv_iincW (v := t12) (lv' := [(6, .int t12), (0, .ref (ad 0 100)), (2, .int v2), (3, .int v3), (4, .ref v4), (5, .int v5), (7, .int v7)]) hx hb dX11_cone_119 hl (k := 5) rfl (by rw [et12]; rfl) (by decide) rfl (fun ls hl => ?_)
            refine lv_goto (tgt := 46) hx hb dX11_cone_125 (by decide) ?_
            exact ih46 z v2 v3 v4 v5 t12 H locs hw ls (lv_sub hl [1, 2, 3, 4, 5, 0] rfl) h
          · replace h := h.2 c11
            refine lv_aload_n hx hb dX11_cone_67 rfl (lv_at hl 0 rfl) ?_
            refine xgC E hw (c1 := 11) (t := (4, 100)) rfl ky_0_100 fo_11_4 rfl qf_11_31 dX11_cone_68 ?_
            refine lv_aload hx hb dX11_cone_71 (lv_at hl 3 rfl) ?_
            refine lv_iload hx hb dX11_cone_73 (lv_at hl 5 rfl) ?_
            refine lv_iload hx hb dX11_cone_75 (lv_at hl 6 rfl) ?_
            refine lv_iconst (v := 1) hx hb dX11_cone_77 (by decide) ?_
            have hq := h
            clear h
            refine xcVV (As := [.ref v4, .int v6, .int v7, .int (1 : Int32)]) (rest := []) E hw hA (c_X3_begin l D ad cs sk z 4 v4 v6 v7 (1 : Int32) _ is_4 hq) kc_11_143 yo_X3_begin ⟨Nat.le_of_ble_eq_true rfl, Nat.le_of_ble_eq_true rfl⟩ (xrc E hw ky_4_100 rfl) rfl hl.1 rfl (Nat.le_of_ble_eq_true rfl) dX11_cone_78 ⟨Nat.le_of_ble_eq_true rfl, Nat.le_of_ble_eq_true rfl⟩ (fun z13 H locs h hw => ?_)
            refine lv_aload_n hx hb dX11_cone_81 rfl (lv_at hl 0 rfl) ?_
            refine xgC E hw (c1 := 11) (t := (4, 100)) rfl ky_0_100 fo_11_4 rfl qf_11_31 dX11_cone_82 ?_
            refine lv_iload_n hx hb dX11_cone_85 rfl (lv_at hl 1 rfl) ?_
            have hq := h
            clear h
            refine xcVV (As := [.int v2]) (rest := []) E hw hA (c_X3_openAt l D ad cs sk z13 4 v2 _ is_4 hq) kc_11_211 yo_X3_openAt ⟨Nat.le_of_ble_eq_true rfl, Nat.le_of_ble_eq_true rfl⟩ (xrc E hw ky_4_100 rfl) rfl hl.1 rfl (Nat.le_of_ble_eq_true rfl) dX11_cone_86 ⟨Nat.le_of_ble_eq_true rfl, Nat.le_of_ble_eq_true rfl⟩ (fun z15 H locs h hw => ?_)
            refine lv_aload_n hx hb dX11_cone_89 rfl (lv_at hl 0 rfl) ?_
            refine xgC E hw (c1 := 11) (t := (4, 100)) rfl ky_0_100 fo_11_4 rfl qf_11_31 dX11_cone_90 ?_
            have hq := h
            clear h
            refine xcVV (As := []) (rest := []) E hw hA (c_X3_land l D ad cs sk z15 4 _ is_4 hq) kc_11_167 yo_X3_land ⟨Nat.le_of_ble_eq_true rfl, Nat.le_of_ble_eq_true rfl⟩ (xrc E hw ky_4_100 rfl) rfl hl.1 rfl (Nat.le_of_ble_eq_true rfl) dX11_cone_93 ⟨Nat.le_of_ble_eq_true rfl, Nat.le_of_ble_eq_true rfl⟩ (fun z17 H locs h hw => ?_)
            refine lv_aload_n hx hb dX11_cone_96 rfl (lv_at hl 0 rfl) ?_
            refine xgC E hw (c1 := 11) (t := (4, 100)) rfl ky_0_100 fo_11_4 rfl qf_11_31 dX11_cone_97 ?_
            have hq := h
            clear h
            refine xcVI (As := []) (rest := []) E hw hA (c_X3_off l D ad cs sk z17 4 _ is_4 hq) kc_11_214 yo_X3_off ⟨Nat.le_of_ble_eq_true rfl, Nat.le_of_ble_eq_true rfl⟩ (xrc E hw ky_4_100 rfl) rfl hl.1 rfl (Nat.le_of_ble_eq_true rfl) dX11_cone_100 ⟨Nat.le_of_ble_eq_true rfl, Nat.le_of_ble_eq_true rfl⟩ (fun r20 z19 H locs h hw => ?_)
            refine lv_iload_n hx hb dX11_cone_103 rfl (lv_at hl 2 rfl) ?_
            refine lv_icmp_gt (tgt := 110) hx hb dX11_cone_104 (by decide) (fun c21 => ?_) (fun c21 => ?_)
            · replace h := h.1 c21
              exact b110 z19 v2 v3 v4 v5 v6 v7 H locs hw ls (lv_sub hl [0, 1, 2, 3, 4, 5, 6] rfl) h
            · replace h := h.2 c21
              obtain ⟨t23, et23⟩ : ∃ y : Int32, y = v5 + (1 : Int32) := ⟨_, rfl⟩
              replace h := h t23 et23
              refine lv_iinc (v := t23) (lv' := [(5, .int t23), (0, .ref (ad 0 100)), (2, .int v2), (3, .int v3), (4, .ref v4), (6, .int v6), (7, .int v7)]) hx hb dX11_cone_107 hl (k := 4) rfl (by rw [et23]; rfl) (by decide) rfl (fun ls hl => ?_)
              exact b110 z19 v2 v3 v4 t23 v6 v7 H locs hw ls (lv_sub hl [1, 2, 3, 4, 0, 5, 6] rfl) h
      intro z v2 v3 v4 v5 v6 H locs hw ls hl h
      unfold V_X11_cone_46 at h
      refine lv_iload hx hb dX11_cone_46 (lv_at hl 5 rfl) ?_
      refine lv_sipush (v := 5000) hx hb dX11_cone_48 (by decide) ?_
      refine lv_icmp_gt (tgt := 128) hx hb dX11_cone_51 (by decide) (fun c10 => ?_) (fun c10 => ?_)
      · replace h := h.1 c10
        refine lv_iload hx hb dX11_cone_128 (lv_at hl 4 rfl) ?_
        exact hret v5 z H locs 130 ls hw rfl h dX11_cone_130
      · replace h := h.2 c10
        refine lv_sipush (v := -5000) hx hb dX11_cone_54 (by decide) ?_
        refine lv_istore (lv' := [(7, .int (-5000 : Int32)), (0, .ref (ad 0 100)), (2, .int v2), (3, .int v3), (4, .ref v4), (5, .int v5), (6, .int v6)]) hx hb dX11_cone_57 hl (by decide) rfl (fun ls hl => ?_)
        obtain ⟨n24, h⟩ := h
        exact b59 n24 z v2 v3 v4 v5 v6 (-5000 : Int32) H locs hw ls (lv_sub hl [1, 2, 3, 4, 5, 6, 0] rfl) h
  have b00 : ∀ (H : Heap) (locs : List Loc), OW D ad cs A s.heap z H locs → W p l e (rmq 6 0 0) s m args below meth c H locs 0 0 Q (F0 m 0 ls []) := by
    intro H locs hw
    refine lv_aload_n hx hb dX11_cone_0 rfl (lv_at hl 0 rfl) ?_
    refine xgC E hw (c1 := 11) (t := (1, 100)) rfl ky_0_100 fo_11_0 rfl qf_11_10 dX11_cone_1 ?_
    refine lv_iload_n hx hb dX11_cone_4 rfl (lv_at hl 1 rfl) ?_
    have hq := h
    clear h
    refine xcVA (As := [.int p1]) (rest := []) E hw hA (c_X0_fallerAt l D ad cs sk z 1 p1 _ is_1 hq) kc_11_97 yo_X0_fallerAt ⟨Nat.le_of_ble_eq_true rfl, Nat.le_of_ble_eq_true rfl⟩ (xrc E hw ky_1_100 rfl) rfl hl.1 rfl (Nat.le_of_ble_eq_true rfl) dX11_cone_5 ⟨Nat.le_of_ble_eq_true rfl, Nat.le_of_ble_eq_true rfl⟩ (fun r2 z1 H locs h hw => ?_)
    refine xsqastore (lv' := [(4, va_rf r2), (0, .ref (ad 0 100)), (1, .int p1), (2, .int p2), (3, .int p3)]) hx hb dX11_cone_8 hl (by decide) rfl (fun ls hl => ?_)
    refine xlqaload hx hb dX11_cone_10 (lv_at hl 0 rfl) ?_
    refine xnul (tgt := 36) hx hb dX11_cone_12 (by decide) (fun ea3 => ?_) (fun a3 ea3 => ?_)
    · replace h := h.1 ea3
      subst ea3
      have hl : lv_has ls 8 [(4, .null), (0, .ref (ad 0 100)), (1, .int p1), (2, .int p2), (3, .int p3)] := hl
      refine lv_iconst (v := -1) hx hb dX11_cone_36 (by decide) ?_
      exact hret (-1 : Int32) z1 H locs 37 ls hw rfl h dX11_cone_37
    · replace h := h.2 a3 ea3
      subst ea3
      have hl : lv_has ls 8 [(4, .ref a3), (0, .ref (ad 0 100)), (1, .int p1), (2, .int p2), (3, .int p3)] := hl
      refine lv_iconst (v := 1) hx hb dX11_cone_15 (by decide) ?_
      refine lv_iload_n hx hb dX11_cone_16 rfl (lv_at hl 3 rfl) ?_
      refine lv_sipush (v := 3000) hx hb dX11_cone_17 (by decide) ?_
      have hq := h
      clear h
      refine xcSI (As := [.int (1 : Int32), .int p2, .int (3000 : Int32)]) (rest := []) E hw hA (c_X11_isFrom l D ad cs sk z1 (1 : Int32) p2 (3000 : Int32) _ hq) kc_11_83 yo_X11_isFrom ⟨Nat.le_of_ble_eq_true rfl, Nat.le_of_ble_eq_true rfl⟩ rfl hl.1 rfl (Nat.le_of_ble_eq_true rfl) dX11_cone_20 ⟨Nat.le_of_ble_eq_true rfl, Nat.le_of_ble_eq_true rfl⟩ (fun r5 z4 H locs h hw => ?_)
      refine lv_if_eq (tgt := 36) hx hb dX11_cone_23 (by decide) (fun c6 => ?_) (fun c6 => ?_)
      · replace h := h.1 c6
        refine lv_iconst (v := -1) hx hb dX11_cone_36 (by decide) ?_
        exact hret (-1 : Int32) z4 H locs 37 ls hw rfl h dX11_cone_37
      · replace h := h.2 c6
        refine lv_iconst (v := 0) hx hb dX11_cone_26 (by decide) ?_
        refine lv_iload_n hx hb dX11_cone_27 rfl (lv_at hl 4 rfl) ?_
        refine lv_ldc (v := 60000) hx hb hown (h0 _ qk_11_180) dX11_cone_28 ?_
        have hq := h
        clear h
        refine xcSI (As := [.int (0 : Int32), .int p3, .int (60000 : Int32)]) (rest := []) E hw hA (c_X11_isFrom l D ad cs sk z4 (0 : Int32) p3 (60000 : Int32) _ hq) kc_11_83 yo_X11_isFrom ⟨Nat.le_of_ble_eq_true rfl, Nat.le_of_ble_eq_true rfl⟩ rfl hl.1 rfl (Nat.le_of_ble_eq_true rfl) dX11_cone_30 ⟨Nat.le_of_ble_eq_true rfl, Nat.le_of_ble_eq_true rfl⟩ (fun r8 z7 H locs h hw => ?_)
        refine lv_if_ne (tgt := 38) hx hb dX11_cone_33 (by decide) (fun c9 => ?_) (fun c9 => ?_)
        · replace h := h.1 c9
          refine lv_iconst (v := 0) hx hb dX11_cone_38 (by decide) ?_
          refine lv_istore (lv' := [(5, .int (0 : Int32)), (4, .ref a3), (0, .ref (ad 0 100)), (1, .int p1), (2, .int p2), (3, .int p3)]) hx hb dX11_cone_39 hl (by decide) rfl (fun ls hl => ?_)
          refine lv_sipush (v := -5000) hx hb dX11_cone_41 (by decide) ?_
          refine lv_istore (lv' := [(6, .int (-5000 : Int32)), (5, .int (0 : Int32)), (4, .ref a3), (0, .ref (ad 0 100)), (1, .int p1), (2, .int p2), (3, .int p3)]) hx hb dX11_cone_44 hl (by decide) rfl (fun ls hl => ?_)
          obtain ⟨n25, h⟩ := h
          exact b46 n25 z7 p2 p3 a3 (0 : Int32) (-5000 : Int32) H locs hw ls (lv_sub hl [3, 5, 6, 2, 1, 0] rfl) h
        · replace h := h.2 c9
          refine lv_iconst (v := -1) hx hb dX11_cone_36 (by decide) ?_
          exact hret (-1 : Int32) z7 H locs 37 ls hw rfl h dX11_cone_37
  exact b00 s.heap [] hw
def V_X11_eastOfWay (z : ZS) (p0 : Int32) (post : Int32 → ZS → Prop) : Prop := ((p0 = (1 : Int32) → post (1 : Int32) z) ∧ (¬ p0 = (1 : Int32) → ((p0 = (2 : Int32) → post (-1 : Int32) z) ∧ (¬ p0 = (2 : Int32) → ((p0 = (5 : Int32) → post (1 : Int32) z) ∧ (¬ p0 = (5 : Int32) → ((p0 = (6 : Int32) → post (-1 : Int32) z) ∧ (¬ p0 = (6 : Int32) → ((p0 = (7 : Int32) → post (1 : Int32) z) ∧ (¬ p0 = (7 : Int32) → ((p0 = (8 : Int32) → post (-1 : Int32) z) ∧ (¬ p0 = (8 : Int32) → post (0 : Int32) z))))))))))))
set_option maxHeartbeats 4000000 in
set_option maxRecDepth 100000 in
theorem c_X11_eastOfWay (l : Launch) (D : va_G) (ad : Nat → Nat → Nat) (cs : Nat → ClassId) (sk : (Nat → Nat) × (Nat → Nat)) (z : ZS) (p0 : Int32) (post : Int32 → ZS → Prop) (h : V_X11_eastOfWay z p0 post) : MI l D ad cs sk yX11_eastOfWay cX11_eastOfWay 1 .int (rmq 0 0 0) [.int p0] z post := by
  refine MI.of RX11 rfl (by decide) (Nat.le_of_ble_eq_true rfl) ?_
  intro p e s m args below meth c A Q E hw hA hret ls hl
  have hx := E.1.1
  have hb := E.1.2.1
  have hml := E.1.2.2.1
  have hown := E.1.2.2.2.1
  have h0 := E.1.2.2.2.2
  have hl : lv_has ls 1 [(0, .int p0)] := hl
  unfold V_X11_eastOfWay at h
  have b00 : ∀ (H : Heap) (locs : List Loc), OW D ad cs A s.heap z H locs → W p l e (rmq 0 0 0) s m args below meth c H locs 0 0 Q (F0 m 0 ls []) := by
    intro H locs hw
    refine lv_iload_n hx hb dX11_eastOfWay_0 rfl (lv_at hl 0 rfl) ?_
    by_cases c1 : p0 = (1 : Int32)
    · replace h := h.1 c1
      refine lv_tableIn (tgt := 48) hx hb dX11_eastOfWay_1 (by rw [c1]; decide) (by rw [c1]; decide) (by rw [c1]; rfl) (by decide) ?_
      refine lv_iconst (v := 1) hx hb dX11_eastOfWay_48 (by decide) ?_
      exact hret (1 : Int32) z H locs 49 ls hw rfl h dX11_eastOfWay_49
    · replace h := h.2 c1
      by_cases c2 : p0 = (2 : Int32)
      · replace h := h.1 c2
        refine lv_tableIn (tgt := 50) hx hb dX11_eastOfWay_1 (by rw [c2]; decide) (by rw [c2]; decide) (by rw [c2]; rfl) (by decide) ?_
        refine lv_iconst (v := -1) hx hb dX11_eastOfWay_50 (by decide) ?_
        exact hret (-1 : Int32) z H locs 51 ls hw rfl h dX11_eastOfWay_51
      · replace h := h.2 c2
        by_cases c3 : p0 = (5 : Int32)
        · replace h := h.1 c3
          refine lv_tableIn (tgt := 48) hx hb dX11_eastOfWay_1 (by rw [c3]; decide) (by rw [c3]; decide) (by rw [c3]; rfl) (by decide) ?_
          refine lv_iconst (v := 1) hx hb dX11_eastOfWay_48 (by decide) ?_
          exact hret (1 : Int32) z H locs 49 ls hw rfl h dX11_eastOfWay_49
        · replace h := h.2 c3
          by_cases c4 : p0 = (6 : Int32)
          · replace h := h.1 c4
            refine lv_tableIn (tgt := 50) hx hb dX11_eastOfWay_1 (by rw [c4]; decide) (by rw [c4]; decide) (by rw [c4]; rfl) (by decide) ?_
            refine lv_iconst (v := -1) hx hb dX11_eastOfWay_50 (by decide) ?_
            exact hret (-1 : Int32) z H locs 51 ls hw rfl h dX11_eastOfWay_51
          · replace h := h.2 c4
            by_cases c5 : p0 = (7 : Int32)
            · replace h := h.1 c5
              refine lv_tableIn (tgt := 48) hx hb dX11_eastOfWay_1 (by rw [c5]; decide) (by rw [c5]; decide) (by rw [c5]; rfl) (by decide) ?_
              refine lv_iconst (v := 1) hx hb dX11_eastOfWay_48 (by decide) ?_
              exact hret (1 : Int32) z H locs 49 ls hw rfl h dX11_eastOfWay_49
            · replace h := h.2 c5
              by_cases c6 : p0 = (8 : Int32)
              · replace h := h.1 c6
                refine lv_tableIn (tgt := 50) hx hb dX11_eastOfWay_1 (by rw [c6]; decide) (by rw [c6]; decide) (by rw [c6]; rfl) (by decide) ?_
                refine lv_iconst (v := -1) hx hb dX11_eastOfWay_50 (by decide) ?_
                exact hret (-1 : Int32) z H locs 51 ls hw rfl h dX11_eastOfWay_51
              · replace h := h.2 c6
                have k7 : W p l e (rmq 0 0 0) s m args below meth c H locs 0 0 Q (F0 m 52 ls []) := by
                  refine lv_iconst (v := 0) hx hb dX11_eastOfWay_52 (by decide) ?_
                  exact hret (0 : Int32) z H locs 53 ls hw rfl h dX11_eastOfWay_53
                by_cases gk7 : (p0).toInt < 1 ∨ 8 < (p0).toInt
                · exact lv_tableOut (tgt := 52) hx hb dX11_eastOfWay_1 gk7 (by decide) k7
                · have g2 : (p0).toInt = 3 ∨ (p0).toInt = 4 := by have n0 := lv_neT c1 (by decide : ((1 : Int32) : Int32).toInt = 1); have n1 := lv_neT c2 (by decide : ((2 : Int32) : Int32).toInt = 2); have n2 := lv_neT c3 (by decide : ((5 : Int32) : Int32).toInt = 5); have n3 := lv_neT c4 (by decide : ((6 : Int32) : Int32).toInt = 6); have n4 := lv_neT c5 (by decide : ((7 : Int32) : Int32).toInt = 7); have n5 := lv_neT c6 (by decide : ((8 : Int32) : Int32).toInt = 8); omega
                  rcases g2 with g2 | g2
                  · exact lv_tableIn (tgt := 52) hx hb dX11_eastOfWay_1 (by rw [g2]; decide) (by rw [g2]; decide) (by rw [g2]; rfl) (by decide) k7
                  · exact lv_tableIn (tgt := 52) hx hb dX11_eastOfWay_1 (by rw [g2]; decide) (by rw [g2]; decide) (by rw [g2]; rfl) (by decide) k7
  exact b00 s.heap [] hw
def V_X11_northOfWay (z : ZS) (p0 : Int32) (post : Int32 → ZS → Prop) : Prop := ((p0 = (3 : Int32) → post (1 : Int32) z) ∧ (¬ p0 = (3 : Int32) → ((p0 = (4 : Int32) → post (-1 : Int32) z) ∧ (¬ p0 = (4 : Int32) → ((p0 = (5 : Int32) → post (1 : Int32) z) ∧ (¬ p0 = (5 : Int32) → ((p0 = (6 : Int32) → post (1 : Int32) z) ∧ (¬ p0 = (6 : Int32) → ((p0 = (7 : Int32) → post (-1 : Int32) z) ∧ (¬ p0 = (7 : Int32) → ((p0 = (8 : Int32) → post (-1 : Int32) z) ∧ (¬ p0 = (8 : Int32) → post (0 : Int32) z))))))))))))
set_option maxHeartbeats 4000000 in
set_option maxRecDepth 100000 in
theorem c_X11_northOfWay (l : Launch) (D : va_G) (ad : Nat → Nat → Nat) (cs : Nat → ClassId) (sk : (Nat → Nat) × (Nat → Nat)) (z : ZS) (p0 : Int32) (post : Int32 → ZS → Prop) (h : V_X11_northOfWay z p0 post) : MI l D ad cs sk yX11_northOfWay cX11_northOfWay 1 .int (rmq 0 0 0) [.int p0] z post := by
  refine MI.of RX11 rfl (by decide) (Nat.le_of_ble_eq_true rfl) ?_
  intro p e s m args below meth c A Q E hw hA hret ls hl
  have hx := E.1.1
  have hb := E.1.2.1
  have hml := E.1.2.2.1
  have hown := E.1.2.2.2.1
  have h0 := E.1.2.2.2.2
  have hl : lv_has ls 1 [(0, .int p0)] := hl
  unfold V_X11_northOfWay at h
  have b00 : ∀ (H : Heap) (locs : List Loc), OW D ad cs A s.heap z H locs → W p l e (rmq 0 0 0) s m args below meth c H locs 0 0 Q (F0 m 0 ls []) := by
    intro H locs hw
    refine lv_iload_n hx hb dX11_northOfWay_0 rfl (lv_at hl 0 rfl) ?_
    by_cases c1 : p0 = (3 : Int32)
    · replace h := h.1 c1
      refine lv_tableIn (tgt := 40) hx hb dX11_northOfWay_1 (by rw [c1]; decide) (by rw [c1]; decide) (by rw [c1]; rfl) (by decide) ?_
      refine lv_iconst (v := 1) hx hb dX11_northOfWay_40 (by decide) ?_
      exact hret (1 : Int32) z H locs 41 ls hw rfl h dX11_northOfWay_41
    · replace h := h.2 c1
      by_cases c2 : p0 = (4 : Int32)
      · replace h := h.1 c2
        refine lv_tableIn (tgt := 42) hx hb dX11_northOfWay_1 (by rw [c2]; decide) (by rw [c2]; decide) (by rw [c2]; rfl) (by decide) ?_
        refine lv_iconst (v := -1) hx hb dX11_northOfWay_42 (by decide) ?_
        exact hret (-1 : Int32) z H locs 43 ls hw rfl h dX11_northOfWay_43
      · replace h := h.2 c2
        by_cases c3 : p0 = (5 : Int32)
        · replace h := h.1 c3
          refine lv_tableIn (tgt := 40) hx hb dX11_northOfWay_1 (by rw [c3]; decide) (by rw [c3]; decide) (by rw [c3]; rfl) (by decide) ?_
          refine lv_iconst (v := 1) hx hb dX11_northOfWay_40 (by decide) ?_
          exact hret (1 : Int32) z H locs 41 ls hw rfl h dX11_northOfWay_41
        · replace h := h.2 c3
          by_cases c4 : p0 = (6 : Int32)
          · replace h := h.1 c4
            refine lv_tableIn (tgt := 40) hx hb dX11_northOfWay_1 (by rw [c4]; decide) (by rw [c4]; decide) (by rw [c4]; rfl) (by decide) ?_
            refine lv_iconst (v := 1) hx hb dX11_northOfWay_40 (by decide) ?_
            exact hret (1 : Int32) z H locs 41 ls hw rfl h dX11_northOfWay_41
          · replace h := h.2 c4
            by_cases c5 : p0 = (7 : Int32)
            · replace h := h.1 c5
              refine lv_tableIn (tgt := 42) hx hb dX11_northOfWay_1 (by rw [c5]; decide) (by rw [c5]; decide) (by rw [c5]; rfl) (by decide) ?_
              refine lv_iconst (v := -1) hx hb dX11_northOfWay_42 (by decide) ?_
              exact hret (-1 : Int32) z H locs 43 ls hw rfl h dX11_northOfWay_43
            · replace h := h.2 c5
              by_cases c6 : p0 = (8 : Int32)
              · replace h := h.1 c6
                refine lv_tableIn (tgt := 42) hx hb dX11_northOfWay_1 (by rw [c6]; decide) (by rw [c6]; decide) (by rw [c6]; rfl) (by decide) ?_
                refine lv_iconst (v := -1) hx hb dX11_northOfWay_42 (by decide) ?_
                exact hret (-1 : Int32) z H locs 43 ls hw rfl h dX11_northOfWay_43
              · replace h := h.2 c6
                refine lv_tableOut (tgt := 44) hx hb dX11_northOfWay_1 (by have n0 := lv_neT c1 (by decide : ((3 : Int32) : Int32).toInt = 3); have n1 := lv_neT c2 (by decide : ((4 : Int32) : Int32).toInt = 4); have n2 := lv_neT c3 (by decide : ((5 : Int32) : Int32).toInt = 5); have n3 := lv_neT c4 (by decide : ((6 : Int32) : Int32).toInt = 6); have n4 := lv_neT c5 (by decide : ((7 : Int32) : Int32).toInt = 7); have n5 := lv_neT c6 (by decide : ((8 : Int32) : Int32).toInt = 8); omega) (by decide) ?_
                refine lv_iconst (v := 0) hx hb dX11_northOfWay_44 (by decide) ?_
                exact hret (0 : Int32) z H locs 45 ls hw rfl h dX11_northOfWay_45
  exact b00 s.heap [] hw
def V_X11_steering_124 (post : Int32 → ZS → Prop) (rr45 : ZS → Int32 → Int32 → Int32 → Nat → Int32 → Int32 → Int32 → Prop) (z : ZS) (v2 : Int32) (v3 : Int32) (v4 : Int32) (v5 : Nat) (v6 : Int32) (v7 : Int32) (v8 : Int32) : Prop := (∀ t25 : Int32, t25 = v8 + (1 : Int32) → rr45 z v2 v3 v4 v5 v6 v7 t25)
def V_X11_steering_45 (post : Int32 → ZS → Prop) : Nat → ZS → Int32 → Int32 → Int32 → Nat → Int32 → Int32 → Int32 → Prop
  | 0, _, _, _, _, _, _, _, _ => False
  | (n + 1), z, v2, v3, v4, v5, v6, v7, v8 => (((8 : Int32) < v8 → ((¬ v4 = 0 → post v6 z) ∧ (v4 = 0 → post v7 z))) ∧ (¬ (8 : Int32) < v8 → V_X3_begin z 4 v5 v2 v3 (1 : Int32) (fun z12 => V_X11_eastOfWay z12 v8 (fun r15 z14 => (v5 ∈ zP z14 ∧ V_X11_northOfWay z14 v8 (fun r17 z16 => (v5 ∈ zP z16 ∧ V_X3_holdWay z16 4 (r15 * (zF z14 v5 6)) (r17 * (zF z16 v5 6)) (fun z18 => V_X3_land z18 4 (fun z20 => V_X3_off z20 4 (fun r23 z22 => ((v6 ≤ r23 → V_X11_steering_124 post (V_X11_steering_45 post n) z22 v2 v3 v4 v5 v6 v7 v8) ∧ (¬ v6 ≤ r23 → V_X11_steering_124 post (V_X11_steering_45 post n) z22 v2 v3 v4 v5 r23 v8 v8))))))))))))
def V_X11_steering (z : ZS) (p1 : Int32) (p2 : Int32) (p3 : Int32) (p4 : Int32) (post : Int32 → ZS → Prop) : Prop := V_X0_fallerAt z 1 p1 (fun r2 z1 => ((r2 = none → post (-1 : Int32) z1) ∧ (∀ a3 : Nat, r2 = some a3 → V_X11_isPlace z1 p2 p3 (fun r5 z4 => ((r5 = 0 → post (-1 : Int32) z4) ∧ (¬ r5 = 0 → V_X11_isFrom z4 (0 : Int32) p4 (1 : Int32) (fun r8 z7 => ((¬ r8 = 0 → (∃ n26 : Nat, V_X11_steering_45 post n26 z7 p2 p3 p4 a3 (2147483647 : Int32) (0 : Int32) (0 : Int32))) ∧ (r8 = 0 → post (-1 : Int32) z7)))))))))
set_option maxHeartbeats 4000000 in
set_option maxRecDepth 100000 in
theorem c_X11_steering (l : Launch) (D : va_G) (ad : Nat → Nat → Nat) (cs : Nat → ClassId) (sk : (Nat → Nat) × (Nat → Nat)) (z : ZS) (p1 : Int32) (p2 : Int32) (p3 : Int32) (p4 : Int32) (post : Int32 → ZS → Prop) (h : V_X11_steering z p1 p2 p3 p4 post) : MI l D ad cs sk yX11_steering cX11_steering 10 .int (rmq 6 0 0) [.ref (ad 0 100), .int p1, .int p2, .int p3, .int p4] z post := by
  refine MI.of RX11 rfl (by decide) (Nat.le_of_ble_eq_true rfl) ?_
  intro p e s m args below meth c A Q E hw hA hret ls hl
  have hx := E.1.1
  have hb := E.1.2.1
  have hml := E.1.2.2.1
  have hown := E.1.2.2.2.1
  have h0 := E.1.2.2.2.2
  have hl : lv_has ls 10 [(0, .ref (ad 0 100)), (1, .int p1), (2, .int p2), (3, .int p3), (4, .int p4)] := hl
  unfold V_X11_steering at h
  have b45 : ∀ (n : Nat) (z : ZS) (v2 : Int32) (v3 : Int32) (v4 : Int32) (v5 : Nat) (v6 : Int32) (v7 : Int32) (v8 : Int32), ∀ (H : Heap) (locs : List Loc), OW D ad cs A s.heap z H locs → ∀ ls : Array Slot, lv_has ls 10 [(0, .ref (ad 0 100)), (2, .int v2), (3, .int v3), (4, .int v4), (5, .ref v5), (6, .int v6), (7, .int v7), (8, .int v8)] → V_X11_steering_45 post n z v2 v3 v4 v5 v6 v7 v8 → W p l e (rmq 6 0 0) s m args below meth c H locs 0 0 Q (F0 m 45 ls []) := by
    intro n
    induction n with
    | zero =>
      intro z v2 v3 v4 v5 v6 v7 v8 H locs hw ls hl h
      exact h.elim
    | succ n45x ih45 =>
      have b124 : ∀ (z : ZS) (v2 : Int32) (v3 : Int32) (v4 : Int32) (v5 : Nat) (v6 : Int32) (v7 : Int32) (v8 : Int32), ∀ (H : Heap) (locs : List Loc), OW D ad cs A s.heap z H locs → ∀ ls : Array Slot, lv_has ls 10 [(0, .ref (ad 0 100)), (2, .int v2), (3, .int v3), (4, .int v4), (5, .ref v5), (6, .int v6), (7, .int v7), (8, .int v8)] → V_X11_steering_124 post (V_X11_steering_45 post n45x) z v2 v3 v4 v5 v6 v7 v8 → W p l e (rmq 6 0 0) s m args below meth c H locs 0 0 Q (F0 m 124 ls []) := by
        intro z v2 v3 v4 v5 v6 v7 v8 H locs hw ls hl h
        unfold V_X11_steering_124 at h
        obtain ⟨t25, et25⟩ : ∃ y : Int32, y = v8 + (1 : Int32) := ⟨_, rfl⟩
        replace h := h t25 et25
        refine lv_iinc (v := t25) (lv' := [(8, .int t25), (0, .ref (ad 0 100)), (2, .int v2), (3, .int v3), (4, .int v4), (5, .ref v5), (6, .int v6), (7, .int v7)]) hx hb dX11_steering_124 hl (k := 7) rfl (by rw [et25]; rfl) (by decide) rfl (fun ls hl => ?_)
        refine lv_goto (tgt := 45) hx hb dX11_steering_127 (by decide) ?_
        exact ih45 z v2 v3 v4 v5 v6 v7 t25 H locs hw ls (lv_sub hl [1, 2, 3, 4, 5, 6, 7, 0] rfl) h
      intro z v2 v3 v4 v5 v6 v7 v8 H locs hw ls hl h
      unfold V_X11_steering_45 at h
      refine lv_iload hx hb dX11_steering_45 (lv_at hl 7 rfl) ?_
      refine lv_bipush (v := 8) hx hb dX11_steering_47 (by decide) ?_
      refine lv_icmp_gt (tgt := 130) hx hb dX11_steering_49 (by decide) (fun c10 => ?_) (fun c10 => ?_)
      · replace h := h.1 c10
        refine lv_iload hx hb dX11_steering_130 (lv_at hl 3 rfl) ?_
        refine lv_if_ne (tgt := 140) hx hb dX11_steering_132 (by decide) (fun c11 => ?_) (fun c11 => ?_)
        · replace h := h.1 c11
          refine lv_iload hx hb dX11_steering_140 (lv_at hl 5 rfl) ?_
          exact hret v6 z H locs 142 ls hw rfl h dX11_steering_142
        · replace h := h.2 c11
          refine lv_iload hx hb dX11_steering_135 (lv_at hl 6 rfl) ?_
          refine lv_goto (tgt := 142) hx hb dX11_steering_137 (by decide) ?_
          exact hret v7 z H locs 142 ls hw rfl h dX11_steering_142
      · replace h := h.2 c10
        refine lv_aload_n hx hb dX11_steering_52 rfl (lv_at hl 0 rfl) ?_
        refine xgC E hw (c1 := 11) (t := (4, 100)) rfl ky_0_100 fo_11_4 rfl qf_11_31 dX11_steering_53 ?_
        refine lv_aload hx hb dX11_steering_56 (lv_at hl 4 rfl) ?_
        refine lv_iload_n hx hb dX11_steering_58 rfl (lv_at hl 1 rfl) ?_
        refine lv_iload_n hx hb dX11_steering_59 rfl (lv_at hl 2 rfl) ?_
        refine lv_iconst (v := 1) hx hb dX11_steering_60 (by decide) ?_
        have hq := h
        clear h
        refine xcVV (As := [.ref v5, .int v2, .int v3, .int (1 : Int32)]) (rest := []) E hw hA (c_X3_begin l D ad cs sk z 4 v5 v2 v3 (1 : Int32) _ is_4 hq) kc_11_143 yo_X3_begin ⟨Nat.le_of_ble_eq_true rfl, Nat.le_of_ble_eq_true rfl⟩ (xrc E hw ky_4_100 rfl) rfl hl.1 rfl (Nat.le_of_ble_eq_true rfl) dX11_steering_61 ⟨Nat.le_of_ble_eq_true rfl, Nat.le_of_ble_eq_true rfl⟩ (fun z12 H locs h hw => ?_)
        refine lv_aload_n hx hb dX11_steering_64 rfl (lv_at hl 0 rfl) ?_
        refine xgC E hw (c1 := 11) (t := (4, 100)) rfl ky_0_100 fo_11_4 rfl qf_11_31 dX11_steering_65 ?_
        refine lv_iload hx hb dX11_steering_68 (lv_at hl 7 rfl) ?_
        have hq := h
        clear h
        refine xcSI (As := [.int v8]) (rest := [.ref (ad 4 100)]) E hw hA (c_X11_eastOfWay l D ad cs sk z12 v8 _ hq) kc_11_218 yo_X11_eastOfWay ⟨Nat.le_of_ble_eq_true rfl, Nat.le_of_ble_eq_true rfl⟩ rfl hl.1 rfl (Nat.le_of_ble_eq_true rfl) dX11_steering_70 ⟨Nat.le_of_ble_eq_true rfl, Nat.le_of_ble_eq_true rfl⟩ (fun r15 z14 H locs h hw => ?_)
        refine lv_aload hx hb dX11_steering_73 (lv_at hl 4 rfl) ?_
        obtain ⟨hm, h⟩ := h
        refine xgF E hw hm (k := 6) (ref := "TenYards$Faller") (by decide) qf_11_118 (Or.inl rfl) dX11_steering_75 ?_
        refine lv_imul hx hb dX11_steering_78 ?_
        refine lv_iload hx hb dX11_steering_79 (lv_at hl 7 rfl) ?_
        have hq := h
        clear h
        refine xcSI (As := [.int v8]) (rest := [.int (r15 * (zF z14 v5 6)), .ref (ad 4 100)]) E hw hA (c_X11_northOfWay l D ad cs sk z14 v8 _ hq) kc_11_221 yo_X11_northOfWay ⟨Nat.le_of_ble_eq_true rfl, Nat.le_of_ble_eq_true rfl⟩ rfl hl.1 rfl (Nat.le_of_ble_eq_true rfl) dX11_steering_81 ⟨Nat.le_of_ble_eq_true rfl, Nat.le_of_ble_eq_true rfl⟩ (fun r17 z16 H locs h hw => ?_)
        refine lv_aload hx hb dX11_steering_84 (lv_at hl 4 rfl) ?_
        obtain ⟨hm, h⟩ := h
        refine xgF E hw hm (k := 6) (ref := "TenYards$Faller") (by decide) qf_11_118 (Or.inl rfl) dX11_steering_86 ?_
        refine lv_imul hx hb dX11_steering_89 ?_
        have hq := h
        clear h
        refine xcVV (As := [.int (r15 * (zF z14 v5 6)), .int (r17 * (zF z16 v5 6))]) (rest := []) E hw hA (c_X3_holdWay l D ad cs sk z16 4 (r15 * (zF z14 v5 6)) (r17 * (zF z16 v5 6)) _ is_4 hq) kc_11_160 yo_X3_holdWay ⟨Nat.le_of_ble_eq_true rfl, Nat.le_of_ble_eq_true rfl⟩ (xrc E hw ky_4_100 rfl) rfl hl.1 rfl (Nat.le_of_ble_eq_true rfl) dX11_steering_90 ⟨Nat.le_of_ble_eq_true rfl, Nat.le_of_ble_eq_true rfl⟩ (fun z18 H locs h hw => ?_)
        refine lv_aload_n hx hb dX11_steering_93 rfl (lv_at hl 0 rfl) ?_
        refine xgC E hw (c1 := 11) (t := (4, 100)) rfl ky_0_100 fo_11_4 rfl qf_11_31 dX11_steering_94 ?_
        have hq := h
        clear h
        refine xcVV (As := []) (rest := []) E hw hA (c_X3_land l D ad cs sk z18 4 _ is_4 hq) kc_11_167 yo_X3_land ⟨Nat.le_of_ble_eq_true rfl, Nat.le_of_ble_eq_true rfl⟩ (xrc E hw ky_4_100 rfl) rfl hl.1 rfl (Nat.le_of_ble_eq_true rfl) dX11_steering_97 ⟨Nat.le_of_ble_eq_true rfl, Nat.le_of_ble_eq_true rfl⟩ (fun z20 H locs h hw => ?_)
        refine lv_aload_n hx hb dX11_steering_100 rfl (lv_at hl 0 rfl) ?_
        refine xgC E hw (c1 := 11) (t := (4, 100)) rfl ky_0_100 fo_11_4 rfl qf_11_31 dX11_steering_101 ?_
        have hq := h
        clear h
        refine xcVI (As := []) (rest := []) E hw hA (c_X3_off l D ad cs sk z20 4 _ is_4 hq) kc_11_214 yo_X3_off ⟨Nat.le_of_ble_eq_true rfl, Nat.le_of_ble_eq_true rfl⟩ (xrc E hw ky_4_100 rfl) rfl hl.1 rfl (Nat.le_of_ble_eq_true rfl) dX11_steering_104 ⟨Nat.le_of_ble_eq_true rfl, Nat.le_of_ble_eq_true rfl⟩ (fun r23 z22 H locs h hw => ?_)
        refine lv_istore (lv' := [(9, .int r23), (0, .ref (ad 0 100)), (2, .int v2), (3, .int v3), (4, .int v4), (5, .ref v5), (6, .int v6), (7, .int v7), (8, .int v8)]) hx hb dX11_steering_107 hl (by decide) rfl (fun ls hl => ?_)
        refine lv_iload hx hb dX11_steering_109 (lv_at hl 0 rfl) ?_
        refine lv_iload hx hb dX11_steering_111 (lv_at hl 6 rfl) ?_
        refine lv_icmp_ge (tgt := 124) hx hb dX11_steering_113 (by decide) (fun c24 => ?_) (fun c24 => ?_)
        · replace h := h.1 c24
          exact b124 z22 v2 v3 v4 v5 v6 v7 v8 H locs hw ls (lv_sub hl [1, 2, 3, 4, 5, 6, 7, 8] rfl) h
        · replace h := h.2 c24
          refine lv_iload hx hb dX11_steering_116 (lv_at hl 0 rfl) ?_
          refine lv_istore (lv' := [(6, .int r23), (9, .int r23), (0, .ref (ad 0 100)), (2, .int v2), (3, .int v3), (4, .int v4), (5, .ref v5), (7, .int v7), (8, .int v8)]) hx hb dX11_steering_118 hl (by decide) rfl (fun ls hl => ?_)
          refine lv_iload hx hb dX11_steering_120 (lv_at hl 8 rfl) ?_
          refine lv_istore (lv' := [(7, .int v8), (6, .int r23), (9, .int r23), (0, .ref (ad 0 100)), (2, .int v2), (3, .int v3), (4, .int v4), (5, .ref v5), (8, .int v8)]) hx hb dX11_steering_122 hl (by decide) rfl (fun ls hl => ?_)
          exact b124 z22 v2 v3 v4 v5 r23 v8 v8 H locs hw ls (lv_sub hl [3, 4, 5, 6, 7, 1, 0, 8] rfl) h
  have b00 : ∀ (H : Heap) (locs : List Loc), OW D ad cs A s.heap z H locs → W p l e (rmq 6 0 0) s m args below meth c H locs 0 0 Q (F0 m 0 ls []) := by
    intro H locs hw
    refine lv_aload_n hx hb dX11_steering_0 rfl (lv_at hl 0 rfl) ?_
    refine xgC E hw (c1 := 11) (t := (1, 100)) rfl ky_0_100 fo_11_0 rfl qf_11_10 dX11_steering_1 ?_
    refine lv_iload_n hx hb dX11_steering_4 rfl (lv_at hl 1 rfl) ?_
    have hq := h
    clear h
    refine xcVA (As := [.int p1]) (rest := []) E hw hA (c_X0_fallerAt l D ad cs sk z 1 p1 _ is_1 hq) kc_11_97 yo_X0_fallerAt ⟨Nat.le_of_ble_eq_true rfl, Nat.le_of_ble_eq_true rfl⟩ (xrc E hw ky_1_100 rfl) rfl hl.1 rfl (Nat.le_of_ble_eq_true rfl) dX11_steering_5 ⟨Nat.le_of_ble_eq_true rfl, Nat.le_of_ble_eq_true rfl⟩ (fun r2 z1 H locs h hw => ?_)
    refine xsqastore (lv' := [(5, va_rf r2), (0, .ref (ad 0 100)), (1, .int p1), (2, .int p2), (3, .int p3), (4, .int p4)]) hx hb dX11_steering_8 hl (by decide) rfl (fun ls hl => ?_)
    refine xlqaload hx hb dX11_steering_10 (lv_at hl 0 rfl) ?_
    refine xnul (tgt := 33) hx hb dX11_steering_12 (by decide) (fun ea3 => ?_) (fun a3 ea3 => ?_)
    · replace h := h.1 ea3
      subst ea3
      have hl : lv_has ls 10 [(5, .null), (0, .ref (ad 0 100)), (1, .int p1), (2, .int p2), (3, .int p3), (4, .int p4)] := hl
      refine lv_iconst (v := -1) hx hb dX11_steering_33 (by decide) ?_
      exact hret (-1 : Int32) z1 H locs 34 ls hw rfl h dX11_steering_34
    · replace h := h.2 a3 ea3
      subst ea3
      have hl : lv_has ls 10 [(5, .ref a3), (0, .ref (ad 0 100)), (1, .int p1), (2, .int p2), (3, .int p3), (4, .int p4)] := hl
      refine lv_iload_n hx hb dX11_steering_15 rfl (lv_at hl 3 rfl) ?_
      refine lv_iload_n hx hb dX11_steering_16 rfl (lv_at hl 4 rfl) ?_
      have hq := h
      clear h
      refine xcSI (As := [.int p2, .int p3]) (rest := []) E hw hA (c_X11_isPlace l D ad cs sk z1 p2 p3 _ hq) kc_11_125 yo_X11_isPlace ⟨Nat.le_of_ble_eq_true rfl, Nat.le_of_ble_eq_true rfl⟩ rfl hl.1 rfl (Nat.le_of_ble_eq_true rfl) dX11_steering_17 ⟨Nat.le_of_ble_eq_true rfl, Nat.le_of_ble_eq_true rfl⟩ (fun r5 z4 H locs h hw => ?_)
      refine lv_if_eq (tgt := 33) hx hb dX11_steering_20 (by decide) (fun c6 => ?_) (fun c6 => ?_)
      · replace h := h.1 c6
        refine lv_iconst (v := -1) hx hb dX11_steering_33 (by decide) ?_
        exact hret (-1 : Int32) z4 H locs 34 ls hw rfl h dX11_steering_34
      · replace h := h.2 c6
        refine lv_iconst (v := 0) hx hb dX11_steering_23 (by decide) ?_
        refine lv_iload hx hb dX11_steering_24 (lv_at hl 5 rfl) ?_
        refine lv_iconst (v := 1) hx hb dX11_steering_26 (by decide) ?_
        have hq := h
        clear h
        refine xcSI (As := [.int (0 : Int32), .int p4, .int (1 : Int32)]) (rest := []) E hw hA (c_X11_isFrom l D ad cs sk z4 (0 : Int32) p4 (1 : Int32) _ hq) kc_11_83 yo_X11_isFrom ⟨Nat.le_of_ble_eq_true rfl, Nat.le_of_ble_eq_true rfl⟩ rfl hl.1 rfl (Nat.le_of_ble_eq_true rfl) dX11_steering_27 ⟨Nat.le_of_ble_eq_true rfl, Nat.le_of_ble_eq_true rfl⟩ (fun r8 z7 H locs h hw => ?_)
        refine lv_if_ne (tgt := 35) hx hb dX11_steering_30 (by decide) (fun c9 => ?_) (fun c9 => ?_)
        · replace h := h.1 c9
          refine lv_ldc (v := 2147483647) hx hb hown (h0 _ qk_11_172) dX11_steering_35 ?_
          refine lv_istore (lv' := [(6, .int (2147483647 : Int32)), (5, .ref a3), (0, .ref (ad 0 100)), (1, .int p1), (2, .int p2), (3, .int p3), (4, .int p4)]) hx hb dX11_steering_37 hl (by decide) rfl (fun ls hl => ?_)
          refine lv_iconst (v := 0) hx hb dX11_steering_39 (by decide) ?_
          refine lv_istore (lv' := [(7, .int (0 : Int32)), (6, .int (2147483647 : Int32)), (5, .ref a3), (0, .ref (ad 0 100)), (1, .int p1), (2, .int p2), (3, .int p3), (4, .int p4)]) hx hb dX11_steering_40 hl (by decide) rfl (fun ls hl => ?_)
          refine lv_iconst (v := 0) hx hb dX11_steering_42 (by decide) ?_
          refine lv_istore (lv' := [(8, .int (0 : Int32)), (7, .int (0 : Int32)), (6, .int (2147483647 : Int32)), (5, .ref a3), (0, .ref (ad 0 100)), (1, .int p1), (2, .int p2), (3, .int p3), (4, .int p4)]) hx hb dX11_steering_43 hl (by decide) rfl (fun ls hl => ?_)
          obtain ⟨n26, h⟩ := h
          exact b45 n26 z7 p2 p3 p4 a3 (2147483647 : Int32) (0 : Int32) (0 : Int32) H locs hw ls (lv_sub hl [4, 6, 7, 8, 3, 2, 1, 0] rfl) h
        · replace h := h.2 c9
          refine lv_iconst (v := -1) hx hb dX11_steering_33 (by decide) ?_
          exact hret (-1 : Int32) z7 H locs 34 ls hw rfl h dX11_steering_34
  exact b00 s.heap [] hw
def V_X11_last_52 (post : Int32 → ZS → Prop) (rr21 : ZS → Nat → Int32 → Int32 → Prop) (z : ZS) (v2 : Nat) (v3 : Int32) (v4 : Int32) : Prop := (∀ t6 : Int32, t6 = v4 + (1 : Int32) → rr21 z v2 v3 t6)
def V_X11_last_21 (post : Int32 → ZS → Prop) : Nat → ZS → Nat → Int32 → Int32 → Prop
  | 0, _, _, _, _ => False
  | (n + 1), z, v2, v3, v4 => (((20 : Int32) < v4 → post v3 z) ∧ (¬ (20 : Int32) < v4 → (v2 ∈ zP z ∧ ((((zI z 1 4) - (v4 * (zF z v2 4))) < (200 : Int32) → V_X11_last_52 post (V_X11_last_21 post n) z v2 v3 v4) ∧ (¬ ((zI z 1 4) - (v4 * (zF z v2 4))) < (200 : Int32) → V_X11_last_52 post (V_X11_last_21 post n) z v2 v4 v4)))))
def V_X11_last (z : ZS) (p1 : Int32) (post : Int32 → ZS → Prop) : Prop := V_X0_fallerAt z 1 p1 (fun r2 z1 => ((r2 = none → post (-1 : Int32) z1) ∧ (∀ a3 : Nat, r2 = some a3 → (∃ n7 : Nat, V_X11_last_21 post n7 z1 a3 (-4 : Int32) (0 : Int32)))))
set_option maxHeartbeats 4000000 in
set_option maxRecDepth 100000 in
theorem c_X11_last (l : Launch) (D : va_G) (ad : Nat → Nat → Nat) (cs : Nat → ClassId) (sk : (Nat → Nat) × (Nat → Nat)) (z : ZS) (p1 : Int32) (post : Int32 → ZS → Prop) (h : V_X11_last z p1 post) : MI l D ad cs sk yX11_last cX11_last 5 .int (rmq 1 0 0) [.ref (ad 0 100), .int p1] z post := by
  refine MI.of RX11 rfl (by decide) (Nat.le_of_ble_eq_true rfl) ?_
  intro p e s m args below meth c A Q E hw hA hret ls hl
  have hx := E.1.1
  have hb := E.1.2.1
  have hml := E.1.2.2.1
  have hown := E.1.2.2.2.1
  have h0 := E.1.2.2.2.2
  have hl : lv_has ls 5 [(0, .ref (ad 0 100)), (1, .int p1)] := hl
  unfold V_X11_last at h
  have b21 : ∀ (n : Nat) (z : ZS) (v2 : Nat) (v3 : Int32) (v4 : Int32), ∀ (H : Heap) (locs : List Loc), OW D ad cs A s.heap z H locs → ∀ ls : Array Slot, lv_has ls 5 [(0, .ref (ad 0 100)), (2, .ref v2), (3, .int v3), (4, .int v4)] → V_X11_last_21 post n z v2 v3 v4 → W p l e (rmq 1 0 0) s m args below meth c H locs 0 0 Q (F0 m 21 ls []) := by
    intro n
    induction n with
    | zero =>
      intro z v2 v3 v4 H locs hw ls hl h
      exact h.elim
    | succ n21x ih21 =>
      have b52 : ∀ (z : ZS) (v2 : Nat) (v3 : Int32) (v4 : Int32), ∀ (H : Heap) (locs : List Loc), OW D ad cs A s.heap z H locs → ∀ ls : Array Slot, lv_has ls 5 [(0, .ref (ad 0 100)), (2, .ref v2), (3, .int v3), (4, .int v4)] → V_X11_last_52 post (V_X11_last_21 post n21x) z v2 v3 v4 → W p l e (rmq 1 0 0) s m args below meth c H locs 0 0 Q (F0 m 52 ls []) := by
        intro z v2 v3 v4 H locs hw ls hl h
        unfold V_X11_last_52 at h
        obtain ⟨t6, et6⟩ : ∃ y : Int32, y = v4 + (1 : Int32) := ⟨_, rfl⟩
        replace h := h t6 et6
        refine lv_iinc (v := t6) (lv' := [(4, .int t6), (0, .ref (ad 0 100)), (2, .ref v2), (3, .int v3)]) hx hb dX11_last_52 hl (k := 3) rfl (by rw [et6]; rfl) (by decide) rfl (fun ls hl => ?_)
        refine lv_goto (tgt := 21) hx hb dX11_last_55 (by decide) ?_
        exact ih21 z v2 v3 t6 H locs hw ls (lv_sub hl [1, 2, 3, 0] rfl) h
      intro z v2 v3 v4 H locs hw ls hl h
      unfold V_X11_last_21 at h
      refine lv_iload hx hb dX11_last_21 (lv_at hl 3 rfl) ?_
      refine lv_bipush (v := 20) hx hb dX11_last_23 (by decide) ?_
      refine lv_icmp_gt (tgt := 58) hx hb dX11_last_25 (by decide) (fun c4 => ?_) (fun c4 => ?_)
      · replace h := h.1 c4
        refine lv_iload_n hx hb dX11_last_58 rfl (lv_at hl 2 rfl) ?_
        exact hret v3 z H locs 59 ls hw rfl h dX11_last_59
      · replace h := h.2 c4
        refine lv_aload_n hx hb dX11_last_28 rfl (lv_at hl 0 rfl) ?_
        refine xgC E hw (c1 := 11) (t := (1, 100)) rfl ky_0_100 fo_11_0 rfl qf_11_10 dX11_last_29 ?_
        refine xgI E hw (c1 := 0) rfl ky_1_100 fo_0_4 qf_11_94 dX11_last_32 ?_
        refine lv_iload hx hb dX11_last_35 (lv_at hl 3 rfl) ?_
        refine lv_aload_n hx hb dX11_last_37 rfl (lv_at hl 1 rfl) ?_
        obtain ⟨hm, h⟩ := h
        refine xgF E hw hm (k := 4) (ref := "TenYards$Faller") (by decide) qf_11_112 (Or.inl rfl) dX11_last_38 ?_
        refine lv_imul hx hb dX11_last_41 ?_
        refine lv_isub hx hb dX11_last_42 ?_
        refine lv_sipush (v := 200) hx hb dX11_last_43 (by decide) ?_
        refine lv_icmp_lt (tgt := 52) hx hb dX11_last_46 (by decide) (fun c5 => ?_) (fun c5 => ?_)
        · replace h := h.1 c5
          exact b52 z v2 v3 v4 H locs hw ls (lv_sub hl [0, 1, 2, 3] rfl) h
        · replace h := h.2 c5
          refine lv_iload hx hb dX11_last_49 (lv_at hl 3 rfl) ?_
          refine lv_istore_n (lv' := [(3, .int v4), (0, .ref (ad 0 100)), (2, .ref v2), (4, .int v4)]) hx hb dX11_last_51 rfl hl (by decide) rfl (fun ls hl => ?_)
          exact b52 z v2 v4 v4 H locs hw ls (lv_sub hl [1, 2, 0, 3] rfl) h
  have b00 : ∀ (H : Heap) (locs : List Loc), OW D ad cs A s.heap z H locs → W p l e (rmq 1 0 0) s m args below meth c H locs 0 0 Q (F0 m 0 ls []) := by
    intro H locs hw
    refine lv_aload_n hx hb dX11_last_0 rfl (lv_at hl 0 rfl) ?_
    refine xgC E hw (c1 := 11) (t := (1, 100)) rfl ky_0_100 fo_11_0 rfl qf_11_10 dX11_last_1 ?_
    refine lv_iload_n hx hb dX11_last_4 rfl (lv_at hl 1 rfl) ?_
    have hq := h
    clear h
    refine xcVA (As := [.int p1]) (rest := []) E hw hA (c_X0_fallerAt l D ad cs sk z 1 p1 _ is_1 hq) kc_11_97 yo_X0_fallerAt ⟨Nat.le_of_ble_eq_true rfl, Nat.le_of_ble_eq_true rfl⟩ (xrc E hw ky_1_100 rfl) rfl hl.1 rfl (Nat.le_of_ble_eq_true rfl) dX11_last_5 ⟨Nat.le_of_ble_eq_true rfl, Nat.le_of_ble_eq_true rfl⟩ (fun r2 z1 H locs h hw => ?_)
    refine xsqastore_n (lv' := [(2, va_rf r2), (0, .ref (ad 0 100)), (1, .int p1)]) hx hb dX11_last_8 rfl hl (by decide) rfl (fun ls hl => ?_)
    refine xlqaload_n hx hb dX11_last_9 rfl (lv_at hl 0 rfl) ?_
    refine xnnl (tgt := 15) hx hb dX11_last_10 (by decide) (fun ea3 => ?_) (fun a3 ea3 => ?_)
    · replace h := h.1 ea3
      subst ea3
      have hl : lv_has ls 5 [(2, .null), (0, .ref (ad 0 100)), (1, .int p1)] := hl
      refine lv_iconst (v := -1) hx hb dX11_last_13 (by decide) ?_
      exact hret (-1 : Int32) z1 H locs 14 ls hw rfl h dX11_last_14
    · replace h := h.2 a3 ea3
      subst ea3
      have hl : lv_has ls 5 [(2, .ref a3), (0, .ref (ad 0 100)), (1, .int p1)] := hl
      refine lv_bipush (v := -4) hx hb dX11_last_15 (by decide) ?_
      refine lv_istore_n (lv' := [(3, .int (-4 : Int32)), (2, .ref a3), (0, .ref (ad 0 100)), (1, .int p1)]) hx hb dX11_last_17 rfl hl (by decide) rfl (fun ls hl => ?_)
      refine lv_iconst (v := 0) hx hb dX11_last_18 (by decide) ?_
      refine lv_istore (lv' := [(4, .int (0 : Int32)), (3, .int (-4 : Int32)), (2, .ref a3), (0, .ref (ad 0 100)), (1, .int p1)]) hx hb dX11_last_19 hl (by decide) rfl (fun ls hl => ?_)
      obtain ⟨n7, h⟩ := h
      exact b21 n7 z1 a3 (-4 : Int32) (0 : Int32) H locs hw ls (lv_sub hl [3, 2, 1, 0] rfl) h
  exact b00 s.heap [] hw
def V_X11_safe_121 (post : Int32 → ZS → Prop) (rr33 : ZS → Int32 → Int32 → Int32 → Int32 → Int32 → Int32 → Prop) (rr46 : ZS → Int32 → Int32 → Int32 → Int32 → Int32 → Int32 → Int32 → Prop) (z : ZS) (v1 : Int32) (v2 : Int32) (v3 : Int32) (v4 : Int32) (v5 : Int32) (v6 : Int32) (v7 : Int32) : Prop := (∀ t12 : Int32, t12 = v7 + (100 : Int32) → rr46 z v1 v2 v3 v4 v5 v6 t12)
def V_X11_safe_119 (post : Int32 → ZS → Prop) (rr33 : ZS → Int32 → Int32 → Int32 → Int32 → Int32 → Int32 → Prop) (rr46 : ZS → Int32 → Int32 → Int32 → Int32 → Int32 → Int32 → Int32 → Prop) (z : ZS) (v1 : Int32) (v2 : Int32) (v3 : Int32) (v4 : Int32) (v6 : Int32) (v7 : Int32) (s0 : Int32) : Prop := V_X11_safe_121 post rr33 rr46 z v1 v2 v3 v4 s0 v6 v7
def V_X11_safe_46 (post : Int32 → ZS → Prop) (rr33 : ZS → Int32 → Int32 → Int32 → Int32 → Int32 → Int32 → Prop) : Nat → ZS → Int32 → Int32 → Int32 → Int32 → Int32 → Int32 → Int32 → Prop
  | 0, _, _, _, _, _, _, _, _ => False
  | (n + 1), z, v1, v2, v3, v4, v5, v6, v7 => (((3000 : Int32) < v7 → (∀ t9 : Int32, t9 = v6 + (100 : Int32) → rr33 z v1 v2 v3 v4 v5 t9)) ∧ (¬ (3000 : Int32) < v7 → (∀ t10 : Int32, t10 = ((if 0 ≤ ((v6 * (10 : Int32)) - v1) then ((v6 * (10 : Int32)) - v1) else 0 - ((v6 * (10 : Int32)) - v1)) + (if 0 ≤ ((v7 * (10 : Int32)) - v2) then ((v7 * (10 : Int32)) - v2) else 0 - ((v7 * (10 : Int32)) - v2))) → ((v4 ≤ t10 → V_X11_safe_121 post rr33 (V_X11_safe_46 post rr33 n) z v1 v2 v3 v4 v5 v6 v7) ∧ (¬ v4 ≤ t10 → V_X0_bars z 1 (v6 * (10 : Int32)) (v7 * (10 : Int32)) (fun r14 z13 => ((¬ r14 = 0 → V_X11_safe_121 post rr33 (V_X11_safe_46 post rr33 n) z13 v1 v2 v3 v4 v5 v6 v7) ∧ (r14 = 0 → ((¬ v3 = 0 → V_X11_safe_119 post rr33 (V_X11_safe_46 post rr33 n) z13 v1 v2 v3 t10 v6 v7 v7) ∧ (v3 = 0 → V_X11_safe_119 post rr33 (V_X11_safe_46 post rr33 n) z13 v1 v2 v3 t10 v6 v7 v6))))))))))
def V_X11_safe_33 (post : Int32 → ZS → Prop) : Nat → ZS → Int32 → Int32 → Int32 → Int32 → Int32 → Int32 → Prop
  | 0, _, _, _, _, _, _, _ => False
  | (n + 1), z, v1, v2, v3, v4, v5, v6 => (((3000 : Int32) < v6 → post v5 z) ∧ (¬ (3000 : Int32) < v6 → (∃ n17 : Nat, V_X11_safe_46 post (V_X11_safe_33 post n) n17 z v1 v2 v3 v4 v5 v6 (-3000 : Int32))))
def V_X11_safe (z : ZS) (p1 : Int32) (p2 : Int32) (p3 : Int32) (post : Int32 → ZS → Prop) : Prop := V_X11_isPlace z p1 p2 (fun r2 z1 => ((r2 = 0 → post (-1000000001 : Int32) z1) ∧ (¬ r2 = 0 → V_X11_isFrom z1 (0 : Int32) p3 (1 : Int32) (fun r5 z4 => ((¬ r5 = 0 → (∃ n18 : Nat, V_X11_safe_33 post n18 z4 p1 p2 p3 (2147483647 : Int32) (-1000000004 : Int32) (-3000 : Int32))) ∧ (r5 = 0 → post (-1000000001 : Int32) z4))))))
set_option maxHeartbeats 4000000 in
set_option maxRecDepth 100000 in
theorem c_X11_safe (l : Launch) (D : va_G) (ad : Nat → Nat → Nat) (cs : Nat → ClassId) (sk : (Nat → Nat) × (Nat → Nat)) (z : ZS) (p1 : Int32) (p2 : Int32) (p3 : Int32) (post : Int32 → ZS → Prop) (h : V_X11_safe z p1 p2 p3 post) : MI l D ad cs sk yX11_safe cX11_safe 9 .int (rmq 2 0 0) [.ref (ad 0 100), .int p1, .int p2, .int p3] z post := by
  refine MI.of RX11 rfl (by decide) (Nat.le_of_ble_eq_true rfl) ?_
  intro p e s m args below meth c A Q E hw hA hret ls hl
  have hx := E.1.1
  have hb := E.1.2.1
  have hml := E.1.2.2.1
  have hown := E.1.2.2.2.1
  have h0 := E.1.2.2.2.2
  have hl : lv_has ls 9 [(0, .ref (ad 0 100)), (1, .int p1), (2, .int p2), (3, .int p3)] := hl
  unfold V_X11_safe at h
  have b33 : ∀ (n : Nat) (z : ZS) (v1 : Int32) (v2 : Int32) (v3 : Int32) (v4 : Int32) (v5 : Int32) (v6 : Int32), ∀ (H : Heap) (locs : List Loc), OW D ad cs A s.heap z H locs → ∀ ls : Array Slot, lv_has ls 9 [(0, .ref (ad 0 100)), (1, .int v1), (2, .int v2), (3, .int v3), (4, .int v4), (5, .int v5), (6, .int v6)] → V_X11_safe_33 post n z v1 v2 v3 v4 v5 v6 → W p l e (rmq 2 0 0) s m args below meth c H locs 0 0 Q (F0 m 33 ls []) := by
    intro n
    induction n with
    | zero =>
      intro z v1 v2 v3 v4 v5 v6 H locs hw ls hl h
      exact h.elim
    | succ n33x ih33 =>
      have b46 : ∀ (n : Nat) (z : ZS) (v1 : Int32) (v2 : Int32) (v3 : Int32) (v4 : Int32) (v5 : Int32) (v6 : Int32) (v7 : Int32), ∀ (H : Heap) (locs : List Loc), OW D ad cs A s.heap z H locs → ∀ ls : Array Slot, lv_has ls 9 [(0, .ref (ad 0 100)), (1, .int v1), (2, .int v2), (3, .int v3), (4, .int v4), (5, .int v5), (6, .int v6), (7, .int v7)] → V_X11_safe_46 post (V_X11_safe_33 post n33x) n z v1 v2 v3 v4 v5 v6 v7 → W p l e (rmq 2 0 0) s m args below meth c H locs 0 0 Q (F0 m 46 ls []) := by
        intro n
        induction n with
        | zero =>
          intro z v1 v2 v3 v4 v5 v6 v7 H locs hw ls hl h
          exact h.elim
        | succ n46x ih46 =>
          have b121 : ∀ (z : ZS) (v1 : Int32) (v2 : Int32) (v3 : Int32) (v4 : Int32) (v5 : Int32) (v6 : Int32) (v7 : Int32), ∀ (H : Heap) (locs : List Loc), OW D ad cs A s.heap z H locs → ∀ ls : Array Slot, lv_has ls 9 [(0, .ref (ad 0 100)), (1, .int v1), (2, .int v2), (3, .int v3), (4, .int v4), (5, .int v5), (6, .int v6), (7, .int v7)] → V_X11_safe_121 post (V_X11_safe_33 post n33x) (V_X11_safe_46 post (V_X11_safe_33 post n33x) n46x) z v1 v2 v3 v4 v5 v6 v7 → W p l e (rmq 2 0 0) s m args below meth c H locs 0 0 Q (F0 m 121 ls []) := by
            intro z v1 v2 v3 v4 v5 v6 v7 H locs hw ls hl h
            unfold V_X11_safe_121 at h
            obtain ⟨t12, et12⟩ : ∃ y : Int32, y = v7 + (100 : Int32) := ⟨_, rfl⟩
            replace h := h t12 et12
            refine lv_iinc (v := t12) (lv' := [(7, .int t12), (0, .ref (ad 0 100)), (1, .int v1), (2, .int v2), (3, .int v3), (4, .int v4), (5, .int v5), (6, .int v6)]) hx hb dX11_safe_121 hl (k := 7) rfl (by rw [et12]; rfl) (by decide) rfl (fun ls hl => ?_)
            refine lv_goto (tgt := 46) hx hb dX11_safe_124 (by decide) ?_
            exact ih46 z v1 v2 v3 v4 v5 v6 t12 H locs hw ls (lv_sub hl [1, 2, 3, 4, 5, 6, 7, 0] rfl) h
          have b119 : ∀ (z : ZS) (v1 : Int32) (v2 : Int32) (v3 : Int32) (v4 : Int32) (v6 : Int32) (v7 : Int32) (s0 : Int32), ∀ (H : Heap) (locs : List Loc), OW D ad cs A s.heap z H locs → ∀ ls : Array Slot, lv_has ls 9 [(0, .ref (ad 0 100)), (1, .int v1), (2, .int v2), (3, .int v3), (4, .int v4), (6, .int v6), (7, .int v7)] → V_X11_safe_119 post (V_X11_safe_33 post n33x) (V_X11_safe_46 post (V_X11_safe_33 post n33x) n46x) z v1 v2 v3 v4 v6 v7 s0 → W p l e (rmq 2 0 0) s m args below meth c H locs 0 0 Q (F0 m 119 ls [.int s0]) := by
            intro z v1 v2 v3 v4 v6 v7 s0 H locs hw ls hl h
            unfold V_X11_safe_119 at h
            refine lv_istore (lv' := [(5, .int s0), (0, .ref (ad 0 100)), (1, .int v1), (2, .int v2), (3, .int v3), (4, .int v4), (6, .int v6), (7, .int v7)]) hx hb dX11_safe_119 hl (by decide) rfl (fun ls hl => ?_)
            exact b121 z v1 v2 v3 v4 s0 v6 v7 H locs hw ls (lv_sub hl [1, 2, 3, 4, 5, 0, 6, 7] rfl) h
          intro z v1 v2 v3 v4 v5 v6 v7 H locs hw ls hl h
          unfold V_X11_safe_46 at h
          refine lv_iload hx hb dX11_safe_46 (lv_at hl 7 rfl) ?_
          refine lv_sipush (v := 3000) hx hb dX11_safe_48 (by decide) ?_
          refine lv_icmp_gt (tgt := 127) hx hb dX11_safe_51 (by decide) (fun c8 => ?_) (fun c8 => ?_)
          · replace h := h.1 c8
            obtain ⟨t9, et9⟩ : ∃ y : Int32, y = v6 + (100 : Int32) := ⟨_, rfl⟩
            replace h := h t9 et9
            refine lv_iinc (v := t9) (lv' := [(6, .int t9), (0, .ref (ad 0 100)), (1, .int v1), (2, .int v2), (3, .int v3), (4, .int v4), (5, .int v5), (7, .int v7)]) hx hb dX11_safe_127 hl (k := 6) rfl (by rw [et9]; rfl) (by decide) rfl (fun ls hl => ?_)
            refine lv_goto (tgt := 33) hx hb dX11_safe_130 (by decide) ?_
            exact ih33 z v1 v2 v3 v4 v5 t9 H locs hw ls (lv_sub hl [1, 2, 3, 4, 5, 6, 0] rfl) h
          · replace h := h.2 c8
            refine lv_iload hx hb dX11_safe_54 (lv_at hl 6 rfl) ?_
            refine lv_bipush (v := 10) hx hb dX11_safe_56 (by decide) ?_
            refine lv_imul hx hb dX11_safe_58 ?_
            refine lv_iload_n hx hb dX11_safe_59 rfl (lv_at hl 1 rfl) ?_
            refine lv_isub hx hb dX11_safe_60 ?_
            refine va_mabs hx hb (hml.trans hl.1.symm) hown (h0 _ qm_11_225) (h0 _ qs_ib_Math_abs_name) (h0 _ qn_Math) (h0 _ qc_Math_abs) (Nat.le_of_ble_eq_true rfl) (Nat.le_of_ble_eq_true rfl) (Nat.le_of_ble_eq_true rfl) (Nat.le_of_ble_eq_true rfl) dX11_safe_61 ?_
            refine lv_iload hx hb dX11_safe_64 (lv_at hl 7 rfl) ?_
            refine lv_bipush (v := 10) hx hb dX11_safe_66 (by decide) ?_
            refine lv_imul hx hb dX11_safe_68 ?_
            refine lv_iload_n hx hb dX11_safe_69 rfl (lv_at hl 2 rfl) ?_
            refine lv_isub hx hb dX11_safe_70 ?_
            refine va_mabs hx hb (hml.trans hl.1.symm) hown (h0 _ qm_11_225) (h0 _ qs_ib_Math_abs_name) (h0 _ qn_Math) (h0 _ qc_Math_abs) (Nat.le_of_ble_eq_true rfl) (Nat.le_of_ble_eq_true rfl) (Nat.le_of_ble_eq_true rfl) (Nat.le_of_ble_eq_true rfl) dX11_safe_71 ?_
            refine lv_iadd hx hb dX11_safe_74 ?_
            refine lv_topi (fun t10 et10 => ?_)
            replace h := h t10 et10
            refine lv_istore (lv' := [(8, .int t10), (0, .ref (ad 0 100)), (1, .int v1), (2, .int v2), (3, .int v3), (4, .int v4), (5, .int v5), (6, .int v6), (7, .int v7)]) hx hb dX11_safe_75 hl (by decide) rfl (fun ls hl => ?_)
            refine lv_iload hx hb dX11_safe_77 (lv_at hl 0 rfl) ?_
            refine lv_iload hx hb dX11_safe_79 (lv_at hl 5 rfl) ?_
            refine lv_icmp_ge (tgt := 121) hx hb dX11_safe_81 (by decide) (fun c11 => ?_) (fun c11 => ?_)
            · replace h := h.1 c11
              exact b121 z v1 v2 v3 v4 v5 v6 v7 H locs hw ls (lv_sub hl [1, 2, 3, 4, 5, 6, 7, 8] rfl) h
            · replace h := h.2 c11
              refine lv_aload_n hx hb dX11_safe_84 rfl (lv_at hl 1 rfl) ?_
              refine xgC E hw (c1 := 11) (t := (1, 100)) rfl ky_0_100 fo_11_0 rfl qf_11_10 dX11_safe_85 ?_
              refine lv_iload hx hb dX11_safe_88 (lv_at hl 7 rfl) ?_
              refine lv_bipush (v := 10) hx hb dX11_safe_90 (by decide) ?_
              refine lv_imul hx hb dX11_safe_92 ?_
              refine lv_iload hx hb dX11_safe_93 (lv_at hl 8 rfl) ?_
              refine lv_bipush (v := 10) hx hb dX11_safe_95 (by decide) ?_
              refine lv_imul hx hb dX11_safe_97 ?_
              have hq := h
              clear h
              refine xcVI (As := [.int (v6 * (10 : Int32)), .int (v7 * (10 : Int32))]) (rest := []) E hw hA (c_X0_bars l D ad cs sk z 1 (v6 * (10 : Int32)) (v7 * (10 : Int32)) _ is_1 hq) kc_11_136 yo_X0_bars ⟨Nat.le_of_ble_eq_true rfl, Nat.le_of_ble_eq_true rfl⟩ (xrc E hw ky_1_100 rfl) rfl hl.1 rfl (Nat.le_of_ble_eq_true rfl) dX11_safe_98 ⟨Nat.le_of_ble_eq_true rfl, Nat.le_of_ble_eq_true rfl⟩ (fun r14 z13 H locs h hw => ?_)
              refine lv_if_ne (tgt := 121) hx hb dX11_safe_101 (by decide) (fun c15 => ?_) (fun c15 => ?_)
              · replace h := h.1 c15
                exact b121 z13 v1 v2 v3 v4 v5 v6 v7 H locs hw ls (lv_sub hl [1, 2, 3, 4, 5, 6, 7, 8] rfl) h
              · replace h := h.2 c15
                refine lv_iload hx hb dX11_safe_104 (lv_at hl 0 rfl) ?_
                refine lv_istore (lv' := [(4, .int t10), (8, .int t10), (0, .ref (ad 0 100)), (1, .int v1), (2, .int v2), (3, .int v3), (5, .int v5), (6, .int v6), (7, .int v7)]) hx hb dX11_safe_106 hl (by decide) rfl (fun ls hl => ?_)
                refine lv_iload_n hx hb dX11_safe_108 rfl (lv_at hl 5 rfl) ?_
                refine lv_if_ne (tgt := 117) hx hb dX11_safe_109 (by decide) (fun c16 => ?_) (fun c16 => ?_)
                · replace h := h.1 c16
                  refine lv_iload hx hb dX11_safe_117 (lv_at hl 8 rfl) ?_
                  exact b119 z13 v1 v2 v3 t10 v6 v7 v7 H locs hw ls (lv_sub hl [2, 3, 4, 5, 0, 7, 8] rfl) h
                · replace h := h.2 c16
                  refine lv_iload hx hb dX11_safe_112 (lv_at hl 7 rfl) ?_
                  refine lv_goto (tgt := 119) hx hb dX11_safe_114 (by decide) ?_
                  exact b119 z13 v1 v2 v3 t10 v6 v7 v6 H locs hw ls (lv_sub hl [2, 3, 4, 5, 0, 7, 8] rfl) h
      intro z v1 v2 v3 v4 v5 v6 H locs hw ls hl h
      unfold V_X11_safe_33 at h
      refine lv_iload hx hb dX11_safe_33 (lv_at hl 6 rfl) ?_
      refine lv_sipush (v := 3000) hx hb dX11_safe_35 (by decide) ?_
      refine lv_icmp_gt (tgt := 133) hx hb dX11_safe_38 (by decide) (fun c7 => ?_) (fun c7 => ?_)
      · replace h := h.1 c7
        refine lv_iload hx hb dX11_safe_133 (lv_at hl 5 rfl) ?_
        exact hret v5 z H locs 135 ls hw rfl h dX11_safe_135
      · replace h := h.2 c7
        refine lv_sipush (v := -3000) hx hb dX11_safe_41 (by decide) ?_
        refine lv_istore (lv' := [(7, .int (-3000 : Int32)), (0, .ref (ad 0 100)), (1, .int v1), (2, .int v2), (3, .int v3), (4, .int v4), (5, .int v5), (6, .int v6)]) hx hb dX11_safe_44 hl (by decide) rfl (fun ls hl => ?_)
        obtain ⟨n17, h⟩ := h
        exact b46 n17 z v1 v2 v3 v4 v5 v6 (-3000 : Int32) H locs hw ls (lv_sub hl [1, 2, 3, 4, 5, 6, 7, 0] rfl) h
  have b00 : ∀ (H : Heap) (locs : List Loc), OW D ad cs A s.heap z H locs → W p l e (rmq 2 0 0) s m args below meth c H locs 0 0 Q (F0 m 0 ls []) := by
    intro H locs hw
    refine lv_iload_n hx hb dX11_safe_0 rfl (lv_at hl 1 rfl) ?_
    refine lv_iload_n hx hb dX11_safe_1 rfl (lv_at hl 2 rfl) ?_
    have hq := h
    clear h
    refine xcSI (As := [.int p1, .int p2]) (rest := []) E hw hA (c_X11_isPlace l D ad cs sk z p1 p2 _ hq) kc_11_125 yo_X11_isPlace ⟨Nat.le_of_ble_eq_true rfl, Nat.le_of_ble_eq_true rfl⟩ rfl hl.1 rfl (Nat.le_of_ble_eq_true rfl) dX11_safe_2 ⟨Nat.le_of_ble_eq_true rfl, Nat.le_of_ble_eq_true rfl⟩ (fun r2 z1 H locs h hw => ?_)
    refine lv_if_eq (tgt := 17) hx hb dX11_safe_5 (by decide) (fun c3 => ?_) (fun c3 => ?_)
    · replace h := h.1 c3
      refine lv_ldc (v := -1000000001) hx hb hown (h0 _ qk_11_76) dX11_safe_17 ?_
      exact hret (-1000000001 : Int32) z1 H locs 19 ls hw rfl h dX11_safe_19
    · replace h := h.2 c3
      refine lv_iconst (v := 0) hx hb dX11_safe_8 (by decide) ?_
      refine lv_iload_n hx hb dX11_safe_9 rfl (lv_at hl 3 rfl) ?_
      refine lv_iconst (v := 1) hx hb dX11_safe_10 (by decide) ?_
      have hq := h
      clear h
      refine xcSI (As := [.int (0 : Int32), .int p3, .int (1 : Int32)]) (rest := []) E hw hA (c_X11_isFrom l D ad cs sk z1 (0 : Int32) p3 (1 : Int32) _ hq) kc_11_83 yo_X11_isFrom ⟨Nat.le_of_ble_eq_true rfl, Nat.le_of_ble_eq_true rfl⟩ rfl hl.1 rfl (Nat.le_of_ble_eq_true rfl) dX11_safe_11 ⟨Nat.le_of_ble_eq_true rfl, Nat.le_of_ble_eq_true rfl⟩ (fun r5 z4 H locs h hw => ?_)
      refine lv_if_ne (tgt := 20) hx hb dX11_safe_14 (by decide) (fun c6 => ?_) (fun c6 => ?_)
      · replace h := h.1 c6
        refine lv_ldc (v := 2147483647) hx hb hown (h0 _ qk_11_172) dX11_safe_20 ?_
        refine lv_istore (lv' := [(4, .int (2147483647 : Int32)), (0, .ref (ad 0 100)), (1, .int p1), (2, .int p2), (3, .int p3)]) hx hb dX11_safe_22 hl (by decide) rfl (fun ls hl => ?_)
        refine lv_ldc (v := -1000000004) hx hb hown (h0 _ qk_11_224) dX11_safe_24 ?_
        refine lv_istore (lv' := [(5, .int (-1000000004 : Int32)), (4, .int (2147483647 : Int32)), (0, .ref (ad 0 100)), (1, .int p1), (2, .int p2), (3, .int p3)]) hx hb dX11_safe_26 hl (by decide) rfl (fun ls hl => ?_)
        refine lv_sipush (v := -3000) hx hb dX11_safe_28 (by decide) ?_
        refine lv_istore (lv' := [(6, .int (-3000 : Int32)), (5, .int (-1000000004 : Int32)), (4, .int (2147483647 : Int32)), (0, .ref (ad 0 100)), (1, .int p1), (2, .int p2), (3, .int p3)]) hx hb dX11_safe_31 hl (by decide) rfl (fun ls hl => ?_)
        obtain ⟨n18, h⟩ := h
        exact b33 n18 z4 p1 p2 p3 (2147483647 : Int32) (-1000000004 : Int32) (-3000 : Int32) H locs hw ls (lv_sub hl [3, 4, 5, 6, 2, 1, 0] rfl) h
      · replace h := h.2 c6
        refine lv_ldc (v := -1000000001) hx hb hown (h0 _ qk_11_76) dX11_safe_17 ?_
        exact hret (-1000000001 : Int32) z4 H locs 19 ls hw rfl h dX11_safe_19
  exact b00 s.heap [] hw
