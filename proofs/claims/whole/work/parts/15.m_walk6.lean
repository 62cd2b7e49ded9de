def V_X12_loadOf_93 (post : Int32 → ZS → Prop) (rr9 : ZS → Int32 → Int32 → Int32 → Int32 → Int32 → Int32 → Int32 → Prop) (z : ZS) (v1 : Int32) (v3 : Int32) (v4 : Int32) (v5 : Int32) (v6 : Int32) (v8 : Int32) (s0 : Int32) (s1 : Int32) : Prop := (∀ t8 : Int32, t8 = (s0 + s1) → (∀ t9 : Int32, t9 = v8 + (1 : Int32) → rr9 z v1 v3 v4 v5 v6 t8 t9))
def V_X12_loadOf_92 (post : Int32 → ZS → Prop) (rr9 : ZS → Int32 → Int32 → Int32 → Int32 → Int32 → Int32 → Int32 → Prop) (z : ZS) (v1 : Int32) (v3 : Int32) (v4 : Int32) (v5 : Int32) (v6 : Int32) (v8 : Int32) (s0 : Int32) : Prop := V_X12_loadOf_93 post rr9 z v1 v3 v4 v5 v6 v8 s0 (0 : Int32)
def V_X12_loadOf_42 (post : Int32 → ZS → Prop) (rr9 : ZS → Int32 → Int32 → Int32 → Int32 → Int32 → Int32 → Int32 → Prop) (z : ZS) (v1 : Int32) (v3 : Int32) (v4 : Int32) (v5 : Int32) (v6 : Int32) (v7 : Int32) (v8 : Int32) : Prop := (vp_in (((100 : Int32) * v1) + v8) 800 ∧ V_X12_falls z (zR z 14 6 (Int32.toNatClampNeg (((100 : Int32) * v1) + v8))) v6 v3 (1 : Int32) (fun z3 => V_X12_off z3 (fun r6 z5 => ((v5 < r6 → V_X12_loadOf_92 post rr9 z5 v1 v3 v4 v5 v6 v8 v7) ∧ (¬ v5 < r6 → V_X12_isBarred z5 (zI z5 14 22) (zI z5 14 23) (fun r11 z10 => ((¬ r11 = 0 → V_X12_loadOf_92 post rr9 z10 v1 v3 v4 v5 v6 v8 v7) ∧ (r11 = 0 → V_X12_loadOf_93 post rr9 z10 v1 v3 v4 v5 v6 v8 v7 (1 : Int32)))))))))
def V_X12_loadOf_9 (post : Int32 → ZS → Prop) : Nat → ZS → Int32 → Int32 → Int32 → Int32 → Int32 → Int32 → Int32 → Prop
  | 0, _, _, _, _, _, _, _, _ => False
  | (n + 1), z, v1, v3, v4, v5, v6, v7, v8 => (vp_in v1 8 ∧ (((zR z 14 5 (Int32.toNatClampNeg v1)) ≤ v8 → post v7 z) ∧ (¬ (zR z 14 5 (Int32.toNatClampNeg v1)) ≤ v8 → ((v8 ≤ 0 → V_X12_loadOf_42 post (V_X12_loadOf_9 post n) z v1 v3 v4 v5 v6 v7 v8) ∧ (¬ v8 ≤ 0 → V_X12_held z (v6 + ((zR z 14 0 1) * v4)) (fun r14 z13 => V_X12_loadOf_42 post (V_X12_loadOf_9 post n) z13 v1 v3 v4 v5 r14 v7 v8))))))
def V_X12_loadOf (z : ZS) (p1 : Int32) (p2 : Int32) (p3 : Int32) (p4 : Int32) (p5 : Int32) (post : Int32 → ZS → Prop) : Prop := (∃ n15 : Nat, V_X12_loadOf_9 post n15 z p1 p3 p4 p5 p2 (0 : Int32) (0 : Int32))
set_option maxHeartbeats 4000000 in
set_option maxRecDepth 100000 in
theorem c_X12_loadOf (l : Launch) (D : va_G) (ad : Nat → Nat → Nat) (cs : Nat → ClassId) (sk : (Nat → Nat) × (Nat → Nat)) (z : ZS) (p1 : Int32) (p2 : Int32) (p3 : Int32) (p4 : Int32) (p5 : Int32) (post : Int32 → ZS → Prop) (h : V_X12_loadOf z p1 p2 p3 p4 p5 post) : MI l D ad cs sk yX12_loadOf cX12_loadOf 9 .int (rmq 6 0 0) [.ref (ad 14 100), .int p1, .int p2, .int p3, .int p4, .int p5] z post := by
  refine MI.of RX12 rfl (by decide) (Nat.le_of_ble_eq_true rfl) ?_
  intro p e s m args below meth c A Q E hw hA hret ls hl
  have hx := E.1.1
  have hb := E.1.2.1
  have hml := E.1.2.2.1
  have hown := E.1.2.2.2.1
  have h0 := E.1.2.2.2.2
  have hl : lv_has ls 9 [(0, .ref (ad 14 100)), (1, .int p1), (2, .int p2), (3, .int p3), (4, .int p4), (5, .int p5)] := hl
  unfold V_X12_loadOf at h
  have b9 : ∀ (n : Nat) (z : ZS) (v1 : Int32) (v3 : Int32) (v4 : Int32) (v5 : Int32) (v6 : Int32) (v7 : Int32) (v8 : Int32), ∀ (H : Heap) (locs : List Loc), OW D ad cs A s.heap z H locs → ∀ ls : Array Slot, lv_has ls 9 [(0, .ref (ad 14 100)), (1, .int v1), (3, .int v3), (4, .int v4), (5, .int v5), (6, .int v6), (7, .int v7), (8, .int v8)] → V_X12_loadOf_9 post n z v1 v3 v4 v5 v6 v7 v8 → W p l e (rmq 6 0 0) s m args below meth c H locs 0 0 Q (F0 m 9 ls []) := by
    intro n
    induction n with
    | zero =>
      intro z v1 v3 v4 v5 v6 v7 v8 H locs hw ls hl h
      exact h.elim
    | succ n9x ih9 =>
      have b93 : ∀ (z : ZS) (v1 : Int32) (v3 : Int32) (v4 : Int32) (v5 : Int32) (v6 : Int32) (v8 : Int32) (s0 : Int32) (s1 : Int32), ∀ (H : Heap) (locs : List Loc), OW D ad cs A s.heap z H locs → ∀ ls : Array Slot, lv_has ls 9 [(0, .ref (ad 14 100)), (1, .int v1), (3, .int v3), (4, .int v4), (5, .int v5), (6, .int v6), (8, .int v8)] → V_X12_loadOf_93 post (V_X12_loadOf_9 post n9x) z v1 v3 v4 v5 v6 v8 s0 s1 → W p l e (rmq 6 0 0) s m args below meth c H locs 0 0 Q (F0 m 93 ls [.int s1, .int s0]) := by
        intro z v1 v3 v4 v5 v6 v8 s0 s1 H locs hw ls hl h
        unfold V_X12_loadOf_93 at h
        refine lv_iadd hx hb dX12_loadOf_93 ?_
        refine lv_topi (fun t8 et8 => ?_)
        replace h := h t8 et8
        refine lv_istore (lv' := [(7, .int t8), (0, .ref (ad 14 100)), (1, .int v1), (3, .int v3), (4, .int v4), (5, .int v5), (6, .int v6), (8, .int v8)]) hx hb dX12_loadOf_94 hl (by decide) rfl (fun ls hl => ?_)
        obtain ⟨t9, et9⟩ : ∃ y : Int32, y = v8 + (1 : Int32) := ⟨_, rfl⟩
        replace h := h t9 et9
        refine lv_iinc (v := t9) (lv' := [(8, .int t9), (7, .int t8), (0, .ref (ad 14 100)), (1, .int v1), (3, .int v3), (4, .int v4), (5, .int v5), (6, .int v6)]) hx hb dX12_loadOf_96 hl (k := 7) rfl (by rw [et9]; rfl) (by decide) rfl (fun ls hl => ?_)
        refine lv_goto (tgt := 9) hx hb dX12_loadOf_99 (by decide) ?_
        exact ih9 z v1 v3 v4 v5 v6 t8 t9 H locs hw ls (lv_sub hl [2, 3, 4, 5, 6, 7, 1, 0] rfl) h
      have b92 : ∀ (z : ZS) (v1 : Int32) (v3 : Int32) (v4 : Int32) (v5 : Int32) (v6 : Int32) (v8 : Int32) (s0 : Int32), ∀ (H : Heap) (locs : List Loc), OW D ad cs A s.heap z H locs → ∀ ls : Array Slot, lv_has ls 9 [(0, .ref (ad 14 100)), (1, .int v1), (3, .int v3), (4, .int v4), (5, .int v5), (6, .int v6), (8, .int v8)] → V_X12_loadOf_92 post (V_X12_loadOf_9 post n9x) z v1 v3 v4 v5 v6 v8 s0 → W p l e (rmq 6 0 0) s m args below meth c H locs 0 0 Q (F0 m 92 ls [.int s0]) := by
        intro z v1 v3 v4 v5 v6 v8 s0 H locs hw ls hl h
        unfold V_X12_loadOf_92 at h
        refine lv_iconst (v := 0) hx hb dX12_loadOf_92 (by decide) ?_
        exact b93 z v1 v3 v4 v5 v6 v8 s0 (0 : Int32) H locs hw ls (lv_sub hl [0, 1, 2, 3, 4, 5, 6] rfl) h
      have b42 : ∀ (z : ZS) (v1 : Int32) (v3 : Int32) (v4 : Int32) (v5 : Int32) (v6 : Int32) (v7 : Int32) (v8 : Int32), ∀ (H : Heap) (locs : List Loc), OW D ad cs A s.heap z H locs → ∀ ls : Array Slot, lv_has ls 9 [(0, .ref (ad 14 100)), (1, .int v1), (3, .int v3), (4, .int v4), (5, .int v5), (6, .int v6), (7, .int v7), (8, .int v8)] → V_X12_loadOf_42 post (V_X12_loadOf_9 post n9x) z v1 v3 v4 v5 v6 v7 v8 → W p l e (rmq 6 0 0) s m args below meth c H locs 0 0 Q (F0 m 42 ls []) := by
        intro z v1 v3 v4 v5 v6 v7 v8 H locs hw ls hl h
        unfold V_X12_loadOf_42 at h
        refine lv_aload_n hx hb dX12_loadOf_42 rfl (lv_at hl 0 rfl) ?_
        refine lv_aload_n hx hb dX12_loadOf_43 rfl (lv_at hl 0 rfl) ?_
        refine xgC E hw (c1 := 12) (t := (14, 6)) rfl ky_14_100 fo_12_6 rfl qf_12_28 dX12_loadOf_44 ?_
        refine lv_bipush (v := 100) hx hb dX12_loadOf_47 (by decide) ?_
        refine lv_iload_n hx hb dX12_loadOf_49 rfl (lv_at hl 1 rfl) ?_
        refine lv_imul hx hb dX12_loadOf_50 ?_
        refine lv_iload hx hb dX12_loadOf_51 (lv_at hl 7 rfl) ?_
        refine lv_iadd hx hb dX12_loadOf_53 ?_
        obtain ⟨hi, h⟩ := h
        refine xal E hw ky_14_6 ka_14_6 hi dX12_loadOf_54 ?_
        refine lv_iload hx hb dX12_loadOf_55 (lv_at hl 5 rfl) ?_
        refine lv_iload_n hx hb dX12_loadOf_57 rfl (lv_at hl 2 rfl) ?_
        refine lv_iconst (v := 1) hx hb dX12_loadOf_58 (by decide) ?_
        have hq := h
        clear h
        refine xcVV (As := [.int (zR z 14 6 (Int32.toNatClampNeg (((100 : Int32) * v1) + v8))), .int v6, .int v3, .int (1 : Int32)]) (rest := []) E hw hA (c_X12_falls l D ad cs sk z (zR z 14 6 (Int32.toNatClampNeg (((100 : Int32) * v1) + v8))) v6 v3 (1 : Int32) _ hq) kc_12_267 yo_X12_falls ⟨Nat.le_of_ble_eq_true rfl, Nat.le_of_ble_eq_true rfl⟩ (xrc E hw ky_14_100 rfl) rfl hl.1 rfl (Nat.le_of_ble_eq_true rfl) dX12_loadOf_59 ⟨Nat.le_of_ble_eq_true rfl, Nat.le_of_ble_eq_true rfl⟩ (fun z3 H locs h hw => ?_)
        refine lv_iload hx hb dX12_loadOf_62 (lv_at hl 6 rfl) ?_
        refine lv_aload_n hx hb dX12_loadOf_64 rfl (lv_at hl 0 rfl) ?_
        have hq := h
        clear h
        refine xcVI (As := []) (rest := [.int v7]) E hw hA (c_X12_off l D ad cs sk z3 _ hq) kc_12_262 yo_X12_off ⟨Nat.le_of_ble_eq_true rfl, Nat.le_of_ble_eq_true rfl⟩ (xrc E hw ky_14_100 rfl) rfl hl.1 rfl (Nat.le_of_ble_eq_true rfl) dX12_loadOf_65 ⟨Nat.le_of_ble_eq_true rfl, Nat.le_of_ble_eq_true rfl⟩ (fun r6 z5 H locs h hw => ?_)
        refine lv_iload hx hb dX12_loadOf_68 (lv_at hl 4 rfl) ?_
        refine lv_icmp_gt (tgt := 92) hx hb dX12_loadOf_70 (by decide) (fun c7 => ?_) (fun c7 => ?_)
        · replace h := h.1 c7
          exact b92 z5 v1 v3 v4 v5 v6 v8 v7 H locs hw ls (lv_sub hl [0, 1, 2, 3, 4, 5, 7] rfl) h
        · replace h := h.2 c7
          refine lv_aload_n hx hb dX12_loadOf_73 rfl (lv_at hl 0 rfl) ?_
          refine lv_aload_n hx hb dX12_loadOf_74 rfl (lv_at hl 0 rfl) ?_
          refine xgI E hw (c1 := 12) rfl ky_14_100 fo_12_22 qf_12_206 dX12_loadOf_75 ?_
          refine lv_aload_n hx hb dX12_loadOf_78 rfl (lv_at hl 0 rfl) ?_
          refine xgI E hw (c1 := 12) rfl ky_14_100 fo_12_23 qf_12_209 dX12_loadOf_79 ?_
          have hq := h
          clear h
          refine xcVI (As := [.int (zI z5 14 22), .int (zI z5 14 23)]) (rest := [.int v7]) E hw hA (c_X12_isBarred l D ad cs sk z5 (zI z5 14 22) (zI z5 14 23) _ hq) kc_12_191 yo_X12_isBarred ⟨Nat.le_of_ble_eq_true rfl, Nat.le_of_ble_eq_true rfl⟩ (xrc E hw ky_14_100 rfl) rfl hl.1 rfl (Nat.le_of_ble_eq_true rfl) dX12_loadOf_82 ⟨Nat.le_of_ble_eq_true rfl, Nat.le_of_ble_eq_true rfl⟩ (fun r11 z10 H locs h hw => ?_)
          refine lv_if_ne (tgt := 92) hx hb dX12_loadOf_85 (by decide) (fun c12 => ?_) (fun c12 => ?_)
          · replace h := h.1 c12
            exact b92 z10 v1 v3 v4 v5 v6 v8 v7 H locs hw ls (lv_sub hl [0, 1, 2, 3, 4, 5, 7] rfl) h
          · replace h := h.2 c12
            refine lv_iconst (v := 1) hx hb dX12_loadOf_88 (by decide) ?_
            refine lv_goto (tgt := 93) hx hb dX12_loadOf_89 (by decide) ?_
            exact b93 z10 v1 v3 v4 v5 v6 v8 v7 (1 : Int32) H locs hw ls (lv_sub hl [0, 1, 2, 3, 4, 5, 7] rfl) h
      intro z v1 v3 v4 v5 v6 v7 v8 H locs hw ls hl h
      unfold V_X12_loadOf_9 at h
      refine lv_iload hx hb dX12_loadOf_9 (lv_at hl 7 rfl) ?_
      refine lv_aload_n hx hb dX12_loadOf_11 rfl (lv_at hl 0 rfl) ?_
      refine xgC E hw (c1 := 12) (t := (14, 5)) rfl ky_14_100 fo_12_5 rfl qf_12_25 dX12_loadOf_12 ?_
      refine lv_iload_n hx hb dX12_loadOf_15 rfl (lv_at hl 1 rfl) ?_
      obtain ⟨hi, h⟩ := h
      refine xal E hw ky_14_5 ka_14_5 hi dX12_loadOf_16 ?_
      refine lv_icmp_ge (tgt := 102) hx hb dX12_loadOf_17 (by decide) (fun c1 => ?_) (fun c1 => ?_)
      · replace h := h.1 c1
        refine lv_iload hx hb dX12_loadOf_102 (lv_at hl 6 rfl) ?_
        exact hret v7 z H locs 104 ls hw rfl h dX12_loadOf_104
      · replace h := h.2 c1
        refine lv_iload hx hb dX12_loadOf_20 (lv_at hl 7 rfl) ?_
        refine lv_if_le (tgt := 42) hx hb dX12_loadOf_22 (by decide) (fun c2 => ?_) (fun c2 => ?_)
        · replace h := h.1 c2
          exact b42 z v1 v3 v4 v5 v6 v7 v8 H locs hw ls (lv_sub hl [0, 1, 2, 3, 4, 5, 6, 7] rfl) h
        · replace h := h.2 c2
          refine lv_iload hx hb dX12_loadOf_25 (lv_at hl 5 rfl) ?_
          refine lv_aload_n hx hb dX12_loadOf_27 rfl (lv_at hl 0 rfl) ?_
          refine xgC E hw (c1 := 12) (t := (14, 0)) rfl ky_14_100 fo_12_0 rfl qf_12_9 dX12_loadOf_28 ?_
          refine lv_iconst (v := 1) hx hb dX12_loadOf_31 (by decide) ?_
          refine xalL (j := 1) E hw ky_14_0 ka_14_0 (by decide) (by decide) dX12_loadOf_32 ?_
          refine lv_iload hx hb dX12_loadOf_33 (lv_at hl 3 rfl) ?_
          refine lv_imul hx hb dX12_loadOf_35 ?_
          refine lv_iadd hx hb dX12_loadOf_36 ?_
          have hq := h
          clear h
          refine xcSI (As := [.int (v6 + ((zR z 14 0 1) * v4))]) (rest := []) E hw hA (c_X12_held l D ad cs sk z (v6 + ((zR z 14 0 1) * v4)) _ hq) kc_12_230 yo_X12_held ⟨Nat.le_of_ble_eq_true rfl, Nat.le_of_ble_eq_true rfl⟩ rfl hl.1 rfl (Nat.le_of_ble_eq_true rfl) dX12_loadOf_37 ⟨Nat.le_of_ble_eq_true rfl, Nat.le_of_ble_eq_true rfl⟩ (fun r14 z13 H locs h hw => ?_)
          refine lv_istore (lv' := [(6, .int r14), (0, .ref (ad 14 100)), (1, .int v1), (3, .int v3), (4, .int v4), (5, .int v5), (7, .int v7), (8, .int v8)]) hx hb dX12_loadOf_40 hl (by decide) rfl (fun ls hl => ?_)
          exact b42 z13 v1 v3 v4 v5 r14 v7 v8 H locs hw ls (lv_sub hl [1, 2, 3, 4, 5, 0, 6, 7] rfl) h
  have b00 : ∀ (H : Heap) (locs : List Loc), OW D ad cs A s.heap z H locs → W p l e (rmq 6 0 0) s m args below meth c H locs 0 0 Q (F0 m 0 ls []) := by
    intro H locs hw
    refine lv_iload_n hx hb dX12_loadOf_0 rfl (lv_at hl 2 rfl) ?_
    refine lv_istore (lv' := [(6, .int p2), (0, .ref (ad 14 100)), (1, .int p1), (2, .int p2), (3, .int p3), (4, .int p4), (5, .int p5)]) hx hb dX12_loadOf_1 hl (by decide) rfl (fun ls hl => ?_)
    refine lv_iconst (v := 0) hx hb dX12_loadOf_3 (by decide) ?_
    refine lv_istore (lv' := [(7, .int (0 : Int32)), (6, .int p2), (0, .ref (ad 14 100)), (1, .int p1), (2, .int p2), (3, .int p3), (4, .int p4), (5, .int p5)]) hx hb dX12_loadOf_4 hl (by decide) rfl (fun ls hl => ?_)
    refine lv_iconst (v := 0) hx hb dX12_loadOf_6 (by decide) ?_
    refine lv_istore (lv' := [(8, .int (0 : Int32)), (7, .int (0 : Int32)), (6, .int p2), (0, .ref (ad 14 100)), (1, .int p1), (2, .int p2), (3, .int p3), (4, .int p4), (5, .int p5)]) hx hb dX12_loadOf_7 hl (by decide) rfl (fun ls hl => ?_)
    obtain ⟨n15, h⟩ := h
    exact b9 n15 z p1 p3 p4 p5 p2 (0 : Int32) (0 : Int32) H locs hw ls (lv_sub hl [3, 4, 6, 7, 8, 2, 1, 0] rfl) h
  exact b00 s.heap [] hw
def V_X12_load (z : ZS) (p1 : Int32) (p2 : Int32) (p3 : Int32) (p4 : Int32) (p5 : Int32) (post : Int32 → ZS → Prop) : Prop := V_X12_isShelf z p1 (fun r2 z1 => ((r2 = 0 → post (-1 : Int32) z1) ∧ (¬ r2 = 0 → V_X12_isEdge z1 p2 (fun r5 z4 => ((r5 = 0 → post (-1 : Int32) z4) ∧ (¬ r5 = 0 → V_X12_isEdge z4 p3 (fun r8 z7 => ((r8 = 0 → post (-1 : Int32) z7) ∧ (¬ r8 = 0 → V_X12_isIn z7 (Int32.toInt64 p4) (1 : Int64) (20 : Int64) (fun r11 z10 => ((r11 = 0 → post (-1 : Int32) z10) ∧ (¬ r11 = 0 → V_X12_isIn z10 (Int32.toInt64 p5) (0 : Int64) (60000 : Int64) (fun r14 z13 => ((¬ r14 = 0 → V_X12_wrongLoad z13 p1 (fun r17 z16 => ((r17 = 0 → V_X12_loadOf z16 p1 p2 p3 p4 p5 (fun r20 z19 => post r20 z19)) ∧ (¬ r17 = 0 → post r17 z16)))) ∧ (r14 = 0 → post (-1 : Int32) z13)))))))))))))))
set_option maxHeartbeats 4000000 in
set_option maxRecDepth 100000 in
theorem c_X12_load (l : Launch) (D : va_G) (ad : Nat → Nat → Nat) (cs : Nat → ClassId) (sk : (Nat → Nat) × (Nat → Nat)) (z : ZS) (p1 : Int32) (p2 : Int32) (p3 : Int32) (p4 : Int32) (p5 : Int32) (post : Int32 → ZS → Prop) (h : V_X12_load z p1 p2 p3 p4 p5 post) : MI l D ad cs sk yX12_load cX12_load 7 .int (rmq 7 0 0) [.ref (ad 14 100), .int p1, .int p2, .int p3, .int p4, .int p5] z post := by
  refine MI.of RX12 rfl (by decide) (Nat.le_of_ble_eq_true rfl) ?_
  intro p e s m args below meth c A Q E hw hA hret ls hl
  have hx := E.1.1
  have hb := E.1.2.1
  have hml := E.1.2.2.1
  have hown := E.1.2.2.2.1
  have h0 := E.1.2.2.2.2
  have hl : lv_has ls 7 [(0, .ref (ad 14 100)), (1, .int p1), (2, .int p2), (3, .int p3), (4, .int p4), (5, .int p5)] := hl
  unfold V_X12_load at h
  have b00 : ∀ (H : Heap) (locs : List Loc), OW D ad cs A s.heap z H locs → W p l e (rmq 7 0 0) s m args below meth c H locs 0 0 Q (F0 m 0 ls []) := by
    intro H locs hw
    refine lv_iload_n hx hb dX12_load_0 rfl (lv_at hl 1 rfl) ?_
    have hq := h
    clear h
    refine xcSI (As := [.int p1]) (rest := []) E hw hA (c_X12_isShelf l D ad cs sk z p1 _ hq) kc_12_125 yo_X12_isShelf ⟨Nat.le_of_ble_eq_true rfl, Nat.le_of_ble_eq_true rfl⟩ rfl hl.1 rfl (Nat.le_of_ble_eq_true rfl) dX12_load_1 ⟨Nat.le_of_ble_eq_true rfl, Nat.le_of_ble_eq_true rfl⟩ (fun r2 z1 H locs h hw => ?_)
    refine lv_if_eq (tgt := 47) hx hb dX12_load_4 (by decide) (fun c3 => ?_) (fun c3 => ?_)
    · replace h := h.1 c3
      refine lv_iconst (v := -1) hx hb dX12_load_47 (by decide) ?_
      exact hret (-1 : Int32) z1 H locs 48 ls hw rfl h dX12_load_48
    · replace h := h.2 c3
      refine lv_iload_n hx hb dX12_load_7 rfl (lv_at hl 2 rfl) ?_
      have hq := h
      clear h
      refine xcSI (As := [.int p2]) (rest := []) E hw hA (c_X12_isEdge l D ad cs sk z1 p2 _ hq) kc_12_184 yo_X12_isEdge ⟨Nat.le_of_ble_eq_true rfl, Nat.le_of_ble_eq_true rfl⟩ rfl hl.1 rfl (Nat.le_of_ble_eq_true rfl) dX12_load_8 ⟨Nat.le_of_ble_eq_true rfl, Nat.le_of_ble_eq_true rfl⟩ (fun r5 z4 H locs h hw => ?_)
      refine lv_if_eq (tgt := 47) hx hb dX12_load_11 (by decide) (fun c6 => ?_) (fun c6 => ?_)
      · replace h := h.1 c6
        refine lv_iconst (v := -1) hx hb dX12_load_47 (by decide) ?_
        exact hret (-1 : Int32) z4 H locs 48 ls hw rfl h dX12_load_48
      · replace h := h.2 c6
        refine lv_iload_n hx hb dX12_load_14 rfl (lv_at hl 3 rfl) ?_
        have hq := h
        clear h
        refine xcSI (As := [.int p3]) (rest := []) E hw hA (c_X12_isEdge l D ad cs sk z4 p3 _ hq) kc_12_184 yo_X12_isEdge ⟨Nat.le_of_ble_eq_true rfl, Nat.le_of_ble_eq_true rfl⟩ rfl hl.1 rfl (Nat.le_of_ble_eq_true rfl) dX12_load_15 ⟨Nat.le_of_ble_eq_true rfl, Nat.le_of_ble_eq_true rfl⟩ (fun r8 z7 H locs h hw => ?_)
        refine lv_if_eq (tgt := 47) hx hb dX12_load_18 (by decide) (fun c9 => ?_) (fun c9 => ?_)
        · replace h := h.1 c9
          refine lv_iconst (v := -1) hx hb dX12_load_47 (by decide) ?_
          exact hret (-1 : Int32) z7 H locs 48 ls hw rfl h dX12_load_48
        · replace h := h.2 c9
          refine lv_iload hx hb dX12_load_21 (lv_at hl 4 rfl) ?_
          refine lv_i2l hx hb dX12_load_23 rfl ?_
          refine lv_lconst (v := 1) hx hb dX12_load_24 (by decide) ?_
          refine lv_ldc2 (v := 20) hx hb hown (h0 _ ql_12_281) dX12_load_25 ?_
          have hq := h
          clear h
          refine xcSI (As := [.long (Int32.toInt64 p4), .long (1 : Int64), .long (20 : Int64)]) (rest := []) E hw hA (c_X12_isIn l D ad cs sk z7 (Int32.toInt64 p4) (1 : Int64) (20 : Int64) _ hq) kc_12_56 yo_X12_isIn ⟨Nat.le_of_ble_eq_true rfl, Nat.le_of_ble_eq_true rfl⟩ rfl hl.1 rfl (Nat.le_of_ble_eq_true rfl) dX12_load_28 ⟨Nat.le_of_ble_eq_true rfl, Nat.le_of_ble_eq_true rfl⟩ (fun r11 z10 H locs h hw => ?_)
          refine lv_if_eq (tgt := 47) hx hb dX12_load_31 (by decide) (fun c12 => ?_) (fun c12 => ?_)
          · replace h := h.1 c12
            refine lv_iconst (v := -1) hx hb dX12_load_47 (by decide) ?_
            exact hret (-1 : Int32) z10 H locs 48 ls hw rfl h dX12_load_48
          · replace h := h.2 c12
            refine lv_iload hx hb dX12_load_34 (lv_at hl 5 rfl) ?_
            refine lv_i2l hx hb dX12_load_36 rfl ?_
            refine lv_lconst (v := 0) hx hb dX12_load_37 (by decide) ?_
            refine lv_ldc2 (v := 60000) hx hb hown (h0 _ ql_12_283) dX12_load_38 ?_
            have hq := h
            clear h
            refine xcSI (As := [.long (Int32.toInt64 p5), .long (0 : Int64), .long (60000 : Int64)]) (rest := []) E hw hA (c_X12_isIn l D ad cs sk z10 (Int32.toInt64 p5) (0 : Int64) (60000 : Int64) _ hq) kc_12_56 yo_X12_isIn ⟨Nat.le_of_ble_eq_true rfl, Nat.le_of_ble_eq_true rfl⟩ rfl hl.1 rfl (Nat.le_of_ble_eq_true rfl) dX12_load_41 ⟨Nat.le_of_ble_eq_true rfl, Nat.le_of_ble_eq_true rfl⟩ (fun r14 z13 H locs h hw => ?_)
            refine lv_if_ne (tgt := 49) hx hb dX12_load_44 (by decide) (fun c15 => ?_) (fun c15 => ?_)
            · replace h := h.1 c15
              refine lv_aload_n hx hb dX12_load_49 rfl (lv_at hl 0 rfl) ?_
              refine lv_iload_n hx hb dX12_load_50 rfl (lv_at hl 1 rfl) ?_
              have hq := h
              clear h
              refine xcVI (As := [.int p1]) (rest := []) E hw hA (c_X12_wrongLoad l D ad cs sk z13 p1 _ hq) kc_12_285 yo_X12_wrongLoad ⟨Nat.le_of_ble_eq_true rfl, Nat.le_of_ble_eq_true rfl⟩ (xrc E hw ky_14_100 rfl) rfl hl.1 rfl (Nat.le_of_ble_eq_true rfl) dX12_load_51 ⟨Nat.le_of_ble_eq_true rfl, Nat.le_of_ble_eq_true rfl⟩ (fun r17 z16 H locs h hw => ?_)
              refine lv_istore (lv' := [(6, .int r17), (0, .ref (ad 14 100)), (1, .int p1), (2, .int p2), (3, .int p3), (4, .int p4), (5, .int p5)]) hx hb dX12_load_54 hl (by decide) rfl (fun ls hl => ?_)
              refine lv_iload hx hb dX12_load_56 (lv_at hl 0 rfl) ?_
              refine lv_if_eq (tgt := 66) hx hb dX12_load_58 (by decide) (fun c18 => ?_) (fun c18 => ?_)
              · replace h := h.1 c18
                refine lv_aload_n hx hb dX12_load_66 rfl (lv_at hl 1 rfl) ?_
                refine lv_iload_n hx hb dX12_load_67 rfl (lv_at hl 2 rfl) ?_
                refine lv_iload_n hx hb dX12_load_68 rfl (lv_at hl 3 rfl) ?_
                refine lv_iload_n hx hb dX12_load_69 rfl (lv_at hl 4 rfl) ?_
                refine lv_iload hx hb dX12_load_70 (lv_at hl 5 rfl) ?_
                refine lv_iload hx hb dX12_load_72 (lv_at hl 6 rfl) ?_
                have hq := h
                clear h
                refine xcVI (As := [.int p1, .int p2, .int p3, .int p4, .int p5]) (rest := []) E hw hA (c_X12_loadOf l D ad cs sk z16 p1 p2 p3 p4 p5 _ hq) kc_12_288 yo_X12_loadOf ⟨Nat.le_of_ble_eq_true rfl, Nat.le_of_ble_eq_true rfl⟩ (xrc E hw ky_14_100 rfl) rfl hl.1 rfl (Nat.le_of_ble_eq_true rfl) dX12_load_74 ⟨Nat.le_of_ble_eq_true rfl, Nat.le_of_ble_eq_true rfl⟩ (fun r20 z19 H locs h hw => ?_)
                exact hret r20 z19 H locs 77 ls hw rfl h dX12_load_77
              · replace h := h.2 c18
                refine lv_iload hx hb dX12_load_61 (lv_at hl 0 rfl) ?_
                refine lv_goto (tgt := 77) hx hb dX12_load_63 (by decide) ?_
                exact hret r17 z16 H locs 77 ls hw rfl h dX12_load_77
            · replace h := h.2 c15
              refine lv_iconst (v := -1) hx hb dX12_load_47 (by decide) ?_
              exact hret (-1 : Int32) z13 H locs 48 ls hw rfl h dX12_load_48
  exact b00 s.heap [] hw
def V_X12_bestLoad_129 (post : Int32 → ZS → Prop) (rr74 : ZS → Int32 → Int32 → Int32 → Int32 → Int32 → Int32 → Int32 → Int32 → Prop) (rr86 : ZS → Int32 → Int32 → Int32 → Int32 → Int32 → Int32 → Int32 → Int32 → Int32 → Prop) (z : ZS) (v1 : Int32) (v2 : Int32) (v3 : Int32) (v4 : Int32) (v6 : Int32) (v7 : Int32) (v8 : Int32) (v9 : Int32) (v10 : Int32) : Prop := (∀ t24 : Int32, t24 = v10 + (1000 : Int32) → rr86 z v1 v2 v3 v4 v6 v7 v8 v9 t24)
def V_X12_bestLoad_86 (post : Int32 → ZS → Prop) (rr74 : ZS → Int32 → Int32 → Int32 → Int32 → Int32 → Int32 → Int32 → Int32 → Prop) : Nat → ZS → Int32 → Int32 → Int32 → Int32 → Int32 → Int32 → Int32 → Int32 → Int32 → Prop
  | 0, _, _, _, _, _, _, _, _, _, _ => False
  | (n + 1), z, v1, v2, v3, v4, v6, v7, v8, v9, v10 => (((10000 : Int32) < v10 → (∀ t20 : Int32, t20 = v9 + (1 : Int32) → rr74 z v1 v2 v3 v4 v6 v7 v8 t20)) ∧ (¬ (10000 : Int32) < v10 → V_X12_loadOf z v1 v10 v2 v9 v3 (fun r22 z21 => ((v8 < r22 → V_X12_bestLoad_129 post rr74 (V_X12_bestLoad_86 post rr74 n) z21 v1 v2 v3 v4 v10 v9 r22 v9 v10) ∧ (¬ v8 < r22 → V_X12_bestLoad_129 post rr74 (V_X12_bestLoad_86 post rr74 n) z21 v1 v2 v3 v4 v6 v7 v8 v9 v10)))))
def V_X12_bestLoad_74 (post : Int32 → ZS → Prop) : Nat → ZS → Int32 → Int32 → Int32 → Int32 → Int32 → Int32 → Int32 → Int32 → Prop
  | 0, _, _, _, _, _, _, _, _, _ => False
  | (n + 1), z, v1, v2, v3, v4, v6, v7, v8, v9 => (((10 : Int32) < v9 → ((¬ v4 = 0 → ((¬ v4 = (1 : Int32) → post v8 z) ∧ (v4 = (1 : Int32) → post v7 z))) ∧ (v4 = 0 → post v6 z))) ∧ (¬ (10 : Int32) < v9 → (∃ n25 : Nat, V_X12_bestLoad_86 post (V_X12_bestLoad_74 post n) n25 z v1 v2 v3 v4 v6 v7 v8 v9 (-10000 : Int32))))
def V_X12_bestLoad (z : ZS) (p1 : Int32) (p2 : Int32) (p3 : Int32) (p4 : Int32) (post : Int32 → ZS → Prop) : Prop := V_X12_isShelf z p1 (fun r2 z1 => ((r2 = 0 → post (-1000000001 : Int32) z1) ∧ (¬ r2 = 0 → V_X12_isEdge z1 p2 (fun r5 z4 => ((r5 = 0 → post (-1000000001 : Int32) z4) ∧ (¬ r5 = 0 → V_X12_isIn z4 (Int32.toInt64 p3) (0 : Int64) (60000 : Int64) (fun r8 z7 => ((r8 = 0 → post (-1000000001 : Int32) z7) ∧ (¬ r8 = 0 → V_X12_isIn z7 (Int32.toInt64 p4) (0 : Int64) (2 : Int64) (fun r11 z10 => ((¬ r11 = 0 → V_X12_wrongLoad z10 p1 (fun r14 z13 => ((r14 = 0 → (∃ n26 : Nat, V_X12_bestLoad_74 post n26 z13 p1 p2 p3 p4 (0 : Int32) (0 : Int32) (-4 : Int32) (1 : Int32))) ∧ (¬ r14 = 0 → post ((-1000000000 : Int32) + r14) z13)))) ∧ (r11 = 0 → post (-1000000001 : Int32) z10))))))))))))
set_option maxHeartbeats 4000000 in
set_option maxRecDepth 100000 in
theorem c_X12_bestLoad (l : Launch) (D : va_G) (ad : Nat → Nat → Nat) (cs : Nat → ClassId) (sk : (Nat → Nat) × (Nat → Nat)) (z : ZS) (p1 : Int32) (p2 : Int32) (p3 : Int32) (p4 : Int32) (post : Int32 → ZS → Prop) (h : V_X12_bestLoad z p1 p2 p3 p4 post) : MI l D ad cs sk yX12_bestLoad cX12_bestLoad 12 .int (rmq 7 0 0) [.ref (ad 14 100), .int p1, .int p2, .int p3, .int p4] z post := by
  refine MI.of RX12 rfl (by decide) (Nat.le_of_ble_eq_true rfl) ?_
  intro p e s m args below meth c A Q E hw hA hret ls hl
  have hx := E.1.1
  have hb := E.1.2.1
  have hml := E.1.2.2.1
  have hown := E.1.2.2.2.1
  have h0 := E.1.2.2.2.2
  have hl : lv_has ls 12 [(0, .ref (ad 14 100)), (1, .int p1), (2, .int p2), (3, .int p3), (4, .int p4)] := hl
  unfold V_X12_bestLoad at h
  have b74 : ∀ (n : Nat) (z : ZS) (v1 : Int32) (v2 : Int32) (v3 : Int32) (v4 : Int32) (v6 : Int32) (v7 : Int32) (v8 : Int32) (v9 : Int32), ∀ (H : Heap) (locs : List Loc), OW D ad cs A s.heap z H locs → ∀ ls : Array Slot, lv_has ls 12 [(0, .ref (ad 14 100)), (1, .int v1), (2, .int v2), (3, .int v3), (4, .int v4), (6, .int v6), (7, .int v7), (8, .int v8), (9, .int v9)] → V_X12_bestLoad_74 post n z v1 v2 v3 v4 v6 v7 v8 v9 → W p l e (rmq 7 0 0) s m args below meth c H locs 0 0 Q (F0 m 74 ls []) := by
    intro n
    induction n with
    | zero =>
      intro z v1 v2 v3 v4 v6 v7 v8 v9 H locs hw ls hl h
      exact h.elim
    | succ n74x ih74 =>
      have b86 : ∀ (n : Nat) (z : ZS) (v1 : Int32) (v2 : Int32) (v3 : Int32) (v4 : Int32) (v6 : Int32) (v7 : Int32) (v8 : Int32) (v9 : Int32) (v10 : Int32), ∀ (H : Heap) (locs : List Loc), OW D ad cs A s.heap z H locs → ∀ ls : Array Slot, lv_has ls 12 [(0, .ref (ad 14 100)), (1, .int v1), (2, .int v2), (3, .int v3), (4, .int v4), (6, .int v6), (7, .int v7), (8, .int v8), (9, .int v9), (10, .int v10)] → V_X12_bestLoad_86 post (V_X12_bestLoad_74 post n74x) n z v1 v2 v3 v4 v6 v7 v8 v9 v10 → W p l e (rmq 7 0 0) s m args below meth c H locs 0 0 Q (F0 m 86 ls []) := by
        intro n
        induction n with
        | zero =>
          intro z v1 v2 v3 v4 v6 v7 v8 v9 v10 H locs hw ls hl h
          exact h.elim
        | succ n86x ih86 =>
          have b129 : ∀ (z : ZS) (v1 : Int32) (v2 : Int32) (v3 : Int32) (v4 : Int32) (v6 : Int32) (v7 : Int32) (v8 : Int32) (v9 : Int32) (v10 : Int32), ∀ (H : Heap) (locs : List Loc), OW D ad cs A s.heap z H locs → ∀ ls : Array Slot, lv_has ls 12 [(0, .ref (ad 14 100)), (1, .int v1), (2, .int v2), (3, .int v3), (4, .int v4), (6, .int v6), (7, .int v7), (8, .int v8), (9, .int v9), (10, .int v10)] → V_X12_bestLoad_129 post (V_X12_bestLoad_74 post n74x) (V_X12_bestLoad_86 post (V_X12_bestLoad_74 post n74x) n86x) z v1 v2 v3 v4 v6 v7 v8 v9 v10 → W p l e (rmq 7 0 0) s m args below meth c H locs 0 0 Q (F0 m 129 ls []) := by
            intro z v1 v2 v3 v4 v6 v7 v8 v9 v10 H locs hw ls hl h
            unfold V_X12_bestLoad_129 at h
            obtain ⟨t24, et24⟩ : ∃ y : Int32, y = v10 + (1000 : Int32) := ⟨_, rfl⟩
            replace h := h t24 et24
            refine lv_iincW (v := t24) (lv' := [(10, .int t24), (0, .ref (ad 14 100)), (1, .int v1), (2, .int v2), (3, .int v3), (4, .int v4), (6, .int v6), (7, .int v7), (8, .int v8), (9, .int v9)]) hx hb dX12_bestLoad_129 hl (k := 9) rfl (by rw [et24]; rfl) (by decide) rfl (fun ls hl => ?_)
            refine lv_goto (tgt := 86) hx hb dX12_bestLoad_135 (by decide) ?_
            exact ih86 z v1 v2 v3 v4 v6 v7 v8 v9 t24 H locs hw ls (lv_sub hl [1, 2, 3, 4, 5, 6, 7, 8, 9, 0] rfl) h
          intro z v1 v2 v3 v4 v6 v7 v8 v9 v10 H locs hw ls hl h
          unfold V_X12_bestLoad_86 at h
          refine lv_iload hx hb dX12_bestLoad_86 (lv_at hl 9 rfl) ?_
          refine lv_sipush (v := 10000) hx hb dX12_bestLoad_88 (by decide) ?_
          refine lv_icmp_gt (tgt := 138) hx hb dX12_bestLoad_91 (by decide) (fun c19 => ?_) (fun c19 => ?_)
          · replace h := h.1 c19
            obtain ⟨t20, et20⟩ : ∃ y : Int32, y = v9 + (1 : Int32) := ⟨_, rfl⟩
            replace h := h t20 et20
            refine lv_iinc (v := t20) (lv' := [(9, .int t20), (0, .ref (ad 14 100)), (1, .int v1), (2, .int v2), (3, .int v3), (4, .int v4), (6, .int v6), (7, .int v7), (8, .int v8), (10, .int v10)]) hx hb dX12_bestLoad_138 hl (k := 8) rfl (by rw [et20]; rfl) (by decide) rfl (fun ls hl => ?_)
            refine lv_goto (tgt := 74) hx hb dX12_bestLoad_141 (by decide) ?_
            exact ih74 z v1 v2 v3 v4 v6 v7 v8 t20 H locs hw ls (lv_sub hl [1, 2, 3, 4, 5, 6, 7, 8, 0] rfl) h
          · replace h := h.2 c19
            refine lv_aload_n hx hb dX12_bestLoad_94 rfl (lv_at hl 0 rfl) ?_
            refine lv_iload_n hx hb dX12_bestLoad_95 rfl (lv_at hl 1 rfl) ?_
            refine lv_iload hx hb dX12_bestLoad_96 (lv_at hl 9 rfl) ?_
            refine lv_iload_n hx hb dX12_bestLoad_98 rfl (lv_at hl 2 rfl) ?_
            refine lv_iload hx hb dX12_bestLoad_99 (lv_at hl 8 rfl) ?_
            refine lv_iload_n hx hb dX12_bestLoad_101 rfl (lv_at hl 3 rfl) ?_
            have hq := h
            clear h
            refine xcVI (As := [.int v1, .int v10, .int v2, .int v9, .int v3]) (rest := []) E hw hA (c_X12_loadOf l D ad cs sk z v1 v10 v2 v9 v3 _ hq) kc_12_288 yo_X12_loadOf ⟨Nat.le_of_ble_eq_true rfl, Nat.le_of_ble_eq_true rfl⟩ (xrc E hw ky_14_100 rfl) rfl hl.1 rfl (Nat.le_of_ble_eq_true rfl) dX12_bestLoad_102 ⟨Nat.le_of_ble_eq_true rfl, Nat.le_of_ble_eq_true rfl⟩ (fun r22 z21 H locs h hw => ?_)
            refine lv_istore (lv' := [(11, .int r22), (0, .ref (ad 14 100)), (1, .int v1), (2, .int v2), (3, .int v3), (4, .int v4), (6, .int v6), (7, .int v7), (8, .int v8), (9, .int v9), (10, .int v10)]) hx hb dX12_bestLoad_105 hl (by decide) rfl (fun ls hl => ?_)
            refine lv_iload hx hb dX12_bestLoad_107 (lv_at hl 0 rfl) ?_
            refine lv_iload hx hb dX12_bestLoad_109 (lv_at hl 8 rfl) ?_
            refine lv_icmp_gt (tgt := 117) hx hb dX12_bestLoad_111 (by decide) (fun c23 => ?_) (fun c23 => ?_)
            · replace h := h.1 c23
              refine lv_iload hx hb dX12_bestLoad_117 (lv_at hl 10 rfl) ?_
              refine lv_istore (lv' := [(6, .int v10), (11, .int r22), (0, .ref (ad 14 100)), (1, .int v1), (2, .int v2), (3, .int v3), (4, .int v4), (7, .int v7), (8, .int v8), (9, .int v9), (10, .int v10)]) hx hb dX12_bestLoad_119 hl (by decide) rfl (fun ls hl => ?_)
              refine lv_iload hx hb dX12_bestLoad_121 (lv_at hl 9 rfl) ?_
              refine lv_istore (lv' := [(7, .int v9), (6, .int v10), (11, .int r22), (0, .ref (ad 14 100)), (1, .int v1), (2, .int v2), (3, .int v3), (4, .int v4), (8, .int v8), (9, .int v9), (10, .int v10)]) hx hb dX12_bestLoad_123 hl (by decide) rfl (fun ls hl => ?_)
              refine lv_iload hx hb dX12_bestLoad_125 (lv_at hl 2 rfl) ?_
              refine lv_istore (lv' := [(8, .int r22), (7, .int v9), (6, .int v10), (11, .int r22), (0, .ref (ad 14 100)), (1, .int v1), (2, .int v2), (3, .int v3), (4, .int v4), (9, .int v9), (10, .int v10)]) hx hb dX12_bestLoad_127 hl (by decide) rfl (fun ls hl => ?_)
              exact b129 z21 v1 v2 v3 v4 v10 v9 r22 v9 v10 H locs hw ls (lv_sub hl [4, 5, 6, 7, 8, 2, 1, 0, 9, 10] rfl) h
            · replace h := h.2 c23
              refine lv_goto (tgt := 129) hx hb dX12_bestLoad_114 (by decide) ?_
              exact b129 z21 v1 v2 v3 v4 v6 v7 v8 v9 v10 H locs hw ls (lv_sub hl [1, 2, 3, 4, 5, 6, 7, 8, 9, 10] rfl) h
      intro z v1 v2 v3 v4 v6 v7 v8 v9 H locs hw ls hl h
      unfold V_X12_bestLoad_74 at h
      refine lv_iload hx hb dX12_bestLoad_74 (lv_at hl 8 rfl) ?_
      refine lv_bipush (v := 10) hx hb dX12_bestLoad_76 (by decide) ?_
      refine lv_icmp_gt (tgt := 144) hx hb dX12_bestLoad_78 (by decide) (fun c16 => ?_) (fun c16 => ?_)
      · replace h := h.1 c16
        refine lv_iload hx hb dX12_bestLoad_144 (lv_at hl 4 rfl) ?_
        refine lv_if_ne (tgt := 154) hx hb dX12_bestLoad_146 (by decide) (fun c17 => ?_) (fun c17 => ?_)
        · replace h := h.1 c17
          refine lv_iload hx hb dX12_bestLoad_154 (lv_at hl 4 rfl) ?_
          refine lv_iconst (v := 1) hx hb dX12_bestLoad_156 (by decide) ?_
          refine lv_icmp_ne (tgt := 165) hx hb dX12_bestLoad_157 (by decide) (fun c18 => ?_) (fun c18 => ?_)
          · replace h := h.1 c18
            refine lv_iload hx hb dX12_bestLoad_165 (lv_at hl 7 rfl) ?_
            exact hret v8 z H locs 167 ls hw rfl h dX12_bestLoad_167
          · replace h := h.2 c18
            refine lv_iload hx hb dX12_bestLoad_160 (lv_at hl 6 rfl) ?_
            refine lv_goto (tgt := 167) hx hb dX12_bestLoad_162 (by decide) ?_
            exact hret v7 z H locs 167 ls hw rfl h dX12_bestLoad_167
        · replace h := h.2 c17
          refine lv_iload hx hb dX12_bestLoad_149 (lv_at hl 5 rfl) ?_
          refine lv_goto (tgt := 167) hx hb dX12_bestLoad_151 (by decide) ?_
          exact hret v6 z H locs 167 ls hw rfl h dX12_bestLoad_167
      · replace h := h.2 c16
        refine lv_sipush (v := -10000) hx hb dX12_bestLoad_81 (by decide) ?_
        refine lv_istore (lv' := [(10, .int (-10000 : Int32)), (0, .ref (ad 14 100)), (1, .int v1), (2, .int v2), (3, .int v3), (4, .int v4), (6, .int v6), (7, .int v7), (8, .int v8), (9, .int v9)]) hx hb dX12_bestLoad_84 hl (by decide) rfl (fun ls hl => ?_)
        obtain ⟨n25, h⟩ := h
        exact b86 n25 z v1 v2 v3 v4 v6 v7 v8 v9 (-10000 : Int32) H locs hw ls (lv_sub hl [1, 2, 3, 4, 5, 6, 7, 8, 9, 0] rfl) h
  have b00 : ∀ (H : Heap) (locs : List Loc), OW D ad cs A s.heap z H locs → W p l e (rmq 7 0 0) s m args below meth c H locs 0 0 Q (F0 m 0 ls []) := by
    intro H locs hw
    refine lv_iload_n hx hb dX12_bestLoad_0 rfl (lv_at hl 1 rfl) ?_
    have hq := h
    clear h
    refine xcSI (As := [.int p1]) (rest := []) E hw hA (c_X12_isShelf l D ad cs sk z p1 _ hq) kc_12_125 yo_X12_isShelf ⟨Nat.le_of_ble_eq_true rfl, Nat.le_of_ble_eq_true rfl⟩ rfl hl.1 rfl (Nat.le_of_ble_eq_true rfl) dX12_bestLoad_1 ⟨Nat.le_of_ble_eq_true rfl, Nat.le_of_ble_eq_true rfl⟩ (fun r2 z1 H locs h hw => ?_)
    refine lv_if_eq (tgt := 39) hx hb dX12_bestLoad_4 (by decide) (fun c3 => ?_) (fun c3 => ?_)
    · replace h := h.1 c3
      refine lv_ldc (v := -1000000001) hx hb hown (h0 _ qk_12_139) dX12_bestLoad_39 ?_
      exact hret (-1000000001 : Int32) z1 H locs 41 ls hw rfl h dX12_bestLoad_41
    · replace h := h.2 c3
      refine lv_iload_n hx hb dX12_bestLoad_7 rfl (lv_at hl 2 rfl) ?_
      have hq := h
      clear h
      refine xcSI (As := [.int p2]) (rest := []) E hw hA (c_X12_isEdge l D ad cs sk z1 p2 _ hq) kc_12_184 yo_X12_isEdge ⟨Nat.le_of_ble_eq_true rfl, Nat.le_of_ble_eq_true rfl⟩ rfl hl.1 rfl (Nat.le_of_ble_eq_true rfl) dX12_bestLoad_8 ⟨Nat.le_of_ble_eq_true rfl, Nat.le_of_ble_eq_true rfl⟩ (fun r5 z4 H locs h hw => ?_)
      refine lv_if_eq (tgt := 39) hx hb dX12_bestLoad_11 (by decide) (fun c6 => ?_) (fun c6 => ?_)
      · replace h := h.1 c6
        refine lv_ldc (v := -1000000001) hx hb hown (h0 _ qk_12_139) dX12_bestLoad_39 ?_
        exact hret (-1000000001 : Int32) z4 H locs 41 ls hw rfl h dX12_bestLoad_41
      · replace h := h.2 c6
        refine lv_iload_n hx hb dX12_bestLoad_14 rfl (lv_at hl 3 rfl) ?_
        refine lv_i2l hx hb dX12_bestLoad_15 rfl ?_
        refine lv_lconst (v := 0) hx hb dX12_bestLoad_16 (by decide) ?_
        refine lv_ldc2 (v := 60000) hx hb hown (h0 _ ql_12_283) dX12_bestLoad_17 ?_
        have hq := h
        clear h
        refine xcSI (As := [.long (Int32.toInt64 p3), .long (0 : Int64), .long (60000 : Int64)]) (rest := []) E hw hA (c_X12_isIn l D ad cs sk z4 (Int32.toInt64 p3) (0 : Int64) (60000 : Int64) _ hq) kc_12_56 yo_X12_isIn ⟨Nat.le_of_ble_eq_true rfl, Nat.le_of_ble_eq_true rfl⟩ rfl hl.1 rfl (Nat.le_of_ble_eq_true rfl) dX12_bestLoad_20 ⟨Nat.le_of_ble_eq_true rfl, Nat.le_of_ble_eq_true rfl⟩ (fun r8 z7 H locs h hw => ?_)
        refine lv_if_eq (tgt := 39) hx hb dX12_bestLoad_23 (by decide) (fun c9 => ?_) (fun c9 => ?_)
        · replace h := h.1 c9
          refine lv_ldc (v := -1000000001) hx hb hown (h0 _ qk_12_139) dX12_bestLoad_39 ?_
          exact hret (-1000000001 : Int32) z7 H locs 41 ls hw rfl h dX12_bestLoad_41
        · replace h := h.2 c9
          refine lv_iload hx hb dX12_bestLoad_26 (lv_at hl 4 rfl) ?_
          refine lv_i2l hx hb dX12_bestLoad_28 rfl ?_
          refine lv_lconst (v := 0) hx hb dX12_bestLoad_29 (by decide) ?_
          refine lv_ldc2 (v := 2) hx hb hown (h0 _ ql_12_147) dX12_bestLoad_30 ?_
          have hq := h
          clear h
          refine xcSI (As := [.long (Int32.toInt64 p4), .long (0 : Int64), .long (2 : Int64)]) (rest := []) E hw hA (c_X12_isIn l D ad cs sk z7 (Int32.toInt64 p4) (0 : Int64) (2 : Int64) _ hq) kc_12_56 yo_X12_isIn ⟨Nat.le_of_ble_eq_true rfl, Nat.le_of_ble_eq_true rfl⟩ rfl hl.1 rfl (Nat.le_of_ble_eq_true rfl) dX12_bestLoad_33 ⟨Nat.le_of_ble_eq_true rfl, Nat.le_of_ble_eq_true rfl⟩ (fun r11 z10 H locs h hw => ?_)
          refine lv_if_ne (tgt := 42) hx hb dX12_bestLoad_36 (by decide) (fun c12 => ?_) (fun c12 => ?_)
          · replace h := h.1 c12
            refine lv_aload_n hx hb dX12_bestLoad_42 rfl (lv_at hl 0 rfl) ?_
            refine lv_iload_n hx hb dX12_bestLoad_43 rfl (lv_at hl 1 rfl) ?_
            have hq := h
            clear h
            refine xcVI (As := [.int p1]) (rest := []) E hw hA (c_X12_wrongLoad l D ad cs sk z10 p1 _ hq) kc_12_285 yo_X12_wrongLoad ⟨Nat.le_of_ble_eq_true rfl, Nat.le_of_ble_eq_true rfl⟩ (xrc E hw ky_14_100 rfl) rfl hl.1 rfl (Nat.le_of_ble_eq_true rfl) dX12_bestLoad_44 ⟨Nat.le_of_ble_eq_true rfl, Nat.le_of_ble_eq_true rfl⟩ (fun r14 z13 H locs h hw => ?_)
            refine lv_istore (lv' := [(5, .int r14), (0, .ref (ad 14 100)), (1, .int p1), (2, .int p2), (3, .int p3), (4, .int p4)]) hx hb dX12_bestLoad_47 hl (by decide) rfl (fun ls hl => ?_)
            refine lv_iload hx hb dX12_bestLoad_49 (lv_at hl 0 rfl) ?_
            refine lv_if_eq (tgt := 61) hx hb dX12_bestLoad_51 (by decide) (fun c15 => ?_) (fun c15 => ?_)
            · replace h := h.1 c15
              refine lv_iconst (v := 0) hx hb dX12_bestLoad_61 (by decide) ?_
              refine lv_istore (lv' := [(6, .int (0 : Int32)), (5, .int r14), (0, .ref (ad 14 100)), (1, .int p1), (2, .int p2), (3, .int p3), (4, .int p4)]) hx hb dX12_bestLoad_62 hl (by decide) rfl (fun ls hl => ?_)
              refine lv_iconst (v := 0) hx hb dX12_bestLoad_64 (by decide) ?_
              refine lv_istore (lv' := [(7, .int (0 : Int32)), (6, .int (0 : Int32)), (5, .int r14), (0, .ref (ad 14 100)), (1, .int p1), (2, .int p2), (3, .int p3), (4, .int p4)]) hx hb dX12_bestLoad_65 hl (by decide) rfl (fun ls hl => ?_)
              refine lv_bipush (v := -4) hx hb dX12_bestLoad_67 (by decide) ?_
              refine lv_istore (lv' := [(8, .int (-4 : Int32)), (7, .int (0 : Int32)), (6, .int (0 : Int32)), (5, .int r14), (0, .ref (ad 14 100)), (1, .int p1), (2, .int p2), (3, .int p3), (4, .int p4)]) hx hb dX12_bestLoad_69 hl (by decide) rfl (fun ls hl => ?_)
              refine lv_iconst (v := 1) hx hb dX12_bestLoad_71 (by decide) ?_
              refine lv_istore (lv' := [(9, .int (1 : Int32)), (8, .int (-4 : Int32)), (7, .int (0 : Int32)), (6, .int (0 : Int32)), (5, .int r14), (0, .ref (ad 14 100)), (1, .int p1), (2, .int p2), (3, .int p3), (4, .int p4)]) hx hb dX12_bestLoad_72 hl (by decide) rfl (fun ls hl => ?_)
              obtain ⟨n26, h⟩ := h
              exact b74 n26 z13 p1 p2 p3 p4 (0 : Int32) (0 : Int32) (-4 : Int32) (1 : Int32) H locs hw ls (lv_sub hl [5, 6, 7, 8, 9, 3, 2, 1, 0] rfl) h
            · replace h := h.2 c15
              refine lv_ldcw (v := -1000000000) hx hb hown (h0 _ qk_12_291) dX12_bestLoad_54 ?_
              refine lv_iload hx hb dX12_bestLoad_57 (lv_at hl 0 rfl) ?_
              refine lv_iadd hx hb dX12_bestLoad_59 ?_
              exact hret ((-1000000000 : Int32) + r14) z13 H locs 60 ls hw rfl h dX12_bestLoad_60
          · replace h := h.2 c12
            refine lv_ldc (v := -1000000001) hx hb hown (h0 _ qk_12_139) dX12_bestLoad_39 ?_
            exact hret (-1000000001 : Int32) z10 H locs 41 ls hw rfl h dX12_bestLoad_41
  exact b00 s.heap [] hw
def V_X12_cone_109 (post : Int32 → ZS → Prop) (rr42 : ZS → Int32 → Int32 → Int32 → Int32 → Int32 → Prop) (rr55 : ZS → Int32 → Int32 → Int32 → Int32 → Int32 → Int32 → Prop) (z : ZS) (v1 : Int32) (v2 : Int32) (v3 : Int32) (v5 : Int32) (v6 : Int32) (s0 : Int32) (s1 : Int32) : Prop := (∀ t25 : Int32, t25 = (s0 + s1) → (∀ t26 : Int32, t26 = v6 + (500 : Int32) → rr55 z v1 v2 v3 t25 v5 t26))
def V_X12_cone_55 (post : Int32 → ZS → Prop) (rr42 : ZS → Int32 → Int32 → Int32 → Int32 → Int32 → Prop) : Nat → ZS → Int32 → Int32 → Int32 → Int32 → Int32 → Int32 → Prop
  | 0, _, _, _, _, _, _, _ => False
  | (n + 1), z, v1, v2, v3, v4, v5, v6 => (((5000 : Int32) < v6 → (∀ t12 : Int32, t12 = v5 + (500 : Int32) → rr42 z v1 v2 v3 v4 t12)) ∧ (¬ (5000 : Int32) < v6 → V_X12_of z v1 (0 : Int32) (fun r14 z13 => V_X12_of z13 v1 (1 : Int32) (fun r16 z15 => V_X12_leaves z15 r14 r16 (0 : Int32) v5 v6 (1 : Int32) (fun z17 => (∀ z19 : ZS, z19 = wI z17 14 24 v2 → V_X12_lands z19 (fun z20 => V_X12_off z20 (fun r23 z22 => ((v3 < r23 → V_X12_cone_109 post rr42 (V_X12_cone_55 post rr42 n) z22 v1 v2 v3 v5 v6 v4 (0 : Int32)) ∧ (¬ v3 < r23 → V_X12_cone_109 post rr42 (V_X12_cone_55 post rr42 n) z22 v1 v2 v3 v5 v6 v4 (1 : Int32)))))))))))
def V_X12_cone_42 (post : Int32 → ZS → Prop) : Nat → ZS → Int32 → Int32 → Int32 → Int32 → Int32 → Prop
  | 0, _, _, _, _, _, _ => False
  | (n + 1), z, v1, v2, v3, v4, v5 => (((5000 : Int32) < v5 → post v4 z) ∧ (¬ (5000 : Int32) < v5 → (∃ n27 : Nat, V_X12_cone_55 post (V_X12_cone_42 post n) n27 z v1 v2 v3 v4 v5 (-5000 : Int32))))
def V_X12_cone (z : ZS) (p1 : Int32) (p2 : Int32) (p3 : Int32) (post : Int32 → ZS → Prop) : Prop := V_X12_isFaller z p1 (fun r2 z1 => ((r2 = 0 → post (-1 : Int32) z1) ∧ (¬ r2 = 0 → V_X12_isIn z1 (Int32.toInt64 p2) (1 : Int64) (3000 : Int64) (fun r5 z4 => ((r5 = 0 → post (-1 : Int32) z4) ∧ (¬ r5 = 0 → V_X12_isIn z4 (Int32.toInt64 p3) (0 : Int64) (60000 : Int64) (fun r8 z7 => ((¬ r8 = 0 → (∃ n28 : Nat, V_X12_cone_42 post n28 z7 p1 p2 p3 (0 : Int32) (-5000 : Int32))) ∧ (r8 = 0 → post (-1 : Int32) z7)))))))))
set_option maxHeartbeats 4000000 in
set_option maxRecDepth 100000 in
theorem c_X12_cone (l : Launch) (D : va_G) (ad : Nat → Nat → Nat) (cs : Nat → ClassId) (sk : (Nat → Nat) × (Nat → Nat)) (z : ZS) (p1 : Int32) (p2 : Int32) (p3 : Int32) (post : Int32 → ZS → Prop) (h : V_X12_cone z p1 p2 p3 post) : MI l D ad cs sk yX12_cone cX12_cone 7 .int (rmq 5 0 0) [.ref (ad 14 100), .int p1, .int p2, .int p3] z post := by
  refine MI.of RX12 rfl (by decide) (Nat.le_of_ble_eq_true rfl) ?_
  intro p e s m args below meth c A Q E hw hA hret ls hl
  have hx := E.1.1
  have hb := E.1.2.1
  have hml := E.1.2.2.1
  have hown := E.1.2.2.2.1
  have h0 := E.1.2.2.2.2
  have hl : lv_has ls 7 [(0, .ref (ad 14 100)), (1, .int p1), (2, .int p2), (3, .int p3)] := hl
  unfold V_X12_cone at h
  have b42 : ∀ (n : Nat) (z : ZS) (v1 : Int32) (v2 : Int32) (v3 : Int32) (v4 : Int32) (v5 : Int32), ∀ (H : Heap) (locs : List Loc), OW D ad cs A s.heap z H locs → ∀ ls : Array Slot, lv_has ls 7 [(0, .ref (ad 14 100)), (1, .int v1), (2, .int v2), (3, .int v3), (4, .int v4), (5, .int v5)] → V_X12_cone_42 post n z v1 v2 v3 v4 v5 → W p l e (rmq 5 0 0) s m args below meth c H locs 0 0 Q (F0 m 42 ls []) := by
    intro n
    induction n with
    | zero =>
      intro z v1 v2 v3 v4 v5 H locs hw ls hl h
      exact h.elim
    | succ n42x ih42 =>
      have b55 : ∀ (n : Nat) (z : ZS) (v1 : Int32) (v2 : Int32) (v3 : Int32) (v4 : Int32) (v5 : Int32) (v6 : Int32), ∀ (H : Heap) (locs : List Loc), OW D ad cs A s.heap z H locs → ∀ ls : Array Slot, lv_has ls 7 [(0, .ref (ad 14 100)), (1, .int v1), (2, .int v2), (3, .int v3), (4, .int v4), (5, .int v5), (6, .int v6)] → V_X12_cone_55 post (V_X12_cone_42 post n42x) n z v1 v2 v3 v4 v5 v6 → W p l e (rmq 5 0 0) s m args below meth c H locs 0 0 Q (F0 m 55 ls []) := by
        intro n
        induction n with
        | zero =>
          intro z v1 v2 v3 v4 v5 v6 H locs hw ls hl h
          exact h.elim
        | succ n55x ih55 =>
          have b109 : ∀ (z : ZS) (v1 : Int32) (v2 : Int32) (v3 : Int32) (v5 : Int32) (v6 : Int32) (s0 : Int32) (s1 : Int32), ∀ (H : Heap) (locs : List Loc), OW D ad cs A s.heap z H locs → ∀ ls : Array Slot, lv_has ls 7 [(0, .ref (ad 14 100)), (1, .int v1), (2, .int v2), (3, .int v3), (5, .int v5), (6, .int v6)] → V_X12_cone_109 post (V_X12_cone_42 post n42x) (V_X12_cone_55 post (V_X12_cone_42 post n42x) n55x) z v1 v2 v3 v5 v6 s0 s1 → W p l e (rmq 5 0 0) s m args below meth c H locs 0 0 Q (F0 m 109 ls [.int s1, .int s0]) := by
            intro z v1 v2 v3 v5 v6 s0 s1 H locs hw ls hl h
            unfold V_X12_cone_109 at h
            refine lv_iadd hx hb dX12_cone_109 ?_
            refine lv_topi (fun t25 et25 => ?_)
            replace h := h t25 et25
            refine lv_istore (lv' := [(4, .int t25), (0, .ref (ad 14 100)), (1, .int v1), (2, .int v2), (3, .int v3), (5, .int v5), (6, .int v6)]) hx hb dX12_cone_110 hl (by decide) rfl (fun ls hl => ?_)
            obtain ⟨t26, et26⟩ : ∃ y : Int32, y = v6 + (500 : Int32) := ⟨_, rfl⟩
            replace h := h t26 et26
            refine lv_iincW (v := t26) (lv' := [(6, .int t26), (4, .int t25), (0, .ref (ad 14 100)), (1, .int v1), (2, .int v2), (3, .int v3), (5, .int v5)]) hx hb dX12_cone_112 hl (k := 6) rfl (by rw [et26]; rfl) (by decide) rfl (fun ls hl => ?_)
            refine lv_goto (tgt := 55) hx hb dX12_cone_118 (by decide) ?_
            exact ih55 z v1 v2 v3 t25 v5 t26 H locs hw ls (lv_sub hl [2, 3, 4, 5, 1, 6, 0] rfl) h
          intro z v1 v2 v3 v4 v5 v6 H locs hw ls hl h
          unfold V_X12_cone_55 at h
          refine lv_iload hx hb dX12_cone_55 (lv_at hl 6 rfl) ?_
          refine lv_sipush (v := 5000) hx hb dX12_cone_57 (by decide) ?_
          refine lv_icmp_gt (tgt := 121) hx hb dX12_cone_60 (by decide) (fun c11 => ?_) (fun c11 => ?_)
          · replace h := h.1 c11
            obtain ⟨t12, et12⟩ : ∃ y : Int32, y = v5 + (500 : Int32) := ⟨_, rfl⟩
            replace h := h t12 et12
            refine lv_iincW (v := t12) (lv' := [(5, .int t12), (0, .ref (ad 14 100)), (1, .int v1), (2, .int v2), (3, .int v3), (4, .int v4), (6, .int v6)]) hx hb dX12_cone_121 hl (k := 5) rfl (by rw [et12]; rfl) (by decide) rfl (fun ls hl => ?_)
            refine lv_goto (tgt := 42) hx hb dX12_cone_127 (by decide) ?_
            exact ih42 z v1 v2 v3 v4 t12 H locs hw ls (lv_sub hl [1, 2, 3, 4, 5, 0] rfl) h
          · replace h := h.2 c11
            refine lv_aload_n hx hb dX12_cone_63 rfl (lv_at hl 0 rfl) ?_
            refine lv_aload_n hx hb dX12_cone_64 rfl (lv_at hl 0 rfl) ?_
            refine lv_iload_n hx hb dX12_cone_65 rfl (lv_at hl 1 rfl) ?_
            refine lv_iconst (v := 0) hx hb dX12_cone_66 (by decide) ?_
            have hq := h
            clear h
            refine xcVI (As := [.int v1, .int (0 : Int32)]) (rest := [.ref (ad 14 100)]) E hw hA (c_X12_of l D ad cs sk z v1 (0 : Int32) _ hq) kc_12_152 yo_X12_of ⟨Nat.le_of_ble_eq_true rfl, Nat.le_of_ble_eq_true rfl⟩ (xrc E hw ky_14_100 rfl) rfl hl.1 rfl (Nat.le_of_ble_eq_true rfl) dX12_cone_67 ⟨Nat.le_of_ble_eq_true rfl, Nat.le_of_ble_eq_true rfl⟩ (fun r14 z13 H locs h hw => ?_)
            refine lv_aload_n hx hb dX12_cone_70 rfl (lv_at hl 0 rfl) ?_
            refine lv_iload_n hx hb dX12_cone_71 rfl (lv_at hl 1 rfl) ?_
            refine lv_iconst (v := 1) hx hb dX12_cone_72 (by decide) ?_
            have hq := h
            clear h
            refine xcVI (As := [.int v1, .int (1 : Int32)]) (rest := [.int r14, .ref (ad 14 100)]) E hw hA (c_X12_of l D ad cs sk z13 v1 (1 : Int32) _ hq) kc_12_152 yo_X12_of ⟨Nat.le_of_ble_eq_true rfl, Nat.le_of_ble_eq_true rfl⟩ (xrc E hw ky_14_100 rfl) rfl hl.1 rfl (Nat.le_of_ble_eq_true rfl) dX12_cone_73 ⟨Nat.le_of_ble_eq_true rfl, Nat.le_of_ble_eq_true rfl⟩ (fun r16 z15 H locs h hw => ?_)
            refine lv_iconst (v := 0) hx hb dX12_cone_76 (by decide) ?_
            refine lv_iload hx hb dX12_cone_77 (lv_at hl 5 rfl) ?_
            refine lv_iload hx hb dX12_cone_79 (lv_at hl 6 rfl) ?_
            refine lv_iconst (v := 1) hx hb dX12_cone_81 (by decide) ?_
            have hq := h
            clear h
            refine xcVV (As := [.int r14, .int r16, .int (0 : Int32), .int v5, .int v6, .int (1 : Int32)]) (rest := []) E hw hA (c_X12_leaves l D ad cs sk z15 r14 r16 (0 : Int32) v5 v6 (1 : Int32) _ hq) kc_12_224 yo_X12_leaves ⟨Nat.le_of_ble_eq_true rfl, Nat.le_of_ble_eq_true rfl⟩ (xrc E hw ky_14_100 rfl) rfl hl.1 rfl (Nat.le_of_ble_eq_true rfl) dX12_cone_82 ⟨Nat.le_of_ble_eq_true rfl, Nat.le_of_ble_eq_true rfl⟩ (fun z17 H locs h hw => ?_)
            refine lv_aload_n hx hb dX12_cone_85 rfl (lv_at hl 0 rfl) ?_
            refine lv_iload_n hx hb dX12_cone_86 rfl (lv_at hl 2 rfl) ?_
            refine xpI E hw (c1 := 12) rfl ky_14_100 fp_12_24 rfl rfl qf_12_212 dX12_cone_87 (fun z19 ez19 H locs hw => ?_)
            replace h := h z19 ez19
            refine lv_aload_n hx hb dX12_cone_90 rfl (lv_at hl 0 rfl) ?_
            have hq := h
            clear h
            refine xcVV (As := []) (rest := []) E hw hA (c_X12_lands l D ad cs sk z19 _ hq) kc_12_259 yo_X12_lands ⟨Nat.le_of_ble_eq_true rfl, Nat.le_of_ble_eq_true rfl⟩ (xrc E hw ky_14_100 rfl) rfl hl.1 rfl (Nat.le_of_ble_eq_true rfl) dX12_cone_91 ⟨Nat.le_of_ble_eq_true rfl, Nat.le_of_ble_eq_true rfl⟩ (fun z20 H locs h hw => ?_)
            refine lv_iload hx hb dX12_cone_94 (lv_at hl 4 rfl) ?_
            refine lv_aload_n hx hb dX12_cone_96 rfl (lv_at hl 0 rfl) ?_
            have hq := h
            clear h
            refine xcVI (As := []) (rest := [.int v4]) E hw hA (c_X12_off l D ad cs sk z20 _ hq) kc_12_262 yo_X12_off ⟨Nat.le_of_ble_eq_true rfl, Nat.le_of_ble_eq_true rfl⟩ (xrc E hw ky_14_100 rfl) rfl hl.1 rfl (Nat.le_of_ble_eq_true rfl) dX12_cone_97 ⟨Nat.le_of_ble_eq_true rfl, Nat.le_of_ble_eq_true rfl⟩ (fun r23 z22 H locs h hw => ?_)
            refine lv_iload_n hx hb dX12_cone_100 rfl (lv_at hl 3 rfl) ?_
            refine lv_icmp_gt (tgt := 108) hx hb dX12_cone_101 (by decide) (fun c24 => ?_) (fun c24 => ?_)
            · replace h := h.1 c24
              refine lv_iconst (v := 0) hx hb dX12_cone_108 (by decide) ?_
              exact b109 z22 v1 v2 v3 v5 v6 v4 (0 : Int32) H locs hw ls (lv_sub hl [0, 1, 2, 3, 5, 6] rfl) h
            · replace h := h.2 c24
              refine lv_iconst (v := 1) hx hb dX12_cone_104 (by decide) ?_
              refine lv_goto (tgt := 109) hx hb dX12_cone_105 (by decide) ?_
              exact b109 z22 v1 v2 v3 v5 v6 v4 (1 : Int32) H locs hw ls (lv_sub hl [0, 1, 2, 3, 5, 6] rfl) h
      intro z v1 v2 v3 v4 v5 H locs hw ls hl h
      unfold V_X12_cone_42 at h
      refine lv_iload hx hb dX12_cone_42 (lv_at hl 5 rfl) ?_
      refine lv_sipush (v := 5000) hx hb dX12_cone_44 (by decide) ?_
      refine lv_icmp_gt (tgt := 130) hx hb dX12_cone_47 (by decide) (fun c10 => ?_) (fun c10 => ?_)
      · replace h := h.1 c10
        refine lv_iload hx hb dX12_cone_130 (lv_at hl 4 rfl) ?_
        exact hret v4 z H locs 132 ls hw rfl h dX12_cone_132
      · replace h := h.2 c10
        refine lv_sipush (v := -5000) hx hb dX12_cone_50 (by decide) ?_
        refine lv_istore (lv' := [(6, .int (-5000 : Int32)), (0, .ref (ad 14 100)), (1, .int v1), (2, .int v2), (3, .int v3), (4, .int v4), (5, .int v5)]) hx hb dX12_cone_53 hl (by decide) rfl (fun ls hl => ?_)
        obtain ⟨n27, h⟩ := h
        exact b55 n27 z v1 v2 v3 v4 v5 (-5000 : Int32) H locs hw ls (lv_sub hl [1, 2, 3, 4, 5, 6, 0] rfl) h
  have b00 : ∀ (H : Heap) (locs : List Loc), OW D ad cs A s.heap z H locs → W p l e (rmq 5 0 0) s m args below meth c H locs 0 0 Q (F0 m 0 ls []) := by
    intro H locs hw
    refine lv_aload_n hx hb dX12_cone_0 rfl (lv_at hl 0 rfl) ?_
    refine lv_iload_n hx hb dX12_cone_1 rfl (lv_at hl 1 rfl) ?_
    have hq := h
    clear h
    refine xcVI (As := [.int p1]) (rest := []) E hw hA (c_X12_isFaller l D ad cs sk z p1 _ hq) kc_12_149 yo_X12_isFaller ⟨Nat.le_of_ble_eq_true rfl, Nat.le_of_ble_eq_true rfl⟩ (xrc E hw ky_14_100 rfl) rfl hl.1 rfl (Nat.le_of_ble_eq_true rfl) dX12_cone_2 ⟨Nat.le_of_ble_eq_true rfl, Nat.le_of_ble_eq_true rfl⟩ (fun r2 z1 H locs h hw => ?_)
    refine lv_if_eq (tgt := 32) hx hb dX12_cone_5 (by decide) (fun c3 => ?_) (fun c3 => ?_)
    · replace h := h.1 c3
      refine lv_iconst (v := -1) hx hb dX12_cone_32 (by decide) ?_
      exact hret (-1 : Int32) z1 H locs 33 ls hw rfl h dX12_cone_33
    · replace h := h.2 c3
      refine lv_iload_n hx hb dX12_cone_8 rfl (lv_at hl 2 rfl) ?_
      refine lv_i2l hx hb dX12_cone_9 rfl ?_
      refine lv_lconst (v := 1) hx hb dX12_cone_10 (by decide) ?_
      refine lv_ldc2 (v := 3000) hx hb hown (h0 _ ql_12_109) dX12_cone_11 ?_
      have hq := h
      clear h
      refine xcSI (As := [.long (Int32.toInt64 p2), .long (1 : Int64), .long (3000 : Int64)]) (rest := []) E hw hA (c_X12_isIn l D ad cs sk z1 (Int32.toInt64 p2) (1 : Int64) (3000 : Int64) _ hq) kc_12_56 yo_X12_isIn ⟨Nat.le_of_ble_eq_true rfl, Nat.le_of_ble_eq_true rfl⟩ rfl hl.1 rfl (Nat.le_of_ble_eq_true rfl) dX12_cone_14 ⟨Nat.le_of_ble_eq_true rfl, Nat.le_of_ble_eq_true rfl⟩ (fun r5 z4 H locs h hw => ?_)
      refine lv_if_eq (tgt := 32) hx hb dX12_cone_17 (by decide) (fun c6 => ?_) (fun c6 => ?_)
      · replace h := h.1 c6
        refine lv_iconst (v := -1) hx hb dX12_cone_32 (by decide) ?_
        exact hret (-1 : Int32) z4 H locs 33 ls hw rfl h dX12_cone_33
      · replace h := h.2 c6
        refine lv_iload_n hx hb dX12_cone_20 rfl (lv_at hl 3 rfl) ?_
        refine lv_i2l hx hb dX12_cone_21 rfl ?_
        refine lv_lconst (v := 0) hx hb dX12_cone_22 (by decide) ?_
        refine lv_ldc2 (v := 60000) hx hb hown (h0 _ ql_12_283) dX12_cone_23 ?_
        have hq := h
        clear h
        refine xcSI (As := [.long (Int32.toInt64 p3), .long (0 : Int64), .long (60000 : Int64)]) (rest := []) E hw hA (c_X12_isIn l D ad cs sk z4 (Int32.toInt64 p3) (0 : Int64) (60000 : Int64) _ hq) kc_12_56 yo_X12_isIn ⟨Nat.le_of_ble_eq_true rfl, Nat.le_of_ble_eq_true rfl⟩ rfl hl.1 rfl (Nat.le_of_ble_eq_true rfl) dX12_cone_26 ⟨Nat.le_of_ble_eq_true rfl, Nat.le_of_ble_eq_true rfl⟩ (fun r8 z7 H locs h hw => ?_)
        refine lv_if_ne (tgt := 34) hx hb dX12_cone_29 (by decide) (fun c9 => ?_) (fun c9 => ?_)
        · replace h := h.1 c9
          refine lv_iconst (v := 0) hx hb dX12_cone_34 (by decide) ?_
          refine lv_istore (lv' := [(4, .int (0 : Int32)), (0, .ref (ad 14 100)), (1, .int p1), (2, .int p2), (3, .int p3)]) hx hb dX12_cone_35 hl (by decide) rfl (fun ls hl => ?_)
          refine lv_sipush (v := -5000) hx hb dX12_cone_37 (by decide) ?_
          refine lv_istore (lv' := [(5, .int (-5000 : Int32)), (4, .int (0 : Int32)), (0, .ref (ad 14 100)), (1, .int p1), (2, .int p2), (3, .int p3)]) hx hb dX12_cone_40 hl (by decide) rfl (fun ls hl => ?_)
          obtain ⟨n28, h⟩ := h
          exact b42 n28 z7 p1 p2 p3 (0 : Int32) (-5000 : Int32) H locs hw ls (lv_sub hl [2, 3, 4, 5, 1, 0] rfl) h
        · replace h := h.2 c9
          refine lv_iconst (v := -1) hx hb dX12_cone_32 (by decide) ?_
          exact hret (-1 : Int32) z7 H locs 33 ls hw rfl h dX12_cone_33
  exact b00 s.heap [] hw
def V_X12_steering_97 (post : Int32 → ZS → Prop) (rr45 : ZS → Int32 → Int32 → Int32 → Int32 → Int32 → Int32 → Int32 → Prop) (z : ZS) (v1 : Int32) (v2 : Int32) (v3 : Int32) (v4 : Int32) (v5 : Int32) (v6 : Int32) (v7 : Int32) : Prop := (∀ t23 : Int32, t23 = v7 + (1 : Int32) → rr45 z v1 v2 v3 v4 v5 v6 t23)
def V_X12_steering_87 (post : Int32 → ZS → Prop) (rr45 : ZS → Int32 → Int32 → Int32 → Int32 → Int32 → Int32 → Int32 → Prop) (z : ZS) (v1 : Int32) (v2 : Int32) (v3 : Int32) (v4 : Int32) (v7 : Int32) : Prop := V_X12_off z (fun r22 z21 => V_X12_steering_97 post rr45 z21 v1 v2 v3 v4 v7 r22 v7)
def V_X12_steering_45 (post : Int32 → ZS → Prop) : Nat → ZS → Int32 → Int32 → Int32 → Int32 → Int32 → Int32 → Int32 → Prop
  | 0, _, _, _, _, _, _, _, _ => False
  | (n + 1), z, v1, v2, v3, v4, v5, v6, v7 => (((9 : Int32) ≤ v7 → ((¬ v4 = 0 → post v6 z) ∧ (v4 = 0 → post v5 z))) ∧ (¬ (9 : Int32) ≤ v7 → V_X12_leavesOne z v1 v2 v3 (1 : Int32) (fun z15 => (∀ z17 : ZS, z17 = wI z15 14 21 v7 → V_X12_lands z17 (fun z18 => ((v5 < 0 → V_X12_steering_87 post (V_X12_steering_45 post n) z18 v1 v2 v3 v4 v7) ∧ (¬ v5 < 0 → V_X12_off z18 (fun r25 z24 => ((r25 < v6 → V_X12_steering_87 post (V_X12_steering_45 post n) z24 v1 v2 v3 v4 v7) ∧ (¬ r25 < v6 → V_X12_steering_97 post (V_X12_steering_45 post n) z24 v1 v2 v3 v4 v5 v6 v7))))))))))
def V_X12_steering (z : ZS) (p1 : Int32) (p2 : Int32) (p3 : Int32) (p4 : Int32) (post : Int32 → ZS → Prop) : Prop := V_X12_isFaller z p1 (fun r2 z1 => ((r2 = 0 → post (-1 : Int32) z1) ∧ (¬ r2 = 0 → V_X12_isEdge z1 p2 (fun r5 z4 => ((r5 = 0 → post (-1 : Int32) z4) ∧ (¬ r5 = 0 → V_X12_isEdge z4 p3 (fun r8 z7 => ((r8 = 0 → post (-1 : Int32) z7) ∧ (¬ r8 = 0 → V_X12_isIn z7 (Int32.toInt64 p4) (0 : Int64) (1 : Int64) (fun r11 z10 => ((¬ r11 = 0 → (∃ n27 : Nat, V_X12_steering_45 post n27 z10 p1 p2 p3 p4 (-4 : Int32) (0 : Int32) (0 : Int32))) ∧ (r11 = 0 → post (-1 : Int32) z10))))))))))))
set_option maxHeartbeats 4000000 in
set_option maxRecDepth 100000 in
theorem c_X12_steering (l : Launch) (D : va_G) (ad : Nat → Nat → Nat) (cs : Nat → ClassId) (sk : (Nat → Nat) × (Nat → Nat)) (z : ZS) (p1 : Int32) (p2 : Int32) (p3 : Int32) (p4 : Int32) (post : Int32 → ZS → Prop) (h : V_X12_steering z p1 p2 p3 p4 post) : MI l D ad cs sk yX12_steering cX12_steering 8 .int (rmq 5 0 0) [.ref (ad 14 100), .int p1, .int p2, .int p3, .int p4] z post := by
  refine MI.of RX12 rfl (by decide) (Nat.le_of_ble_eq_true rfl) ?_
  intro p e s m args below meth c A Q E hw hA hret ls hl
  have hx := E.1.1
  have hb := E.1.2.1
  have hml := E.1.2.2.1
  have hown := E.1.2.2.2.1
  have h0 := E.1.2.2.2.2
  have hl : lv_has ls 8 [(0, .ref (ad 14 100)), (1, .int p1), (2, .int p2), (3, .int p3), (4, .int p4)] := hl
  unfold V_X12_steering at h
  have b45 : ∀ (n : Nat) (z : ZS) (v1 : Int32) (v2 : Int32) (v3 : Int32) (v4 : Int32) (v5 : Int32) (v6 : Int32) (v7 : Int32), ∀ (H : Heap) (locs : List Loc), OW D ad cs A s.heap z H locs → ∀ ls : Array Slot, lv_has ls 8 [(0, .ref (ad 14 100)), (1, .int v1), (2, .int v2), (3, .int v3), (4, .int v4), (5, .int v5), (6, .int v6), (7, .int v7)] → V_X12_steering_45 post n z v1 v2 v3 v4 v5 v6 v7 → W p l e (rmq 5 0 0) s m args below meth c H locs 0 0 Q (F0 m 45 ls []) := by
    intro n
    induction n with
    | zero =>
      intro z v1 v2 v3 v4 v5 v6 v7 H locs hw ls hl h
      exact h.elim
    | succ n45x ih45 =>
      have b97 : ∀ (z : ZS) (v1 : Int32) (v2 : Int32) (v3 : Int32) (v4 : Int32) (v5 : Int32) (v6 : Int32) (v7 : Int32), ∀ (H : Heap) (locs : List Loc), OW D ad cs A s.heap z H locs → ∀ ls : Array Slot, lv_has ls 8 [(0, .ref (ad 14 100)), (1, .int v1), (2, .int v2), (3, .int v3), (4, .int v4), (5, .int v5), (6, .int v6), (7, .int v7)] → V_X12_steering_97 post (V_X12_steering_45 post n45x) z v1 v2 v3 v4 v5 v6 v7 → W p l e (rmq 5 0 0) s m args below meth c H locs 0 0 Q (F0 m 97 ls []) := by
        intro z v1 v2 v3 v4 v5 v6 v7 H locs hw ls hl h
        unfold V_X12_steering_97 at h
        obtain ⟨t23, et23⟩ : ∃ y : Int32, y = v7 + (1 : Int32) := ⟨_, rfl⟩
        replace h := h t23 et23
        refine lv_iinc (v := t23) (lv' := [(7, .int t23), (0, .ref (ad 14 100)), (1, .int v1), (2, .int v2), (3, .int v3), (4, .int v4), (5, .int v5), (6, .int v6)]) hx hb dX12_steering_97 hl (k := 7) rfl (by rw [et23]; rfl) (by decide) rfl (fun ls hl => ?_)
        refine lv_goto (tgt := 45) hx hb dX12_steering_100 (by decide) ?_
        exact ih45 z v1 v2 v3 v4 v5 v6 t23 H locs hw ls (lv_sub hl [1, 2, 3, 4, 5, 6, 7, 0] rfl) h
      have b87 : ∀ (z : ZS) (v1 : Int32) (v2 : Int32) (v3 : Int32) (v4 : Int32) (v7 : Int32), ∀ (H : Heap) (locs : List Loc), OW D ad cs A s.heap z H locs → ∀ ls : Array Slot, lv_has ls 8 [(0, .ref (ad 14 100)), (1, .int v1), (2, .int v2), (3, .int v3), (4, .int v4), (7, .int v7)] → V_X12_steering_87 post (V_X12_steering_45 post n45x) z v1 v2 v3 v4 v7 → W p l e (rmq 5 0 0) s m args below meth c H locs 0 0 Q (F0 m 87 ls []) := by
        intro z v1 v2 v3 v4 v7 H locs hw ls hl h
        unfold V_X12_steering_87 at h
        refine lv_iload hx hb dX12_steering_87 (lv_at hl 5 rfl) ?_
        refine lv_istore (lv' := [(5, .int v7), (0, .ref (ad 14 100)), (1, .int v1), (2, .int v2), (3, .int v3), (4, .int v4), (7, .int v7)]) hx hb dX12_steering_89 hl (by decide) rfl (fun ls hl => ?_)
        refine lv_aload_n hx hb dX12_steering_91 rfl (lv_at hl 1 rfl) ?_
        have hq := h
        clear h
        refine xcVI (As := []) (rest := []) E hw hA (c_X12_off l D ad cs sk z _ hq) kc_12_262 yo_X12_off ⟨Nat.le_of_ble_eq_true rfl, Nat.le_of_ble_eq_true rfl⟩ (xrc E hw ky_14_100 rfl) rfl hl.1 rfl (Nat.le_of_ble_eq_true rfl) dX12_steering_92 ⟨Nat.le_of_ble_eq_true rfl, Nat.le_of_ble_eq_true rfl⟩ (fun r22 z21 H locs h hw => ?_)
        refine lv_istore (lv' := [(6, .int r22), (5, .int v7), (0, .ref (ad 14 100)), (1, .int v1), (2, .int v2), (3, .int v3), (4, .int v4), (7, .int v7)]) hx hb dX12_steering_95 hl (by decide) rfl (fun ls hl => ?_)
        exact b97 z21 v1 v2 v3 v4 v7 r22 v7 H locs hw ls (lv_sub hl [2, 3, 4, 5, 6, 1, 0, 7] rfl) h
      intro z v1 v2 v3 v4 v5 v6 v7 H locs hw ls hl h
      unfold V_X12_steering_45 at h
      refine lv_iload hx hb dX12_steering_45 (lv_at hl 7 rfl) ?_
      refine lv_bipush (v := 9) hx hb dX12_steering_47 (by decide) ?_
      refine lv_icmp_ge (tgt := 103) hx hb dX12_steering_49 (by decide) (fun c13 => ?_) (fun c13 => ?_)
      · replace h := h.1 c13
        refine lv_iload hx hb dX12_steering_103 (lv_at hl 4 rfl) ?_
        refine lv_if_ne (tgt := 113) hx hb dX12_steering_105 (by decide) (fun c14 => ?_) (fun c14 => ?_)
        · replace h := h.1 c14
          refine lv_iload hx hb dX12_steering_113 (lv_at hl 6 rfl) ?_
          exact hret v6 z H locs 115 ls hw rfl h dX12_steering_115
        · replace h := h.2 c14
          refine lv_iload hx hb dX12_steering_108 (lv_at hl 5 rfl) ?_
          refine lv_goto (tgt := 115) hx hb dX12_steering_110 (by decide) ?_
          exact hret v5 z H locs 115 ls hw rfl h dX12_steering_115
      · replace h := h.2 c13
        refine lv_aload_n hx hb dX12_steering_52 rfl (lv_at hl 0 rfl) ?_
        refine lv_iload_n hx hb dX12_steering_53 rfl (lv_at hl 1 rfl) ?_
        refine lv_iload_n hx hb dX12_steering_54 rfl (lv_at hl 2 rfl) ?_
        refine lv_iload_n hx hb dX12_steering_55 rfl (lv_at hl 3 rfl) ?_
        refine lv_iconst (v := 1) hx hb dX12_steering_56 (by decide) ?_
        have hq := h
        clear h
        refine xcVV (As := [.int v1, .int v2, .int v3, .int (1 : Int32)]) (rest := []) E hw hA (c_X12_leavesOne l D ad cs sk z v1 v2 v3 (1 : Int32) _ hq) kc_12_255 yo_X12_leavesOne ⟨Nat.le_of_ble_eq_true rfl, Nat.le_of_ble_eq_true rfl⟩ (xrc E hw ky_14_100 rfl) rfl hl.1 rfl (Nat.le_of_ble_eq_true rfl) dX12_steering_57 ⟨Nat.le_of_ble_eq_true rfl, Nat.le_of_ble_eq_true rfl⟩ (fun z15 H locs h hw => ?_)
        refine lv_aload_n hx hb dX12_steering_60 rfl (lv_at hl 0 rfl) ?_
        refine lv_iload hx hb dX12_steering_61 (lv_at hl 7 rfl) ?_
        refine xpI E hw (c1 := 12) rfl ky_14_100 fp_12_21 rfl rfl qf_12_203 dX12_steering_63 (fun z17 ez17 H locs hw => ?_)
        replace h := h z17 ez17
        refine lv_aload_n hx hb dX12_steering_66 rfl (lv_at hl 0 rfl) ?_
        have hq := h
        clear h
        refine xcVV (As := []) (rest := []) E hw hA (c_X12_lands l D ad cs sk z17 _ hq) kc_12_259 yo_X12_lands ⟨Nat.le_of_ble_eq_true rfl, Nat.le_of_ble_eq_true rfl⟩ (xrc E hw ky_14_100 rfl) rfl hl.1 rfl (Nat.le_of_ble_eq_true rfl) dX12_steering_67 ⟨Nat.le_of_ble_eq_true rfl, Nat.le_of_ble_eq_true rfl⟩ (fun z18 H locs h hw => ?_)
        refine lv_iload hx hb dX12_steering_70 (lv_at hl 5 rfl) ?_
        refine lv_if_lt (tgt := 87) hx hb dX12_steering_72 (by decide) (fun c20 => ?_) (fun c20 => ?_)
        · replace h := h.1 c20
          exact b87 z18 v1 v2 v3 v4 v7 H locs hw ls (lv_sub hl [0, 1, 2, 3, 4, 7] rfl) h
        · replace h := h.2 c20
          refine lv_aload_n hx hb dX12_steering_75 rfl (lv_at hl 0 rfl) ?_
          have hq := h
          clear h
          refine xcVI (As := []) (rest := []) E hw hA (c_X12_off l D ad cs sk z18 _ hq) kc_12_262 yo_X12_off ⟨Nat.le_of_ble_eq_true rfl, Nat.le_of_ble_eq_true rfl⟩ (xrc E hw ky_14_100 rfl) rfl hl.1 rfl (Nat.le_of_ble_eq_true rfl) dX12_steering_76 ⟨Nat.le_of_ble_eq_true rfl, Nat.le_of_ble_eq_true rfl⟩ (fun r25 z24 H locs h hw => ?_)
          refine lv_iload hx hb dX12_steering_79 (lv_at hl 6 rfl) ?_
          refine lv_icmp_lt (tgt := 87) hx hb dX12_steering_81 (by decide) (fun c26 => ?_) (fun c26 => ?_)
          · replace h := h.1 c26
            exact b87 z24 v1 v2 v3 v4 v7 H locs hw ls (lv_sub hl [0, 1, 2, 3, 4, 7] rfl) h
          · replace h := h.2 c26
            refine lv_goto (tgt := 97) hx hb dX12_steering_84 (by decide) ?_
            exact b97 z24 v1 v2 v3 v4 v5 v6 v7 H locs hw ls (lv_sub hl [0, 1, 2, 3, 4, 5, 6, 7] rfl) h
  have b00 : ∀ (H : Heap) (locs : List Loc), OW D ad cs A s.heap z H locs → W p l e (rmq 5 0 0) s m args below meth c H locs 0 0 Q (F0 m 0 ls []) := by
    intro H locs hw
    refine lv_aload_n hx hb dX12_steering_0 rfl (lv_at hl 0 rfl) ?_
    refine lv_iload_n hx hb dX12_steering_1 rfl (lv_at hl 1 rfl) ?_
    have hq := h
    clear h
    refine xcVI (As := [.int p1]) (rest := []) E hw hA (c_X12_isFaller l D ad cs sk z p1 _ hq) kc_12_149 yo_X12_isFaller ⟨Nat.le_of_ble_eq_true rfl, Nat.le_of_ble_eq_true rfl⟩ (xrc E hw ky_14_100 rfl) rfl hl.1 rfl (Nat.le_of_ble_eq_true rfl) dX12_steering_2 ⟨Nat.le_of_ble_eq_true rfl, Nat.le_of_ble_eq_true rfl⟩ (fun r2 z1 H locs h hw => ?_)
    refine lv_if_eq (tgt := 33) hx hb dX12_steering_5 (by decide) (fun c3 => ?_) (fun c3 => ?_)
    · replace h := h.1 c3
      refine lv_iconst (v := -1) hx hb dX12_steering_33 (by decide) ?_
      exact hret (-1 : Int32) z1 H locs 34 ls hw rfl h dX12_steering_34
    · replace h := h.2 c3
      refine lv_iload_n hx hb dX12_steering_8 rfl (lv_at hl 2 rfl) ?_
      have hq := h
      clear h
      refine xcSI (As := [.int p2]) (rest := []) E hw hA (c_X12_isEdge l D ad cs sk z1 p2 _ hq) kc_12_184 yo_X12_isEdge ⟨Nat.le_of_ble_eq_true rfl, Nat.le_of_ble_eq_true rfl⟩ rfl hl.1 rfl (Nat.le_of_ble_eq_true rfl) dX12_steering_9 ⟨Nat.le_of_ble_eq_true rfl, Nat.le_of_ble_eq_true rfl⟩ (fun r5 z4 H locs h hw => ?_)
      refine lv_if_eq (tgt := 33) hx hb dX12_steering_12 (by decide) (fun c6 => ?_) (fun c6 => ?_)
      · replace h := h.1 c6
        refine lv_iconst (v := -1) hx hb dX12_steering_33 (by decide) ?_
        exact hret (-1 : Int32) z4 H locs 34 ls hw rfl h dX12_steering_34
      · replace h := h.2 c6
        refine lv_iload_n hx hb dX12_steering_15 rfl (lv_at hl 3 rfl) ?_
        have hq := h
        clear h
        refine xcSI (As := [.int p3]) (rest := []) E hw hA (c_X12_isEdge l D ad cs sk z4 p3 _ hq) kc_12_184 yo_X12_isEdge ⟨Nat.le_of_ble_eq_true rfl, Nat.le_of_ble_eq_true rfl⟩ rfl hl.1 rfl (Nat.le_of_ble_eq_true rfl) dX12_steering_16 ⟨Nat.le_of_ble_eq_true rfl, Nat.le_of_ble_eq_true rfl⟩ (fun r8 z7 H locs h hw => ?_)
        refine lv_if_eq (tgt := 33) hx hb dX12_steering_19 (by decide) (fun c9 => ?_) (fun c9 => ?_)
        · replace h := h.1 c9
          refine lv_iconst (v := -1) hx hb dX12_steering_33 (by decide) ?_
          exact hret (-1 : Int32) z7 H locs 34 ls hw rfl h dX12_steering_34
        · replace h := h.2 c9
          refine lv_iload hx hb dX12_steering_22 (lv_at hl 4 rfl) ?_
          refine lv_i2l hx hb dX12_steering_24 rfl ?_
          refine lv_lconst (v := 0) hx hb dX12_steering_25 (by decide) ?_
          refine lv_lconst (v := 1) hx hb dX12_steering_26 (by decide) ?_
          have hq := h
          clear h
          refine xcSI (As := [.long (Int32.toInt64 p4), .long (0 : Int64), .long (1 : Int64)]) (rest := []) E hw hA (c_X12_isIn l D ad cs sk z7 (Int32.toInt64 p4) (0 : Int64) (1 : Int64) _ hq) kc_12_56 yo_X12_isIn ⟨Nat.le_of_ble_eq_true rfl, Nat.le_of_ble_eq_true rfl⟩ rfl hl.1 rfl (Nat.le_of_ble_eq_true rfl) dX12_steering_27 ⟨Nat.le_of_ble_eq_true rfl, Nat.le_of_ble_eq_true rfl⟩ (fun r11 z10 H locs h hw => ?_)
          refine lv_if_ne (tgt := 35) hx hb dX12_steering_30 (by decide) (fun c12 => ?_) (fun c12 => ?_)
          · replace h := h.1 c12
            refine lv_bipush (v := -4) hx hb dX12_steering_35 (by decide) ?_
            refine lv_istore (lv' := [(5, .int (-4 : Int32)), (0, .ref (ad 14 100)), (1, .int p1), (2, .int p2), (3, .int p3), (4, .int p4)]) hx hb dX12_steering_37 hl (by decide) rfl (fun ls hl => ?_)
            refine lv_iconst (v := 0) hx hb dX12_steering_39 (by decide) ?_
            refine lv_istore (lv' := [(6, .int (0 : Int32)), (5, .int (-4 : Int32)), (0, .ref (ad 14 100)), (1, .int p1), (2, .int p2), (3, .int p3), (4, .int p4)]) hx hb dX12_steering_40 hl (by decide) rfl (fun ls hl => ?_)
            refine lv_iconst (v := 0) hx hb dX12_steering_42 (by decide) ?_
            refine lv_istore (lv' := [(7, .int (0 : Int32)), (6, .int (0 : Int32)), (5, .int (-4 : Int32)), (0, .ref (ad 14 100)), (1, .int p1), (2, .int p2), (3, .int p3), (4, .int p4)]) hx hb dX12_steering_43 hl (by decide) rfl (fun ls hl => ?_)
            obtain ⟨n27, h⟩ := h
            exact b45 n27 z10 p1 p2 p3 p4 (-4 : Int32) (0 : Int32) (0 : Int32) H locs hw ls (lv_sub hl [3, 4, 5, 6, 7, 2, 1, 0] rfl) h
          · replace h := h.2 c12
            refine lv_iconst (v := -1) hx hb dX12_steering_33 (by decide) ?_
            exact hret (-1 : Int32) z10 H locs 34 ls hw rfl h dX12_steering_34
  exact b00 s.heap [] hw
