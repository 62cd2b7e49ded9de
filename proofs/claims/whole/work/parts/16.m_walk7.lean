def V_X12_last_50 (post : Int32 → ZS → Prop) (rr15 : ZS → Int32 → Int32 → Int32 → Prop) (z : ZS) (v1 : Int32) (v3 : Int32) (s0 : Int32) : Prop := (∀ t10 : Int32, t10 = v3 + (1 : Int32) → rr15 z v1 s0 t10)
def V_X12_last_15 (post : Int32 → ZS → Prop) : Nat → ZS → Int32 → Int32 → Int32 → Prop
  | 0, _, _, _, _ => False
  | (n + 1), z, v1, v2, v3 => (((20 : Int32) < v3 → post v2 z) ∧ (¬ (20 : Int32) < v3 → V_X12_of z v1 (0 : Int32) (fun r6 z5 => V_X12_fallsBy z5 r6 (fun r8 z7 => ((((zR z 14 0 2) - (v3 * r8)) < (200 : Int32) → V_X12_last_50 post (V_X12_last_15 post n) z7 v1 v3 v2) ∧ (¬ ((zR z 14 0 2) - (v3 * r8)) < (200 : Int32) → V_X12_last_50 post (V_X12_last_15 post n) z7 v1 v3 v3))))))
def V_X12_last (z : ZS) (p1 : Int32) (post : Int32 → ZS → Prop) : Prop := V_X12_isFaller z p1 (fun r2 z1 => ((¬ r2 = 0 → (∃ n11 : Nat, V_X12_last_15 post n11 z1 p1 (-4 : Int32) (0 : Int32))) ∧ (r2 = 0 → post (-1 : Int32) z1)))
set_option maxHeartbeats 4000000 in
set_option maxRecDepth 100000 in
theorem c_X12_last (l : Launch) (D : va_G) (ad : Nat → Nat → Nat) (cs : Nat → ClassId) (sk : (Nat → Nat) × (Nat → Nat)) (z : ZS) (p1 : Int32) (post : Int32 → ZS → Prop) (h : V_X12_last z p1 post) : MI l D ad cs sk yX12_last cX12_last 4 .int (rmq 2 0 0) [.ref (ad 14 100), .int p1] z post := by
  refine MI.of RX12 rfl (by decide) (Nat.le_of_ble_eq_true rfl) ?_
  intro p e s m args below meth c A Q E hw hA hret ls hl
  have hx := E.1.1
  have hb := E.1.2.1
  have hml := E.1.2.2.1
  have hown := E.1.2.2.2.1
  have h0 := E.1.2.2.2.2
  have hl : lv_has ls 4 [(0, .ref (ad 14 100)), (1, .int p1)] := hl
  unfold V_X12_last at h
  have b15 : ∀ (n : Nat) (z : ZS) (v1 : Int32) (v2 : Int32) (v3 : Int32), ∀ (H : Heap) (locs : List Loc), OW D ad cs A s.heap z H locs → ∀ ls : Array Slot, lv_has ls 4 [(0, .ref (ad 14 100)), (1, .int v1), (2, .int v2), (3, .int v3)] → V_X12_last_15 post n z v1 v2 v3 → W p l e (rmq 2 0 0) s m args below meth c H locs 0 0 Q (F0 m 15 ls []) := by
    intro n
    induction n with
    | zero =>
      intro z v1 v2 v3 H locs hw ls hl h
      exact h.elim
    | succ n15x ih15 =>
      have b50 : ∀ (z : ZS) (v1 : Int32) (v3 : Int32) (s0 : Int32), ∀ (H : Heap) (locs : List Loc), OW D ad cs A s.heap z H locs → ∀ ls : Array Slot, lv_has ls 4 [(0, .ref (ad 14 100)), (1, .int v1), (3, .int v3)] → V_X12_last_50 post (V_X12_last_15 post n15x) z v1 v3 s0 → W p l e (rmq 2 0 0) s m args below meth c H locs 0 0 Q (F0 m 50 ls [.int s0]) := by
        intro z v1 v3 s0 H locs hw ls hl h
        unfold V_X12_last_50 at h
        refine lv_istore_n (lv' := [(2, .int s0), (0, .ref (ad 14 100)), (1, .int v1), (3, .int v3)]) hx hb dX12_last_50 rfl hl (by decide) rfl (fun ls hl => ?_)
        obtain ⟨t10, et10⟩ : ∃ y : Int32, y = v3 + (1 : Int32) := ⟨_, rfl⟩
        replace h := h t10 et10
        refine lv_iinc (v := t10) (lv' := [(3, .int t10), (2, .int s0), (0, .ref (ad 14 100)), (1, .int v1)]) hx hb dX12_last_51 hl (k := 3) rfl (by rw [et10]; rfl) (by decide) rfl (fun ls hl => ?_)
        refine lv_goto (tgt := 15) hx hb dX12_last_54 (by decide) ?_
        exact ih15 z v1 s0 t10 H locs hw ls (lv_sub hl [2, 3, 1, 0] rfl) h
      intro z v1 v2 v3 H locs hw ls hl h
      unfold V_X12_last_15 at h
      refine lv_iload_n hx hb dX12_last_15 rfl (lv_at hl 3 rfl) ?_
      refine lv_bipush (v := 20) hx hb dX12_last_16 (by decide) ?_
      refine lv_icmp_gt (tgt := 57) hx hb dX12_last_18 (by decide) (fun c4 => ?_) (fun c4 => ?_)
      · replace h := h.1 c4
        refine lv_iload_n hx hb dX12_last_57 rfl (lv_at hl 2 rfl) ?_
        exact hret v2 z H locs 58 ls hw rfl h dX12_last_58
      · replace h := h.2 c4
        refine lv_aload_n hx hb dX12_last_21 rfl (lv_at hl 0 rfl) ?_
        refine xgC E hw (c1 := 12) (t := (14, 0)) rfl ky_14_100 fo_12_0 rfl qf_12_9 dX12_last_22 ?_
        refine lv_iconst (v := 2) hx hb dX12_last_25 (by decide) ?_
        refine xalL (j := 2) E hw ky_14_0 ka_14_0 (by decide) (by decide) dX12_last_26 ?_
        refine lv_iload_n hx hb dX12_last_27 rfl (lv_at hl 3 rfl) ?_
        refine lv_aload_n hx hb dX12_last_28 rfl (lv_at hl 0 rfl) ?_
        refine lv_iload_n hx hb dX12_last_29 rfl (lv_at hl 1 rfl) ?_
        refine lv_iconst (v := 0) hx hb dX12_last_30 (by decide) ?_
        have hq := h
        clear h
        refine xcVI (As := [.int v1, .int (0 : Int32)]) (rest := [.int v3, .int (zR z 14 0 2)]) E hw hA (c_X12_of l D ad cs sk z v1 (0 : Int32) _ hq) kc_12_152 yo_X12_of ⟨Nat.le_of_ble_eq_true rfl, Nat.le_of_ble_eq_true rfl⟩ (xrc E hw ky_14_100 rfl) rfl hl.1 rfl (Nat.le_of_ble_eq_true rfl) dX12_last_31 ⟨Nat.le_of_ble_eq_true rfl, Nat.le_of_ble_eq_true rfl⟩ (fun r6 z5 H locs h hw => ?_)
        have hq := h
        clear h
        refine xcSI (As := [.int r6]) (rest := [.int v3, .int (zR z 14 0 2)]) E hw hA (c_X12_fallsBy l D ad cs sk z5 r6 _ hq) kc_12_155 yo_X12_fallsBy ⟨Nat.le_of_ble_eq_true rfl, Nat.le_of_ble_eq_true rfl⟩ rfl hl.1 rfl (Nat.le_of_ble_eq_true rfl) dX12_last_34 ⟨Nat.le_of_ble_eq_true rfl, Nat.le_of_ble_eq_true rfl⟩ (fun r8 z7 H locs h hw => ?_)
        refine lv_imul hx hb dX12_last_37 ?_
        refine lv_isub hx hb dX12_last_38 ?_
        refine lv_sipush (v := 200) hx hb dX12_last_39 (by decide) ?_
        refine lv_icmp_lt (tgt := 49) hx hb dX12_last_42 (by decide) (fun c9 => ?_) (fun c9 => ?_)
        · replace h := h.1 c9
          refine lv_iload_n hx hb dX12_last_49 rfl (lv_at hl 2 rfl) ?_
          exact b50 z7 v1 v3 v2 H locs hw ls (lv_sub hl [0, 1, 3] rfl) h
        · replace h := h.2 c9
          refine lv_iload_n hx hb dX12_last_45 rfl (lv_at hl 3 rfl) ?_
          refine lv_goto (tgt := 50) hx hb dX12_last_46 (by decide) ?_
          exact b50 z7 v1 v3 v3 H locs hw ls (lv_sub hl [0, 1, 3] rfl) h
  have b00 : ∀ (H : Heap) (locs : List Loc), OW D ad cs A s.heap z H locs → W p l e (rmq 2 0 0) s m args below meth c H locs 0 0 Q (F0 m 0 ls []) := by
    intro H locs hw
    refine lv_aload_n hx hb dX12_last_0 rfl (lv_at hl 0 rfl) ?_
    refine lv_iload_n hx hb dX12_last_1 rfl (lv_at hl 1 rfl) ?_
    have hq := h
    clear h
    refine xcVI (As := [.int p1]) (rest := []) E hw hA (c_X12_isFaller l D ad cs sk z p1 _ hq) kc_12_149 yo_X12_isFaller ⟨Nat.le_of_ble_eq_true rfl, Nat.le_of_ble_eq_true rfl⟩ (xrc E hw ky_14_100 rfl) rfl hl.1 rfl (Nat.le_of_ble_eq_true rfl) dX12_last_2 ⟨Nat.le_of_ble_eq_true rfl, Nat.le_of_ble_eq_true rfl⟩ (fun r2 z1 H locs h hw => ?_)
    refine lv_if_ne (tgt := 10) hx hb dX12_last_5 (by decide) (fun c3 => ?_) (fun c3 => ?_)
    · replace h := h.1 c3
      refine lv_bipush (v := -4) hx hb dX12_last_10 (by decide) ?_
      refine lv_istore_n (lv' := [(2, .int (-4 : Int32)), (0, .ref (ad 14 100)), (1, .int p1)]) hx hb dX12_last_12 rfl hl (by decide) rfl (fun ls hl => ?_)
      refine lv_iconst (v := 0) hx hb dX12_last_13 (by decide) ?_
      refine lv_istore_n (lv' := [(3, .int (0 : Int32)), (2, .int (-4 : Int32)), (0, .ref (ad 14 100)), (1, .int p1)]) hx hb dX12_last_14 rfl hl (by decide) rfl (fun ls hl => ?_)
      obtain ⟨n11, h⟩ := h
      exact b15 n11 z1 p1 (-4 : Int32) (0 : Int32) H locs hw ls (lv_sub hl [2, 3, 1, 0] rfl) h
    · replace h := h.2 c3
      refine lv_iconst (v := -1) hx hb dX12_last_8 (by decide) ?_
      exact hret (-1 : Int32) z1 H locs 9 ls hw rfl h dX12_last_9
  exact b00 s.heap [] hw
def V_X12_safe_118 (post : Int32 → ZS → Prop) (rr42 : ZS → Int32 → Int32 → Int32 → Int32 → Int32 → Int32 → Int32 → Prop) (rr55 : ZS → Int32 → Int32 → Int32 → Int32 → Int32 → Int32 → Int32 → Int32 → Prop) (z : ZS) (v1 : Int32) (v2 : Int32) (v3 : Int32) (v4 : Int32) (v5 : Int32) (v6 : Int32) (v7 : Int32) (v8 : Int32) : Prop := (∀ t24 : Int32, t24 = v8 + (1000 : Int32) → rr55 z v1 v2 v3 v4 v5 v6 v7 t24)
def V_X12_safe_92 (post : Int32 → ZS → Prop) (rr42 : ZS → Int32 → Int32 → Int32 → Int32 → Int32 → Int32 → Int32 → Prop) (rr55 : ZS → Int32 → Int32 → Int32 → Int32 → Int32 → Int32 → Int32 → Int32 → Prop) (z : ZS) (v1 : Int32) (v2 : Int32) (v3 : Int32) (v4 : Int32) (v5 : Int32) (v6 : Int32) (v7 : Int32) (v8 : Int32) (v9 : Int32) : Prop := V_X12_isBarred z v7 v8 (fun r22 z21 => ((r22 = 0 → V_X12_safe_118 post rr42 rr55 z21 v1 v2 v3 v7 v8 v9 v7 v8) ∧ (¬ r22 = 0 → V_X12_safe_118 post rr42 rr55 z21 v1 v2 v3 v4 v5 v6 v7 v8)))
def V_X12_safe_55 (post : Int32 → ZS → Prop) (rr42 : ZS → Int32 → Int32 → Int32 → Int32 → Int32 → Int32 → Int32 → Prop) : Nat → ZS → Int32 → Int32 → Int32 → Int32 → Int32 → Int32 → Int32 → Int32 → Prop
  | 0, _, _, _, _, _, _, _, _, _ => False
  | (n + 1), z, v1, v2, v3, v4, v5, v6, v7, v8 => (((30000 : Int32) < v8 → (∀ t14 : Int32, t14 = v7 + (1000 : Int32) → rr42 z v1 v2 v3 v4 v5 v6 t14)) ∧ (¬ (30000 : Int32) < v8 → V_X12_amount z (v7 - v1) (fun r16 z15 => V_X12_amount z15 (v8 - v2) (fun r18 z17 => (∀ t19 : Int32, t19 = (r16 + r18) → ((v6 < 0 → V_X12_safe_92 post rr42 (V_X12_safe_55 post rr42 n) z17 v1 v2 v3 v4 v5 v6 v7 v8 t19) ∧ (¬ v6 < 0 → ((v6 ≤ t19 → V_X12_safe_118 post rr42 (V_X12_safe_55 post rr42 n) z17 v1 v2 v3 v4 v5 v6 v7 v8) ∧ (¬ v6 ≤ t19 → V_X12_safe_92 post rr42 (V_X12_safe_55 post rr42 n) z17 v1 v2 v3 v4 v5 v6 v7 v8 t19)))))))))
def V_X12_safe_42 (post : Int32 → ZS → Prop) : Nat → ZS → Int32 → Int32 → Int32 → Int32 → Int32 → Int32 → Int32 → Prop
  | 0, _, _, _, _, _, _, _, _ => False
  | (n + 1), z, v1, v2, v3, v4, v5, v6, v7 => (((30000 : Int32) < v7 → ((0 ≤ v6 → ((¬ v3 = 0 → post (v5 / (10 : Int32)) z) ∧ (v3 = 0 → post (v4 / (10 : Int32)) z))) ∧ (¬ 0 ≤ v6 → post (-1000000004 : Int32) z))) ∧ (¬ (30000 : Int32) < v7 → (∃ n26 : Nat, V_X12_safe_55 post (V_X12_safe_42 post n) n26 z v1 v2 v3 v4 v5 v6 v7 (-30000 : Int32))))
def V_X12_safe (z : ZS) (p1 : Int32) (p2 : Int32) (p3 : Int32) (post : Int32 → ZS → Prop) : Prop := V_X12_isEdge z p1 (fun r2 z1 => ((r2 = 0 → post (-1000000001 : Int32) z1) ∧ (¬ r2 = 0 → V_X12_isEdge z1 p2 (fun r5 z4 => ((r5 = 0 → post (-1000000001 : Int32) z4) ∧ (¬ r5 = 0 → V_X12_isIn z4 (Int32.toInt64 p3) (0 : Int64) (1 : Int64) (fun r8 z7 => ((¬ r8 = 0 → (∃ n27 : Nat, V_X12_safe_42 post n27 z7 p1 p2 p3 (0 : Int32) (0 : Int32) (-4 : Int32) (-30000 : Int32))) ∧ (r8 = 0 → post (-1000000001 : Int32) z7)))))))))
set_option maxHeartbeats 4000000 in
set_option maxRecDepth 100000 in
theorem c_X12_safe (l : Launch) (D : va_G) (ad : Nat → Nat → Nat) (cs : Nat → ClassId) (sk : (Nat → Nat) × (Nat → Nat)) (z : ZS) (p1 : Int32) (p2 : Int32) (p3 : Int32) (post : Int32 → ZS → Prop) (h : V_X12_safe z p1 p2 p3 post) : MI l D ad cs sk yX12_safe cX12_safe 10 .int (rmq 2 0 0) [.ref (ad 14 100), .int p1, .int p2, .int p3] z post := by
  refine MI.of RX12 rfl (by decide) (Nat.le_of_ble_eq_true rfl) ?_
  intro p e s m args below meth c A Q E hw hA hret ls hl
  have hx := E.1.1
  have hb := E.1.2.1
  have hml := E.1.2.2.1
  have hown := E.1.2.2.2.1
  have h0 := E.1.2.2.2.2
  have hl : lv_has ls 10 [(0, .ref (ad 14 100)), (1, .int p1), (2, .int p2), (3, .int p3)] := hl
  unfold V_X12_safe at h
  have b42 : ∀ (n : Nat) (z : ZS) (v1 : Int32) (v2 : Int32) (v3 : Int32) (v4 : Int32) (v5 : Int32) (v6 : Int32) (v7 : Int32), ∀ (H : Heap) (locs : List Loc), OW D ad cs A s.heap z H locs → ∀ ls : Array Slot, lv_has ls 10 [(0, .ref (ad 14 100)), (1, .int v1), (2, .int v2), (3, .int v3), (4, .int v4), (5, .int v5), (6, .int v6), (7, .int v7)] → V_X12_safe_42 post n z v1 v2 v3 v4 v5 v6 v7 → W p l e (rmq 2 0 0) s m args below meth c H locs 0 0 Q (F0 m 42 ls []) := by
    intro n
    induction n with
    | zero =>
      intro z v1 v2 v3 v4 v5 v6 v7 H locs hw ls hl h
      exact h.elim
    | succ n42x ih42 =>
      have b55 : ∀ (n : Nat) (z : ZS) (v1 : Int32) (v2 : Int32) (v3 : Int32) (v4 : Int32) (v5 : Int32) (v6 : Int32) (v7 : Int32) (v8 : Int32), ∀ (H : Heap) (locs : List Loc), OW D ad cs A s.heap z H locs → ∀ ls : Array Slot, lv_has ls 10 [(0, .ref (ad 14 100)), (1, .int v1), (2, .int v2), (3, .int v3), (4, .int v4), (5, .int v5), (6, .int v6), (7, .int v7), (8, .int v8)] → V_X12_safe_55 post (V_X12_safe_42 post n42x) n z v1 v2 v3 v4 v5 v6 v7 v8 → W p l e (rmq 2 0 0) s m args below meth c H locs 0 0 Q (F0 m 55 ls []) := by
        intro n
        induction n with
        | zero =>
          intro z v1 v2 v3 v4 v5 v6 v7 v8 H locs hw ls hl h
          exact h.elim
        | succ n55x ih55 =>
          have b118 : ∀ (z : ZS) (v1 : Int32) (v2 : Int32) (v3 : Int32) (v4 : Int32) (v5 : Int32) (v6 : Int32) (v7 : Int32) (v8 : Int32), ∀ (H : Heap) (locs : List Loc), OW D ad cs A s.heap z H locs → ∀ ls : Array Slot, lv_has ls 10 [(0, .ref (ad 14 100)), (1, .int v1), (2, .int v2), (3, .int v3), (4, .int v4), (5, .int v5), (6, .int v6), (7, .int v7), (8, .int v8)] → V_X12_safe_118 post (V_X12_safe_42 post n42x) (V_X12_safe_55 post (V_X12_safe_42 post n42x) n55x) z v1 v2 v3 v4 v5 v6 v7 v8 → W p l e (rmq 2 0 0) s m args below meth c H locs 0 0 Q (F0 m 118 ls []) := by
            intro z v1 v2 v3 v4 v5 v6 v7 v8 H locs hw ls hl h
            unfold V_X12_safe_118 at h
            obtain ⟨t24, et24⟩ : ∃ y : Int32, y = v8 + (1000 : Int32) := ⟨_, rfl⟩
            replace h := h t24 et24
            refine lv_iincW (v := t24) (lv' := [(8, .int t24), (0, .ref (ad 14 100)), (1, .int v1), (2, .int v2), (3, .int v3), (4, .int v4), (5, .int v5), (6, .int v6), (7, .int v7)]) hx hb dX12_safe_118 hl (k := 8) rfl (by rw [et24]; rfl) (by decide) rfl (fun ls hl => ?_)
            refine lv_goto (tgt := 55) hx hb dX12_safe_124 (by decide) ?_
            exact ih55 z v1 v2 v3 v4 v5 v6 v7 t24 H locs hw ls (lv_sub hl [1, 2, 3, 4, 5, 6, 7, 8, 0] rfl) h
          have b92 : ∀ (z : ZS) (v1 : Int32) (v2 : Int32) (v3 : Int32) (v4 : Int32) (v5 : Int32) (v6 : Int32) (v7 : Int32) (v8 : Int32) (v9 : Int32), ∀ (H : Heap) (locs : List Loc), OW D ad cs A s.heap z H locs → ∀ ls : Array Slot, lv_has ls 10 [(0, .ref (ad 14 100)), (1, .int v1), (2, .int v2), (3, .int v3), (4, .int v4), (5, .int v5), (6, .int v6), (7, .int v7), (8, .int v8), (9, .int v9)] → V_X12_safe_92 post (V_X12_safe_42 post n42x) (V_X12_safe_55 post (V_X12_safe_42 post n42x) n55x) z v1 v2 v3 v4 v5 v6 v7 v8 v9 → W p l e (rmq 2 0 0) s m args below meth c H locs 0 0 Q (F0 m 92 ls []) := by
            intro z v1 v2 v3 v4 v5 v6 v7 v8 v9 H locs hw ls hl h
            unfold V_X12_safe_92 at h
            refine lv_aload_n hx hb dX12_safe_92 rfl (lv_at hl 0 rfl) ?_
            refine lv_iload hx hb dX12_safe_93 (lv_at hl 7 rfl) ?_
            refine lv_iload hx hb dX12_safe_95 (lv_at hl 8 rfl) ?_
            have hq := h
            clear h
            refine xcVI (As := [.int v7, .int v8]) (rest := []) E hw hA (c_X12_isBarred l D ad cs sk z v7 v8 _ hq) kc_12_191 yo_X12_isBarred ⟨Nat.le_of_ble_eq_true rfl, Nat.le_of_ble_eq_true rfl⟩ (xrc E hw ky_14_100 rfl) rfl hl.1 rfl (Nat.le_of_ble_eq_true rfl) dX12_safe_97 ⟨Nat.le_of_ble_eq_true rfl, Nat.le_of_ble_eq_true rfl⟩ (fun r22 z21 H locs h hw => ?_)
            refine lv_if_eq (tgt := 106) hx hb dX12_safe_100 (by decide) (fun c23 => ?_) (fun c23 => ?_)
            · replace h := h.1 c23
              refine lv_iload hx hb dX12_safe_106 (lv_at hl 7 rfl) ?_
              refine lv_istore (lv' := [(4, .int v7), (0, .ref (ad 14 100)), (1, .int v1), (2, .int v2), (3, .int v3), (5, .int v5), (6, .int v6), (7, .int v7), (8, .int v8), (9, .int v9)]) hx hb dX12_safe_108 hl (by decide) rfl (fun ls hl => ?_)
              refine lv_iload hx hb dX12_safe_110 (lv_at hl 8 rfl) ?_
              refine lv_istore (lv' := [(5, .int v8), (4, .int v7), (0, .ref (ad 14 100)), (1, .int v1), (2, .int v2), (3, .int v3), (6, .int v6), (7, .int v7), (8, .int v8), (9, .int v9)]) hx hb dX12_safe_112 hl (by decide) rfl (fun ls hl => ?_)
              refine lv_iload hx hb dX12_safe_114 (lv_at hl 9 rfl) ?_
              refine lv_istore (lv' := [(6, .int v9), (5, .int v8), (4, .int v7), (0, .ref (ad 14 100)), (1, .int v1), (2, .int v2), (3, .int v3), (7, .int v7), (8, .int v8), (9, .int v9)]) hx hb dX12_safe_116 hl (by decide) rfl (fun ls hl => ?_)
              exact b118 z21 v1 v2 v3 v7 v8 v9 v7 v8 H locs hw ls (lv_sub hl [3, 4, 5, 6, 2, 1, 0, 7, 8] rfl) h
            · replace h := h.2 c23
              refine lv_goto (tgt := 118) hx hb dX12_safe_103 (by decide) ?_
              exact b118 z21 v1 v2 v3 v4 v5 v6 v7 v8 H locs hw ls (lv_sub hl [0, 1, 2, 3, 4, 5, 6, 7, 8] rfl) h
          intro z v1 v2 v3 v4 v5 v6 v7 v8 H locs hw ls hl h
          unfold V_X12_safe_55 at h
          refine lv_iload hx hb dX12_safe_55 (lv_at hl 8 rfl) ?_
          refine lv_sipush (v := 30000) hx hb dX12_safe_57 (by decide) ?_
          refine lv_icmp_gt (tgt := 127) hx hb dX12_safe_60 (by decide) (fun c13 => ?_) (fun c13 => ?_)
          · replace h := h.1 c13
            obtain ⟨t14, et14⟩ : ∃ y : Int32, y = v7 + (1000 : Int32) := ⟨_, rfl⟩
            replace h := h t14 et14
            refine lv_iincW (v := t14) (lv' := [(7, .int t14), (0, .ref (ad 14 100)), (1, .int v1), (2, .int v2), (3, .int v3), (4, .int v4), (5, .int v5), (6, .int v6), (8, .int v8)]) hx hb dX12_safe_127 hl (k := 7) rfl (by rw [et14]; rfl) (by decide) rfl (fun ls hl => ?_)
            refine lv_goto (tgt := 42) hx hb dX12_safe_133 (by decide) ?_
            exact ih42 z v1 v2 v3 v4 v5 v6 t14 H locs hw ls (lv_sub hl [1, 2, 3, 4, 5, 6, 7, 0] rfl) h
          · replace h := h.2 c13
            refine lv_iload hx hb dX12_safe_63 (lv_at hl 7 rfl) ?_
            refine lv_iload_n hx hb dX12_safe_65 rfl (lv_at hl 1 rfl) ?_
            refine lv_isub hx hb dX12_safe_66 ?_
            have hq := h
            clear h
            refine xcSI (As := [.int (v7 - v1)]) (rest := []) E hw hA (c_X12_amount l D ad cs sk z (v7 - v1) _ hq) kc_12_171 yo_X12_amount ⟨Nat.le_of_ble_eq_true rfl, Nat.le_of_ble_eq_true rfl⟩ rfl hl.1 rfl (Nat.le_of_ble_eq_true rfl) dX12_safe_67 ⟨Nat.le_of_ble_eq_true rfl, Nat.le_of_ble_eq_true rfl⟩ (fun r16 z15 H locs h hw => ?_)
            refine lv_iload hx hb dX12_safe_70 (lv_at hl 8 rfl) ?_
            refine lv_iload_n hx hb dX12_safe_72 rfl (lv_at hl 2 rfl) ?_
            refine lv_isub hx hb dX12_safe_73 ?_
            have hq := h
            clear h
            refine xcSI (As := [.int (v8 - v2)]) (rest := [.int r16]) E hw hA (c_X12_amount l D ad cs sk z15 (v8 - v2) _ hq) kc_12_171 yo_X12_amount ⟨Nat.le_of_ble_eq_true rfl, Nat.le_of_ble_eq_true rfl⟩ rfl hl.1 rfl (Nat.le_of_ble_eq_true rfl) dX12_safe_74 ⟨Nat.le_of_ble_eq_true rfl, Nat.le_of_ble_eq_true rfl⟩ (fun r18 z17 H locs h hw => ?_)
            refine lv_iadd hx hb dX12_safe_77 ?_
            refine lv_topi (fun t19 et19 => ?_)
            replace h := h t19 et19
            refine lv_istore (lv' := [(9, .int t19), (0, .ref (ad 14 100)), (1, .int v1), (2, .int v2), (3, .int v3), (4, .int v4), (5, .int v5), (6, .int v6), (7, .int v7), (8, .int v8)]) hx hb dX12_safe_78 hl (by decide) rfl (fun ls hl => ?_)
            refine lv_iload hx hb dX12_safe_80 (lv_at hl 7 rfl) ?_
            refine lv_if_lt (tgt := 92) hx hb dX12_safe_82 (by decide) (fun c20 => ?_) (fun c20 => ?_)
            · replace h := h.1 c20
              exact b92 z17 v1 v2 v3 v4 v5 v6 v7 v8 t19 H locs hw ls (lv_sub hl [1, 2, 3, 4, 5, 6, 7, 8, 9, 0] rfl) h
            · replace h := h.2 c20
              refine lv_iload hx hb dX12_safe_85 (lv_at hl 0 rfl) ?_
              refine lv_iload hx hb dX12_safe_87 (lv_at hl 7 rfl) ?_
              refine lv_icmp_ge (tgt := 118) hx hb dX12_safe_89 (by decide) (fun c25 => ?_) (fun c25 => ?_)
              · replace h := h.1 c25
                exact b118 z17 v1 v2 v3 v4 v5 v6 v7 v8 H locs hw ls (lv_sub hl [1, 2, 3, 4, 5, 6, 7, 8, 9] rfl) h
              · replace h := h.2 c25
                exact b92 z17 v1 v2 v3 v4 v5 v6 v7 v8 t19 H locs hw ls (lv_sub hl [1, 2, 3, 4, 5, 6, 7, 8, 9, 0] rfl) h
      intro z v1 v2 v3 v4 v5 v6 v7 H locs hw ls hl h
      unfold V_X12_safe_42 at h
      refine lv_iload hx hb dX12_safe_42 (lv_at hl 7 rfl) ?_
      refine lv_sipush (v := 30000) hx hb dX12_safe_44 (by decide) ?_
      refine lv_icmp_gt (tgt := 136) hx hb dX12_safe_47 (by decide) (fun c10 => ?_) (fun c10 => ?_)
      · replace h := h.1 c10
        refine lv_iload hx hb dX12_safe_136 (lv_at hl 6 rfl) ?_
        refine lv_if_ge (tgt := 147) hx hb dX12_safe_138 (by decide) (fun c11 => ?_) (fun c11 => ?_)
        · replace h := h.1 c11
          refine lv_iload_n hx hb dX12_safe_147 rfl (lv_at hl 3 rfl) ?_
          refine lv_if_ne (tgt := 159) hx hb dX12_safe_148 (by decide) (fun c12 => ?_) (fun c12 => ?_)
          · replace h := h.1 c12
            refine lv_iload hx hb dX12_safe_159 (lv_at hl 5 rfl) ?_
            refine lv_bipush (v := 10) hx hb dX12_safe_161 (by decide) ?_
            refine lv_idiv hx hb dX12_safe_163 (by decide) ?_
            exact hret (v5 / (10 : Int32)) z H locs 164 ls hw rfl h dX12_safe_164
          · replace h := h.2 c12
            refine lv_iload hx hb dX12_safe_151 (lv_at hl 4 rfl) ?_
            refine lv_bipush (v := 10) hx hb dX12_safe_153 (by decide) ?_
            refine lv_idiv hx hb dX12_safe_155 (by decide) ?_
            refine lv_goto (tgt := 164) hx hb dX12_safe_156 (by decide) ?_
            exact hret (v4 / (10 : Int32)) z H locs 164 ls hw rfl h dX12_safe_164
        · replace h := h.2 c11
          refine lv_ldcw (v := -1000000004) hx hb hown (h0 _ qk_12_301) dX12_safe_141 ?_
          refine lv_goto (tgt := 164) hx hb dX12_safe_144 (by decide) ?_
          exact hret (-1000000004 : Int32) z H locs 164 ls hw rfl h dX12_safe_164
      · replace h := h.2 c10
        refine lv_sipush (v := -30000) hx hb dX12_safe_50 (by decide) ?_
        refine lv_istore (lv' := [(8, .int (-30000 : Int32)), (0, .ref (ad 14 100)), (1, .int v1), (2, .int v2), (3, .int v3), (4, .int v4), (5, .int v5), (6, .int v6), (7, .int v7)]) hx hb dX12_safe_53 hl (by decide) rfl (fun ls hl => ?_)
        obtain ⟨n26, h⟩ := h
        exact b55 n26 z v1 v2 v3 v4 v5 v6 v7 (-30000 : Int32) H locs hw ls (lv_sub hl [1, 2, 3, 4, 5, 6, 7, 8, 0] rfl) h
  have b00 : ∀ (H : Heap) (locs : List Loc), OW D ad cs A s.heap z H locs → W p l e (rmq 2 0 0) s m args below meth c H locs 0 0 Q (F0 m 0 ls []) := by
    intro H locs hw
    refine lv_iload_n hx hb dX12_safe_0 rfl (lv_at hl 1 rfl) ?_
    have hq := h
    clear h
    refine xcSI (As := [.int p1]) (rest := []) E hw hA (c_X12_isEdge l D ad cs sk z p1 _ hq) kc_12_184 yo_X12_isEdge ⟨Nat.le_of_ble_eq_true rfl, Nat.le_of_ble_eq_true rfl⟩ rfl hl.1 rfl (Nat.le_of_ble_eq_true rfl) dX12_safe_1 ⟨Nat.le_of_ble_eq_true rfl, Nat.le_of_ble_eq_true rfl⟩ (fun r2 z1 H locs h hw => ?_)
    refine lv_if_eq (tgt := 24) hx hb dX12_safe_4 (by decide) (fun c3 => ?_) (fun c3 => ?_)
    · replace h := h.1 c3
      refine lv_ldc (v := -1000000001) hx hb hown (h0 _ qk_12_139) dX12_safe_24 ?_
      exact hret (-1000000001 : Int32) z1 H locs 26 ls hw rfl h dX12_safe_26
    · replace h := h.2 c3
      refine lv_iload_n hx hb dX12_safe_7 rfl (lv_at hl 2 rfl) ?_
      have hq := h
      clear h
      refine xcSI (As := [.int p2]) (rest := []) E hw hA (c_X12_isEdge l D ad cs sk z1 p2 _ hq) kc_12_184 yo_X12_isEdge ⟨Nat.le_of_ble_eq_true rfl, Nat.le_of_ble_eq_true rfl⟩ rfl hl.1 rfl (Nat.le_of_ble_eq_true rfl) dX12_safe_8 ⟨Nat.le_of_ble_eq_true rfl, Nat.le_of_ble_eq_true rfl⟩ (fun r5 z4 H locs h hw => ?_)
      refine lv_if_eq (tgt := 24) hx hb dX12_safe_11 (by decide) (fun c6 => ?_) (fun c6 => ?_)
      · replace h := h.1 c6
        refine lv_ldc (v := -1000000001) hx hb hown (h0 _ qk_12_139) dX12_safe_24 ?_
        exact hret (-1000000001 : Int32) z4 H locs 26 ls hw rfl h dX12_safe_26
      · replace h := h.2 c6
        refine lv_iload_n hx hb dX12_safe_14 rfl (lv_at hl 3 rfl) ?_
        refine lv_i2l hx hb dX12_safe_15 rfl ?_
        refine lv_lconst (v := 0) hx hb dX12_safe_16 (by decide) ?_
        refine lv_lconst (v := 1) hx hb dX12_safe_17 (by decide) ?_
        have hq := h
        clear h
        refine xcSI (As := [.long (Int32.toInt64 p3), .long (0 : Int64), .long (1 : Int64)]) (rest := []) E hw hA (c_X12_isIn l D ad cs sk z4 (Int32.toInt64 p3) (0 : Int64) (1 : Int64) _ hq) kc_12_56 yo_X12_isIn ⟨Nat.le_of_ble_eq_true rfl, Nat.le_of_ble_eq_true rfl⟩ rfl hl.1 rfl (Nat.le_of_ble_eq_true rfl) dX12_safe_18 ⟨Nat.le_of_ble_eq_true rfl, Nat.le_of_ble_eq_true rfl⟩ (fun r8 z7 H locs h hw => ?_)
        refine lv_if_ne (tgt := 27) hx hb dX12_safe_21 (by decide) (fun c9 => ?_) (fun c9 => ?_)
        · replace h := h.1 c9
          refine lv_iconst (v := 0) hx hb dX12_safe_27 (by decide) ?_
          refine lv_istore (lv' := [(4, .int (0 : Int32)), (0, .ref (ad 14 100)), (1, .int p1), (2, .int p2), (3, .int p3)]) hx hb dX12_safe_28 hl (by decide) rfl (fun ls hl => ?_)
          refine lv_iconst (v := 0) hx hb dX12_safe_30 (by decide) ?_
          refine lv_istore (lv' := [(5, .int (0 : Int32)), (4, .int (0 : Int32)), (0, .ref (ad 14 100)), (1, .int p1), (2, .int p2), (3, .int p3)]) hx hb dX12_safe_31 hl (by decide) rfl (fun ls hl => ?_)
          refine lv_bipush (v := -4) hx hb dX12_safe_33 (by decide) ?_
          refine lv_istore (lv' := [(6, .int (-4 : Int32)), (5, .int (0 : Int32)), (4, .int (0 : Int32)), (0, .ref (ad 14 100)), (1, .int p1), (2, .int p2), (3, .int p3)]) hx hb dX12_safe_35 hl (by decide) rfl (fun ls hl => ?_)
          refine lv_sipush (v := -30000) hx hb dX12_safe_37 (by decide) ?_
          refine lv_istore (lv' := [(7, .int (-30000 : Int32)), (6, .int (-4 : Int32)), (5, .int (0 : Int32)), (4, .int (0 : Int32)), (0, .ref (ad 14 100)), (1, .int p1), (2, .int p2), (3, .int p3)]) hx hb dX12_safe_40 hl (by decide) rfl (fun ls hl => ?_)
          obtain ⟨n27, h⟩ := h
          exact b42 n27 z7 p1 p2 p3 (0 : Int32) (0 : Int32) (-4 : Int32) (-30000 : Int32) H locs hw ls (lv_sub hl [4, 5, 6, 7, 3, 2, 1, 0] rfl) h
        · replace h := h.2 c9
          refine lv_ldc (v := -1000000001) hx hb hown (h0 _ qk_12_139) dX12_safe_24 ?_
          exact hret (-1000000001 : Int32) z7 H locs 26 ls hw rfl h dX12_safe_26
  exact b00 s.heap [] hw
def V_X12_withinOf_41 (post : Int32 → ZS → Prop) (rr6 : ZS → Int32 → Int32 → Int32 → Int32 → Int32 → Int32 → Int32 → Int32 → Prop) (z : ZS) (v1 : Int32) (v2 : Int32) (v3 : Int32) (v4 : Int32) (v5 : Int32) (v6 : Int32) (v8 : Int32) (s0 : Int32) (s1 : Int32) : Prop := (∀ t7 : Int32, t7 = (s0 + s1) → (∀ t8 : Int32, t8 = v8 + (1 : Int32) → rr6 z v1 v2 v3 v4 v5 v6 t7 t8))
def V_X12_withinOf_6 (post : Int32 → ZS → Prop) : Nat → ZS → Int32 → Int32 → Int32 → Int32 → Int32 → Int32 → Int32 → Int32 → Prop
  | 0, _, _, _, _, _, _, _, _, _ => False
  | (n + 1), z, v1, v2, v3, v4, v5, v6, v7, v8 => ((v5 ≤ v8 → post v7 z) ∧ (¬ v5 ≤ v8 → V_X12_falls z v1 v2 v3 (v6 + v8) (fun z2 => V_X12_off z2 (fun r5 z4 => ((v4 < r5 → V_X12_withinOf_41 post (V_X12_withinOf_6 post n) z4 v1 v2 v3 v4 v5 v6 v8 v7 (0 : Int32)) ∧ (¬ v4 < r5 → V_X12_withinOf_41 post (V_X12_withinOf_6 post n) z4 v1 v2 v3 v4 v5 v6 v8 v7 (1 : Int32)))))))
def V_X12_withinOf (z : ZS) (p1 : Int32) (p2 : Int32) (p3 : Int32) (p4 : Int32) (p5 : Int32) (p6 : Int32) (post : Int32 → ZS → Prop) : Prop := (∃ n9 : Nat, V_X12_withinOf_6 post n9 z p1 p2 p3 p4 p5 p6 (0 : Int32) (0 : Int32))
set_option maxHeartbeats 4000000 in
set_option maxRecDepth 100000 in
theorem c_X12_withinOf (l : Launch) (D : va_G) (ad : Nat → Nat → Nat) (cs : Nat → ClassId) (sk : (Nat → Nat) × (Nat → Nat)) (z : ZS) (p1 : Int32) (p2 : Int32) (p3 : Int32) (p4 : Int32) (p5 : Int32) (p6 : Int32) (post : Int32 → ZS → Prop) (h : V_X12_withinOf z p1 p2 p3 p4 p5 p6 post) : MI l D ad cs sk yX12_withinOf cX12_withinOf 9 .int (rmq 6 0 0) [.ref (ad 14 100), .int p1, .int p2, .int p3, .int p4, .int p5, .int p6] z post := by
  refine MI.of RX12 rfl (by decide) (Nat.le_of_ble_eq_true rfl) ?_
  intro p e s m args below meth c A Q E hw hA hret ls hl
  have hx := E.1.1
  have hb := E.1.2.1
  have hml := E.1.2.2.1
  have hown := E.1.2.2.2.1
  have h0 := E.1.2.2.2.2
  have hl : lv_has ls 9 [(0, .ref (ad 14 100)), (1, .int p1), (2, .int p2), (3, .int p3), (4, .int p4), (5, .int p5), (6, .int p6)] := hl
  unfold V_X12_withinOf at h
  have b6 : ∀ (n : Nat) (z : ZS) (v1 : Int32) (v2 : Int32) (v3 : Int32) (v4 : Int32) (v5 : Int32) (v6 : Int32) (v7 : Int32) (v8 : Int32), ∀ (H : Heap) (locs : List Loc), OW D ad cs A s.heap z H locs → ∀ ls : Array Slot, lv_has ls 9 [(0, .ref (ad 14 100)), (1, .int v1), (2, .int v2), (3, .int v3), (4, .int v4), (5, .int v5), (6, .int v6), (7, .int v7), (8, .int v8)] → V_X12_withinOf_6 post n z v1 v2 v3 v4 v5 v6 v7 v8 → W p l e (rmq 6 0 0) s m args below meth c H locs 0 0 Q (F0 m 6 ls []) := by
    intro n
    induction n with
    | zero =>
      intro z v1 v2 v3 v4 v5 v6 v7 v8 H locs hw ls hl h
      exact h.elim
    | succ n6x ih6 =>
      have b41 : ∀ (z : ZS) (v1 : Int32) (v2 : Int32) (v3 : Int32) (v4 : Int32) (v5 : Int32) (v6 : Int32) (v8 : Int32) (s0 : Int32) (s1 : Int32), ∀ (H : Heap) (locs : List Loc), OW D ad cs A s.heap z H locs → ∀ ls : Array Slot, lv_has ls 9 [(0, .ref (ad 14 100)), (1, .int v1), (2, .int v2), (3, .int v3), (4, .int v4), (5, .int v5), (6, .int v6), (8, .int v8)] → V_X12_withinOf_41 post (V_X12_withinOf_6 post n6x) z v1 v2 v3 v4 v5 v6 v8 s0 s1 → W p l e (rmq 6 0 0) s m args below meth c H locs 0 0 Q (F0 m 41 ls [.int s1, .int s0]) := by
        intro z v1 v2 v3 v4 v5 v6 v8 s0 s1 H locs hw ls hl h
        unfold V_X12_withinOf_41 at h
        refine lv_iadd hx hb dX12_withinOf_41 ?_
        refine lv_topi (fun t7 et7 => ?_)
        replace h := h t7 et7
        refine lv_istore (lv' := [(7, .int t7), (0, .ref (ad 14 100)), (1, .int v1), (2, .int v2), (3, .int v3), (4, .int v4), (5, .int v5), (6, .int v6), (8, .int v8)]) hx hb dX12_withinOf_42 hl (by decide) rfl (fun ls hl => ?_)
        obtain ⟨t8, et8⟩ : ∃ y : Int32, y = v8 + (1 : Int32) := ⟨_, rfl⟩
        replace h := h t8 et8
        refine lv_iinc (v := t8) (lv' := [(8, .int t8), (7, .int t7), (0, .ref (ad 14 100)), (1, .int v1), (2, .int v2), (3, .int v3), (4, .int v4), (5, .int v5), (6, .int v6)]) hx hb dX12_withinOf_44 hl (k := 8) rfl (by rw [et8]; rfl) (by decide) rfl (fun ls hl => ?_)
        refine lv_goto (tgt := 6) hx hb dX12_withinOf_47 (by decide) ?_
        exact ih6 z v1 v2 v3 v4 v5 v6 t7 t8 H locs hw ls (lv_sub hl [2, 3, 4, 5, 6, 7, 8, 1, 0] rfl) h
      intro z v1 v2 v3 v4 v5 v6 v7 v8 H locs hw ls hl h
      unfold V_X12_withinOf_6 at h
      refine lv_iload hx hb dX12_withinOf_6 (lv_at hl 8 rfl) ?_
      refine lv_iload hx hb dX12_withinOf_8 (lv_at hl 5 rfl) ?_
      refine lv_icmp_ge (tgt := 50) hx hb dX12_withinOf_10 (by decide) (fun c1 => ?_) (fun c1 => ?_)
      · replace h := h.1 c1
        refine lv_iload hx hb dX12_withinOf_50 (lv_at hl 7 rfl) ?_
        exact hret v7 z H locs 52 ls hw rfl h dX12_withinOf_52
      · replace h := h.2 c1
        refine lv_aload_n hx hb dX12_withinOf_13 rfl (lv_at hl 0 rfl) ?_
        refine lv_iload_n hx hb dX12_withinOf_14 rfl (lv_at hl 1 rfl) ?_
        refine lv_iload_n hx hb dX12_withinOf_15 rfl (lv_at hl 2 rfl) ?_
        refine lv_iload_n hx hb dX12_withinOf_16 rfl (lv_at hl 3 rfl) ?_
        refine lv_iload hx hb dX12_withinOf_17 (lv_at hl 6 rfl) ?_
        refine lv_iload hx hb dX12_withinOf_19 (lv_at hl 8 rfl) ?_
        refine lv_iadd hx hb dX12_withinOf_21 ?_
        have hq := h
        clear h
        refine xcVV (As := [.int v1, .int v2, .int v3, .int (v6 + v8)]) (rest := []) E hw hA (c_X12_falls l D ad cs sk z v1 v2 v3 (v6 + v8) _ hq) kc_12_267 yo_X12_falls ⟨Nat.le_of_ble_eq_true rfl, Nat.le_of_ble_eq_true rfl⟩ (xrc E hw ky_14_100 rfl) rfl hl.1 rfl (Nat.le_of_ble_eq_true rfl) dX12_withinOf_22 ⟨Nat.le_of_ble_eq_true rfl, Nat.le_of_ble_eq_true rfl⟩ (fun z2 H locs h hw => ?_)
        refine lv_iload hx hb dX12_withinOf_25 (lv_at hl 7 rfl) ?_
        refine lv_aload_n hx hb dX12_withinOf_27 rfl (lv_at hl 0 rfl) ?_
        have hq := h
        clear h
        refine xcVI (As := []) (rest := [.int v7]) E hw hA (c_X12_off l D ad cs sk z2 _ hq) kc_12_262 yo_X12_off ⟨Nat.le_of_ble_eq_true rfl, Nat.le_of_ble_eq_true rfl⟩ (xrc E hw ky_14_100 rfl) rfl hl.1 rfl (Nat.le_of_ble_eq_true rfl) dX12_withinOf_28 ⟨Nat.le_of_ble_eq_true rfl, Nat.le_of_ble_eq_true rfl⟩ (fun r5 z4 H locs h hw => ?_)
        refine lv_iload hx hb dX12_withinOf_31 (lv_at hl 4 rfl) ?_
        refine lv_icmp_gt (tgt := 40) hx hb dX12_withinOf_33 (by decide) (fun c6 => ?_) (fun c6 => ?_)
        · replace h := h.1 c6
          refine lv_iconst (v := 0) hx hb dX12_withinOf_40 (by decide) ?_
          exact b41 z4 v1 v2 v3 v4 v5 v6 v8 v7 (0 : Int32) H locs hw ls (lv_sub hl [0, 1, 2, 3, 4, 5, 6, 8] rfl) h
        · replace h := h.2 c6
          refine lv_iconst (v := 1) hx hb dX12_withinOf_36 (by decide) ?_
          refine lv_goto (tgt := 41) hx hb dX12_withinOf_37 (by decide) ?_
          exact b41 z4 v1 v2 v3 v4 v5 v6 v8 v7 (1 : Int32) H locs hw ls (lv_sub hl [0, 1, 2, 3, 4, 5, 6, 8] rfl) h
  have b00 : ∀ (H : Heap) (locs : List Loc), OW D ad cs A s.heap z H locs → W p l e (rmq 6 0 0) s m args below meth c H locs 0 0 Q (F0 m 0 ls []) := by
    intro H locs hw
    refine lv_iconst (v := 0) hx hb dX12_withinOf_0 (by decide) ?_
    refine lv_istore (lv' := [(7, .int (0 : Int32)), (0, .ref (ad 14 100)), (1, .int p1), (2, .int p2), (3, .int p3), (4, .int p4), (5, .int p5), (6, .int p6)]) hx hb dX12_withinOf_1 hl (by decide) rfl (fun ls hl => ?_)
    refine lv_iconst (v := 0) hx hb dX12_withinOf_3 (by decide) ?_
    refine lv_istore (lv' := [(8, .int (0 : Int32)), (7, .int (0 : Int32)), (0, .ref (ad 14 100)), (1, .int p1), (2, .int p2), (3, .int p3), (4, .int p4), (5, .int p5), (6, .int p6)]) hx hb dX12_withinOf_4 hl (by decide) rfl (fun ls hl => ?_)
    obtain ⟨n9, h⟩ := h
    exact b6 n9 z p1 p2 p3 p4 p5 p6 (0 : Int32) (0 : Int32) H locs hw ls (lv_sub hl [2, 3, 4, 5, 6, 7, 8, 1, 0] rfl) h
  exact b00 s.heap [] hw
def V_X12_isWithin (z : ZS) (p1 : Int32) (p2 : Int32) (p3 : Int32) (p4 : Int32) (p5 : Int32) (post : Int32 → ZS → Prop) : Prop := V_X12_isFaller z p1 (fun r2 z1 => ((r2 = 0 → post (0 : Int32) z1) ∧ (¬ r2 = 0 → V_X12_isEdge z1 p2 (fun r5 z4 => ((r5 = 0 → post (0 : Int32) z4) ∧ (¬ r5 = 0 → V_X12_isEdge z4 p3 (fun r8 z7 => ((r8 = 0 → post (0 : Int32) z7) ∧ (¬ r8 = 0 → V_X12_isIn z7 (Int32.toInt64 p4) (0 : Int64) (60000 : Int64) (fun r11 z10 => ((r11 = 0 → post (0 : Int32) z10) ∧ (¬ r11 = 0 → V_X12_isIn z10 (Int32.toInt64 p5) (1 : Int64) (20 : Int64) (fun r14 z13 => ((r14 = 0 → post (0 : Int32) z13) ∧ (¬ r14 = 0 → post (1 : Int32) z13)))))))))))))))
set_option maxHeartbeats 4000000 in
set_option maxRecDepth 100000 in
theorem c_X12_isWithin (l : Launch) (D : va_G) (ad : Nat → Nat → Nat) (cs : Nat → ClassId) (sk : (Nat → Nat) × (Nat → Nat)) (z : ZS) (p1 : Int32) (p2 : Int32) (p3 : Int32) (p4 : Int32) (p5 : Int32) (post : Int32 → ZS → Prop) (h : V_X12_isWithin z p1 p2 p3 p4 p5 post) : MI l D ad cs sk yX12_isWithin cX12_isWithin 6 .boolean (rmq 2 0 0) [.ref (ad 14 100), .int p1, .int p2, .int p3, .int p4, .int p5] z post := by
  refine MI.of RX12 rfl (by decide) (Nat.le_of_ble_eq_true rfl) ?_
  intro p e s m args below meth c A Q E hw hA hret ls hl
  have hx := E.1.1
  have hb := E.1.2.1
  have hml := E.1.2.2.1
  have hown := E.1.2.2.2.1
  have h0 := E.1.2.2.2.2
  have hl : lv_has ls 6 [(0, .ref (ad 14 100)), (1, .int p1), (2, .int p2), (3, .int p3), (4, .int p4), (5, .int p5)] := hl
  unfold V_X12_isWithin at h
  have b00 : ∀ (H : Heap) (locs : List Loc), OW D ad cs A s.heap z H locs → W p l e (rmq 2 0 0) s m args below meth c H locs 0 0 Q (F0 m 0 ls []) := by
    intro H locs hw
    refine lv_aload_n hx hb dX12_isWithin_0 rfl (lv_at hl 0 rfl) ?_
    refine lv_iload_n hx hb dX12_isWithin_1 rfl (lv_at hl 1 rfl) ?_
    have hq := h
    clear h
    refine xcVI (As := [.int p1]) (rest := []) E hw hA (c_X12_isFaller l D ad cs sk z p1 _ hq) kc_12_149 yo_X12_isFaller ⟨Nat.le_of_ble_eq_true rfl, Nat.le_of_ble_eq_true rfl⟩ (xrc E hw ky_14_100 rfl) rfl hl.1 rfl (Nat.le_of_ble_eq_true rfl) dX12_isWithin_2 ⟨Nat.le_of_ble_eq_true rfl, Nat.le_of_ble_eq_true rfl⟩ (fun r2 z1 H locs h hw => ?_)
    refine lv_if_eq (tgt := 52) hx hb dX12_isWithin_5 (by decide) (fun c3 => ?_) (fun c3 => ?_)
    · replace h := h.1 c3
      refine lv_iconst (v := 0) hx hb dX12_isWithin_52 (by decide) ?_
      exact hret (0 : Int32) z1 H locs 53 ls hw rfl h dX12_isWithin_53
    · replace h := h.2 c3
      refine lv_iload_n hx hb dX12_isWithin_8 rfl (lv_at hl 2 rfl) ?_
      have hq := h
      clear h
      refine xcSI (As := [.int p2]) (rest := []) E hw hA (c_X12_isEdge l D ad cs sk z1 p2 _ hq) kc_12_184 yo_X12_isEdge ⟨Nat.le_of_ble_eq_true rfl, Nat.le_of_ble_eq_true rfl⟩ rfl hl.1 rfl (Nat.le_of_ble_eq_true rfl) dX12_isWithin_9 ⟨Nat.le_of_ble_eq_true rfl, Nat.le_of_ble_eq_true rfl⟩ (fun r5 z4 H locs h hw => ?_)
      refine lv_if_eq (tgt := 52) hx hb dX12_isWithin_12 (by decide) (fun c6 => ?_) (fun c6 => ?_)
      · replace h := h.1 c6
        refine lv_iconst (v := 0) hx hb dX12_isWithin_52 (by decide) ?_
        exact hret (0 : Int32) z4 H locs 53 ls hw rfl h dX12_isWithin_53
      · replace h := h.2 c6
        refine lv_iload_n hx hb dX12_isWithin_15 rfl (lv_at hl 3 rfl) ?_
        have hq := h
        clear h
        refine xcSI (As := [.int p3]) (rest := []) E hw hA (c_X12_isEdge l D ad cs sk z4 p3 _ hq) kc_12_184 yo_X12_isEdge ⟨Nat.le_of_ble_eq_true rfl, Nat.le_of_ble_eq_true rfl⟩ rfl hl.1 rfl (Nat.le_of_ble_eq_true rfl) dX12_isWithin_16 ⟨Nat.le_of_ble_eq_true rfl, Nat.le_of_ble_eq_true rfl⟩ (fun r8 z7 H locs h hw => ?_)
        refine lv_if_eq (tgt := 52) hx hb dX12_isWithin_19 (by decide) (fun c9 => ?_) (fun c9 => ?_)
        · replace h := h.1 c9
          refine lv_iconst (v := 0) hx hb dX12_isWithin_52 (by decide) ?_
          exact hret (0 : Int32) z7 H locs 53 ls hw rfl h dX12_isWithin_53
        · replace h := h.2 c9
          refine lv_iload hx hb dX12_isWithin_22 (lv_at hl 4 rfl) ?_
          refine lv_i2l hx hb dX12_isWithin_24 rfl ?_
          refine lv_lconst (v := 0) hx hb dX12_isWithin_25 (by decide) ?_
          refine lv_ldc2 (v := 60000) hx hb hown (h0 _ ql_12_283) dX12_isWithin_26 ?_
          have hq := h
          clear h
          refine xcSI (As := [.long (Int32.toInt64 p4), .long (0 : Int64), .long (60000 : Int64)]) (rest := []) E hw hA (c_X12_isIn l D ad cs sk z7 (Int32.toInt64 p4) (0 : Int64) (60000 : Int64) _ hq) kc_12_56 yo_X12_isIn ⟨Nat.le_of_ble_eq_true rfl, Nat.le_of_ble_eq_true rfl⟩ rfl hl.1 rfl (Nat.le_of_ble_eq_true rfl) dX12_isWithin_29 ⟨Nat.le_of_ble_eq_true rfl, Nat.le_of_ble_eq_true rfl⟩ (fun r11 z10 H locs h hw => ?_)
          refine lv_if_eq (tgt := 52) hx hb dX12_isWithin_32 (by decide) (fun c12 => ?_) (fun c12 => ?_)
          · replace h := h.1 c12
            refine lv_iconst (v := 0) hx hb dX12_isWithin_52 (by decide) ?_
            exact hret (0 : Int32) z10 H locs 53 ls hw rfl h dX12_isWithin_53
          · replace h := h.2 c12
            refine lv_iload hx hb dX12_isWithin_35 (lv_at hl 5 rfl) ?_
            refine lv_i2l hx hb dX12_isWithin_37 rfl ?_
            refine lv_lconst (v := 1) hx hb dX12_isWithin_38 (by decide) ?_
            refine lv_ldc2 (v := 20) hx hb hown (h0 _ ql_12_281) dX12_isWithin_39 ?_
            have hq := h
            clear h
            refine xcSI (As := [.long (Int32.toInt64 p5), .long (1 : Int64), .long (20 : Int64)]) (rest := []) E hw hA (c_X12_isIn l D ad cs sk z10 (Int32.toInt64 p5) (1 : Int64) (20 : Int64) _ hq) kc_12_56 yo_X12_isIn ⟨Nat.le_of_ble_eq_true rfl, Nat.le_of_ble_eq_true rfl⟩ rfl hl.1 rfl (Nat.le_of_ble_eq_true rfl) dX12_isWithin_42 ⟨Nat.le_of_ble_eq_true rfl, Nat.le_of_ble_eq_true rfl⟩ (fun r14 z13 H locs h hw => ?_)
            refine lv_if_eq (tgt := 52) hx hb dX12_isWithin_45 (by decide) (fun c15 => ?_) (fun c15 => ?_)
            · replace h := h.1 c15
              refine lv_iconst (v := 0) hx hb dX12_isWithin_52 (by decide) ?_
              exact hret (0 : Int32) z13 H locs 53 ls hw rfl h dX12_isWithin_53
            · replace h := h.2 c15
              refine lv_iconst (v := 1) hx hb dX12_isWithin_48 (by decide) ?_
              refine lv_goto (tgt := 53) hx hb dX12_isWithin_49 (by decide) ?_
              exact hret (1 : Int32) z13 H locs 53 ls hw rfl h dX12_isWithin_53
  exact b00 s.heap [] hw
def V_X12_within (z : ZS) (p1 : Int32) (p2 : Int32) (p3 : Int32) (p4 : Int32) (p5 : Int32) (p6 : Int32) (post : Int32 → ZS → Prop) : Prop := V_X12_isWithin z p1 p2 p3 p4 p5 (fun r2 z1 => ((r2 = 0 → post (-1 : Int32) z1) ∧ (¬ r2 = 0 → V_X12_withinOf z1 p1 p2 p3 p4 p5 p6 (fun r5 z4 => post r5 z4))))
set_option maxHeartbeats 4000000 in
set_option maxRecDepth 100000 in
theorem c_X12_within (l : Launch) (D : va_G) (ad : Nat → Nat → Nat) (cs : Nat → ClassId) (sk : (Nat → Nat) × (Nat → Nat)) (z : ZS) (p1 : Int32) (p2 : Int32) (p3 : Int32) (p4 : Int32) (p5 : Int32) (p6 : Int32) (post : Int32 → ZS → Prop) (h : V_X12_within z p1 p2 p3 p4 p5 p6 post) : MI l D ad cs sk yX12_within cX12_within 7 .int (rmq 7 0 0) [.ref (ad 14 100), .int p1, .int p2, .int p3, .int p4, .int p5, .int p6] z post := by
  refine MI.of RX12 rfl (by decide) (Nat.le_of_ble_eq_true rfl) ?_
  intro p e s m args below meth c A Q E hw hA hret ls hl
  have hx := E.1.1
  have hb := E.1.2.1
  have hml := E.1.2.2.1
  have hown := E.1.2.2.2.1
  have h0 := E.1.2.2.2.2
  have hl : lv_has ls 7 [(0, .ref (ad 14 100)), (1, .int p1), (2, .int p2), (3, .int p3), (4, .int p4), (5, .int p5), (6, .int p6)] := hl
  unfold V_X12_within at h
  have b00 : ∀ (H : Heap) (locs : List Loc), OW D ad cs A s.heap z H locs → W p l e (rmq 7 0 0) s m args below meth c H locs 0 0 Q (F0 m 0 ls []) := by
    intro H locs hw
    refine lv_aload_n hx hb dX12_within_0 rfl (lv_at hl 0 rfl) ?_
    refine lv_iload_n hx hb dX12_within_1 rfl (lv_at hl 1 rfl) ?_
    refine lv_iload_n hx hb dX12_within_2 rfl (lv_at hl 2 rfl) ?_
    refine lv_iload_n hx hb dX12_within_3 rfl (lv_at hl 3 rfl) ?_
    refine lv_iload hx hb dX12_within_4 (lv_at hl 4 rfl) ?_
    refine lv_iload hx hb dX12_within_6 (lv_at hl 5 rfl) ?_
    have hq := h
    clear h
    refine xcVI (As := [.int p1, .int p2, .int p3, .int p4, .int p5]) (rest := []) E hw hA (c_X12_isWithin l D ad cs sk z p1 p2 p3 p4 p5 _ hq) kc_12_302 yo_X12_isWithin ⟨Nat.le_of_ble_eq_true rfl, Nat.le_of_ble_eq_true rfl⟩ (xrc E hw ky_14_100 rfl) rfl hl.1 rfl (Nat.le_of_ble_eq_true rfl) dX12_within_8 ⟨Nat.le_of_ble_eq_true rfl, Nat.le_of_ble_eq_true rfl⟩ (fun r2 z1 H locs h hw => ?_)
    refine lv_if_eq (tgt := 30) hx hb dX12_within_11 (by decide) (fun c3 => ?_) (fun c3 => ?_)
    · replace h := h.1 c3
      refine lv_iconst (v := -1) hx hb dX12_within_30 (by decide) ?_
      exact hret (-1 : Int32) z1 H locs 31 ls hw rfl h dX12_within_31
    · replace h := h.2 c3
      refine lv_aload_n hx hb dX12_within_14 rfl (lv_at hl 0 rfl) ?_
      refine lv_iload_n hx hb dX12_within_15 rfl (lv_at hl 1 rfl) ?_
      refine lv_iload_n hx hb dX12_within_16 rfl (lv_at hl 2 rfl) ?_
      refine lv_iload_n hx hb dX12_within_17 rfl (lv_at hl 3 rfl) ?_
      refine lv_iload hx hb dX12_within_18 (lv_at hl 4 rfl) ?_
      refine lv_iload hx hb dX12_within_20 (lv_at hl 5 rfl) ?_
      refine lv_iload hx hb dX12_within_22 (lv_at hl 6 rfl) ?_
      have hq := h
      clear h
      refine xcVI (As := [.int p1, .int p2, .int p3, .int p4, .int p5, .int p6]) (rest := []) E hw hA (c_X12_withinOf l D ad cs sk z1 p1 p2 p3 p4 p5 p6 _ hq) kc_12_306 yo_X12_withinOf ⟨Nat.le_of_ble_eq_true rfl, Nat.le_of_ble_eq_true rfl⟩ (xrc E hw ky_14_100 rfl) rfl hl.1 rfl (Nat.le_of_ble_eq_true rfl) dX12_within_24 ⟨Nat.le_of_ble_eq_true rfl, Nat.le_of_ble_eq_true rfl⟩ (fun r5 z4 H locs h hw => ?_)
      refine lv_goto (tgt := 31) hx hb dX12_within_27 (by decide) ?_
      exact hret r5 z4 H locs 31 ls hw rfl h dX12_within_31
  exact b00 s.heap [] hw
def V_X12_stop_86 (post : Int32 → ZS → Prop) (z : ZS) (v7 : Int32) (v8 : Int32) : Prop := (∀ z6 : ZS, z6 = wR z 14 0 0 v7 → post v8 z6)
def V_X12_stop_78 (post : Int32 → ZS → Prop) (rr31 : ZS → Int32 → Int32 → Int32 → Int32 → Int32 → Int32 → Int32 → Int32 → Int32 → Prop) (z : ZS) (v1 : Int32) (v2 : Int32) (v3 : Int32) (v4 : Int32) (v5 : Int32) (v6 : Int32) (v7 : Int32) (v9 : Int32) (s0 : Int32) : Prop := (∀ t12 : Int32, t12 = v9 + (1 : Int32) → rr31 z v1 v2 v3 v4 v5 v6 v7 s0 t12)
def V_X12_stop_31 (post : Int32 → ZS → Prop) : Nat → ZS → Int32 → Int32 → Int32 → Int32 → Int32 → Int32 → Int32 → Int32 → Int32 → Prop
  | 0, _, _, _, _, _, _, _, _, _, _ => False
  | (n + 1), z, v1, v2, v3, v4, v5, v6, v7, v8, v9 => (((30 : Int32) < v9 → V_X12_stop_86 post z v7 v8) ∧ (¬ (30 : Int32) < v9 → ((0 ≤ v8 → V_X12_stop_86 post z v7 v8) ∧ (¬ 0 ≤ v8 → (∀ z8 : ZS, z8 = wR z 14 0 0 v9 → V_X12_withinOf z8 v1 v2 v3 v4 v5 v6 (fun r10 z9 => ((v5 ≤ ((2 : Int32) * r10) → V_X12_stop_78 post (V_X12_stop_31 post n) z9 v1 v2 v3 v4 v5 v6 v7 v9 (-4 : Int32)) ∧ (¬ v5 ≤ ((2 : Int32) * r10) → V_X12_stop_78 post (V_X12_stop_31 post n) z9 v1 v2 v3 v4 v5 v6 v7 v9 v9))))))))
def V_X12_stop (z : ZS) (p1 : Int32) (p2 : Int32) (p3 : Int32) (p4 : Int32) (p5 : Int32) (p6 : Int32) (post : Int32 → ZS → Prop) : Prop := V_X12_isWithin z p1 p2 p3 p4 p5 (fun r2 z1 => ((¬ r2 = 0 → (∀ t4 : Int32, t4 = (zR z1 14 0 0) → (∃ n13 : Nat, V_X12_stop_31 post n13 z1 p1 p2 p3 p4 p5 p6 t4 (-4 : Int32) (0 : Int32)))) ∧ (r2 = 0 → post (-1 : Int32) z1)))
set_option maxHeartbeats 4000000 in
set_option maxRecDepth 100000 in
theorem c_X12_stop (l : Launch) (D : va_G) (ad : Nat → Nat → Nat) (cs : Nat → ClassId) (sk : (Nat → Nat) × (Nat → Nat)) (z : ZS) (p1 : Int32) (p2 : Int32) (p3 : Int32) (p4 : Int32) (p5 : Int32) (p6 : Int32) (post : Int32 → ZS → Prop) (h : V_X12_stop z p1 p2 p3 p4 p5 p6 post) : MI l D ad cs sk yX12_stop cX12_stop 10 .int (rmq 7 0 0) [.ref (ad 14 100), .int p1, .int p2, .int p3, .int p4, .int p5, .int p6] z post := by
  refine MI.of RX12 rfl (by decide) (Nat.le_of_ble_eq_true rfl) ?_
  intro p e s m args below meth c A Q E hw hA hret ls hl
  have hx := E.1.1
  have hb := E.1.2.1
  have hml := E.1.2.2.1
  have hown := E.1.2.2.2.1
  have h0 := E.1.2.2.2.2
  have hl : lv_has ls 10 [(0, .ref (ad 14 100)), (1, .int p1), (2, .int p2), (3, .int p3), (4, .int p4), (5, .int p5), (6, .int p6)] := hl
  unfold V_X12_stop at h
  have b86 : ∀ (z : ZS) (v7 : Int32) (v8 : Int32), ∀ (H : Heap) (locs : List Loc), OW D ad cs A s.heap z H locs → ∀ ls : Array Slot, lv_has ls 10 [(0, .ref (ad 14 100)), (7, .int v7), (8, .int v8)] → V_X12_stop_86 post z v7 v8 → W p l e (rmq 7 0 0) s m args below meth c H locs 0 0 Q (F0 m 86 ls []) := by
    intro z v7 v8 H locs hw ls hl h
    unfold V_X12_stop_86 at h
    refine lv_aload_n hx hb dX12_stop_86 rfl (lv_at hl 0 rfl) ?_
    refine xgC E hw (c1 := 12) (t := (14, 0)) rfl ky_14_100 fo_12_0 rfl qf_12_9 dX12_stop_87 ?_
    refine lv_iconst (v := 0) hx hb dX12_stop_90 (by decide) ?_
    refine lv_iload hx hb dX12_stop_91 (lv_at hl 1 rfl) ?_
    refine xasL (j := 0) E hw ky_14_0 ka_14_0 (by decide) (by decide) dX12_stop_93 (fun z6 ez6 H locs hw => ?_)
    replace h := h z6 ez6
    refine lv_iload hx hb dX12_stop_94 (lv_at hl 2 rfl) ?_
    exact hret v8 z6 H locs 96 ls hw rfl h dX12_stop_96
  have b31 : ∀ (n : Nat) (z : ZS) (v1 : Int32) (v2 : Int32) (v3 : Int32) (v4 : Int32) (v5 : Int32) (v6 : Int32) (v7 : Int32) (v8 : Int32) (v9 : Int32), ∀ (H : Heap) (locs : List Loc), OW D ad cs A s.heap z H locs → ∀ ls : Array Slot, lv_has ls 10 [(0, .ref (ad 14 100)), (1, .int v1), (2, .int v2), (3, .int v3), (4, .int v4), (5, .int v5), (6, .int v6), (7, .int v7), (8, .int v8), (9, .int v9)] → V_X12_stop_31 post n z v1 v2 v3 v4 v5 v6 v7 v8 v9 → W p l e (rmq 7 0 0) s m args below meth c H locs 0 0 Q (F0 m 31 ls []) := by
    intro n
    induction n with
    | zero =>
      intro z v1 v2 v3 v4 v5 v6 v7 v8 v9 H locs hw ls hl h
      exact h.elim
    | succ n31x ih31 =>
      have b78 : ∀ (z : ZS) (v1 : Int32) (v2 : Int32) (v3 : Int32) (v4 : Int32) (v5 : Int32) (v6 : Int32) (v7 : Int32) (v9 : Int32) (s0 : Int32), ∀ (H : Heap) (locs : List Loc), OW D ad cs A s.heap z H locs → ∀ ls : Array Slot, lv_has ls 10 [(0, .ref (ad 14 100)), (1, .int v1), (2, .int v2), (3, .int v3), (4, .int v4), (5, .int v5), (6, .int v6), (7, .int v7), (9, .int v9)] → V_X12_stop_78 post (V_X12_stop_31 post n31x) z v1 v2 v3 v4 v5 v6 v7 v9 s0 → W p l e (rmq 7 0 0) s m args below meth c H locs 0 0 Q (F0 m 78 ls [.int s0]) := by
        intro z v1 v2 v3 v4 v5 v6 v7 v9 s0 H locs hw ls hl h
        unfold V_X12_stop_78 at h
        refine lv_istore (lv' := [(8, .int s0), (0, .ref (ad 14 100)), (1, .int v1), (2, .int v2), (3, .int v3), (4, .int v4), (5, .int v5), (6, .int v6), (7, .int v7), (9, .int v9)]) hx hb dX12_stop_78 hl (by decide) rfl (fun ls hl => ?_)
        obtain ⟨t12, et12⟩ : ∃ y : Int32, y = v9 + (1 : Int32) := ⟨_, rfl⟩
        replace h := h t12 et12
        refine lv_iinc (v := t12) (lv' := [(9, .int t12), (8, .int s0), (0, .ref (ad 14 100)), (1, .int v1), (2, .int v2), (3, .int v3), (4, .int v4), (5, .int v5), (6, .int v6), (7, .int v7)]) hx hb dX12_stop_80 hl (k := 9) rfl (by rw [et12]; rfl) (by decide) rfl (fun ls hl => ?_)
        refine lv_goto (tgt := 31) hx hb dX12_stop_83 (by decide) ?_
        exact ih31 z v1 v2 v3 v4 v5 v6 v7 s0 t12 H locs hw ls (lv_sub hl [2, 3, 4, 5, 6, 7, 8, 9, 1, 0] rfl) h
      intro z v1 v2 v3 v4 v5 v6 v7 v8 v9 H locs hw ls hl h
      unfold V_X12_stop_31 at h
      refine lv_iload hx hb dX12_stop_31 (lv_at hl 9 rfl) ?_
      refine lv_bipush (v := 30) hx hb dX12_stop_33 (by decide) ?_
      refine lv_icmp_gt (tgt := 86) hx hb dX12_stop_35 (by decide) (fun c5 => ?_) (fun c5 => ?_)
      · replace h := h.1 c5
        exact b86 z v7 v8 H locs hw ls (lv_sub hl [0, 7, 8] rfl) h
      · replace h := h.2 c5
        refine lv_iload hx hb dX12_stop_38 (lv_at hl 8 rfl) ?_
        refine lv_if_ge (tgt := 86) hx hb dX12_stop_40 (by decide) (fun c7 => ?_) (fun c7 => ?_)
        · replace h := h.1 c7
          exact b86 z v7 v8 H locs hw ls (lv_sub hl [0, 7, 8] rfl) h
        · replace h := h.2 c7
          refine lv_aload_n hx hb dX12_stop_43 rfl (lv_at hl 0 rfl) ?_
          refine xgC E hw (c1 := 12) (t := (14, 0)) rfl ky_14_100 fo_12_0 rfl qf_12_9 dX12_stop_44 ?_
          refine lv_iconst (v := 0) hx hb dX12_stop_47 (by decide) ?_
          refine lv_iload hx hb dX12_stop_48 (lv_at hl 9 rfl) ?_
          refine xasL (j := 0) E hw ky_14_0 ka_14_0 (by decide) (by decide) dX12_stop_50 (fun z8 ez8 H locs hw => ?_)
          replace h := h z8 ez8
          refine lv_iconst (v := 2) hx hb dX12_stop_51 (by decide) ?_
          refine lv_aload_n hx hb dX12_stop_52 rfl (lv_at hl 0 rfl) ?_
          refine lv_iload_n hx hb dX12_stop_53 rfl (lv_at hl 1 rfl) ?_
          refine lv_iload_n hx hb dX12_stop_54 rfl (lv_at hl 2 rfl) ?_
          refine lv_iload_n hx hb dX12_stop_55 rfl (lv_at hl 3 rfl) ?_
          refine lv_iload hx hb dX12_stop_56 (lv_at hl 4 rfl) ?_
          refine lv_iload hx hb dX12_stop_58 (lv_at hl 5 rfl) ?_
          refine lv_iload hx hb dX12_stop_60 (lv_at hl 6 rfl) ?_
          have hq := h
          clear h
          refine xcVI (As := [.int v1, .int v2, .int v3, .int v4, .int v5, .int v6]) (rest := [.int (2 : Int32)]) E hw hA (c_X12_withinOf l D ad cs sk z8 v1 v2 v3 v4 v5 v6 _ hq) kc_12_306 yo_X12_withinOf ⟨Nat.le_of_ble_eq_true rfl, Nat.le_of_ble_eq_true rfl⟩ (xrc E hw ky_14_100 rfl) rfl hl.1 rfl (Nat.le_of_ble_eq_true rfl) dX12_stop_62 ⟨Nat.le_of_ble_eq_true rfl, Nat.le_of_ble_eq_true rfl⟩ (fun r10 z9 H locs h hw => ?_)
          refine lv_imul hx hb dX12_stop_65 ?_
          refine lv_iload hx hb dX12_stop_66 (lv_at hl 5 rfl) ?_
          refine lv_icmp_ge (tgt := 76) hx hb dX12_stop_68 (by decide) (fun c11 => ?_) (fun c11 => ?_)
          · replace h := h.1 c11
            refine lv_bipush (v := -4) hx hb dX12_stop_76 (by decide) ?_
            exact b78 z9 v1 v2 v3 v4 v5 v6 v7 v9 (-4 : Int32) H locs hw ls (lv_sub hl [0, 1, 2, 3, 4, 5, 6, 7, 9] rfl) h
          · replace h := h.2 c11
            refine lv_iload hx hb dX12_stop_71 (lv_at hl 9 rfl) ?_
            refine lv_goto (tgt := 78) hx hb dX12_stop_73 (by decide) ?_
            exact b78 z9 v1 v2 v3 v4 v5 v6 v7 v9 v9 H locs hw ls (lv_sub hl [0, 1, 2, 3, 4, 5, 6, 7, 9] rfl) h
  have b00 : ∀ (H : Heap) (locs : List Loc), OW D ad cs A s.heap z H locs → W p l e (rmq 7 0 0) s m args below meth c H locs 0 0 Q (F0 m 0 ls []) := by
    intro H locs hw
    refine lv_aload_n hx hb dX12_stop_0 rfl (lv_at hl 0 rfl) ?_
    refine lv_iload_n hx hb dX12_stop_1 rfl (lv_at hl 1 rfl) ?_
    refine lv_iload_n hx hb dX12_stop_2 rfl (lv_at hl 2 rfl) ?_
    refine lv_iload_n hx hb dX12_stop_3 rfl (lv_at hl 3 rfl) ?_
    refine lv_iload hx hb dX12_stop_4 (lv_at hl 4 rfl) ?_
    refine lv_iload hx hb dX12_stop_6 (lv_at hl 5 rfl) ?_
    have hq := h
    clear h
    refine xcVI (As := [.int p1, .int p2, .int p3, .int p4, .int p5]) (rest := []) E hw hA (c_X12_isWithin l D ad cs sk z p1 p2 p3 p4 p5 _ hq) kc_12_302 yo_X12_isWithin ⟨Nat.le_of_ble_eq_true rfl, Nat.le_of_ble_eq_true rfl⟩ (xrc E hw ky_14_100 rfl) rfl hl.1 rfl (Nat.le_of_ble_eq_true rfl) dX12_stop_8 ⟨Nat.le_of_ble_eq_true rfl, Nat.le_of_ble_eq_true rfl⟩ (fun r2 z1 H locs h hw => ?_)
    refine lv_if_ne (tgt := 16) hx hb dX12_stop_11 (by decide) (fun c3 => ?_) (fun c3 => ?_)
    · replace h := h.1 c3
      refine lv_aload_n hx hb dX12_stop_16 rfl (lv_at hl 0 rfl) ?_
      refine xgC E hw (c1 := 12) (t := (14, 0)) rfl ky_14_100 fo_12_0 rfl qf_12_9 dX12_stop_17 ?_
      refine lv_iconst (v := 0) hx hb dX12_stop_20 (by decide) ?_
      refine xalL (j := 0) E hw ky_14_0 ka_14_0 (by decide) (by decide) dX12_stop_21 ?_
      refine lv_topi (fun t4 et4 => ?_)
      replace h := h t4 et4
      refine lv_istore (lv' := [(7, .int t4), (0, .ref (ad 14 100)), (1, .int p1), (2, .int p2), (3, .int p3), (4, .int p4), (5, .int p5), (6, .int p6)]) hx hb dX12_stop_22 hl (by decide) rfl (fun ls hl => ?_)
      refine lv_bipush (v := -4) hx hb dX12_stop_24 (by decide) ?_
      refine lv_istore (lv' := [(8, .int (-4 : Int32)), (7, .int t4), (0, .ref (ad 14 100)), (1, .int p1), (2, .int p2), (3, .int p3), (4, .int p4), (5, .int p5), (6, .int p6)]) hx hb dX12_stop_26 hl (by decide) rfl (fun ls hl => ?_)
      refine lv_iconst (v := 0) hx hb dX12_stop_28 (by decide) ?_
      refine lv_istore (lv' := [(9, .int (0 : Int32)), (8, .int (-4 : Int32)), (7, .int t4), (0, .ref (ad 14 100)), (1, .int p1), (2, .int p2), (3, .int p3), (4, .int p4), (5, .int p5), (6, .int p6)]) hx hb dX12_stop_29 hl (by decide) rfl (fun ls hl => ?_)
      obtain ⟨n13, h⟩ := h
      exact b31 n13 z1 p1 p2 p3 p4 p5 p6 t4 (-4 : Int32) (0 : Int32) H locs hw ls (lv_sub hl [3, 4, 5, 6, 7, 8, 9, 2, 1, 0] rfl) h
    · replace h := h.2 c3
      refine lv_iconst (v := -1) hx hb dX12_stop_14 (by decide) ?_
      exact hret (-1 : Int32) z1 H locs 15 ls hw rfl h dX12_stop_15
  exact b00 s.heap [] hw
def V_X12_knew (z : ZS) (p1 : Int32) (p2 : Int32) (p3 : Int32) (p4 : Int32) (post : Int32 → ZS → Prop) : Prop := V_X12_isFaller z p1 (fun r2 z1 => ((r2 = 0 → post (-1000000001 : Int32) z1) ∧ (¬ r2 = 0 → V_X12_isFaller z1 p2 (fun r5 z4 => ((r5 = 0 → post (-1000000001 : Int32) z4) ∧ (¬ r5 = 0 → ((p1 = p2 → post (-1000000001 : Int32) z4) ∧ (¬ p1 = p2 → V_X12_isEdge z4 p3 (fun r9 z8 => ((r9 = 0 → post (-1000000001 : Int32) z8) ∧ (¬ r9 = 0 → V_X12_isEdge z8 p4 (fun r12 z11 => ((¬ r12 = 0 → V_X12_falls z11 p2 p3 p4 (1 : Int32) (fun z14 => V_X12_held z14 (p3 - (zI z14 14 22)) (fun r17 z16 => V_X12_held z16 (p4 - (zI z16 14 23)) (fun r19 z18 => V_X12_falls z18 p1 p3 p4 (1 : Int32) (fun z20 => V_X12_off z20 (fun r23 z22 => V_X12_falls z22 p1 r17 r19 (1 : Int32) (fun z24 => V_X12_off z24 (fun r27 z26 => post (r23 - r27) z26)))))))) ∧ (r12 = 0 → post (-1000000001 : Int32) z11))))))))))))))
set_option maxHeartbeats 4000000 in
set_option maxRecDepth 100000 in
theorem c_X12_knew (l : Launch) (D : va_G) (ad : Nat → Nat → Nat) (cs : Nat → ClassId) (sk : (Nat → Nat) × (Nat → Nat)) (z : ZS) (p1 : Int32) (p2 : Int32) (p3 : Int32) (p4 : Int32) (post : Int32 → ZS → Prop) (h : V_X12_knew z p1 p2 p3 p4 post) : MI l D ad cs sk yX12_knew cX12_knew 8 .int (rmq 6 0 0) [.ref (ad 14 100), .int p1, .int p2, .int p3, .int p4] z post := by
  refine MI.of RX12 rfl (by decide) (Nat.le_of_ble_eq_true rfl) ?_
  intro p e s m args below meth c A Q E hw hA hret ls hl
  have hx := E.1.1
  have hb := E.1.2.1
  have hml := E.1.2.2.1
  have hown := E.1.2.2.2.1
  have h0 := E.1.2.2.2.2
  have hl : lv_has ls 8 [(0, .ref (ad 14 100)), (1, .int p1), (2, .int p2), (3, .int p3), (4, .int p4)] := hl
  unfold V_X12_knew at h
  have b00 : ∀ (H : Heap) (locs : List Loc), OW D ad cs A s.heap z H locs → W p l e (rmq 6 0 0) s m args below meth c H locs 0 0 Q (F0 m 0 ls []) := by
    intro H locs hw
    refine lv_aload_n hx hb dX12_knew_0 rfl (lv_at hl 0 rfl) ?_
    refine lv_iload_n hx hb dX12_knew_1 rfl (lv_at hl 1 rfl) ?_
    have hq := h
    clear h
    refine xcVI (As := [.int p1]) (rest := []) E hw hA (c_X12_isFaller l D ad cs sk z p1 _ hq) kc_12_149 yo_X12_isFaller ⟨Nat.le_of_ble_eq_true rfl, Nat.le_of_ble_eq_true rfl⟩ (xrc E hw ky_14_100 rfl) rfl hl.1 rfl (Nat.le_of_ble_eq_true rfl) dX12_knew_2 ⟨Nat.le_of_ble_eq_true rfl, Nat.le_of_ble_eq_true rfl⟩ (fun r2 z1 H locs h hw => ?_)
    refine lv_if_eq (tgt := 36) hx hb dX12_knew_5 (by decide) (fun c3 => ?_) (fun c3 => ?_)
    · replace h := h.1 c3
      refine lv_ldc (v := -1000000001) hx hb hown (h0 _ qk_12_139) dX12_knew_36 ?_
      exact hret (-1000000001 : Int32) z1 H locs 38 ls hw rfl h dX12_knew_38
    · replace h := h.2 c3
      refine lv_aload_n hx hb dX12_knew_8 rfl (lv_at hl 0 rfl) ?_
      refine lv_iload_n hx hb dX12_knew_9 rfl (lv_at hl 2 rfl) ?_
      have hq := h
      clear h
      refine xcVI (As := [.int p2]) (rest := []) E hw hA (c_X12_isFaller l D ad cs sk z1 p2 _ hq) kc_12_149 yo_X12_isFaller ⟨Nat.le_of_ble_eq_true rfl, Nat.le_of_ble_eq_true rfl⟩ (xrc E hw ky_14_100 rfl) rfl hl.1 rfl (Nat.le_of_ble_eq_true rfl) dX12_knew_10 ⟨Nat.le_of_ble_eq_true rfl, Nat.le_of_ble_eq_true rfl⟩ (fun r5 z4 H locs h hw => ?_)
      refine lv_if_eq (tgt := 36) hx hb dX12_knew_13 (by decide) (fun c6 => ?_) (fun c6 => ?_)
      · replace h := h.1 c6
        refine lv_ldc (v := -1000000001) hx hb hown (h0 _ qk_12_139) dX12_knew_36 ?_
        exact hret (-1000000001 : Int32) z4 H locs 38 ls hw rfl h dX12_knew_38
      · replace h := h.2 c6
        refine lv_iload_n hx hb dX12_knew_16 rfl (lv_at hl 1 rfl) ?_
        refine lv_iload_n hx hb dX12_knew_17 rfl (lv_at hl 2 rfl) ?_
        refine lv_icmp_eq (tgt := 36) hx hb dX12_knew_18 (by decide) (fun c7 => ?_) (fun c7 => ?_)
        · replace h := h.1 c7
          refine lv_ldc (v := -1000000001) hx hb hown (h0 _ qk_12_139) dX12_knew_36 ?_
          exact hret (-1000000001 : Int32) z4 H locs 38 ls hw rfl h dX12_knew_38
        · replace h := h.2 c7
          refine lv_iload_n hx hb dX12_knew_21 rfl (lv_at hl 3 rfl) ?_
          have hq := h
          clear h
          refine xcSI (As := [.int p3]) (rest := []) E hw hA (c_X12_isEdge l D ad cs sk z4 p3 _ hq) kc_12_184 yo_X12_isEdge ⟨Nat.le_of_ble_eq_true rfl, Nat.le_of_ble_eq_true rfl⟩ rfl hl.1 rfl (Nat.le_of_ble_eq_true rfl) dX12_knew_22 ⟨Nat.le_of_ble_eq_true rfl, Nat.le_of_ble_eq_true rfl⟩ (fun r9 z8 H locs h hw => ?_)
          refine lv_if_eq (tgt := 36) hx hb dX12_knew_25 (by decide) (fun c10 => ?_) (fun c10 => ?_)
          · replace h := h.1 c10
            refine lv_ldc (v := -1000000001) hx hb hown (h0 _ qk_12_139) dX12_knew_36 ?_
            exact hret (-1000000001 : Int32) z8 H locs 38 ls hw rfl h dX12_knew_38
          · replace h := h.2 c10
            refine lv_iload hx hb dX12_knew_28 (lv_at hl 4 rfl) ?_
            have hq := h
            clear h
            refine xcSI (As := [.int p4]) (rest := []) E hw hA (c_X12_isEdge l D ad cs sk z8 p4 _ hq) kc_12_184 yo_X12_isEdge ⟨Nat.le_of_ble_eq_true rfl, Nat.le_of_ble_eq_true rfl⟩ rfl hl.1 rfl (Nat.le_of_ble_eq_true rfl) dX12_knew_30 ⟨Nat.le_of_ble_eq_true rfl, Nat.le_of_ble_eq_true rfl⟩ (fun r12 z11 H locs h hw => ?_)
            refine lv_if_ne (tgt := 39) hx hb dX12_knew_33 (by decide) (fun c13 => ?_) (fun c13 => ?_)
            · replace h := h.1 c13
              refine lv_aload_n hx hb dX12_knew_39 rfl (lv_at hl 0 rfl) ?_
              refine lv_iload_n hx hb dX12_knew_40 rfl (lv_at hl 2 rfl) ?_
              refine lv_iload_n hx hb dX12_knew_41 rfl (lv_at hl 3 rfl) ?_
              refine lv_iload hx hb dX12_knew_42 (lv_at hl 4 rfl) ?_
              refine lv_iconst (v := 1) hx hb dX12_knew_44 (by decide) ?_
              have hq := h
              clear h
              refine xcVV (As := [.int p2, .int p3, .int p4, .int (1 : Int32)]) (rest := []) E hw hA (c_X12_falls l D ad cs sk z11 p2 p3 p4 (1 : Int32) _ hq) kc_12_267 yo_X12_falls ⟨Nat.le_of_ble_eq_true rfl, Nat.le_of_ble_eq_true rfl⟩ (xrc E hw ky_14_100 rfl) rfl hl.1 rfl (Nat.le_of_ble_eq_true rfl) dX12_knew_45 ⟨Nat.le_of_ble_eq_true rfl, Nat.le_of_ble_eq_true rfl⟩ (fun z14 H locs h hw => ?_)
              refine lv_iload_n hx hb dX12_knew_48 rfl (lv_at hl 3 rfl) ?_
              refine lv_aload_n hx hb dX12_knew_49 rfl (lv_at hl 0 rfl) ?_
              refine xgI E hw (c1 := 12) rfl ky_14_100 fo_12_22 qf_12_206 dX12_knew_50 ?_
              refine lv_isub hx hb dX12_knew_53 ?_
              have hq := h
              clear h
              refine xcSI (As := [.int (p3 - (zI z14 14 22))]) (rest := []) E hw hA (c_X12_held l D ad cs sk z14 (p3 - (zI z14 14 22)) _ hq) kc_12_230 yo_X12_held ⟨Nat.le_of_ble_eq_true rfl, Nat.le_of_ble_eq_true rfl⟩ rfl hl.1 rfl (Nat.le_of_ble_eq_true rfl) dX12_knew_54 ⟨Nat.le_of_ble_eq_true rfl, Nat.le_of_ble_eq_true rfl⟩ (fun r17 z16 H locs h hw => ?_)
              refine lv_istore (lv' := [(5, .int r17), (0, .ref (ad 14 100)), (1, .int p1), (2, .int p2), (3, .int p3), (4, .int p4)]) hx hb dX12_knew_57 hl (by decide) rfl (fun ls hl => ?_)
              refine lv_iload hx hb dX12_knew_59 (lv_at hl 5 rfl) ?_
              refine lv_aload_n hx hb dX12_knew_61 rfl (lv_at hl 1 rfl) ?_
              refine xgI E hw (c1 := 12) rfl ky_14_100 fo_12_23 qf_12_209 dX12_knew_62 ?_
              refine lv_isub hx hb dX12_knew_65 ?_
              have hq := h
              clear h
              refine xcSI (As := [.int (p4 - (zI z16 14 23))]) (rest := []) E hw hA (c_X12_held l D ad cs sk z16 (p4 - (zI z16 14 23)) _ hq) kc_12_230 yo_X12_held ⟨Nat.le_of_ble_eq_true rfl, Nat.le_of_ble_eq_true rfl⟩ rfl hl.1 rfl (Nat.le_of_ble_eq_true rfl) dX12_knew_66 ⟨Nat.le_of_ble_eq_true rfl, Nat.le_of_ble_eq_true rfl⟩ (fun r19 z18 H locs h hw => ?_)
              refine lv_istore (lv' := [(6, .int r19), (5, .int r17), (0, .ref (ad 14 100)), (1, .int p1), (2, .int p2), (3, .int p3), (4, .int p4)]) hx hb dX12_knew_69 hl (by decide) rfl (fun ls hl => ?_)
              refine lv_aload_n hx hb dX12_knew_71 rfl (lv_at hl 2 rfl) ?_
              refine lv_iload_n hx hb dX12_knew_72 rfl (lv_at hl 3 rfl) ?_
              refine lv_iload_n hx hb dX12_knew_73 rfl (lv_at hl 5 rfl) ?_
              refine lv_iload hx hb dX12_knew_74 (lv_at hl 6 rfl) ?_
              refine lv_iconst (v := 1) hx hb dX12_knew_76 (by decide) ?_
              have hq := h
              clear h
              refine xcVV (As := [.int p1, .int p3, .int p4, .int (1 : Int32)]) (rest := []) E hw hA (c_X12_falls l D ad cs sk z18 p1 p3 p4 (1 : Int32) _ hq) kc_12_267 yo_X12_falls ⟨Nat.le_of_ble_eq_true rfl, Nat.le_of_ble_eq_true rfl⟩ (xrc E hw ky_14_100 rfl) rfl hl.1 rfl (Nat.le_of_ble_eq_true rfl) dX12_knew_77 ⟨Nat.le_of_ble_eq_true rfl, Nat.le_of_ble_eq_true rfl⟩ (fun z20 H locs h hw => ?_)
              refine lv_aload_n hx hb dX12_knew_80 rfl (lv_at hl 2 rfl) ?_
              have hq := h
              clear h
              refine xcVI (As := []) (rest := []) E hw hA (c_X12_off l D ad cs sk z20 _ hq) kc_12_262 yo_X12_off ⟨Nat.le_of_ble_eq_true rfl, Nat.le_of_ble_eq_true rfl⟩ (xrc E hw ky_14_100 rfl) rfl hl.1 rfl (Nat.le_of_ble_eq_true rfl) dX12_knew_81 ⟨Nat.le_of_ble_eq_true rfl, Nat.le_of_ble_eq_true rfl⟩ (fun r23 z22 H locs h hw => ?_)
              refine lv_istore (lv' := [(7, .int r23), (6, .int r19), (5, .int r17), (0, .ref (ad 14 100)), (1, .int p1), (2, .int p2), (3, .int p3), (4, .int p4)]) hx hb dX12_knew_84 hl (by decide) rfl (fun ls hl => ?_)
              refine lv_aload_n hx hb dX12_knew_86 rfl (lv_at hl 3 rfl) ?_
              refine lv_iload_n hx hb dX12_knew_87 rfl (lv_at hl 4 rfl) ?_
              refine lv_iload hx hb dX12_knew_88 (lv_at hl 2 rfl) ?_
              refine lv_iload hx hb dX12_knew_90 (lv_at hl 1 rfl) ?_
              refine lv_iconst (v := 1) hx hb dX12_knew_92 (by decide) ?_
              have hq := h
              clear h
              refine xcVV (As := [.int p1, .int r17, .int r19, .int (1 : Int32)]) (rest := []) E hw hA (c_X12_falls l D ad cs sk z22 p1 r17 r19 (1 : Int32) _ hq) kc_12_267 yo_X12_falls ⟨Nat.le_of_ble_eq_true rfl, Nat.le_of_ble_eq_true rfl⟩ (xrc E hw ky_14_100 rfl) rfl hl.1 rfl (Nat.le_of_ble_eq_true rfl) dX12_knew_93 ⟨Nat.le_of_ble_eq_true rfl, Nat.le_of_ble_eq_true rfl⟩ (fun z24 H locs h hw => ?_)
              refine lv_iload hx hb dX12_knew_96 (lv_at hl 0 rfl) ?_
              refine lv_aload_n hx hb dX12_knew_98 rfl (lv_at hl 3 rfl) ?_
              have hq := h
              clear h
              refine xcVI (As := []) (rest := [.int r23]) E hw hA (c_X12_off l D ad cs sk z24 _ hq) kc_12_262 yo_X12_off ⟨Nat.le_of_ble_eq_true rfl, Nat.le_of_ble_eq_true rfl⟩ (xrc E hw ky_14_100 rfl) rfl hl.1 rfl (Nat.le_of_ble_eq_true rfl) dX12_knew_99 ⟨Nat.le_of_ble_eq_true rfl, Nat.le_of_ble_eq_true rfl⟩ (fun r27 z26 H locs h hw => ?_)
              refine lv_isub hx hb dX12_knew_102 ?_
              exact hret (r23 - r27) z26 H locs 103 ls hw rfl h dX12_knew_103
            · replace h := h.2 c13
              refine lv_ldc (v := -1000000001) hx hb hown (h0 _ qk_12_139) dX12_knew_36 ?_
              exact hret (-1000000001 : Int32) z11 H locs 38 ls hw rfl h dX12_knew_38
  exact b00 s.heap [] hw
