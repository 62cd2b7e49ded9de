def V_X11_sumOfOrder_4 (post : Int32 → ZS → Prop) : Nat → ZS → Int32 → Int32 → Int32 → Prop
  | 0, _, _, _, _ => False
  | (n + 1), z, v1, v2, v3 => ((v1 ≤ v3 → post v2 z) ∧ (¬ v1 ≤ v3 → (vp_in v3 5 ∧ (vp_in (((zR z 0 8 (Int32.toNatClampNeg v3)) * (5 : Int32)) + v3) 25 ∧ (∀ t2 : Int32, t2 = (v2 + (zR z 0 7 (Int32.toNatClampNeg (((zR z 0 8 (Int32.toNatClampNeg v3)) * (5 : Int32)) + v3)))) → (∀ t3 : Int32, t3 = v3 + (1 : Int32) → (V_X11_sumOfOrder_4 post n) z v1 t2 t3))))))
def V_X11_sumOfOrder (z : ZS) (p1 : Int32) (post : Int32 → ZS → Prop) : Prop := (∃ n4 : Nat, V_X11_sumOfOrder_4 post n4 z p1 (0 : Int32) (0 : Int32))
set_option maxHeartbeats 4000000 in
set_option maxRecDepth 100000 in
theorem c_X11_sumOfOrder (l : Launch) (D : va_G) (ad : Nat → Nat → Nat) (cs : Nat → ClassId) (sk : (Nat → Nat) × (Nat → Nat)) (z : ZS) (p1 : Int32) (post : Int32 → ZS → Prop) (h : V_X11_sumOfOrder z p1 post) : MI l D ad cs sk yX11_sumOfOrder cX11_sumOfOrder 4 .int (rmq 0 0 0) [.ref (ad 0 100), .int p1] z post := by
  refine MI.of RX11 rfl (by decide) (Nat.le_of_ble_eq_true rfl) ?_
  intro p e s m args below meth c A Q E hw hA hret ls hl
  have hx := E.1.1
  have hb := E.1.2.1
  have hml := E.1.2.2.1
  have hown := E.1.2.2.2.1
  have h0 := E.1.2.2.2.2
  have hl : lv_has ls 4 [(0, .ref (ad 0 100)), (1, .int p1)] := hl
  unfold V_X11_sumOfOrder at h
  have b4 : ∀ (n : Nat) (z : ZS) (v1 : Int32) (v2 : Int32) (v3 : Int32), ∀ (H : Heap) (locs : List Loc), OW D ad cs A s.heap z H locs → ∀ ls : Array Slot, lv_has ls 4 [(0, .ref (ad 0 100)), (1, .int v1), (2, .int v2), (3, .int v3)] → V_X11_sumOfOrder_4 post n z v1 v2 v3 → W p l e (rmq 0 0 0) s m args below meth c H locs 0 0 Q (F0 m 4 ls []) := by
    intro n
    induction n with
    | zero =>
      intro z v1 v2 v3 H locs hw ls hl h
      exact h.elim
    | succ n4x ih4 =>
      intro z v1 v2 v3 H locs hw ls hl h
      unfold V_X11_sumOfOrder_4 at h
      refine lv_iload_n hx hb dX11_sumOfOrder_4 rfl (lv_at hl 3 rfl) ?_
      refine lv_iload_n hx hb dX11_sumOfOrder_5 rfl (lv_at hl 1 rfl) ?_
      refine lv_icmp_ge (tgt := 33) hx hb dX11_sumOfOrder_6 (by decide) (fun c1 => ?_) (fun c1 => ?_)
      · replace h := h.1 c1
        refine lv_iload_n hx hb dX11_sumOfOrder_33 rfl (lv_at hl 2 rfl) ?_
        exact hret v2 z H locs 34 ls hw rfl h dX11_sumOfOrder_34
      · replace h := h.2 c1
        refine lv_iload_n hx hb dX11_sumOfOrder_9 rfl (lv_at hl 2 rfl) ?_
        refine lv_aload_n hx hb dX11_sumOfOrder_10 rfl (lv_at hl 0 rfl) ?_
        refine xgC E hw (c1 := 11) (t := (0, 7)) rfl ky_0_100 fo_11_7 rfl qf_11_44 dX11_sumOfOrder_11 ?_
        refine lv_aload_n hx hb dX11_sumOfOrder_14 rfl (lv_at hl 0 rfl) ?_
        refine xgC E hw (c1 := 11) (t := (0, 8)) rfl ky_0_100 fo_11_8 rfl qf_11_48 dX11_sumOfOrder_15 ?_
        refine lv_iload_n hx hb dX11_sumOfOrder_18 rfl (lv_at hl 3 rfl) ?_
        obtain ⟨hi, h⟩ := h
        refine xal E hw ky_0_8 ka_0_8 hi dX11_sumOfOrder_19 ?_
        refine lv_iconst (v := 5) hx hb dX11_sumOfOrder_20 (by decide) ?_
        refine lv_imul hx hb dX11_sumOfOrder_21 ?_
        refine lv_iload_n hx hb dX11_sumOfOrder_22 rfl (lv_at hl 3 rfl) ?_
        refine lv_iadd hx hb dX11_sumOfOrder_23 ?_
        obtain ⟨hi, h⟩ := h
        refine xal E hw ky_0_7 ka_0_7 hi dX11_sumOfOrder_24 ?_
        refine lv_iadd hx hb dX11_sumOfOrder_25 ?_
        refine lv_topi (fun t2 et2 => ?_)
        replace h := h t2 et2
        refine lv_istore_n (lv' := [(2, .int t2), (0, .ref (ad 0 100)), (1, .int v1), (3, .int v3)]) hx hb dX11_sumOfOrder_26 rfl hl (by decide) rfl (fun ls hl => ?_)
        obtain ⟨t3, et3⟩ : ∃ y : Int32, y = v3 + (1 : Int32) := ⟨_, rfl⟩
        replace h := h t3 et3
        refine lv_iinc (v := t3) (lv' := [(3, .int t3), (2, .int t2), (0, .ref (ad 0 100)), (1, .int v1)]) hx hb dX11_sumOfOrder_27 hl (k := 3) rfl (by rw [et3]; rfl) (by decide) rfl (fun ls hl => ?_)
        refine lv_goto (tgt := 4) hx hb dX11_sumOfOrder_30 (by decide) ?_
        exact ih4 z v1 t2 t3 H locs hw ls (lv_sub hl [2, 3, 1, 0] rfl) h
  have b00 : ∀ (H : Heap) (locs : List Loc), OW D ad cs A s.heap z H locs → W p l e (rmq 0 0 0) s m args below meth c H locs 0 0 Q (F0 m 0 ls []) := by
    intro H locs hw
    refine lv_iconst (v := 0) hx hb dX11_sumOfOrder_0 (by decide) ?_
    refine lv_istore_n (lv' := [(2, .int (0 : Int32)), (0, .ref (ad 0 100)), (1, .int p1)]) hx hb dX11_sumOfOrder_1 rfl hl (by decide) rfl (fun ls hl => ?_)
    refine lv_iconst (v := 0) hx hb dX11_sumOfOrder_2 (by decide) ?_
    refine lv_istore_n (lv' := [(3, .int (0 : Int32)), (2, .int (0 : Int32)), (0, .ref (ad 0 100)), (1, .int p1)]) hx hb dX11_sumOfOrder_3 rfl hl (by decide) rfl (fun ls hl => ?_)
    obtain ⟨n4, h⟩ := h
    exact b4 n4 z p1 (0 : Int32) (0 : Int32) H locs hw ls (lv_sub hl [2, 3, 1, 0] rfl) h
  exact b00 s.heap [] hw
def V_X11_tellOffs_96 (p1 : Nat) (post : ZS → Prop) (rr13 : ZS → Int32 → Int32 → Int32 → Int32 → Int32 → Prop) (z : ZS) (v2 : Int32) (v3 : Int32) (v4 : Int32) (v5 : Int32) (v6 : Int32) : Prop := (∀ t8 : Int32, t8 = v6 + (1 : Int32) → rr13 z v2 v3 v4 v5 t8)
def V_X11_tellOffs_38 (p1 : Nat) (post : ZS → Prop) (rr13 : ZS → Int32 → Int32 → Int32 → Int32 → Int32 → Prop) : Nat → ZS → Int32 → Int32 → Int32 → Int32 → Int32 → Option Nat → Int32 → Prop
  | 0, _, _, _, _, _, _, _, _ => False
  | (n + 1), z, v2, v3, v4, v5, v6, v7, v8 => ((v5 ≤ v8 → V_X11_tellOffs_96 p1 post rr13 z v2 v3 v4 v5 v6) ∧ (¬ v5 ≤ v8 → ((v7 = none → V_X11_tellOffs_96 p1 post rr13 z v2 v3 v4 v5 v6) ∧ (∀ a9 : Nat, v7 = some a9 → V_X3_held z (v2 + ((v8 * v4) * (zI z 1 3))) (fun r11 z10 => V_X3_offFrom z10 4 a9 r11 v3 (fun r13 z12 => (vp_in ((v6 * (5 : Int32)) + v8) 25 ∧ ∀ z14 : ZS, z14 = wR z12 0 7 (Int32.toNatClampNeg ((v6 * (5 : Int32)) + v8)) r13 → (∀ t15 : Int32, t15 = v8 + (1 : Int32) → (V_X11_tellOffs_38 p1 post rr13 n) z14 v2 v3 v4 v5 v6 (some a9) t15))))))))
def V_X11_tellOffs_13 (p1 : Nat) (post : ZS → Prop) : Nat → ZS → Int32 → Int32 → Int32 → Int32 → Int32 → Prop
  | 0, _, _, _, _, _, _ => False
  | (n + 1), z, v2, v3, v4, v5, v6 => ((v5 ≤ v6 → post z) ∧ (¬ v5 ≤ v6 → V_X9_valueAt z p1 v6 (fun r4 z3 => V_X0_fallerAt z3 1 r4 (fun r6 z5 => (∃ n16 : Nat, V_X11_tellOffs_38 p1 post (V_X11_tellOffs_13 p1 post n) n16 z5 v2 v3 v4 v5 v6 r6 (0 : Int32))))))
def V_X11_tellOffs (z : ZS) (p1 : Nat) (p2 : Int32) (p3 : Int32) (p4 : Int32) (post : ZS → Prop) : Prop := (∀ t1 : Int32, t1 = (if (5 : Int32) < (zI z p1 3) then (5 : Int32) else (zI z p1 3)) → (∃ n17 : Nat, V_X11_tellOffs_13 p1 post n17 z p2 p3 p4 t1 (0 : Int32)))
set_option maxHeartbeats 4000000 in
set_option maxRecDepth 100000 in
theorem c_X11_tellOffs (l : Launch) (D : va_G) (ad : Nat → Nat → Nat) (cs : Nat → ClassId) (sk : (Nat → Nat) × (Nat → Nat)) (z : ZS) (p1 : Nat) (p2 : Int32) (p3 : Int32) (p4 : Int32) (post : ZS → Prop) (hp1 : isS p1) (h : V_X11_tellOffs z p1 p2 p3 p4 post) : MV l D ad cs sk yX11_tellOffs cX11_tellOffs 9 (rmq 6 0 0) [.ref (ad 0 100), .ref (ad p1 100), .int p2, .int p3, .int p4] z post := by
  refine MV.of RX11 rfl (by decide) (Nat.le_of_ble_eq_true rfl) ?_
  intro p e s m args below meth c A Q E hw hA hret ls hl
  have hx := E.1.1
  have hb := E.1.2.1
  have hml := E.1.2.2.1
  have hown := E.1.2.2.2.1
  have h0 := E.1.2.2.2.2
  have hl : lv_has ls 9 [(0, .ref (ad 0 100)), (1, .ref (ad p1 100)), (2, .int p2), (3, .int p3), (4, .int p4)] := hl
  unfold V_X11_tellOffs at h
  have b13 : ∀ (n : Nat) (z : ZS) (v2 : Int32) (v3 : Int32) (v4 : Int32) (v5 : Int32) (v6 : Int32), ∀ (H : Heap) (locs : List Loc), OW D ad cs A s.heap z H locs → ∀ ls : Array Slot, lv_has ls 9 [(0, .ref (ad 0 100)), (1, .ref (ad p1 100)), (2, .int v2), (3, .int v3), (4, .int v4), (5, .int v5), (6, .int v6)] → V_X11_tellOffs_13 p1 post n z v2 v3 v4 v5 v6 → W p l e (rmq 6 0 0) s m args below meth c H locs 0 0 Q (F0 m 13 ls []) := by
    intro n
    induction n with
    | zero =>
      intro z v2 v3 v4 v5 v6 H locs hw ls hl h
      exact h.elim
    | succ n13x ih13 =>
      have b96 : ∀ (z : ZS) (v2 : Int32) (v3 : Int32) (v4 : Int32) (v5 : Int32) (v6 : Int32), ∀ (H : Heap) (locs : List Loc), OW D ad cs A s.heap z H locs → ∀ ls : Array Slot, lv_has ls 9 [(0, .ref (ad 0 100)), (1, .ref (ad p1 100)), (2, .int v2), (3, .int v3), (4, .int v4), (5, .int v5), (6, .int v6)] → V_X11_tellOffs_96 p1 post (V_X11_tellOffs_13 p1 post n13x) z v2 v3 v4 v5 v6 → W p l e (rmq 6 0 0) s m args below meth c H locs 0 0 Q (F0 m 96 ls []) := by
        intro z v2 v3 v4 v5 v6 H locs hw ls hl h
        unfold V_X11_tellOffs_96 at h
        obtain ⟨t8, et8⟩ : ∃ y : Int32, y = v6 + (1 : Int32) := ⟨_, rfl⟩
        replace h := h t8 et8
        refine lv_iinc (v := t8) (lv' := [(6, .int t8), (0, .ref (ad 0 100)), (1, .ref (ad p1 100)), (2, .int v2), (3, .int v3), (4, .int v4), (5, .int v5)]) hx hb dX11_tellOffs_96 hl (k := 6) rfl (by rw [et8]; rfl) (by decide) rfl (fun ls hl => ?_)
        refine lv_goto (tgt := 13) hx hb dX11_tellOffs_99 (by decide) ?_
        exact ih13 z v2 v3 v4 v5 t8 H locs hw ls (lv_sub hl [1, 2, 3, 4, 5, 6, 0] rfl) h
      have b38 : ∀ (n : Nat) (z : ZS) (v2 : Int32) (v3 : Int32) (v4 : Int32) (v5 : Int32) (v6 : Int32) (v7 : Option Nat) (v8 : Int32), ∀ (H : Heap) (locs : List Loc), OW D ad cs A s.heap z H locs → ∀ ls : Array Slot, lv_has ls 9 [(0, .ref (ad 0 100)), (1, .ref (ad p1 100)), (2, .int v2), (3, .int v3), (4, .int v4), (5, .int v5), (6, .int v6), (7, va_rf v7), (8, .int v8)] → V_X11_tellOffs_38 p1 post (V_X11_tellOffs_13 p1 post n13x) n z v2 v3 v4 v5 v6 v7 v8 → W p l e (rmq 6 0 0) s m args below meth c H locs 0 0 Q (F0 m 38 ls []) := by
        intro n
        induction n with
        | zero =>
          intro z v2 v3 v4 v5 v6 v7 v8 H locs hw ls hl h
          exact h.elim
        | succ n38x ih38 =>
          intro z v2 v3 v4 v5 v6 v7 v8 H locs hw ls hl h
          unfold V_X11_tellOffs_38 at h
          refine lv_iload hx hb dX11_tellOffs_38 (lv_at hl 8 rfl) ?_
          refine lv_iload hx hb dX11_tellOffs_40 (lv_at hl 5 rfl) ?_
          refine lv_icmp_ge (tgt := 96) hx hb dX11_tellOffs_42 (by decide) (fun c7 => ?_) (fun c7 => ?_)
          · replace h := h.1 c7
            exact b96 z v2 v3 v4 v5 v6 H locs hw ls (lv_sub hl [0, 1, 2, 3, 4, 5, 6] rfl) h
          · replace h := h.2 c7
            refine xlqaload hx hb dX11_tellOffs_45 (lv_at hl 7 rfl) ?_
            refine xnul (tgt := 96) hx hb dX11_tellOffs_47 (by decide) (fun ea9 => ?_) (fun a9 ea9 => ?_)
            · replace h := h.1 ea9
              subst ea9
              have hl : lv_has ls 9 [(0, .ref (ad 0 100)), (1, .ref (ad p1 100)), (2, .int v2), (3, .int v3), (4, .int v4), (5, .int v5), (6, .int v6), (7, .null), (8, .int v8)] := hl
              exact b96 z v2 v3 v4 v5 v6 H locs hw ls (lv_sub hl [0, 1, 2, 3, 4, 5, 6] rfl) h
            · replace h := h.2 a9 ea9
              subst ea9
              have hl : lv_has ls 9 [(0, .ref (ad 0 100)), (1, .ref (ad p1 100)), (2, .int v2), (3, .int v3), (4, .int v4), (5, .int v5), (6, .int v6), (7, .ref a9), (8, .int v8)] := hl
              refine lv_aload_n hx hb dX11_tellOffs_50 rfl (lv_at hl 0 rfl) ?_
              refine xgC E hw (c1 := 11) (t := (0, 7)) rfl ky_0_100 fo_11_7 rfl qf_11_44 dX11_tellOffs_51 ?_
              refine lv_iload hx hb dX11_tellOffs_54 (lv_at hl 6 rfl) ?_
              refine lv_iconst (v := 5) hx hb dX11_tellOffs_56 (by decide) ?_
              refine lv_imul hx hb dX11_tellOffs_57 ?_
              refine lv_iload hx hb dX11_tellOffs_58 (lv_at hl 8 rfl) ?_
              refine lv_iadd hx hb dX11_tellOffs_60 ?_
              refine lv_aload_n hx hb dX11_tellOffs_61 rfl (lv_at hl 0 rfl) ?_
              refine xgC E hw (c1 := 11) (t := (4, 100)) rfl ky_0_100 fo_11_4 rfl qf_11_31 dX11_tellOffs_62 ?_
              refine lv_aload hx hb dX11_tellOffs_65 (lv_at hl 7 rfl) ?_
              refine lv_iload_n hx hb dX11_tellOffs_67 rfl (lv_at hl 2 rfl) ?_
              refine lv_iload hx hb dX11_tellOffs_68 (lv_at hl 8 rfl) ?_
              refine lv_iload hx hb dX11_tellOffs_70 (lv_at hl 4 rfl) ?_
              refine lv_imul hx hb dX11_tellOffs_72 ?_
              refine lv_aload_n hx hb dX11_tellOffs_73 rfl (lv_at hl 0 rfl) ?_
              refine xgC E hw (c1 := 11) (t := (1, 100)) rfl ky_0_100 fo_11_0 rfl qf_11_10 dX11_tellOffs_74 ?_
              refine xgI E hw (c1 := 0) rfl ky_1_100 fo_0_3 qf_11_91 dX11_tellOffs_77 ?_
              refine lv_imul hx hb dX11_tellOffs_80 ?_
              refine lv_iadd hx hb dX11_tellOffs_81 ?_
              have hq := h
              clear h
              refine xcSI (As := [.int (v2 + ((v8 * v4) * (zI z 1 3)))]) (rest := [.ref a9, .ref (ad 4 100), .int ((v6 * (5 : Int32)) + v8), .ref (ad 0 7)]) E hw hA (c_X3_held l D ad cs sk z (v2 + ((v8 * v4) * (zI z 1 3))) _ hq) kc_11_232 yo_X3_held ⟨Nat.le_of_ble_eq_true rfl, Nat.le_of_ble_eq_true rfl⟩ rfl hl.1 rfl (Nat.le_of_ble_eq_true rfl) dX11_tellOffs_82 ⟨Nat.le_of_ble_eq_true rfl, Nat.le_of_ble_eq_true rfl⟩ (fun r11 z10 H locs h hw => ?_)
              refine lv_iload_n hx hb dX11_tellOffs_85 rfl (lv_at hl 3 rfl) ?_
              have hq := h
              clear h
              refine xcVI (As := [.ref a9, .int r11, .int v3]) (rest := [.int ((v6 * (5 : Int32)) + v8), .ref (ad 0 7)]) E hw hA (c_X3_offFrom l D ad cs sk z10 4 a9 r11 v3 _ is_4 hq) kc_11_173 yo_X3_offFrom ⟨Nat.le_of_ble_eq_true rfl, Nat.le_of_ble_eq_true rfl⟩ (xrc E hw ky_4_100 rfl) rfl hl.1 rfl (Nat.le_of_ble_eq_true rfl) dX11_tellOffs_86 ⟨Nat.le_of_ble_eq_true rfl, Nat.le_of_ble_eq_true rfl⟩ (fun r13 z12 H locs h hw => ?_)
              obtain ⟨hi, h⟩ := h
              refine xas E hw ky_0_7 ka_0_7 hi dX11_tellOffs_89 (fun z14 ez14 H locs hw => ?_)
              replace h := h z14 ez14
              obtain ⟨t15, et15⟩ : ∃ y : Int32, y = v8 + (1 : Int32) := ⟨_, rfl⟩
              replace h := h t15 et15
              refine lv_iinc (v := t15) (lv' := [(8, .int t15), (0, .ref (ad 0 100)), (1, .ref (ad p1 100)), (2, .int v2), (3, .int v3), (4, .int v4), (5, .int v5), (6, .int v6), (7, .ref a9)]) hx hb dX11_tellOffs_90 hl (k := 8) rfl (by rw [et15]; rfl) (by decide) rfl (fun ls hl => ?_)
              refine lv_goto (tgt := 38) hx hb dX11_tellOffs_93 (by decide) ?_
              exact ih38 z14 v2 v3 v4 v5 v6 (some a9) t15 H locs hw ls (lv_sub hl [1, 2, 3, 4, 5, 6, 7, 8, 0] rfl) h
      intro z v2 v3 v4 v5 v6 H locs hw ls hl h
      unfold V_X11_tellOffs_13 at h
      refine lv_iload hx hb dX11_tellOffs_13 (lv_at hl 6 rfl) ?_
      refine lv_iload hx hb dX11_tellOffs_15 (lv_at hl 5 rfl) ?_
      refine lv_icmp_ge (tgt := 102) hx hb dX11_tellOffs_17 (by decide) (fun c2 => ?_) (fun c2 => ?_)
      · replace h := h.1 c2
        exact hret z H locs 102 ls hw h dX11_tellOffs_102
      · replace h := h.2 c2
        refine lv_aload_n hx hb dX11_tellOffs_20 rfl (lv_at hl 0 rfl) ?_
        refine xgC E hw (c1 := 11) (t := (1, 100)) rfl ky_0_100 fo_11_0 rfl qf_11_10 dX11_tellOffs_21 ?_
        refine lv_aload_n hx hb dX11_tellOffs_24 rfl (lv_at hl 1 rfl) ?_
        refine lv_iload hx hb dX11_tellOffs_25 (lv_at hl 6 rfl) ?_
        have hq := h
        clear h
        refine xcVI (As := [.int v6]) (rest := [.ref (ad 1 100)]) E hw hA (c_X9_valueAt l D ad cs sk z p1 v6 _ hp1 hq) kc_11_258 yo_X9_valueAt ⟨Nat.le_of_ble_eq_true rfl, Nat.le_of_ble_eq_true rfl⟩ (xrc E hw (kyisS_100 hp1) (ciisS hp1)) rfl hl.1 rfl (Nat.le_of_ble_eq_true rfl) dX11_tellOffs_27 ⟨Nat.le_of_ble_eq_true rfl, Nat.le_of_ble_eq_true rfl⟩ (fun r4 z3 H locs h hw => ?_)
        have hq := h
        clear h
        refine xcVA (As := [.int r4]) (rest := []) E hw hA (c_X0_fallerAt l D ad cs sk z3 1 r4 _ is_1 hq) kc_11_97 yo_X0_fallerAt ⟨Nat.le_of_ble_eq_true rfl, Nat.le_of_ble_eq_true rfl⟩ (xrc E hw ky_1_100 rfl) rfl hl.1 rfl (Nat.le_of_ble_eq_true rfl) dX11_tellOffs_30 ⟨Nat.le_of_ble_eq_true rfl, Nat.le_of_ble_eq_true rfl⟩ (fun r6 z5 H locs h hw => ?_)
        refine xsqastore (lv' := [(7, va_rf r6), (0, .ref (ad 0 100)), (1, .ref (ad p1 100)), (2, .int v2), (3, .int v3), (4, .int v4), (5, .int v5), (6, .int v6)]) hx hb dX11_tellOffs_33 hl (by decide) rfl (fun ls hl => ?_)
        refine lv_iconst (v := 0) hx hb dX11_tellOffs_35 (by decide) ?_
        refine lv_istore (lv' := [(8, .int (0 : Int32)), (7, va_rf r6), (0, .ref (ad 0 100)), (1, .ref (ad p1 100)), (2, .int v2), (3, .int v3), (4, .int v4), (5, .int v5), (6, .int v6)]) hx hb dX11_tellOffs_36 hl (by decide) (by simp [cat_rf]) (fun ls hl => ?_)
        obtain ⟨n16, h⟩ := h
        exact b38 n16 z5 v2 v3 v4 v5 v6 r6 (0 : Int32) H locs hw ls (lv_sub hl [2, 3, 4, 5, 6, 7, 8, 1, 0] rfl) h
  have b00 : ∀ (H : Heap) (locs : List Loc), OW D ad cs A s.heap z H locs → W p l e (rmq 6 0 0) s m args below meth c H locs 0 0 Q (F0 m 0 ls []) := by
    intro H locs hw
    refine lv_aload_n hx hb dX11_tellOffs_0 rfl (lv_at hl 1 rfl) ?_
    refine xgI E hw (c1 := 9) (ciisS hp1) (kyisS_100 hp1) fo_9_3 qf_11_189 dX11_tellOffs_1 ?_
    refine lv_iconst (v := 5) hx hb dX11_tellOffs_4 (by decide) ?_
    refine va_mmin hx hb (hml.trans hl.1.symm) hown (h0 _ qm_11_196) (h0 _ qs_ib_Math_min_name) (h0 _ qn_Math) (h0 _ qc_Math_min) (Nat.le_of_ble_eq_true rfl) (Nat.le_of_ble_eq_true rfl) (Nat.le_of_ble_eq_true rfl) (Nat.le_of_ble_eq_true rfl) dX11_tellOffs_5 ?_
    refine lv_topi (fun t1 et1 => ?_)
    replace h := h t1 et1
    refine lv_istore (lv' := [(5, .int t1), (0, .ref (ad 0 100)), (1, .ref (ad p1 100)), (2, .int p2), (3, .int p3), (4, .int p4)]) hx hb dX11_tellOffs_8 hl (by decide) rfl (fun ls hl => ?_)
    refine lv_iconst (v := 0) hx hb dX11_tellOffs_10 (by decide) ?_
    refine lv_istore (lv' := [(6, .int (0 : Int32)), (5, .int t1), (0, .ref (ad 0 100)), (1, .ref (ad p1 100)), (2, .int p2), (3, .int p3), (4, .int p4)]) hx hb dX11_tellOffs_11 hl (by decide) rfl (fun ls hl => ?_)
    obtain ⟨n17, h⟩ := h
    exact b13 n17 z p2 p3 p4 t1 (0 : Int32) H locs hw ls (lv_sub hl [2, 3, 4, 5, 6, 1, 0] rfl) h
  exact b00 s.heap [] hw
def V_X11_order_167 (post : Int32 → ZS → Prop) (z : ZS) (v5 : Int32) (v9 : Int32) (v10 : Int32) : Prop := ((¬ v5 = 0 → post v9 z) ∧ (v5 = 0 → post v10 z))
def V_X11_order_153 (post : Int32 → ZS → Prop) (rr114 : ZS → Int32 → Int32 → Int32 → Int32 → Int32 → Int32 → Prop) (z : ZS) (v5 : Int32) (v8 : Int32) (v9 : Int32) (v10 : Int32) (v12 : Int32) : Prop := V_X11_nextOrder z v8 (fun r27 z26 => (∀ t28 : Int32, t28 = v12 + (1 : Int32) → rr114 z26 v5 v8 v9 v10 r27 t28))
def V_X11_order_114 (post : Int32 → ZS → Prop) : Nat → ZS → Int32 → Int32 → Int32 → Int32 → Int32 → Int32 → Prop
  | 0, _, _, _, _, _, _, _ => False
  | (n + 1), z, v5, v8, v9, v10, v11, v12 => (((120 : Int32) ≤ v12 → V_X11_order_167 post z v5 v9 v10) ∧ (¬ (120 : Int32) ≤ v12 → ((v11 = 0 → V_X11_order_167 post z v5 v9 v10) ∧ (¬ v11 = 0 → V_X11_sumOfOrder z v8 (fun r24 z23 => ((v9 ≤ r24 → V_X11_order_153 post (V_X11_order_114 post n) z23 v5 v8 v9 v10 v12) ∧ (¬ v9 ≤ r24 → V_X11_digitsOfOrder z23 v8 (fun r30 z29 => V_X11_order_153 post (V_X11_order_114 post n) z29 v5 v8 r24 r30 v12))))))))
def V_X11_order_80 (post : Int32 → ZS → Prop) : Nat → ZS → Int32 → Int32 → Int32 → Prop
  | 0, _, _, _, _ => False
  | (n + 1), z, v5, v8, v9 => (((5 : Int32) ≤ v9 → (∃ n31 : Nat, V_X11_order_114 post n31 z v5 v8 (2147483647 : Int32) (0 : Int32) (1 : Int32) (0 : Int32))) ∧ (¬ (5 : Int32) ≤ v9 → (vp_in v9 5 ∧ ∀ z32 : ZS, z32 = wR z 0 8 (Int32.toNatClampNeg v9) v9 → (∀ t33 : Int32, t33 = v9 + (1 : Int32) → (V_X11_order_80 post n) z32 v5 v8 t33))))
def V_X11_order (z : ZS) (p1 : Int32) (p2 : Int32) (p3 : Int32) (p4 : Int32) (p5 : Int32) (post : Int32 → ZS → Prop) : Prop := V_X11_shelfAt z p1 (fun r2o z1 => ((r2o = none → post (-1 : Int32) z1) ∧ (∀ a3 : Nat, r2o = some a3 → isS a3 ∧ V_X11_isPlace z1 p2 p3 (fun r5 z4 => ((r5 = 0 → post (-1 : Int32) z4) ∧ (¬ r5 = 0 → V_X11_isGap z4 p4 (fun r8 z7 => ((r8 = 0 → post (-1 : Int32) z7) ∧ (¬ r8 = 0 → V_X11_isFrom z7 (0 : Int32) p5 (1 : Int32) (fun r11 z10 => ((¬ r11 = 0 → V_X11_refusalOfLoad z10 a3 (fun r14 z13 => ((r14 = 0 → V_X11_tellOffs z13 a3 p2 p3 p4 (fun z16 => (∀ t18 : Int32, t18 = (if (5 : Int32) < (zI z16 a3 3) then (5 : Int32) else (zI z16 a3 3)) → (∃ n34 : Nat, V_X11_order_80 post n34 z16 p5 t18 (0 : Int32))))) ∧ (¬ r14 = 0 → post r14 z13)))) ∧ (r11 = 0 → post (-1 : Int32) z10))))))))))))
set_option maxHeartbeats 4000000 in
set_option maxRecDepth 100000 in
theorem c_X11_order (l : Launch) (D : va_G) (ad : Nat → Nat → Nat) (cs : Nat → ClassId) (sk : (Nat → Nat) × (Nat → Nat)) (z : ZS) (p1 : Int32) (p2 : Int32) (p3 : Int32) (p4 : Int32) (p5 : Int32) (post : Int32 → ZS → Prop) (h : V_X11_order z p1 p2 p3 p4 p5 post) : MI l D ad cs sk yX11_order cX11_order 14 .int (rmq 7 0 0) [.ref (ad 0 100), .int p1, .int p2, .int p3, .int p4, .int p5] z post := by
  refine MI.of RX11 rfl (by decide) (Nat.le_of_ble_eq_true rfl) ?_
  intro p e s m args below meth c A Q E hw hA hret ls hl
  have hx := E.1.1
  have hb := E.1.2.1
  have hml := E.1.2.2.1
  have hown := E.1.2.2.2.1
  have h0 := E.1.2.2.2.2
  have hl : lv_has ls 14 [(0, .ref (ad 0 100)), (1, .int p1), (2, .int p2), (3, .int p3), (4, .int p4), (5, .int p5)] := hl
  unfold V_X11_order at h
  have b167 : ∀ (z : ZS) (v5 : Int32) (v9 : Int32) (v10 : Int32), ∀ (H : Heap) (locs : List Loc), OW D ad cs A s.heap z H locs → ∀ ls : Array Slot, lv_has ls 14 [(5, .int v5), (9, .int v9), (10, .int v10)] → V_X11_order_167 post z v5 v9 v10 → W p l e (rmq 7 0 0) s m args below meth c H locs 0 0 Q (F0 m 167 ls []) := by
    intro z v5 v9 v10 H locs hw ls hl h
    unfold V_X11_order_167 at h
    refine lv_iload hx hb dX11_order_167 (lv_at hl 0 rfl) ?_
    refine lv_if_ne (tgt := 177) hx hb dX11_order_169 (by decide) (fun c21 => ?_) (fun c21 => ?_)
    · replace h := h.1 c21
      refine lv_iload hx hb dX11_order_177 (lv_at hl 1 rfl) ?_
      exact hret v9 z H locs 179 ls hw rfl h dX11_order_179
    · replace h := h.2 c21
      refine lv_iload hx hb dX11_order_172 (lv_at hl 2 rfl) ?_
      refine lv_goto (tgt := 179) hx hb dX11_order_174 (by decide) ?_
      exact hret v10 z H locs 179 ls hw rfl h dX11_order_179
  have b114 : ∀ (n : Nat) (z : ZS) (v5 : Int32) (v8 : Int32) (v9 : Int32) (v10 : Int32) (v11 : Int32) (v12 : Int32), ∀ (H : Heap) (locs : List Loc), OW D ad cs A s.heap z H locs → ∀ ls : Array Slot, lv_has ls 14 [(0, .ref (ad 0 100)), (5, .int v5), (8, .int v8), (9, .int v9), (10, .int v10), (11, .int v11), (12, .int v12)] → V_X11_order_114 post n z v5 v8 v9 v10 v11 v12 → W p l e (rmq 7 0 0) s m args below meth c H locs 0 0 Q (F0 m 114 ls []) := by
    intro n
    induction n with
    | zero =>
      intro z v5 v8 v9 v10 v11 v12 H locs hw ls hl h
      exact h.elim
    | succ n114x ih114 =>
      have b153 : ∀ (z : ZS) (v5 : Int32) (v8 : Int32) (v9 : Int32) (v10 : Int32) (v12 : Int32), ∀ (H : Heap) (locs : List Loc), OW D ad cs A s.heap z H locs → ∀ ls : Array Slot, lv_has ls 14 [(0, .ref (ad 0 100)), (5, .int v5), (8, .int v8), (9, .int v9), (10, .int v10), (12, .int v12)] → V_X11_order_153 post (V_X11_order_114 post n114x) z v5 v8 v9 v10 v12 → W p l e (rmq 7 0 0) s m args below meth c H locs 0 0 Q (F0 m 153 ls []) := by
        intro z v5 v8 v9 v10 v12 H locs hw ls hl h
        unfold V_X11_order_153 at h
        refine lv_aload_n hx hb dX11_order_153 rfl (lv_at hl 0 rfl) ?_
        refine lv_iload hx hb dX11_order_154 (lv_at hl 2 rfl) ?_
        have hq := h
        clear h
        refine xcVI (As := [.int v8]) (rest := []) E hw hA (c_X11_nextOrder l D ad cs sk z v8 _ hq) kc_11_208 yo_X11_nextOrder ⟨Nat.le_of_ble_eq_true rfl, Nat.le_of_ble_eq_true rfl⟩ (xrc E hw ky_0_100 rfl) rfl hl.1 rfl (Nat.le_of_ble_eq_true rfl) dX11_order_156 ⟨Nat.le_of_ble_eq_true rfl, Nat.le_of_ble_eq_true rfl⟩ (fun r27 z26 H locs h hw => ?_)
        refine lv_istore (lv' := [(11, .int r27), (0, .ref (ad 0 100)), (5, .int v5), (8, .int v8), (9, .int v9), (10, .int v10), (12, .int v12)]) hx hb dX11_order_159 hl (by decide) rfl (fun ls hl => ?_)
        obtain ⟨t28, et28⟩ : ∃ y : Int32, y = v12 + (1 : Int32) := ⟨_, rfl⟩
        replace h := h t28 et28
        refine lv_iinc (v := t28) (lv' := [(12, .int t28), (11, .int r27), (0, .ref (ad 0 100)), (5, .int v5), (8, .int v8), (9, .int v9), (10, .int v10)]) hx hb dX11_order_161 hl (k := 6) rfl (by rw [et28]; rfl) (by decide) rfl (fun ls hl => ?_)
        refine lv_goto (tgt := 114) hx hb dX11_order_164 (by decide) ?_
        exact ih114 z26 v5 v8 v9 v10 r27 t28 H locs hw ls (lv_sub hl [2, 3, 4, 5, 6, 1, 0] rfl) h
      intro z v5 v8 v9 v10 v11 v12 H locs hw ls hl h
      unfold V_X11_order_114 at h
      refine lv_iload hx hb dX11_order_114 (lv_at hl 6 rfl) ?_
      refine lv_bipush (v := 120) hx hb dX11_order_116 (by decide) ?_
      refine lv_icmp_ge (tgt := 167) hx hb dX11_order_118 (by decide) (fun c20 => ?_) (fun c20 => ?_)
      · replace h := h.1 c20
        exact b167 z v5 v9 v10 H locs hw ls (lv_sub hl [1, 3, 4] rfl) h
      · replace h := h.2 c20
        refine lv_iload hx hb dX11_order_121 (lv_at hl 5 rfl) ?_
        refine lv_if_eq (tgt := 167) hx hb dX11_order_123 (by decide) (fun c22 => ?_) (fun c22 => ?_)
        · replace h := h.1 c22
          exact b167 z v5 v9 v10 H locs hw ls (lv_sub hl [1, 3, 4] rfl) h
        · replace h := h.2 c22
          refine lv_aload_n hx hb dX11_order_126 rfl (lv_at hl 0 rfl) ?_
          refine lv_iload hx hb dX11_order_127 (lv_at hl 2 rfl) ?_
          have hq := h
          clear h
          refine xcVI (As := [.int v8]) (rest := []) E hw hA (c_X11_sumOfOrder l D ad cs sk z v8 _ hq) kc_11_202 yo_X11_sumOfOrder ⟨Nat.le_of_ble_eq_true rfl, Nat.le_of_ble_eq_true rfl⟩ (xrc E hw ky_0_100 rfl) rfl hl.1 rfl (Nat.le_of_ble_eq_true rfl) dX11_order_129 ⟨Nat.le_of_ble_eq_true rfl, Nat.le_of_ble_eq_true rfl⟩ (fun r24 z23 H locs h hw => ?_)
          refine lv_istore (lv' := [(13, .int r24), (0, .ref (ad 0 100)), (5, .int v5), (8, .int v8), (9, .int v9), (10, .int v10), (11, .int v11), (12, .int v12)]) hx hb dX11_order_132 hl (by decide) rfl (fun ls hl => ?_)
          refine lv_iload hx hb dX11_order_134 (lv_at hl 0 rfl) ?_
          refine lv_iload hx hb dX11_order_136 (lv_at hl 4 rfl) ?_
          refine lv_icmp_ge (tgt := 153) hx hb dX11_order_138 (by decide) (fun c25 => ?_) (fun c25 => ?_)
          · replace h := h.1 c25
            exact b153 z23 v5 v8 v9 v10 v12 H locs hw ls (lv_sub hl [1, 2, 3, 4, 5, 7] rfl) h
          · replace h := h.2 c25
            refine lv_iload hx hb dX11_order_141 (lv_at hl 0 rfl) ?_
            refine lv_istore (lv' := [(9, .int r24), (13, .int r24), (0, .ref (ad 0 100)), (5, .int v5), (8, .int v8), (10, .int v10), (11, .int v11), (12, .int v12)]) hx hb dX11_order_143 hl (by decide) rfl (fun ls hl => ?_)
            refine lv_aload_n hx hb dX11_order_145 rfl (lv_at hl 2 rfl) ?_
            refine lv_iload hx hb dX11_order_146 (lv_at hl 4 rfl) ?_
            have hq := h
            clear h
            refine xcVI (As := [.int v8]) (rest := []) E hw hA (c_X11_digitsOfOrder l D ad cs sk z23 v8 _ hq) kc_11_205 yo_X11_digitsOfOrder ⟨Nat.le_of_ble_eq_true rfl, Nat.le_of_ble_eq_true rfl⟩ (xrc E hw ky_0_100 rfl) rfl hl.1 rfl (Nat.le_of_ble_eq_true rfl) dX11_order_148 ⟨Nat.le_of_ble_eq_true rfl, Nat.le_of_ble_eq_true rfl⟩ (fun r30 z29 H locs h hw => ?_)
            refine lv_istore (lv' := [(10, .int r30), (9, .int r24), (13, .int r24), (0, .ref (ad 0 100)), (5, .int v5), (8, .int v8), (11, .int v11), (12, .int v12)]) hx hb dX11_order_151 hl (by decide) rfl (fun ls hl => ?_)
            exact b153 z29 v5 v8 r24 r30 v12 H locs hw ls (lv_sub hl [3, 4, 5, 1, 0, 7] rfl) h
  have b80 : ∀ (n : Nat) (z : ZS) (v5 : Int32) (v8 : Int32) (v9 : Int32), ∀ (H : Heap) (locs : List Loc), OW D ad cs A s.heap z H locs → ∀ ls : Array Slot, lv_has ls 14 [(0, .ref (ad 0 100)), (5, .int v5), (8, .int v8), (9, .int v9)] → V_X11_order_80 post n z v5 v8 v9 → W p l e (rmq 7 0 0) s m args below meth c H locs 0 0 Q (F0 m 80 ls []) := by
    intro n
    induction n with
    | zero =>
      intro z v5 v8 v9 H locs hw ls hl h
      exact h.elim
    | succ n80x ih80 =>
      intro z v5 v8 v9 H locs hw ls hl h
      unfold V_X11_order_80 at h
      refine lv_iload hx hb dX11_order_80 (lv_at hl 3 rfl) ?_
      refine lv_iconst (v := 5) hx hb dX11_order_82 (by decide) ?_
      refine lv_icmp_ge (tgt := 101) hx hb dX11_order_83 (by decide) (fun c19 => ?_) (fun c19 => ?_)
      · replace h := h.1 c19
        refine lv_ldc (v := 2147483647) hx hb hown (h0 _ qk_11_172) dX11_order_101 ?_
        refine lv_istore (lv' := [(9, .int (2147483647 : Int32)), (0, .ref (ad 0 100)), (5, .int v5), (8, .int v8)]) hx hb dX11_order_103 hl (by decide) rfl (fun ls hl => ?_)
        refine lv_iconst (v := 0) hx hb dX11_order_105 (by decide) ?_
        refine lv_istore (lv' := [(10, .int (0 : Int32)), (9, .int (2147483647 : Int32)), (0, .ref (ad 0 100)), (5, .int v5), (8, .int v8)]) hx hb dX11_order_106 hl (by decide) rfl (fun ls hl => ?_)
        refine lv_iconst (v := 1) hx hb dX11_order_108 (by decide) ?_
        refine lv_istore (lv' := [(11, .int (1 : Int32)), (10, .int (0 : Int32)), (9, .int (2147483647 : Int32)), (0, .ref (ad 0 100)), (5, .int v5), (8, .int v8)]) hx hb dX11_order_109 hl (by decide) rfl (fun ls hl => ?_)
        refine lv_iconst (v := 0) hx hb dX11_order_111 (by decide) ?_
        refine lv_istore (lv' := [(12, .int (0 : Int32)), (11, .int (1 : Int32)), (10, .int (0 : Int32)), (9, .int (2147483647 : Int32)), (0, .ref (ad 0 100)), (5, .int v5), (8, .int v8)]) hx hb dX11_order_112 hl (by decide) rfl (fun ls hl => ?_)
        obtain ⟨n31, h⟩ := h
        exact b114 n31 z v5 v8 (2147483647 : Int32) (0 : Int32) (1 : Int32) (0 : Int32) H locs hw ls (lv_sub hl [4, 5, 6, 3, 2, 1, 0] rfl) h
      · replace h := h.2 c19
        refine lv_aload_n hx hb dX11_order_86 rfl (lv_at hl 0 rfl) ?_
        refine xgC E hw (c1 := 11) (t := (0, 8)) rfl ky_0_100 fo_11_8 rfl qf_11_48 dX11_order_87 ?_
        refine lv_iload hx hb dX11_order_90 (lv_at hl 3 rfl) ?_
        refine lv_iload hx hb dX11_order_92 (lv_at hl 3 rfl) ?_
        obtain ⟨hi, h⟩ := h
        refine xas E hw ky_0_8 ka_0_8 hi dX11_order_94 (fun z32 ez32 H locs hw => ?_)
        replace h := h z32 ez32
        obtain ⟨t33, et33⟩ : ∃ y : Int32, y = v9 + (1 : Int32) := ⟨_, rfl⟩
        replace h := h t33 et33
        refine lv_iinc (v := t33) (lv' := [(9, .int t33), (0, .ref (ad 0 100)), (5, .int v5), (8, .int v8)]) hx hb dX11_order_95 hl (k := 3) rfl (by rw [et33]; rfl) (by decide) rfl (fun ls hl => ?_)
        refine lv_goto (tgt := 80) hx hb dX11_order_98 (by decide) ?_
        exact ih80 z32 v5 v8 t33 H locs hw ls (lv_sub hl [1, 2, 3, 0] rfl) h
  have b00 : ∀ (H : Heap) (locs : List Loc), OW D ad cs A s.heap z H locs → W p l e (rmq 7 0 0) s m args below meth c H locs 0 0 Q (F0 m 0 ls []) := by
    intro H locs hw
    refine lv_aload_n hx hb dX11_order_0 rfl (lv_at hl 0 rfl) ?_
    refine lv_iload_n hx hb dX11_order_1 rfl (lv_at hl 1 rfl) ?_
    have hq := h
    clear h
    refine xcVA (As := [.int p1]) (rest := []) E hw hA (c_X11_shelfAt l D ad cs sk z p1 _ hq) kc_11_58 yo_X11_shelfAt ⟨Nat.le_of_ble_eq_true rfl, Nat.le_of_ble_eq_true rfl⟩ (xrc E hw ky_0_100 rfl) rfl hl.1 rfl (Nat.le_of_ble_eq_true rfl) dX11_order_2 ⟨Nat.le_of_ble_eq_true rfl, Nat.le_of_ble_eq_true rfl⟩ (fun r2 z1 H locs h hw => ?_)
    obtain ⟨r2o, rfl, h⟩ := h
    refine xsqastore (lv' := [(6, va_rf (Option.map (fun o => ad o 100) r2o)), (0, .ref (ad 0 100)), (1, .int p1), (2, .int p2), (3, .int p3), (4, .int p4), (5, .int p5)]) hx hb dX11_order_5 hl (by decide) rfl (fun ls hl => ?_)
    refine xlqaload hx hb dX11_order_7 (lv_at hl 0 rfl) ?_
    refine xnulo (tgt := 38) hx hb dX11_order_9 (by decide) (fun ea3 => ?_) (fun a3 ea3 => ?_)
    · replace h := h.1 ea3
      subst ea3
      have hl : lv_has ls 14 [(6, .null), (0, .ref (ad 0 100)), (1, .int p1), (2, .int p2), (3, .int p3), (4, .int p4), (5, .int p5)] := hl
      refine lv_iconst (v := -1) hx hb dX11_order_38 (by decide) ?_
      exact hret (-1 : Int32) z1 H locs 39 ls hw rfl h dX11_order_39
    · replace h := h.2 a3 ea3
      obtain ⟨ha3, h⟩ := h
      subst ea3
      have hl : lv_has ls 14 [(6, .ref (ad a3 100)), (0, .ref (ad 0 100)), (1, .int p1), (2, .int p2), (3, .int p3), (4, .int p4), (5, .int p5)] := hl
      refine lv_iload_n hx hb dX11_order_12 rfl (lv_at hl 3 rfl) ?_
      refine lv_iload_n hx hb dX11_order_13 rfl (lv_at hl 4 rfl) ?_
      have hq := h
      clear h
      refine xcSI (As := [.int p2, .int p3]) (rest := []) E hw hA (c_X11_isPlace l D ad cs sk z1 p2 p3 _ hq) kc_11_125 yo_X11_isPlace ⟨Nat.le_of_ble_eq_true rfl, Nat.le_of_ble_eq_true rfl⟩ rfl hl.1 rfl (Nat.le_of_ble_eq_true rfl) dX11_order_14 ⟨Nat.le_of_ble_eq_true rfl, Nat.le_of_ble_eq_true rfl⟩ (fun r5 z4 H locs h hw => ?_)
      refine lv_if_eq (tgt := 38) hx hb dX11_order_17 (by decide) (fun c6 => ?_) (fun c6 => ?_)
      · replace h := h.1 c6
        refine lv_iconst (v := -1) hx hb dX11_order_38 (by decide) ?_
        exact hret (-1 : Int32) z4 H locs 39 ls hw rfl h dX11_order_39
      · replace h := h.2 c6
        refine lv_iload hx hb dX11_order_20 (lv_at hl 5 rfl) ?_
        have hq := h
        clear h
        refine xcSI (As := [.int p4]) (rest := []) E hw hA (c_X11_isGap l D ad cs sk z4 p4 _ hq) kc_11_177 yo_X11_isGap ⟨Nat.le_of_ble_eq_true rfl, Nat.le_of_ble_eq_true rfl⟩ rfl hl.1 rfl (Nat.le_of_ble_eq_true rfl) dX11_order_22 ⟨Nat.le_of_ble_eq_true rfl, Nat.le_of_ble_eq_true rfl⟩ (fun r8 z7 H locs h hw => ?_)
        refine lv_if_eq (tgt := 38) hx hb dX11_order_25 (by decide) (fun c9 => ?_) (fun c9 => ?_)
        · replace h := h.1 c9
          refine lv_iconst (v := -1) hx hb dX11_order_38 (by decide) ?_
          exact hret (-1 : Int32) z7 H locs 39 ls hw rfl h dX11_order_39
        · replace h := h.2 c9
          refine lv_iconst (v := 0) hx hb dX11_order_28 (by decide) ?_
          refine lv_iload hx hb dX11_order_29 (lv_at hl 6 rfl) ?_
          refine lv_iconst (v := 1) hx hb dX11_order_31 (by decide) ?_
          have hq := h
          clear h
          refine xcSI (As := [.int (0 : Int32), .int p5, .int (1 : Int32)]) (rest := []) E hw hA (c_X11_isFrom l D ad cs sk z7 (0 : Int32) p5 (1 : Int32) _ hq) kc_11_83 yo_X11_isFrom ⟨Nat.le_of_ble_eq_true rfl, Nat.le_of_ble_eq_true rfl⟩ rfl hl.1 rfl (Nat.le_of_ble_eq_true rfl) dX11_order_32 ⟨Nat.le_of_ble_eq_true rfl, Nat.le_of_ble_eq_true rfl⟩ (fun r11 z10 H locs h hw => ?_)
          refine lv_if_ne (tgt := 40) hx hb dX11_order_35 (by decide) (fun c12 => ?_) (fun c12 => ?_)
          · replace h := h.1 c12
            refine lv_aload_n hx hb dX11_order_40 rfl (lv_at hl 1 rfl) ?_
            refine lv_aload hx hb dX11_order_41 (lv_at hl 0 rfl) ?_
            have hq := h
            clear h
            refine xcVI (As := [.ref (ad a3 100)]) (rest := []) E hw hA (c_X11_refusalOfLoad l D ad cs sk z10 a3 _ ha3 hq) kc_11_181 yo_X11_refusalOfLoad ⟨Nat.le_of_ble_eq_true rfl, Nat.le_of_ble_eq_true rfl⟩ (xrc E hw ky_0_100 rfl) rfl hl.1 rfl (Nat.le_of_ble_eq_true rfl) dX11_order_43 ⟨Nat.le_of_ble_eq_true rfl, Nat.le_of_ble_eq_true rfl⟩ (fun r14 z13 H locs h hw => ?_)
            refine lv_istore (lv' := [(7, .int r14), (6, .ref (ad a3 100)), (0, .ref (ad 0 100)), (1, .int p1), (2, .int p2), (3, .int p3), (4, .int p4), (5, .int p5)]) hx hb dX11_order_46 hl (by decide) rfl (fun ls hl => ?_)
            refine lv_iload hx hb dX11_order_48 (lv_at hl 0 rfl) ?_
            refine lv_if_eq (tgt := 56) hx hb dX11_order_50 (by decide) (fun c15 => ?_) (fun c15 => ?_)
            · replace h := h.1 c15
              refine lv_aload_n hx hb dX11_order_56 rfl (lv_at hl 2 rfl) ?_
              refine lv_aload hx hb dX11_order_57 (lv_at hl 1 rfl) ?_
              refine lv_iload_n hx hb dX11_order_59 rfl (lv_at hl 4 rfl) ?_
              refine lv_iload_n hx hb dX11_order_60 rfl (lv_at hl 5 rfl) ?_
              refine lv_iload hx hb dX11_order_61 (lv_at hl 6 rfl) ?_
              have hq := h
              clear h
              refine xcVV (As := [.ref (ad a3 100), .int p2, .int p3, .int p4]) (rest := []) E hw hA (c_X11_tellOffs l D ad cs sk z13 a3 p2 p3 p4 _ ha3 hq) kc_11_192 yo_X11_tellOffs ⟨Nat.le_of_ble_eq_true rfl, Nat.le_of_ble_eq_true rfl⟩ (xrc E hw ky_0_100 rfl) rfl hl.1 rfl (Nat.le_of_ble_eq_true rfl) dX11_order_63 ⟨Nat.le_of_ble_eq_true rfl, Nat.le_of_ble_eq_true rfl⟩ (fun z16 H locs h hw => ?_)
              refine lv_aload hx hb dX11_order_66 (lv_at hl 1 rfl) ?_
              refine xgI E hw (c1 := 9) (ciisS ha3) (kyisS_100 ha3) fo_9_3 qf_11_189 dX11_order_68 ?_
              refine lv_iconst (v := 5) hx hb dX11_order_71 (by decide) ?_
              refine va_mmin hx hb (hml.trans hl.1.symm) hown (h0 _ qm_11_196) (h0 _ qs_ib_Math_min_name) (h0 _ qn_Math) (h0 _ qc_Math_min) (Nat.le_of_ble_eq_true rfl) (Nat.le_of_ble_eq_true rfl) (Nat.le_of_ble_eq_true rfl) (Nat.le_of_ble_eq_true rfl) dX11_order_72 ?_
              refine lv_topi (fun t18 et18 => ?_)
              replace h := h t18 et18
              refine lv_istore (lv' := [(8, .int t18), (7, .int r14), (6, .ref (ad a3 100)), (0, .ref (ad 0 100)), (1, .int p1), (2, .int p2), (3, .int p3), (4, .int p4), (5, .int p5)]) hx hb dX11_order_75 hl (by decide) rfl (fun ls hl => ?_)
              refine lv_iconst (v := 0) hx hb dX11_order_77 (by decide) ?_
              refine lv_istore (lv' := [(9, .int (0 : Int32)), (8, .int t18), (7, .int r14), (6, .ref (ad a3 100)), (0, .ref (ad 0 100)), (1, .int p1), (2, .int p2), (3, .int p3), (4, .int p4), (5, .int p5)]) hx hb dX11_order_78 hl (by decide) rfl (fun ls hl => ?_)
              obtain ⟨n34, h⟩ := h
              exact b80 n34 z16 p5 t18 (0 : Int32) H locs hw ls (lv_sub hl [4, 9, 1, 0] rfl) h
            · replace h := h.2 c15
              refine lv_iload hx hb dX11_order_53 (lv_at hl 0 rfl) ?_
              exact hret r14 z13 H locs 55 ls hw rfl h dX11_order_55
          · replace h := h.2 c12
            refine lv_iconst (v := -1) hx hb dX11_order_38 (by decide) ?_
            exact hret (-1 : Int32) z10 H locs 39 ls hw rfl h dX11_order_39
  exact b00 s.heap [] hw
def V_X11_cone_110 (post : Int32 → ZS → Prop) (rr46 : ZS → Int32 → Int32 → Nat → Int32 → Int32 → Prop) (rr59 : ZS → Int32 → Int32 → Nat → Int32 → Int32 → Int32 → Prop) (z : ZS) (v2 : Int32) (v3 : Int32) (v4 : Nat) (v5 : Int32) (v6 : Int32) (v7 : Int32) : Prop := (∀ t22 : Int32, t22 = v7 + (500 : Int32) → rr59 z v2 v3 v4 v5 v6 t22)
def V_X11_cone_59 (post : Int32 → ZS → Prop) (rr46 : ZS → Int32 → Int32 → Nat → Int32 → Int32 → Prop) : Nat → ZS → Int32 → Int32 → Nat → Int32 → Int32 → Int32 → Prop
  | 0, _, _, _, _, _, _, _ => False
  | (n + 1), z, v2, v3, v4, v5, v6, v7 => (((5000 : Int32) < v7 → (∀ t12 : Int32, t12 = v6 + (500 : Int32) → rr46 z v2 v3 v4 v5 t12)) ∧ (¬ (5000 : Int32) < v7 → V_X3_begin z 4 v4 v6 v7 (1 : Int32) (fun z13 => V_X3_openAt z13 4 v2 (fun z15 => V_X3_land z15 4 (fun z17 => V_X3_off z17 4 (fun r20 z19 => ((v3 < r20 → V_X11_cone_110 post rr46 (V_X11_cone_59 post rr46 n) z19 v2 v3 v4 v5 v6 v7) ∧ (¬ v3 < r20 → (∀ t23 : Int32, t23 = v5 + (1 : Int32) → V_X11_cone_110 post rr46 (V_X11_cone_59 post rr46 n) z19 v2 v3 v4 t23 v6 v7)))))))))
def V_X11_cone_46 (post : Int32 → ZS → Prop) : Nat → ZS → Int32 → Int32 → Nat → Int32 → Int32 → Prop
  | 0, _, _, _, _, _, _ => False
  | (n + 1), z, v2, v3, v4, v5, v6 => (((5000 : Int32) < v6 → post v5 z) ∧ (¬ (5000 : Int32) < v6 → (∃ n24 : Nat, V_X11_cone_59 post (V_X11_cone_46 post n) n24 z v2 v3 v4 v5 v6 (-5000 : Int32))))
def V_X11_cone (z : ZS) (p1 : Int32) (p2 : Int32) (p3 : Int32) (post : Int32 → ZS → Prop) : Prop := V_X0_fallerAt z 1 p1 (fun r2 z1 => ((r2 = none → post (-1 : Int32) z1) ∧ (∀ a3 : Nat, r2 = some a3 → V_X11_isFrom z1 (1 : Int32) p2 (3000 : Int32) (fun r5 z4 => ((r5 = 0 → post (-1 : Int32) z4) ∧ (¬ r5 = 0 → V_X11_isFrom z4 (0 : Int32) p3 (60000 : Int32) (fun r8 z7 => ((¬ r8 = 0 → (∃ n25 : Nat, V_X11_cone_46 post n25 z7 p2 p3 a3 (0 : Int32) (-5000 : Int32))) ∧ (r8 = 0 → post (-1 : Int32) z7)))))))))
set_option maxHeartbeats 4000000 in
set_option maxRecDepth 100000 in
theorem c_X11_cone (l : Launch) (D : va_G) (ad : Nat → Nat → Nat) (cs : Nat → ClassId) (sk : (Nat → Nat) × (Nat → Nat)) (z : ZS) (p1 : Int32) (p2 : Int32) (p3 : Int32) (post : Int32 → ZS → Prop) (h : V_X11_cone z p1 p2 p3 post) : MI l D ad cs sk yX11_cone cX11_cone 8 .int (rmq 6 0 0) [.ref (ad 0 100), .int p1, .int p2, .int p3] z post := by
  refine MI.of RX11 rfl (by decide) (Nat.le_of_ble_eq_true rfl) ?_
  intro p e s m args below meth c A Q E hw hA hret ls hl
  have hx := E.1.1
  have hb := E.1.2.1
  have hml := E.1.2.2.1
  have hown := E.1.2.2.2.1
  have h0 := E.1.2.2.2.2
  have hl : lv_has ls 8 [(0, .ref (ad 0 100)), (1, .int p1), (2, .int p2), (3, .int p3)] := hl
  unfold V_X11_cone at h
  have b46 : ∀ (n : Nat) (z : ZS) (v2 : Int32) (v3 : Int32) (v4 : Nat) (v5 : Int32) (v6 : Int32), ∀ (H : Heap) (locs : List Loc), OW D ad cs A s.heap z H locs → ∀ ls : Array Slot, lv_has ls 8 [(0, .ref (ad 0 100)), (2, .int v2), (3, .int v3), (4, .ref v4), (5, .int v5), (6, .int v6)] → V_X11_cone_46 post n z v2 v3 v4 v5 v6 → W p l e (rmq 6 0 0) s m args below meth c H locs 0 0 Q (F0 m 46 ls []) := by
    intro n
    induction n with
    | zero =>
      intro z v2 v3 v4 v5 v6 H locs hw ls hl h
      exact h.elim
    | succ n46x ih46 =>
      have b59 : ∀ (n : Nat) (z : ZS) (v2 : Int32) (v3 : Int32) (v4 : Nat) (v5 : Int32) (v6 : Int32) (v7 : Int32), ∀ (H : Heap) (locs : List Loc), OW D ad cs A s.heap z H locs → ∀ ls : Array Slot, lv_has ls 8 [(0, .ref (ad 0 100)), (2, .int v2), (3, .int v3), (4, .ref v4), (5, .int v5), (6, .int v6), (7, .int v7)] → V_X11_cone_59 post (V_X11_cone_46 post n46x) n z v2 v3 v4 v5 v6 v7 → W p l e (rmq 6 0 0) s m args below meth c H locs 0 0 Q (F0 m 59 ls []) := by
        intro n
        induction n with
        | zero =>
          intro z v2 v3 v4 v5 v6 v7 H locs hw ls hl h
          exact h.elim
        | succ n59x ih59 =>
          have b110 : ∀ (z : ZS) (v2 : Int32) (v3 : Int32) (v4 : Nat) (v5 : Int32) (v6 : Int32) (v7 : Int32), ∀ (H : Heap) (locs : List Loc), OW D ad cs A s.heap z H locs → ∀ ls : Array Slot, lv_has ls 8 [(0, .ref (ad 0 100)), (2, .int v2), (3, .int v3), (4, .ref v4), (5, .int v5), (6, .int v6), (7, .int v7)] → V_X11_cone_110 post (V_X11_cone_46 post n46x) (V_X11_cone_59 post (V_X11_cone_46 post n46x) n59x) z v2 v3 v4 v5 v6 v7 → W p l e (rmq 6 0 0) s m args below meth c H locs 0 0 Q (F0 m 110 ls []) := by
            intro z v2 v3 v4 v5 v6 v7 H locs hw ls hl h
            unfold V_X11_cone_110 at h
            obtain ⟨t22, et22⟩ : ∃ y : Int32, y = v7 + (500 : Int32) := ⟨_, rfl⟩
            replace h := h t22 et22
            refine lv_iincW (v := t22) (lv' := [(7, .int t22), (0, .ref (ad 0 100)), (2, .int v2), (3, .int v3), (4, .ref v4), (5, .int v5), (6, .int v6)]) hx hb dX11_cone_110 hl (k := 6) rfl (by rw [et22]; rfl) (by decide) rfl (fun ls hl => ?_)
            refine lv_goto (tgt := 59) hx hb dX11_cone_116 (by decide) ?_
            exact ih59 z v2 v3 v4 v5 v6 t22 H locs hw ls (lv_sub hl [1, 2, 3, 4, 5, 6, 0] rfl) h
          intro z v2 v3 v4 v5 v6 v7 H locs hw ls hl h
          unfold V_X11_cone_59 at h
          refine lv_iload hx hb dX11_cone_59 (lv_at hl 6 rfl) ?_
          refine lv_sipush (v := 5000) hx hb dX11_cone_61 (by decide) ?_
          refine lv_icmp_gt (tgt := 119) hx hb dX11_cone_64 (by decide) (fun c11 => ?_) (fun c11 => ?_)
          · replace h := h.1 c11
            obtain ⟨t12, et12⟩ : ∃ y : Int32, y = v6 + (500 : Int32) := ⟨_, rfl⟩
            replace h := h t12 et12
            refine lv_iincW (v := t12) (lv' := [(6, .int t12), (0, .ref (ad 0 100)), (2, .int v2), (3, .int v3), (4, .ref v4), (5, .int v5), (7, .int v7)]) hx hb dX11_cone_119 hl (k := 5) rfl (by rw [et12]; rfl) (by decide) rfl (fun ls hl => ?_)
            refine lv_goto (tgt := 46) hx hb dX11_cone_125 (by decide) ?_
            exact ih46 z v2 v3 v4 v5 t12 H locs hw ls (lv_sub hl [1, 2, 3, 4, 5, 0] rfl) h
          · replace h := h.2 c11
            refine lv_aload_n hx hb dX11_cone_67 rfl (lv_at hl 0 rfl) ?_
            refine xgC E hw (c1 := 11) (t := (4, 100)) rfl ky_0_100 fo_11_4 rfl qf_11_31 dX11_cone_68 ?_
            refine lv_aload hx hb dX11_cone_71 (lv_at hl 3 rfl) ?_
            refine lv_iload hx hb dX11_cone_73 (lv_at hl 5 rfl) ?_
            refine lv_iload hx hb dX11_cone_75 (lv_at hl 6 rfl) ?_
            refine lv_iconst (v := 1) hx hb dX11_cone_77 (by decide) ?_
            have hq := h
            clear h
            refine xcVV (As := [.ref v4, .int v6, .int v7, .int (1 : Int32)]) (rest := []) E hw hA (c_X3_begin l D ad cs sk z 4 v4 v6 v7 (1 : Int32) _ is_4 hq) kc_11_143 yo_X3_begin ⟨Nat.le_of_ble_eq_true rfl, Nat.le_of_ble_eq_true rfl⟩ (xrc E hw ky_4_100 rfl) rfl hl.1 rfl (Nat.le_of_ble_eq_true rfl) dX11_cone_78 ⟨Nat.le_of_ble_eq_true rfl, Nat.le_of_ble_eq_true rfl⟩ (fun z13 H locs h hw => ?_)
            refine lv_aload_n hx hb dX11_cone_81 rfl (lv_at hl 0 rfl) ?_
            refine xgC E hw (c1 := 11) (t := (4, 100)) rfl ky_0_100 fo_11_4 rfl qf_11_31 dX11_cone_82 ?_
            refine lv_iload_n hx hb dX11_cone_85 rfl (lv_at hl 1 rfl) ?_
            have hq := h
            clear h
            refine xcVV (As := [.int v2]) (rest := []) E hw hA (c_X3_openAt l D ad cs sk z13 4 v2 _ is_4 hq) kc_11_211 yo_X3_openAt ⟨Nat.le_of_ble_eq_true rfl, Nat.le_of_ble_eq_true rfl⟩ (xrc E hw ky_4_100 rfl) rfl hl.1 rfl (Nat.le_of_ble_eq_true rfl) dX11_cone_86 ⟨Nat.le_of_ble_eq_true rfl, Nat.le_of_ble_eq_true rfl⟩ (fun z15 H locs h hw => ?_)
            refine lv_aload_n hx hb dX11_cone_89 rfl (lv_at hl 0 rfl) ?_
            refine xgC E hw (c1 := 11) (t := (4, 100)) rfl ky_0_100 fo_11_4 rfl qf_11_31 dX11_cone_90 ?_
            have hq := h
            clear h
            refine xcVV (As := []) (rest := []) E hw hA (c_X3_land l D ad cs sk z15 4 _ is_4 hq) kc_11_167 yo_X3_land ⟨Nat.le_of_ble_eq_true rfl, Nat.le_of_ble_eq_true rfl⟩ (xrc E hw ky_4_100 rfl) rfl hl.1 rfl (Nat.le_of_ble_eq_true rfl) dX11_cone_93 ⟨Nat.le_of_ble_eq_true rfl, Nat.le_of_ble_eq_true rfl⟩ (fun z17 H locs h hw => ?_)
            refine lv_aload_n hx hb dX11_cone_96 rfl (lv_at hl 0 rfl) ?_
            refine xgC E hw (c1 := 11) (t := (4, 100)) rfl ky_0_100 fo_11_4 rfl qf_11_31 dX11_cone_97 ?_
            have hq := h
            clear h
            refine xcVI (As := []) (rest := []) E hw hA (c_X3_off l D ad cs sk z17 4 _ is_4 hq) kc_11_214 yo_X3_off ⟨Nat.le_of_ble_eq_true rfl, Nat.le_of_ble_eq_true rfl⟩ (xrc E hw ky_4_100 rfl) rfl hl.1 rfl (Nat.le_of_ble_eq_true rfl) dX11_cone_100 ⟨Nat.le_of_ble_eq_true rfl, Nat.le_of_ble_eq_true rfl⟩ (fun r20 z19 H locs h hw => ?_)
            refine lv_iload_n hx hb dX11_cone_103 rfl (lv_at hl 2 rfl) ?_
            refine lv_icmp_gt (tgt := 110) hx hb dX11_cone_104 (by decide) (fun c21 => ?_) (fun c21 => ?_)
            · replace h := h.1 c21
              exact b110 z19 v2 v3 v4 v5 v6 v7 H locs hw ls (lv_sub hl [0, 1, 2, 3, 4, 5, 6] rfl) h
            · replace h := h.2 c21
              obtain ⟨t23, et23⟩ : ∃ y : Int32, y = v5 + (1 : Int32) := ⟨_, rfl⟩
              replace h := h t23 et23
              refine lv_iinc (v := t23) (lv' := [(5, .int t23), (0, .ref (ad 0 100)), (2, .int v2), (3, .int v3), (4, .ref v4), (6, .int v6), (7, .int v7)]) hx hb dX11_cone_107 hl (k := 4) rfl (by rw [et23]; rfl) (by decide) rfl (fun ls hl => ?_)
              exact b110 z19 v2 v3 v4 t23 v6 v7 H locs hw ls (lv_sub hl [1, 2, 3, 4, 0, 5, 6] rfl) h
      intro z v2 v3 v4 v5 v6 H locs hw ls hl h
      unfold V_X11_cone_46 at h
      refine lv_iload hx hb dX11_cone_46 (lv_at hl 5 rfl) ?_
      refine lv_sipush (v := 5000) hx hb dX11_cone_48 (by decide) ?_
      refine lv_icmp_gt (tgt := 128) hx hb dX11_cone_51 (by decide) (fun c10 => ?_) (fun c10 => ?_)
      · replace h := h.1 c10
        refine lv_iload hx hb dX11_cone_128 (lv_at hl 4 rfl) ?_
        exact hret v5 z H locs 130 ls hw rfl h dX11_cone_130
      · replace h := h.2 c10
        refine lv_sipush (v := -5000) hx hb dX11_cone_54 (by decide) ?_
        refine lv_istore (lv' := [(7, .int (-5000 : Int32)), (0, .ref (ad 0 100)), (2, .int v2), (3, .int v3), (4, .ref v4), (5, .int v5), (6, .int v6)]) hx hb dX11_cone_57 hl (by decide) rfl (fun ls hl => ?_)
        obtain ⟨n24, h⟩ := h
        exact b59 n24 z v2 v3 v4 v5 v6 (-5000 : Int32) H locs hw ls (lv_sub hl [1, 2, 3, 4, 5, 6, 0] rfl) h
  have b00 : ∀ (H : Heap) (locs : List Loc), OW D ad cs A s.heap z H locs → W p l e (rmq 6 0 0) s m args below meth c H locs 0 0 Q (F0 m 0 ls []) := by
    intro H locs hw
    refine lv_aload_n hx hb dX11_cone_0 rfl (lv_at hl 0 rfl) ?_
    refine xgC E hw (c1 := 11) (t := (1, 100)) rfl ky_0_100 fo_11_0 rfl qf_11_10 dX11_cone_1 ?_
    refine lv_iload_n hx hb dX11_cone_4 rfl (lv_at hl 1 rfl) ?_
    have hq := h
    clear h
    refine xcVA (As := [.int p1]) (rest := []) E hw hA (c_X0_fallerAt l D ad cs sk z 1 p1 _ is_1 hq) kc_11_97 yo_X0_fallerAt ⟨Nat.le_of_ble_eq_true rfl, Nat.le_of_ble_eq_true rfl⟩ (xrc E hw ky_1_100 rfl) rfl hl.1 rfl (Nat.le_of_ble_eq_true rfl) dX11_cone_5 ⟨Nat.le_of_ble_eq_true rfl, Nat.le_of_ble_eq_true rfl⟩ (fun r2 z1 H locs h hw => ?_)
    refine xsqastore (lv' := [(4, va_rf r2), (0, .ref (ad 0 100)), (1, .int p1), (2, .int p2), (3, .int p3)]) hx hb dX11_cone_8 hl (by decide) rfl (fun ls hl => ?_)
    refine xlqaload hx hb dX11_cone_10 (lv_at hl 0 rfl) ?_
    refine xnul (tgt := 36) hx hb dX11_cone_12 (by decide) (fun ea3 => ?_) (fun a3 ea3 => ?_)
    · replace h := h.1 ea3
      subst ea3
      have hl : lv_has ls 8 [(4, .null), (0, .ref (ad 0 100)), (1, .int p1), (2, .int p2), (3, .int p3)] := hl
      refine lv_iconst (v := -1) hx hb dX11_cone_36 (by decide) ?_
      exact hret (-1 : Int32) z1 H locs 37 ls hw rfl h dX11_cone_37
    · replace h := h.2 a3 ea3
      subst ea3
      have hl : lv_has ls 8 [(4, .ref a3), (0, .ref (ad 0 100)), (1, .int p1), (2, .int p2), (3, .int p3)] := hl
      refine lv_iconst (v := 1) hx hb dX11_cone_15 (by decide) ?_
      refine lv_iload_n hx hb dX11_cone_16 rfl (lv_at hl 3 rfl) ?_
      refine lv_sipush (v := 3000) hx hb dX11_cone_17 (by decide) ?_
      have hq := h
      clear h
      refine xcSI (As := [.int (1 : Int32), .int p2, .int (3000 : Int32)]) (rest := []) E hw hA (c_X11_isFrom l D ad cs sk z1 (1 : Int32) p2 (3000 : Int32) _ hq) kc_11_83 yo_X11_isFrom ⟨Nat.le_of_ble_eq_true rfl, Nat.le_of_ble_eq_true rfl⟩ rfl hl.1 rfl (Nat.le_of_ble_eq_true rfl) dX11_cone_20 ⟨Nat.le_of_ble_eq_true rfl, Nat.le_of_ble_eq_true rfl⟩ (fun r5 z4 H locs h hw => ?_)
      refine lv_if_eq (tgt := 36) hx hb dX11_cone_23 (by decide) (fun c6 => ?_) (fun c6 => ?_)
      · replace h := h.1 c6
        refine lv_iconst (v := -1) hx hb dX11_cone_36 (by decide) ?_
        exact hret (-1 : Int32) z4 H locs 37 ls hw rfl h dX11_cone_37
      · replace h := h.2 c6
        refine lv_iconst (v := 0) hx hb dX11_cone_26 (by decide) ?_
        refine lv_iload_n hx hb dX11_cone_27 rfl (lv_at hl 4 rfl) ?_
        refine lv_ldc (v := 60000) hx hb hown (h0 _ qk_11_180) dX11_cone_28 ?_
        have hq := h
        clear h
        refine xcSI (As := [.int (0 : Int32), .int p3, .int (60000 : Int32)]) (rest := []) E hw hA (c_X11_isFrom l D ad cs sk z4 (0 : Int32) p3 (60000 : Int32) _ hq) kc_11_83 yo_X11_isFrom ⟨Nat.le_of_ble_eq_true rfl, Nat.le_of_ble_eq_true rfl⟩ rfl hl.1 rfl (Nat.le_of_ble_eq_true rfl) dX11_cone_30 ⟨Nat.le_of_ble_eq_true rfl, Nat.le_of_ble_eq_true rfl⟩ (fun r8 z7 H locs h hw => ?_)
        refine lv_if_ne (tgt := 38) hx hb dX11_cone_33 (by decide) (fun c9 => ?_) (fun c9 => ?_)
        · replace h := h.1 c9
          refine lv_iconst (v := 0) hx hb dX11_cone_38 (by decide) ?_
          refine lv_istore (lv' := [(5, .int (0 : Int32)), (4, .ref a3), (0, .ref (ad 0 100)), (1, .int p1), (2, .int p2), (3, .int p3)]) hx hb dX11_cone_39 hl (by decide) rfl (fun ls hl => ?_)
          refine lv_sipush (v := -5000) hx hb dX11_cone_41 (by decide) ?_
          refine lv_istore (lv' := [(6, .int (-5000 : Int32)), (5, .int (0 : Int32)), (4, .ref a3), (0, .ref (ad 0 100)), (1, .int p1), (2, .int p2), (3, .int p3)]) hx hb dX11_cone_44 hl (by decide) rfl (fun ls hl => ?_)
          obtain ⟨n25, h⟩ := h
          exact b46 n25 z7 p2 p3 a3 (0 : Int32) (-5000 : Int32) H locs hw ls (lv_sub hl [3, 5, 6, 2, 1, 0] rfl) h
        · replace h := h.2 c9
          refine lv_iconst (v := -1) hx hb dX11_cone_36 (by decide) ?_
          exact hret (-1 : Int32) z7 H locs 37 ls hw rfl h dX11_cone_37
  exact b00 s.heap [] hw
def V_X11_eastOfWay (z : ZS) (p0 : Int32) (post : Int32 → ZS → Prop) : Prop := ((p0 = (1 : Int32) → post (1 : Int32) z) ∧ (¬ p0 = (1 : Int32) → ((p0 = (2 : Int32) → post (-1 : Int32) z) ∧ (¬ p0 = (2 : Int32) → ((p0 = (5 : Int32) → post (1 : Int32) z) ∧ (¬ p0 = (5 : Int32) → ((p0 = (6 : Int32) → post (-1 : Int32) z) ∧ (¬ p0 = (6 : Int32) → ((p0 = (7 : Int32) → post (1 : Int32) z) ∧ (¬ p0 = (7 : Int32) → ((p0 = (8 : Int32) → post (-1 : Int32) z) ∧ (¬ p0 = (8 : Int32) → post (0 : Int32) z))))))))))))
set_option maxHeartbeats 4000000 in
set_option maxRecDepth 100000 in
theorem c_X11_eastOfWay (l : Launch) (D : va_G) (ad : Nat → Nat → Nat) (cs : Nat → ClassId) (sk : (Nat → Nat) × (Nat → Nat)) (z : ZS) (p0 : Int32) (post : Int32 → ZS → Prop) (h : V_X11_eastOfWay z p0 post) : MI l D ad cs sk yX11_eastOfWay cX11_eastOfWay 1 .int (rmq 0 0 0) [.int p0] z post := by
  refine MI.of RX11 rfl (by decide) (Nat.le_of_ble_eq_true rfl) ?_
  intro p e s m args below meth c A Q E hw hA hret ls hl
  have hx := E.1.1
  have hb := E.1.2.1
  have hml := E.1.2.2.1
  have hown := E.1.2.2.2.1
  have h0 := E.1.2.2.2.2
  have hl : lv_has ls 1 [(0, .int p0)] := hl
  unfold V_X11_eastOfWay at h
  have b00 : ∀ (H : Heap) (locs : List Loc), OW D ad cs A s.heap z H locs → W p l e (rmq 0 0 0) s m args below meth c H locs 0 0 Q (F0 m 0 ls []) := by
    intro H locs hw
    refine lv_iload_n hx hb dX11_eastOfWay_0 rfl (lv_at hl 0 rfl) ?_
    by_cases c1 : p0 = (1 : Int32)
    · replace h := h.1 c1
      refine lv_tableIn (tgt := 48) hx hb dX11_eastOfWay_1 (by rw [c1]; decide) (by rw [c1]; decide) (by rw [c1]; rfl) (by decide) ?_
      refine lv_iconst (v := 1) hx hb dX11_eastOfWay_48 (by decide) ?_
      exact hret (1 : Int32) z H locs 49 ls hw rfl h dX11_eastOfWay_49
    · replace h := h.2 c1
      by_cases c2 : p0 = (2 : Int32)
      · replace h := h.1 c2
        refine lv_tableIn (tgt := 50) hx hb dX11_eastOfWay_1 (by rw [c2]; decide) (by rw [c2]; decide) (by rw [c2]; rfl) (by decide) ?_
        refine lv_iconst (v := -1) hx hb dX11_eastOfWay_50 (by decide) ?_
        exact hret (-1 : Int32) z H locs 51 ls hw rfl h dX11_eastOfWay_51
      · replace h := h.2 c2
        by_cases c3 : p0 = (5 : Int32)
        · replace h := h.1 c3
          refine lv_tableIn (tgt := 48) hx hb dX11_eastOfWay_1 (by rw [c3]; decide) (by rw [c3]; decide) (by rw [c3]; rfl) (by decide) ?_
          refine lv_iconst (v := 1) hx hb dX11_eastOfWay_48 (by decide) ?_
          exact hret (1 : Int32) z H locs 49 ls hw rfl h dX11_eastOfWay_49
        · replace h := h.2 c3
          by_cases c4 : p0 = (6 : Int32)
          · replace h := h.1 c4
            refine lv_tableIn (tgt := 50) hx hb dX11_eastOfWay_1 (by rw [c4]; decide) (by rw [c4]; decide) (by rw [c4]; rfl) (by decide) ?_
            refine lv_iconst (v := -1) hx hb dX11_eastOfWay_50 (by decide) ?_
            exact hret (-1 : Int32) z H locs 51 ls hw rfl h dX11_eastOfWay_51
          · replace h := h.2 c4
            by_cases c5 : p0 = (7 : Int32)
            · replace h := h.1 c5
              refine lv_tableIn (tgt := 48) hx hb dX11_eastOfWay_1 (by rw [c5]; decide) (by rw [c5]; decide) (by rw [c5]; rfl) (by decide) ?_
              refine lv_iconst (v := 1) hx hb dX11_eastOfWay_48 (by decide) ?_
              exact hret (1 : Int32) z H locs 49 ls hw rfl h dX11_eastOfWay_49
            · replace h := h.2 c5
              by_cases c6 : p0 = (8 : Int32)
              · replace h := h.1 c6
                refine lv_tableIn (tgt := 50) hx hb dX11_eastOfWay_1 (by rw [c6]; decide) (by rw [c6]; decide) (by rw [c6]; rfl) (by decide) ?_
                refine lv_iconst (v := -1) hx hb dX11_eastOfWay_50 (by decide) ?_
                exact hret (-1 : Int32) z H locs 51 ls hw rfl h dX11_eastOfWay_51
              · replace h := h.2 c6
                have k7 : W p l e (rmq 0 0 0) s m args below meth c H locs 0 0 Q (F0 m 52 ls []) := by
                  refine lv_iconst (v := 0) hx hb dX11_eastOfWay_52 (by decide) ?_
                  exact hret (0 : Int32) z H locs 53 ls hw rfl h dX11_eastOfWay_53
                by_cases gk7 : (p0).toInt < 1 ∨ 8 < (p0).toInt
                · exact lv_tableOut (tgt := 52) hx hb dX11_eastOfWay_1 gk7 (by decide) k7
                · have g2 : (p0).toInt = 3 ∨ (p0).toInt = 4 := by have n0 := lv_neT c1 (by decide : ((1 : Int32) : Int32).toInt = 1); have n1 := lv_neT c2 (by decide : ((2 : Int32) : Int32).toInt = 2); have n2 := lv_neT c3 (by decide : ((5 : Int32) : Int32).toInt = 5); have n3 := lv_neT c4 (by decide : ((6 : Int32) : Int32).toInt = 6); have n4 := lv_neT c5 (by decide : ((7 : Int32) : Int32).toInt = 7); have n5 := lv_neT c6 (by decide : ((8 : Int32) : Int32).toInt = 8); omega
                  rcases g2 with g2 | g2
                  · exact lv_tableIn (tgt := 52) hx hb dX11_eastOfWay_1 (by rw [g2]; decide) (by rw [g2]; decide) (by rw [g2]; rfl) (by decide) k7
                  · exact lv_tableIn (tgt := 52) hx hb dX11_eastOfWay_1 (by rw [g2]; decide) (by rw [g2]; decide) (by rw [g2]; rfl) (by decide) k7
  exact b00 s.heap [] hw
def V_X11_northOfWay (z : ZS) (p0 : Int32) (post : Int32 → ZS → Prop) : Prop := ((p0 = (3 : Int32) → post (1 : Int32) z) ∧ (¬ p0 = (3 : Int32) → ((p0 = (4 : Int32) → post (-1 : Int32) z) ∧ (¬ p0 = (4 : Int32) → ((p0 = (5 : Int32) → post (1 : Int32) z) ∧ (¬ p0 = (5 : Int32) → ((p0 = (6 : Int32) → post (1 : Int32) z) ∧ (¬ p0 = (6 : Int32) → ((p0 = (7 : Int32) → post (-1 : Int32) z) ∧ (¬ p0 = (7 : Int32) → ((p0 = (8 : Int32) → post (-1 : Int32) z) ∧ (¬ p0 = (8 : Int32) → post (0 : Int32) z))))))))))))
set_option maxHeartbeats 4000000 in
set_option maxRecDepth 100000 in
theorem c_X11_northOfWay (l : Launch) (D : va_G) (ad : Nat → Nat → Nat) (cs : Nat → ClassId) (sk : (Nat → Nat) × (Nat → Nat)) (z : ZS) (p0 : Int32) (post : Int32 → ZS → Prop) (h : V_X11_northOfWay z p0 post) : MI l D ad cs sk yX11_northOfWay cX11_northOfWay 1 .int (rmq 0 0 0) [.int p0] z post := by
  refine MI.of RX11 rfl (by decide) (Nat.le_of_ble_eq_true rfl) ?_
  intro p e s m args below meth c A Q E hw hA hret ls hl
  have hx := E.1.1
  have hb := E.1.2.1
  have hml := E.1.2.2.1
  have hown := E.1.2.2.2.1
  have h0 := E.1.2.2.2.2
  have hl : lv_has ls 1 [(0, .int p0)] := hl
  unfold V_X11_northOfWay at h
  have b00 : ∀ (H : Heap) (locs : List Loc), OW D ad cs A s.heap z H locs → W p l e (rmq 0 0 0) s m args below meth c H locs 0 0 Q (F0 m 0 ls []) := by
    intro H locs hw
    refine lv_iload_n hx hb dX11_northOfWay_0 rfl (lv_at hl 0 rfl) ?_
    by_cases c1 : p0 = (3 : Int32)
    · replace h := h.1 c1
      refine lv_tableIn (tgt := 40) hx hb dX11_northOfWay_1 (by rw [c1]; decide) (by rw [c1]; decide) (by rw [c1]; rfl) (by decide) ?_
      refine lv_iconst (v := 1) hx hb dX11_northOfWay_40 (by decide) ?_
      exact hret (1 : Int32) z H locs 41 ls hw rfl h dX11_northOfWay_41
    · replace h := h.2 c1
      by_cases c2 : p0 = (4 : Int32)
      · replace h := h.1 c2
        refine lv_tableIn (tgt := 42) hx hb dX11_northOfWay_1 (by rw [c2]; decide) (by rw [c2]; decide) (by rw [c2]; rfl) (by decide) ?_
        refine lv_iconst (v := -1) hx hb dX11_northOfWay_42 (by decide) ?_
        exact hret (-1 : Int32) z H locs 43 ls hw rfl h dX11_northOfWay_43
      · replace h := h.2 c2
        by_cases c3 : p0 = (5 : Int32)
        · replace h := h.1 c3
          refine lv_tableIn (tgt := 40) hx hb dX11_northOfWay_1 (by rw [c3]; decide) (by rw [c3]; decide) (by rw [c3]; rfl) (by decide) ?_
          refine lv_iconst (v := 1) hx hb dX11_northOfWay_40 (by decide) ?_
          exact hret (1 : Int32) z H locs 41 ls hw rfl h dX11_northOfWay_41
        · replace h := h.2 c3
          by_cases c4 : p0 = (6 : Int32)
          · replace h := h.1 c4
            refine lv_tableIn (tgt := 40) hx hb dX11_northOfWay_1 (by rw [c4]; decide) (by rw [c4]; decide) (by rw [c4]; rfl) (by decide) ?_
            refine lv_iconst (v := 1) hx hb dX11_northOfWay_40 (by decide) ?_
            exact hret (1 : Int32) z H locs 41 ls hw rfl h dX11_northOfWay_41
          · replace h := h.2 c4
            by_cases c5 : p0 = (7 : Int32)
            · replace h := h.1 c5
              refine lv_tableIn (tgt := 42) hx hb dX11_northOfWay_1 (by rw [c5]; decide) (by rw [c5]; decide) (by rw [c5]; rfl) (by decide) ?_
              refine lv_iconst (v := -1) hx hb dX11_northOfWay_42 (by decide) ?_
              exact hret (-1 : Int32) z H locs 43 ls hw rfl h dX11_northOfWay_43
            · replace h := h.2 c5
              by_cases c6 : p0 = (8 : Int32)
              · replace h := h.1 c6
                refine lv_tableIn (tgt := 42) hx hb dX11_northOfWay_1 (by rw [c6]; decide) (by rw [c6]; decide) (by rw [c6]; rfl) (by decide) ?_
                refine lv_iconst (v := -1) hx hb dX11_northOfWay_42 (by decide) ?_
                exact hret (-1 : Int32) z H locs 43 ls hw rfl h dX11_northOfWay_43
              · replace h := h.2 c6
                refine lv_tableOut (tgt := 44) hx hb dX11_northOfWay_1 (by have n0 := lv_neT c1 (by decide : ((3 : Int32) : Int32).toInt = 3); have n1 := lv_neT c2 (by decide : ((4 : Int32) : Int32).toInt = 4); have n2 := lv_neT c3 (by decide : ((5 : Int32) : Int32).toInt = 5); have n3 := lv_neT c4 (by decide : ((6 : Int32) : Int32).toInt = 6); have n4 := lv_neT c5 (by decide : ((7 : Int32) : Int32).toInt = 7); have n5 := lv_neT c6 (by decide : ((8 : Int32) : Int32).toInt = 8); omega) (by decide) ?_
                refine lv_iconst (v := 0) hx hb dX11_northOfWay_44 (by decide) ?_
                exact hret (0 : Int32) z H locs 45 ls hw rfl h dX11_northOfWay_45
  exact b00 s.heap [] hw
