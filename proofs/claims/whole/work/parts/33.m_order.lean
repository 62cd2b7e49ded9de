theorem qf_12_43 : Cond.fieldLink RX12 43 "TenYardsModel" "line" "[I" ∈ W0 := w0_m (a := tables_1_5) 171 rfl tb_5 rfl
theorem qf_12_40 : Cond.fieldLink RX12 40 "TenYardsModel" "offs" "[I" ∈ W0 := w0_m (a := tables_1_5) 170 rfl tb_5 rfl
theorem qm_12_298 : Cond.methodLink RX12 298 yX12_lines ∈ W0 := w0_m (a := tables_1_7) 9 rfl tb_7 rfl
theorem qi_X12_lines : Cond.instanceMethod yX12_lines ∈ W0 := w0_m (a := tables_1_7) 11 rfl tb_7 rfl
theorem qe_X12_lines : Cond.selects RX12 yX12_lines yX12_lines ∈ W0 := w0_s 46 rfl rfl
theorem qc_X12_lines : Cond.code yX12_lines cX12_lines 6 none ∈ W0 := w0_m (a := tables_1_7) 12 rfl tb_7 rfl
theorem qf_12_292 : Cond.fieldLink RX12 292 "TenYardsModel" "bestSum" "I" ∈ W0 := w0_m (a := tables_1_5) 173 rfl tb_5 rfl
theorem qf_12_295 : Cond.fieldLink RX12 295 "TenYardsModel" "bestDigits" "I" ∈ W0 := w0_m (a := tables_1_5) 172 rfl tb_5 rfl
theorem kc_12_298 : cV RX12 298 RX12 yX12_lines cX12_lines 6 none := ⟨qm_12_298, qi_X12_lines, qe_X12_lines, qn_12, qc_X12_lines⟩
theorem yo_X12_lines : yOK yX12_lines 4 := by decide +kernel
theorem fo_12_31 : 31 < cN 12 ∧ fk 12 31 = 1 := by decide
theorem ky_14_31 : ((14, 31) : Nat × Nat) ∈ KY := by decide
theorem ka_14_31 : 31 ≠ 100 ∧ ak (14, 31) = 0 ∧ al (ci 14) 31 = 5 := by decide
theorem fo_12_30 : 30 < cN 12 ∧ fk 12 30 = 1 := by decide
theorem ky_14_30 : ((14, 30) : Nat × Nat) ∈ KY := by decide
theorem ka_14_30 : 30 ≠ 100 ∧ ak (14, 30) = 0 ∧ al (ci 14) 30 = 25 := by decide
theorem fo_12_33 : 33 < cN 12 ∧ fk 12 33 = 0 := by decide
theorem fp_12_33 : 33 < cN 12 ∧ fk 12 33 = 0 ∧ (cT 12 33).2.2.2 = false ∧ parseFieldDescriptor (cT 12 33).2.2.1 = some .int := by decide +kernel
theorem fp_12_32 : 32 < cN 12 ∧ fk 12 32 = 0 ∧ (cT 12 32).2.2.2 = false ∧ parseFieldDescriptor (cT 12 32).2.2.1 = some .int := by decide +kernel
theorem fo_12_32 : 32 < cN 12 ∧ fk 12 32 = 0 := by decide
def V_X12_lines_127 (self : ZS → Int32 → Int32 → Int32 → Int32 → (ZS → Prop) → Prop) (post : ZS → Prop) (rr72 : ZS → Int32 → Int32 → Int32 → Int32 → Int32 → Prop) (z : ZS) (v1 : Int32) (v2 : Int32) (v3 : Int32) (v4 : Int32) (v5 : Int32) : Prop := (∀ t7 : Int32, t7 = v5 + (1 : Int32) → rr72 z v1 v2 v3 v4 t7)
def V_X12_lines_72 (self : ZS → Int32 → Int32 → Int32 → Int32 → (ZS → Prop) → Prop) (post : ZS → Prop) : Nat → ZS → Int32 → Int32 → Int32 → Int32 → Int32 → Prop
  | 0, _, _, _, _, _, _ => False
  | (n + 1), z, v1, v2, v3, v4, v5 => ((v1 ≤ v5 → post z) ∧ (¬ v1 ≤ v5 → ((¬ ((v3 >>> (v5 &&& 31)) &&& (1 : Int32)) = (1 : Int32) → (vp_in v2 5 ∧ ∀ z4 : ZS, z4 = wR z 14 31 (Int32.toNatClampNeg v2) v5 → (vp_in (((5 : Int32) * v5) + v2) 25 ∧ self z4 v1 (v2 + (1 : Int32)) (v3 ||| ((1 : Int32) <<< (v5 &&& 31))) (v4 + (zR z4 14 30 (Int32.toNatClampNeg (((5 : Int32) * v5) + v2)))) (fun z5 => V_X12_lines_127 self post (V_X12_lines_72 self post n) z5 v1 v2 v3 v4 v5)))) ∧ (((v3 >>> (v5 &&& 31)) &&& (1 : Int32)) = (1 : Int32) → V_X12_lines_127 self post (V_X12_lines_72 self post n) z v1 v2 v3 v4 v5))))
def V_X12_lines_38 (self : ZS → Int32 → Int32 → Int32 → Int32 → (ZS → Prop) → Prop) (post : ZS → Prop) : Nat → ZS → Int32 → Prop
  | 0, _, _ => False
  | (n + 1), z, v5 => ((v5 < 0 → post z) ∧ (¬ v5 < 0 → (vp_in v5 5 ∧ (∀ z14 : ZS, z14 = wI z 14 32 (((10 : Int32) * (zI z 14 32)) + (zR z 14 31 (Int32.toNatClampNeg v5))) → (∀ t15 : Int32, t15 = v5 + (-1 : Int32) → (V_X12_lines_38 self post n) z14 t15)))))
def V_X12_lines_22 (self : ZS → Int32 → Int32 → Int32 → Int32 → (ZS → Prop) → Prop) (post : ZS → Prop) (z : ZS) (v1 : Int32) (v4 : Int32) : Prop := (∀ z10 : ZS, z10 = wI z 14 33 v4 → (∀ z11 : ZS, z11 = wI z10 14 32 (0 : Int32) → (∀ t12 : Int32, t12 = (v1 - (1 : Int32)) → (∃ n16 : Nat, V_X12_lines_38 self post n16 z11 t12))))
def V_X12_lines : Nat → ZS → Int32 → Int32 → Int32 → Int32 → (ZS → Prop) → Prop
  | 0, _, _, _, _, _, _ => False
  | (d + 1), z, p1, p2, p3, p4, post => ((¬ p2 = p1 → (∃ n8 : Nat, V_X12_lines_72 (V_X12_lines d) post n8 z p1 p2 p3 p4 (0 : Int32))) ∧ (p2 = p1 → (((zI z 14 33) < 0 → V_X12_lines_22 (V_X12_lines d) post z p1 p4) ∧ (¬ (zI z 14 33) < 0 → ((p4 < (zI z 14 33) → V_X12_lines_22 (V_X12_lines d) post z p1 p4) ∧ (¬ p4 < (zI z 14 33) → post z))))))
set_option maxHeartbeats 4000000 in
set_option maxRecDepth 100000 in
theorem c_X12_lines (l : Launch) (D : va_G) (ad : Nat → Nat → Nat) (cs : Nat → ClassId) (sk : (Nat → Nat) × (Nat → Nat)) : ∀ (d : Nat) (z : ZS) (p1 : Int32) (p2 : Int32) (p3 : Int32) (p4 : Int32) (post : ZS → Prop), V_X12_lines d z p1 p2 p3 p4 post → MV l D ad cs sk yX12_lines cX12_lines 6 (rmq d 0 0) [.ref (ad 14 100), .int p1, .int p2, .int p3, .int p4] z post := by
  intro d
  induction d with
  | zero =>
    intro z p1 p2 p3 p4 post h
    exact h.elim
  | succ d ih =>
    intro z p1 p2 p3 p4 post h
    refine MV.of RX12 rfl (by decide) (Nat.le_of_ble_eq_true rfl) ?_
    intro p e s m args below meth c A Q E hw hA hret ls hl
    have hx := E.1.1
    have hb := E.1.2.1
    have hml := E.1.2.2.1
    have hown := E.1.2.2.2.1
    have h0 := E.1.2.2.2.2
    have hl : lv_has ls 6 [(0, .ref (ad 14 100)), (1, .int p1), (2, .int p2), (3, .int p3), (4, .int p4)] := hl
    unfold V_X12_lines at h
    have b72 : ∀ (n : Nat) (z : ZS) (v1 : Int32) (v2 : Int32) (v3 : Int32) (v4 : Int32) (v5 : Int32), ∀ (H : Heap) (locs : List Loc), OW D ad cs A s.heap z H locs → ∀ ls : Array Slot, lv_has ls 6 [(0, .ref (ad 14 100)), (1, .int v1), (2, .int v2), (3, .int v3), (4, .int v4), (5, .int v5)] → V_X12_lines_72 (V_X12_lines d) post n z v1 v2 v3 v4 v5 → W p l e (rmq (d + 1) 0 0) s m args below meth c H locs 0 0 Q (F0 m 72 ls []) := by
      intro n
      induction n with
      | zero =>
        intro z v1 v2 v3 v4 v5 H locs hw ls hl h
        exact h.elim
      | succ n72x ih72 =>
        have b127 : ∀ (z : ZS) (v1 : Int32) (v2 : Int32) (v3 : Int32) (v4 : Int32) (v5 : Int32), ∀ (H : Heap) (locs : List Loc), OW D ad cs A s.heap z H locs → ∀ ls : Array Slot, lv_has ls 6 [(0, .ref (ad 14 100)), (1, .int v1), (2, .int v2), (3, .int v3), (4, .int v4), (5, .int v5)] → V_X12_lines_127 (V_X12_lines d) post (V_X12_lines_72 (V_X12_lines d) post n72x) z v1 v2 v3 v4 v5 → W p l e (rmq (d + 1) 0 0) s m args below meth c H locs 0 0 Q (F0 m 127 ls []) := by
          intro z v1 v2 v3 v4 v5 H locs hw ls hl h
          unfold V_X12_lines_127 at h
          obtain ⟨t7, et7⟩ : ∃ y : Int32, y = v5 + (1 : Int32) := ⟨_, rfl⟩
          replace h := h t7 et7
          refine lv_iinc (v := t7) (lv' := [(5, .int t7), (0, .ref (ad 14 100)), (1, .int v1), (2, .int v2), (3, .int v3), (4, .int v4)]) hx hb dX12_lines_127 hl (k := 5) rfl (by rw [et7]; rfl) (by decide) rfl (fun ls hl => ?_)
          refine lv_goto (tgt := 72) hx hb dX12_lines_130 (by decide) ?_
          exact ih72 z v1 v2 v3 v4 t7 H locs hw ls (lv_sub hl [1, 2, 3, 4, 5, 0] rfl) h
        intro z v1 v2 v3 v4 v5 H locs hw ls hl h
        unfold V_X12_lines_72 at h
        refine lv_iload hx hb dX12_lines_72 (lv_at hl 5 rfl) ?_
        refine lv_iload_n hx hb dX12_lines_74 rfl (lv_at hl 1 rfl) ?_
        refine lv_icmp_ge (tgt := 133) hx hb dX12_lines_75 (by decide) (fun c2 => ?_) (fun c2 => ?_)
        · replace h := h.1 c2
          exact hret z H locs 133 ls hw h dX12_lines_133
        · replace h := h.2 c2
          refine lv_iload_n hx hb dX12_lines_78 rfl (lv_at hl 3 rfl) ?_
          refine lv_iload hx hb dX12_lines_79 (lv_at hl 5 rfl) ?_
          refine lv_ishr hx hb dX12_lines_81 ?_
          refine lv_iconst (v := 1) hx hb dX12_lines_82 (by decide) ?_
          refine lv_iand hx hb dX12_lines_83 ?_
          refine lv_iconst (v := 1) hx hb dX12_lines_84 (by decide) ?_
          refine lv_icmp_ne (tgt := 91) hx hb dX12_lines_85 (by decide) (fun c3 => ?_) (fun c3 => ?_)
          · replace h := h.1 c3
            refine lv_aload_n hx hb dX12_lines_91 rfl (lv_at hl 0 rfl) ?_
            refine xgC E hw (c1 := 12) (t := (14, 31)) rfl ky_14_100 fo_12_31 rfl qf_12_43 dX12_lines_92 ?_
            refine lv_iload_n hx hb dX12_lines_95 rfl (lv_at hl 2 rfl) ?_
            refine lv_iload hx hb dX12_lines_96 (lv_at hl 5 rfl) ?_
            obtain ⟨hi, h⟩ := h
            refine xas E hw ky_14_31 ka_14_31 hi dX12_lines_98 (fun z4 ez4 H locs hw => ?_)
            replace h := h z4 ez4
            refine lv_aload_n hx hb dX12_lines_99 rfl (lv_at hl 0 rfl) ?_
            refine lv_iload_n hx hb dX12_lines_100 rfl (lv_at hl 1 rfl) ?_
            refine lv_iload_n hx hb dX12_lines_101 rfl (lv_at hl 2 rfl) ?_
            refine lv_iconst (v := 1) hx hb dX12_lines_102 (by decide) ?_
            refine lv_iadd hx hb dX12_lines_103 ?_
            refine lv_iload_n hx hb dX12_lines_104 rfl (lv_at hl 3 rfl) ?_
            refine lv_iconst (v := 1) hx hb dX12_lines_105 (by decide) ?_
            refine lv_iload hx hb dX12_lines_106 (lv_at hl 5 rfl) ?_
            refine lv_ishl hx hb dX12_lines_108 ?_
            refine lv_ior hx hb dX12_lines_109 ?_
            refine lv_iload hx hb dX12_lines_110 (lv_at hl 4 rfl) ?_
            refine lv_aload_n hx hb dX12_lines_112 rfl (lv_at hl 0 rfl) ?_
            refine xgC E hw (c1 := 12) (t := (14, 30)) rfl ky_14_100 fo_12_30 rfl qf_12_40 dX12_lines_113 ?_
            refine lv_iconst (v := 5) hx hb dX12_lines_116 (by decide) ?_
            refine lv_iload hx hb dX12_lines_117 (lv_at hl 5 rfl) ?_
            refine lv_imul hx hb dX12_lines_119 ?_
            refine lv_iload_n hx hb dX12_lines_120 rfl (lv_at hl 2 rfl) ?_
            refine lv_iadd hx hb dX12_lines_121 ?_
            obtain ⟨hi, h⟩ := h
            refine xal E hw ky_14_30 ka_14_30 hi dX12_lines_122 ?_
            refine lv_iadd hx hb dX12_lines_123 ?_
            have hq := h
            clear h
            refine xcVV (As := [.int v1, .int (v2 + (1 : Int32)), .int (v3 ||| ((1 : Int32) <<< (v5 &&& 31))), .int (v4 + (zR z4 14 30 (Int32.toNatClampNeg (((5 : Int32) * v5) + v2))))]) (rest := []) E hw hA (ih z4 v1 (v2 + (1 : Int32)) (v3 ||| ((1 : Int32) <<< (v5 &&& 31))) (v4 + (zR z4 14 30 (Int32.toNatClampNeg (((5 : Int32) * v5) + v2)))) _ hq) kc_12_298 yo_X12_lines ⟨by simp only [rmq]; omega, by simp only [rmq]; omega⟩ (xrc E hw ky_14_100 rfl) rfl hl.1 rfl (Nat.le_of_ble_eq_true rfl) dX12_lines_124 ⟨Nat.le_of_ble_eq_true rfl, Nat.le_of_ble_eq_true rfl⟩ (fun z5 H locs h hw => ?_)
            exact b127 z5 v1 v2 v3 v4 v5 H locs hw ls (lv_sub hl [0, 1, 2, 3, 4, 5] rfl) h
          · replace h := h.2 c3
            refine lv_goto (tgt := 127) hx hb dX12_lines_88 (by decide) ?_
            exact b127 z v1 v2 v3 v4 v5 H locs hw ls (lv_sub hl [0, 1, 2, 3, 4, 5] rfl) h
    have b38 : ∀ (n : Nat) (z : ZS) (v5 : Int32), ∀ (H : Heap) (locs : List Loc), OW D ad cs A s.heap z H locs → ∀ ls : Array Slot, lv_has ls 6 [(0, .ref (ad 14 100)), (5, .int v5)] → V_X12_lines_38 (V_X12_lines d) post n z v5 → W p l e (rmq (d + 1) 0 0) s m args below meth c H locs 0 0 Q (F0 m 38 ls []) := by
      intro n
      induction n with
      | zero =>
        intro z v5 H locs hw ls hl h
        exact h.elim
      | succ n38x ih38 =>
        intro z v5 H locs hw ls hl h
        unfold V_X12_lines_38 at h
        refine lv_iload hx hb dX12_lines_38 (lv_at hl 1 rfl) ?_
        refine lv_if_lt (tgt := 68) hx hb dX12_lines_40 (by decide) (fun c13 => ?_) (fun c13 => ?_)
        · replace h := h.1 c13
          exact hret z H locs 68 ls hw h dX12_lines_68
        · replace h := h.2 c13
          refine lv_aload_n hx hb dX12_lines_43 rfl (lv_at hl 0 rfl) ?_
          refine lv_bipush (v := 10) hx hb dX12_lines_44 (by decide) ?_
          refine lv_aload_n hx hb dX12_lines_46 rfl (lv_at hl 0 rfl) ?_
          refine xgI E hw (c1 := 12) rfl ky_14_100 fo_12_32 qf_12_295 dX12_lines_47 ?_
          refine lv_imul hx hb dX12_lines_50 ?_
          refine lv_aload_n hx hb dX12_lines_51 rfl (lv_at hl 0 rfl) ?_
          refine xgC E hw (c1 := 12) (t := (14, 31)) rfl ky_14_100 fo_12_31 rfl qf_12_43 dX12_lines_52 ?_
          refine lv_iload hx hb dX12_lines_55 (lv_at hl 1 rfl) ?_
          obtain ⟨hi, h⟩ := h
          refine xal E hw ky_14_31 ka_14_31 hi dX12_lines_57 ?_
          refine lv_iadd hx hb dX12_lines_58 ?_
          refine xpI E hw (c1 := 12) rfl ky_14_100 fp_12_32 rfl rfl qf_12_295 dX12_lines_59 (fun z14 ez14 H locs hw => ?_)
          replace h := h z14 ez14
          obtain ⟨t15, et15⟩ : ∃ y : Int32, y = v5 + (-1 : Int32) := ⟨_, rfl⟩
          replace h := h t15 et15
          refine lv_iinc (v := t15) (lv' := [(5, .int t15), (0, .ref (ad 14 100))]) hx hb dX12_lines_62 hl (k := 1) rfl (by rw [et15]; rfl) (by decide) rfl (fun ls hl => ?_)
          refine lv_goto (tgt := 38) hx hb dX12_lines_65 (by decide) ?_
          exact ih38 z14 t15 H locs hw ls (lv_sub hl [1, 0] rfl) h
    have b22 : ∀ (z : ZS) (v1 : Int32) (v4 : Int32), ∀ (H : Heap) (locs : List Loc), OW D ad cs A s.heap z H locs → ∀ ls : Array Slot, lv_has ls 6 [(0, .ref (ad 14 100)), (1, .int v1), (4, .int v4)] → V_X12_lines_22 (V_X12_lines d) post z v1 v4 → W p l e (rmq (d + 1) 0 0) s m args below meth c H locs 0 0 Q (F0 m 22 ls []) := by
      intro z v1 v4 H locs hw ls hl h
      unfold V_X12_lines_22 at h
      refine lv_aload_n hx hb dX12_lines_22 rfl (lv_at hl 0 rfl) ?_
      refine lv_iload hx hb dX12_lines_23 (lv_at hl 2 rfl) ?_
      refine xpI E hw (c1 := 12) rfl ky_14_100 fp_12_33 rfl rfl qf_12_292 dX12_lines_25 (fun z10 ez10 H locs hw => ?_)
      replace h := h z10 ez10
      refine lv_aload_n hx hb dX12_lines_28 rfl (lv_at hl 0 rfl) ?_
      refine lv_iconst (v := 0) hx hb dX12_lines_29 (by decide) ?_
      refine xpI E hw (c1 := 12) rfl ky_14_100 fp_12_32 rfl rfl qf_12_295 dX12_lines_30 (fun z11 ez11 H locs hw => ?_)
      replace h := h z11 ez11
      refine lv_iload_n hx hb dX12_lines_33 rfl (lv_at hl 1 rfl) ?_
      refine lv_iconst (v := 1) hx hb dX12_lines_34 (by decide) ?_
      refine lv_isub hx hb dX12_lines_35 ?_
      refine lv_topi (fun t12 et12 => ?_)
      replace h := h t12 et12
      refine lv_istore (lv' := [(5, .int t12), (0, .ref (ad 14 100)), (1, .int v1), (4, .int v4)]) hx hb dX12_lines_36 hl (by decide) rfl (fun ls hl => ?_)
      obtain ⟨n16, h⟩ := h
      exact b38 n16 z11 t12 H locs hw ls (lv_sub hl [1, 0] rfl) h
    have b00 : ∀ (H : Heap) (locs : List Loc), OW D ad cs A s.heap z H locs → W p l e (rmq (d + 1) 0 0) s m args below meth c H locs 0 0 Q (F0 m 0 ls []) := by
      intro H locs hw
      refine lv_iload_n hx hb dX12_lines_0 rfl (lv_at hl 2 rfl) ?_
      refine lv_iload_n hx hb dX12_lines_1 rfl (lv_at hl 1 rfl) ?_
      refine lv_icmp_ne (tgt := 69) hx hb dX12_lines_2 (by decide) (fun c1 => ?_) (fun c1 => ?_)
      · replace h := h.1 c1
        refine lv_iconst (v := 0) hx hb dX12_lines_69 (by decide) ?_
        refine lv_istore (lv' := [(5, .int (0 : Int32)), (0, .ref (ad 14 100)), (1, .int p1), (2, .int p2), (3, .int p3), (4, .int p4)]) hx hb dX12_lines_70 hl (by decide) rfl (fun ls hl => ?_)
        obtain ⟨n8, h⟩ := h
        exact b72 n8 z p1 p2 p3 p4 (0 : Int32) H locs hw ls (lv_sub hl [1, 2, 3, 4, 5, 0] rfl) h
      · replace h := h.2 c1
        refine lv_aload_n hx hb dX12_lines_5 rfl (lv_at hl 0 rfl) ?_
        refine xgI E hw (c1 := 12) rfl ky_14_100 fo_12_33 qf_12_292 dX12_lines_6 ?_
        refine lv_if_lt (tgt := 22) hx hb dX12_lines_9 (by decide) (fun c9 => ?_) (fun c9 => ?_)
        · replace h := h.1 c9
          exact b22 z p1 p4 H locs hw ls (lv_sub hl [0, 1, 4] rfl) h
        · replace h := h.2 c9
          refine lv_iload hx hb dX12_lines_12 (lv_at hl 4 rfl) ?_
          refine lv_aload_n hx hb dX12_lines_14 rfl (lv_at hl 0 rfl) ?_
          refine xgI E hw (c1 := 12) rfl ky_14_100 fo_12_33 qf_12_292 dX12_lines_15 ?_
          refine lv_icmp_lt (tgt := 22) hx hb dX12_lines_18 (by decide) (fun c17 => ?_) (fun c17 => ?_)
          · replace h := h.1 c17
            exact b22 z p1 p4 H locs hw ls (lv_sub hl [0, 1, 4] rfl) h
          · replace h := h.2 c17
            exact hret z H locs 21 ls hw h dX12_lines_21
    exact b00 s.heap [] hw
def V_X12_order_104 (post : Int32 → ZS → Prop) (rr68 : ZS → Int32 → Int32 → Int32 → Int32 → Int32 → Int32 → Prop) : Nat → ZS → Int32 → Int32 → Int32 → Int32 → Int32 → Int32 → Int32 → Prop
  | 0, _, _, _, _, _, _, _, _ => False
  | (n + 1), z, v1, v3, v4, v5, v7, v8, v9 => (vp_in v1 8 ∧ (((zR z 14 5 (Int32.toNatClampNeg v1)) ≤ v9 → (∀ t26 : Int32, t26 = v8 + (1 : Int32) → rr68 z v1 v3 v4 v5 v7 t26)) ∧ (¬ (zR z 14 5 (Int32.toNatClampNeg v1)) ≤ v9 → (vp_in (((100 : Int32) * v1) + v9) 800 ∧ V_X12_falls z (zR z 14 6 (Int32.toNatClampNeg (((100 : Int32) * v1) + v9))) v7 v3 (1 : Int32) (fun z27 => V_X12_off z27 (fun r30 z29 => (vp_in (((5 : Int32) * v9) + v8) 25 ∧ ∀ z31 : ZS, z31 = wR z29 14 30 (Int32.toNatClampNeg (((5 : Int32) * v9) + v8)) r30 → (∀ t32 : Int32, t32 = v9 + (1 : Int32) → (V_X12_order_104 post rr68 n) z31 v1 v3 v4 v5 v7 v8 t32))))))))
def V_X12_order_101 (post : Int32 → ZS → Prop) (rr68 : ZS → Int32 → Int32 → Int32 → Int32 → Int32 → Int32 → Prop) (z : ZS) (v1 : Int32) (v3 : Int32) (v4 : Int32) (v5 : Int32) (v7 : Int32) (v8 : Int32) : Prop := (∃ n33 : Nat, V_X12_order_104 post rr68 n33 z v1 v3 v4 v5 v7 v8 (0 : Int32))
def V_X12_order_68 (post : Int32 → ZS → Prop) : Nat → ZS → Int32 → Int32 → Int32 → Int32 → Int32 → Int32 → Prop
  | 0, _, _, _, _, _, _, _ => False
  | (n + 1), z, v1, v3, v4, v5, v7, v8 => (vp_in v1 8 ∧ (((zR z 14 5 (Int32.toNatClampNeg v1)) ≤ v8 → (∀ z20 : ZS, z20 = wI z 14 33 (-4 : Int32) → (vp_in v1 8 ∧ V_X12_lines 6 z20 (zR z20 14 5 (Int32.toNatClampNeg v1)) (0 : Int32) (0 : Int32) (0 : Int32) (fun z21 => ((¬ v5 = 0 → post (zI z21 14 33) z21) ∧ (v5 = 0 → post (zI z21 14 32) z21)))))) ∧ (¬ (zR z 14 5 (Int32.toNatClampNeg v1)) ≤ v8 → ((v8 ≤ 0 → V_X12_order_101 post (V_X12_order_68 post n) z v1 v3 v4 v5 v7 v8) ∧ (¬ v8 ≤ 0 → V_X12_held z (v7 + ((zR z 14 0 1) * v4)) (fun r35 z34 => V_X12_order_101 post (V_X12_order_68 post n) z34 v1 v3 v4 v5 r35 v8))))))
def V_X12_order (z : ZS) (p1 : Int32) (p2 : Int32) (p3 : Int32) (p4 : Int32) (p5 : Int32) (post : Int32 → ZS → Prop) : Prop := V_X12_isShelf z p1 (fun r2 z1 => ((r2 = 0 → post (-1 : Int32) z1) ∧ (¬ r2 = 0 → V_X12_isEdge z1 p2 (fun r5 z4 => ((r5 = 0 → post (-1 : Int32) z4) ∧ (¬ r5 = 0 → V_X12_isEdge z4 p3 (fun r8 z7 => ((r8 = 0 → post (-1 : Int32) z7) ∧ (¬ r8 = 0 → V_X12_isIn z7 (Int32.toInt64 p4) (1 : Int64) (20 : Int64) (fun r11 z10 => ((r11 = 0 → post (-1 : Int32) z10) ∧ (¬ r11 = 0 → V_X12_isIn z10 (Int32.toInt64 p5) (0 : Int64) (1 : Int64) (fun r14 z13 => ((¬ r14 = 0 → V_X12_wrongLoad z13 p1 (fun r17 z16 => ((r17 = 0 → (∃ n36 : Nat, V_X12_order_68 post n36 z16 p1 p3 p4 p5 p2 (0 : Int32))) ∧ (¬ r17 = 0 → post r17 z16)))) ∧ (r14 = 0 → post (-1 : Int32) z13)))))))))))))))
set_option maxHeartbeats 4000000 in
set_option maxRecDepth 100000 in
theorem c_X12_order (l : Launch) (D : va_G) (ad : Nat → Nat → Nat) (cs : Nat → ClassId) (sk : (Nat → Nat) × (Nat → Nat)) (z : ZS) (p1 : Int32) (p2 : Int32) (p3 : Int32) (p4 : Int32) (p5 : Int32) (post : Int32 → ZS → Prop) (h : V_X12_order z p1 p2 p3 p4 p5 post) : MI l D ad cs sk yX12_order cX12_order 10 .int (rmq 7 0 0) [.ref (ad 14 100), .int p1, .int p2, .int p3, .int p4, .int p5] z post := by
  refine MI.of RX12 rfl (by decide) (Nat.le_of_ble_eq_true rfl) ?_
  intro p e s m args below meth c A Q E hw hA hret ls hl
  have hx := E.1.1
  have hb := E.1.2.1
  have hml := E.1.2.2.1
  have hown := E.1.2.2.2.1
  have h0 := E.1.2.2.2.2
  have hl : lv_has ls 10 [(0, .ref (ad 14 100)), (1, .int p1), (2, .int p2), (3, .int p3), (4, .int p4), (5, .int p5)] := hl
  unfold V_X12_order at h
  have b68 : ∀ (n : Nat) (z : ZS) (v1 : Int32) (v3 : Int32) (v4 : Int32) (v5 : Int32) (v7 : Int32) (v8 : Int32), ∀ (H : Heap) (locs : List Loc), OW D ad cs A s.heap z H locs → ∀ ls : Array Slot, lv_has ls 10 [(0, .ref (ad 14 100)), (1, .int v1), (3, .int v3), (4, .int v4), (5, .int v5), (7, .int v7), (8, .int v8)] → V_X12_order_68 post n z v1 v3 v4 v5 v7 v8 → W p l e (rmq 7 0 0) s m args below meth c H locs 0 0 Q (F0 m 68 ls []) := by
    intro n
    induction n with
    | zero =>
      intro z v1 v3 v4 v5 v7 v8 H locs hw ls hl h
      exact h.elim
    | succ n68x ih68 =>
      have b104 : ∀ (n : Nat) (z : ZS) (v1 : Int32) (v3 : Int32) (v4 : Int32) (v5 : Int32) (v7 : Int32) (v8 : Int32) (v9 : Int32), ∀ (H : Heap) (locs : List Loc), OW D ad cs A s.heap z H locs → ∀ ls : Array Slot, lv_has ls 10 [(0, .ref (ad 14 100)), (1, .int v1), (3, .int v3), (4, .int v4), (5, .int v5), (7, .int v7), (8, .int v8), (9, .int v9)] → V_X12_order_104 post (V_X12_order_68 post n68x) n z v1 v3 v4 v5 v7 v8 v9 → W p l e (rmq 7 0 0) s m args below meth c H locs 0 0 Q (F0 m 104 ls []) := by
        intro n
        induction n with
        | zero =>
          intro z v1 v3 v4 v5 v7 v8 v9 H locs hw ls hl h
          exact h.elim
        | succ n104x ih104 =>
          intro z v1 v3 v4 v5 v7 v8 v9 H locs hw ls hl h
          unfold V_X12_order_104 at h
          refine lv_iload hx hb dX12_order_104 (lv_at hl 7 rfl) ?_
          refine lv_aload_n hx hb dX12_order_106 rfl (lv_at hl 0 rfl) ?_
          refine xgC E hw (c1 := 12) (t := (14, 5)) rfl ky_14_100 fo_12_5 rfl qf_12_25 dX12_order_107 ?_
          refine lv_iload_n hx hb dX12_order_110 rfl (lv_at hl 1 rfl) ?_
          obtain ⟨hi, h⟩ := h
          refine xal E hw ky_14_5 ka_14_5 hi dX12_order_111 ?_
          refine lv_icmp_ge (tgt := 157) hx hb dX12_order_112 (by decide) (fun c25 => ?_) (fun c25 => ?_)
          · replace h := h.1 c25
            obtain ⟨t26, et26⟩ : ∃ y : Int32, y = v8 + (1 : Int32) := ⟨_, rfl⟩
            replace h := h t26 et26
            refine lv_iinc (v := t26) (lv' := [(8, .int t26), (0, .ref (ad 14 100)), (1, .int v1), (3, .int v3), (4, .int v4), (5, .int v5), (7, .int v7), (9, .int v9)]) hx hb dX12_order_157 hl (k := 6) rfl (by rw [et26]; rfl) (by decide) rfl (fun ls hl => ?_)
            refine lv_goto (tgt := 68) hx hb dX12_order_160 (by decide) ?_
            exact ih68 z v1 v3 v4 v5 v7 t26 H locs hw ls (lv_sub hl [1, 2, 3, 4, 5, 6, 0] rfl) h
          · replace h := h.2 c25
            refine lv_aload_n hx hb dX12_order_115 rfl (lv_at hl 0 rfl) ?_
            refine lv_aload_n hx hb dX12_order_116 rfl (lv_at hl 0 rfl) ?_
            refine xgC E hw (c1 := 12) (t := (14, 6)) rfl ky_14_100 fo_12_6 rfl qf_12_28 dX12_order_117 ?_
            refine lv_bipush (v := 100) hx hb dX12_order_120 (by decide) ?_
            refine lv_iload_n hx hb dX12_order_122 rfl (lv_at hl 1 rfl) ?_
            refine lv_imul hx hb dX12_order_123 ?_
            refine lv_iload hx hb dX12_order_124 (lv_at hl 7 rfl) ?_
            refine lv_iadd hx hb dX12_order_126 ?_
            obtain ⟨hi, h⟩ := h
            refine xal E hw ky_14_6 ka_14_6 hi dX12_order_127 ?_
            refine lv_iload hx hb dX12_order_128 (lv_at hl 5 rfl) ?_
            refine lv_iload_n hx hb dX12_order_130 rfl (lv_at hl 2 rfl) ?_
            refine lv_iconst (v := 1) hx hb dX12_order_131 (by decide) ?_
            have hq := h
            clear h
            refine xcVV (As := [.int (zR z 14 6 (Int32.toNatClampNeg (((100 : Int32) * v1) + v9))), .int v7, .int v3, .int (1 : Int32)]) (rest := []) E hw hA (c_X12_falls l D ad cs sk z (zR z 14 6 (Int32.toNatClampNeg (((100 : Int32) * v1) + v9))) v7 v3 (1 : Int32) _ hq) kc_12_267 yo_X12_falls ⟨Nat.le_of_ble_eq_true rfl, Nat.le_of_ble_eq_true rfl⟩ (xrc E hw ky_14_100 rfl) rfl hl.1 rfl (Nat.le_of_ble_eq_true rfl) dX12_order_132 ⟨Nat.le_of_ble_eq_true rfl, Nat.le_of_ble_eq_true rfl⟩ (fun z27 H locs h hw => ?_)
            refine lv_aload_n hx hb dX12_order_135 rfl (lv_at hl 0 rfl) ?_
            refine xgC E hw (c1 := 12) (t := (14, 30)) rfl ky_14_100 fo_12_30 rfl qf_12_40 dX12_order_136 ?_
            refine lv_iconst (v := 5) hx hb dX12_order_139 (by decide) ?_
            refine lv_iload hx hb dX12_order_140 (lv_at hl 7 rfl) ?_
            refine lv_imul hx hb dX12_order_142 ?_
            refine lv_iload hx hb dX12_order_143 (lv_at hl 6 rfl) ?_
            refine lv_iadd hx hb dX12_order_145 ?_
            refine lv_aload_n hx hb dX12_order_146 rfl (lv_at hl 0 rfl) ?_
            have hq := h
            clear h
            refine xcVI (As := []) (rest := [.int (((5 : Int32) * v9) + v8), .ref (ad 14 30)]) E hw hA (c_X12_off l D ad cs sk z27 _ hq) kc_12_262 yo_X12_off ⟨Nat.le_of_ble_eq_true rfl, Nat.le_of_ble_eq_true rfl⟩ (xrc E hw ky_14_100 rfl) rfl hl.1 rfl (Nat.le_of_ble_eq_true rfl) dX12_order_147 ⟨Nat.le_of_ble_eq_true rfl, Nat.le_of_ble_eq_true rfl⟩ (fun r30 z29 H locs h hw => ?_)
            obtain ⟨hi, h⟩ := h
            refine xas E hw ky_14_30 ka_14_30 hi dX12_order_150 (fun z31 ez31 H locs hw => ?_)
            replace h := h z31 ez31
            obtain ⟨t32, et32⟩ : ∃ y : Int32, y = v9 + (1 : Int32) := ⟨_, rfl⟩
            replace h := h t32 et32
            refine lv_iinc (v := t32) (lv' := [(9, .int t32), (0, .ref (ad 14 100)), (1, .int v1), (3, .int v3), (4, .int v4), (5, .int v5), (7, .int v7), (8, .int v8)]) hx hb dX12_order_151 hl (k := 7) rfl (by rw [et32]; rfl) (by decide) rfl (fun ls hl => ?_)
            refine lv_goto (tgt := 104) hx hb dX12_order_154 (by decide) ?_
            exact ih104 z31 v1 v3 v4 v5 v7 v8 t32 H locs hw ls (lv_sub hl [1, 2, 3, 4, 5, 6, 7, 0] rfl) h
      have b101 : ∀ (z : ZS) (v1 : Int32) (v3 : Int32) (v4 : Int32) (v5 : Int32) (v7 : Int32) (v8 : Int32), ∀ (H : Heap) (locs : List Loc), OW D ad cs A s.heap z H locs → ∀ ls : Array Slot, lv_has ls 10 [(0, .ref (ad 14 100)), (1, .int v1), (3, .int v3), (4, .int v4), (5, .int v5), (7, .int v7), (8, .int v8)] → V_X12_order_101 post (V_X12_order_68 post n68x) z v1 v3 v4 v5 v7 v8 → W p l e (rmq 7 0 0) s m args below meth c H locs 0 0 Q (F0 m 101 ls []) := by
        intro z v1 v3 v4 v5 v7 v8 H locs hw ls hl h
        unfold V_X12_order_101 at h
        refine lv_iconst (v := 0) hx hb dX12_order_101 (by decide) ?_
        refine lv_istore (lv' := [(9, .int (0 : Int32)), (0, .ref (ad 14 100)), (1, .int v1), (3, .int v3), (4, .int v4), (5, .int v5), (7, .int v7), (8, .int v8)]) hx hb dX12_order_102 hl (by decide) rfl (fun ls hl => ?_)
        obtain ⟨n33, h⟩ := h
        exact b104 n33 z v1 v3 v4 v5 v7 v8 (0 : Int32) H locs hw ls (lv_sub hl [1, 2, 3, 4, 5, 6, 7, 0] rfl) h
      intro z v1 v3 v4 v5 v7 v8 H locs hw ls hl h
      unfold V_X12_order_68 at h
      refine lv_iload hx hb dX12_order_68 (lv_at hl 6 rfl) ?_
      refine lv_aload_n hx hb dX12_order_70 rfl (lv_at hl 0 rfl) ?_
      refine xgC E hw (c1 := 12) (t := (14, 5)) rfl ky_14_100 fo_12_5 rfl qf_12_25 dX12_order_71 ?_
      refine lv_iload_n hx hb dX12_order_74 rfl (lv_at hl 1 rfl) ?_
      obtain ⟨hi, h⟩ := h
      refine xal E hw ky_14_5 ka_14_5 hi dX12_order_75 ?_
      refine lv_icmp_ge (tgt := 163) hx hb dX12_order_76 (by decide) (fun c19 => ?_) (fun c19 => ?_)
      · replace h := h.1 c19
        refine lv_aload_n hx hb dX12_order_163 rfl (lv_at hl 0 rfl) ?_
        refine lv_bipush (v := -4) hx hb dX12_order_164 (by decide) ?_
        refine xpI E hw (c1 := 12) rfl ky_14_100 fp_12_33 rfl rfl qf_12_292 dX12_order_166 (fun z20 ez20 H locs hw => ?_)
        replace h := h z20 ez20
        refine lv_aload_n hx hb dX12_order_169 rfl (lv_at hl 0 rfl) ?_
        refine lv_aload_n hx hb dX12_order_170 rfl (lv_at hl 0 rfl) ?_
        refine xgC E hw (c1 := 12) (t := (14, 5)) rfl ky_14_100 fo_12_5 rfl qf_12_25 dX12_order_171 ?_
        refine lv_iload_n hx hb dX12_order_174 rfl (lv_at hl 1 rfl) ?_
        obtain ⟨hi, h⟩ := h
        refine xal E hw ky_14_5 ka_14_5 hi dX12_order_175 ?_
        refine lv_iconst (v := 0) hx hb dX12_order_176 (by decide) ?_
        refine lv_iconst (v := 0) hx hb dX12_order_177 (by decide) ?_
        refine lv_iconst (v := 0) hx hb dX12_order_178 (by decide) ?_
        have hq := h
        clear h
        refine xcVV (As := [.int (zR z20 14 5 (Int32.toNatClampNeg v1)), .int (0 : Int32), .int (0 : Int32), .int (0 : Int32)]) (rest := []) E hw hA (c_X12_lines l D ad cs sk 6 z20 (zR z20 14 5 (Int32.toNatClampNeg v1)) (0 : Int32) (0 : Int32) (0 : Int32) _ hq) kc_12_298 yo_X12_lines ⟨Nat.le_of_ble_eq_true rfl, Nat.le_of_ble_eq_true rfl⟩ (xrc E hw ky_14_100 rfl) rfl hl.1 rfl (Nat.le_of_ble_eq_true rfl) dX12_order_179 ⟨Nat.le_of_ble_eq_true rfl, Nat.le_of_ble_eq_true rfl⟩ (fun z21 H locs h hw => ?_)
        refine lv_iload hx hb dX12_order_182 (lv_at hl 4 rfl) ?_
        refine lv_if_ne (tgt := 194) hx hb dX12_order_184 (by decide) (fun c23 => ?_) (fun c23 => ?_)
        · replace h := h.1 c23
          refine lv_aload_n hx hb dX12_order_194 rfl (lv_at hl 0 rfl) ?_
          refine xgI E hw (c1 := 12) rfl ky_14_100 fo_12_33 qf_12_292 dX12_order_195 ?_
          exact hret (zI z21 14 33) z21 H locs 198 ls hw rfl h dX12_order_198
        · replace h := h.2 c23
          refine lv_aload_n hx hb dX12_order_187 rfl (lv_at hl 0 rfl) ?_
          refine xgI E hw (c1 := 12) rfl ky_14_100 fo_12_32 qf_12_295 dX12_order_188 ?_
          refine lv_goto (tgt := 198) hx hb dX12_order_191 (by decide) ?_
          exact hret (zI z21 14 32) z21 H locs 198 ls hw rfl h dX12_order_198
      · replace h := h.2 c19
        refine lv_iload hx hb dX12_order_79 (lv_at hl 6 rfl) ?_
        refine lv_if_le (tgt := 101) hx hb dX12_order_81 (by decide) (fun c24 => ?_) (fun c24 => ?_)
        · replace h := h.1 c24
          exact b101 z v1 v3 v4 v5 v7 v8 H locs hw ls (lv_sub hl [0, 1, 2, 3, 4, 5, 6] rfl) h
        · replace h := h.2 c24
          refine lv_iload hx hb dX12_order_84 (lv_at hl 5 rfl) ?_
          refine lv_aload_n hx hb dX12_order_86 rfl (lv_at hl 0 rfl) ?_
          refine xgC E hw (c1 := 12) (t := (14, 0)) rfl ky_14_100 fo_12_0 rfl qf_12_9 dX12_order_87 ?_
          refine lv_iconst (v := 1) hx hb dX12_order_90 (by decide) ?_
          refine xalL (j := 1) E hw ky_14_0 ka_14_0 (by decide) (by decide) dX12_order_91 ?_
          refine lv_iload hx hb dX12_order_92 (lv_at hl 3 rfl) ?_
          refine lv_imul hx hb dX12_order_94 ?_
          refine lv_iadd hx hb dX12_order_95 ?_
          have hq := h
          clear h
          refine xcSI (As := [.int (v7 + ((zR z 14 0 1) * v4))]) (rest := []) E hw hA (c_X12_held l D ad cs sk z (v7 + ((zR z 14 0 1) * v4)) _ hq) kc_12_230 yo_X12_held ⟨Nat.le_of_ble_eq_true rfl, Nat.le_of_ble_eq_true rfl⟩ rfl hl.1 rfl (Nat.le_of_ble_eq_true rfl) dX12_order_96 ⟨Nat.le_of_ble_eq_true rfl, Nat.le_of_ble_eq_true rfl⟩ (fun r35 z34 H locs h hw => ?_)
          refine lv_istore (lv' := [(7, .int r35), (0, .ref (ad 14 100)), (1, .int v1), (3, .int v3), (4, .int v4), (5, .int v5), (8, .int v8)]) hx hb dX12_order_99 hl (by decide) rfl (fun ls hl => ?_)
          exact b101 z34 v1 v3 v4 v5 r35 v8 H locs hw ls (lv_sub hl [1, 2, 3, 4, 5, 0, 6] rfl) h
  have b00 : ∀ (H : Heap) (locs : List Loc), OW D ad cs A s.heap z H locs → W p l e (rmq 7 0 0) s m args below meth c H locs 0 0 Q (F0 m 0 ls []) := by
    intro H locs hw
    refine lv_iload_n hx hb dX12_order_0 rfl (lv_at hl 1 rfl) ?_
    have hq := h
    clear h
    refine xcSI (As := [.int p1]) (rest := []) E hw hA (c_X12_isShelf l D ad cs sk z p1 _ hq) kc_12_125 yo_X12_isShelf ⟨Nat.le_of_ble_eq_true rfl, Nat.le_of_ble_eq_true rfl⟩ rfl hl.1 rfl (Nat.le_of_ble_eq_true rfl) dX12_order_1 ⟨Nat.le_of_ble_eq_true rfl, Nat.le_of_ble_eq_true rfl⟩ (fun r2 z1 H locs h hw => ?_)
    refine lv_if_eq (tgt := 45) hx hb dX12_order_4 (by decide) (fun c3 => ?_) (fun c3 => ?_)
    · replace h := h.1 c3
      refine lv_iconst (v := -1) hx hb dX12_order_45 (by decide) ?_
      exact hret (-1 : Int32) z1 H locs 46 ls hw rfl h dX12_order_46
    · replace h := h.2 c3
      refine lv_iload_n hx hb dX12_order_7 rfl (lv_at hl 2 rfl) ?_
      have hq := h
      clear h
      refine xcSI (As := [.int p2]) (rest := []) E hw hA (c_X12_isEdge l D ad cs sk z1 p2 _ hq) kc_12_184 yo_X12_isEdge ⟨Nat.le_of_ble_eq_true rfl, Nat.le_of_ble_eq_true rfl⟩ rfl hl.1 rfl (Nat.le_of_ble_eq_true rfl) dX12_order_8 ⟨Nat.le_of_ble_eq_true rfl, Nat.le_of_ble_eq_true rfl⟩ (fun r5 z4 H locs h hw => ?_)
      refine lv_if_eq (tgt := 45) hx hb dX12_order_11 (by decide) (fun c6 => ?_) (fun c6 => ?_)
      · replace h := h.1 c6
        refine lv_iconst (v := -1) hx hb dX12_order_45 (by decide) ?_
        exact hret (-1 : Int32) z4 H locs 46 ls hw rfl h dX12_order_46
      · replace h := h.2 c6
        refine lv_iload_n hx hb dX12_order_14 rfl (lv_at hl 3 rfl) ?_
        have hq := h
        clear h
        refine xcSI (As := [.int p3]) (rest := []) E hw hA (c_X12_isEdge l D ad cs sk z4 p3 _ hq) kc_12_184 yo_X12_isEdge ⟨Nat.le_of_ble_eq_true rfl, Nat.le_of_ble_eq_true rfl⟩ rfl hl.1 rfl (Nat.le_of_ble_eq_true rfl) dX12_order_15 ⟨Nat.le_of_ble_eq_true rfl, Nat.le_of_ble_eq_true rfl⟩ (fun r8 z7 H locs h hw => ?_)
        refine lv_if_eq (tgt := 45) hx hb dX12_order_18 (by decide) (fun c9 => ?_) (fun c9 => ?_)
        · replace h := h.1 c9
          refine lv_iconst (v := -1) hx hb dX12_order_45 (by decide) ?_
          exact hret (-1 : Int32) z7 H locs 46 ls hw rfl h dX12_order_46
        · replace h := h.2 c9
          refine lv_iload hx hb dX12_order_21 (lv_at hl 4 rfl) ?_
          refine lv_i2l hx hb dX12_order_23 rfl ?_
          refine lv_lconst (v := 1) hx hb dX12_order_24 (by decide) ?_
          refine lv_ldc2 (v := 20) hx hb hown (h0 _ ql_12_281) dX12_order_25 ?_
          have hq := h
          clear h
          refine xcSI (As := [.long (Int32.toInt64 p4), .long (1 : Int64), .long (20 : Int64)]) (rest := []) E hw hA (c_X12_isIn l D ad cs sk z7 (Int32.toInt64 p4) (1 : Int64) (20 : Int64) _ hq) kc_12_56 yo_X12_isIn ⟨Nat.le_of_ble_eq_true rfl, Nat.le_of_ble_eq_true rfl⟩ rfl hl.1 rfl (Nat.le_of_ble_eq_true rfl) dX12_order_28 ⟨Nat.le_of_ble_eq_true rfl, Nat.le_of_ble_eq_true rfl⟩ (fun r11 z10 H locs h hw => ?_)
          refine lv_if_eq (tgt := 45) hx hb dX12_order_31 (by decide) (fun c12 => ?_) (fun c12 => ?_)
          · replace h := h.1 c12
            refine lv_iconst (v := -1) hx hb dX12_order_45 (by decide) ?_
            exact hret (-1 : Int32) z10 H locs 46 ls hw rfl h dX12_order_46
          · replace h := h.2 c12
            refine lv_iload hx hb dX12_order_34 (lv_at hl 5 rfl) ?_
            refine lv_i2l hx hb dX12_order_36 rfl ?_
            refine lv_lconst (v := 0) hx hb dX12_order_37 (by decide) ?_
            refine lv_lconst (v := 1) hx hb dX12_order_38 (by decide) ?_
            have hq := h
            clear h
            refine xcSI (As := [.long (Int32.toInt64 p5), .long (0 : Int64), .long (1 : Int64)]) (rest := []) E hw hA (c_X12_isIn l D ad cs sk z10 (Int32.toInt64 p5) (0 : Int64) (1 : Int64) _ hq) kc_12_56 yo_X12_isIn ⟨Nat.le_of_ble_eq_true rfl, Nat.le_of_ble_eq_true rfl⟩ rfl hl.1 rfl (Nat.le_of_ble_eq_true rfl) dX12_order_39 ⟨Nat.le_of_ble_eq_true rfl, Nat.le_of_ble_eq_true rfl⟩ (fun r14 z13 H locs h hw => ?_)
            refine lv_if_ne (tgt := 47) hx hb dX12_order_42 (by decide) (fun c15 => ?_) (fun c15 => ?_)
            · replace h := h.1 c15
              refine lv_aload_n hx hb dX12_order_47 rfl (lv_at hl 0 rfl) ?_
              refine lv_iload_n hx hb dX12_order_48 rfl (lv_at hl 1 rfl) ?_
              have hq := h
              clear h
              refine xcVI (As := [.int p1]) (rest := []) E hw hA (c_X12_wrongLoad l D ad cs sk z13 p1 _ hq) kc_12_285 yo_X12_wrongLoad ⟨Nat.le_of_ble_eq_true rfl, Nat.le_of_ble_eq_true rfl⟩ (xrc E hw ky_14_100 rfl) rfl hl.1 rfl (Nat.le_of_ble_eq_true rfl) dX12_order_49 ⟨Nat.le_of_ble_eq_true rfl, Nat.le_of_ble_eq_true rfl⟩ (fun r17 z16 H locs h hw => ?_)
              refine lv_istore (lv' := [(6, .int r17), (0, .ref (ad 14 100)), (1, .int p1), (2, .int p2), (3, .int p3), (4, .int p4), (5, .int p5)]) hx hb dX12_order_52 hl (by decide) rfl (fun ls hl => ?_)
              refine lv_iload hx hb dX12_order_54 (lv_at hl 0 rfl) ?_
              refine lv_if_eq (tgt := 62) hx hb dX12_order_56 (by decide) (fun c18 => ?_) (fun c18 => ?_)
              · replace h := h.1 c18
                refine lv_iload_n hx hb dX12_order_62 rfl (lv_at hl 3 rfl) ?_
                refine lv_istore (lv' := [(7, .int p2), (6, .int r17), (0, .ref (ad 14 100)), (1, .int p1), (2, .int p2), (3, .int p3), (4, .int p4), (5, .int p5)]) hx hb dX12_order_63 hl (by decide) rfl (fun ls hl => ?_)
                refine lv_iconst (v := 0) hx hb dX12_order_65 (by decide) ?_
                refine lv_istore (lv' := [(8, .int (0 : Int32)), (7, .int p2), (6, .int r17), (0, .ref (ad 14 100)), (1, .int p1), (2, .int p2), (3, .int p3), (4, .int p4), (5, .int p5)]) hx hb dX12_order_66 hl (by decide) rfl (fun ls hl => ?_)
                obtain ⟨n36, h⟩ := h
                exact b68 n36 z16 p1 p3 p4 p5 p2 (0 : Int32) H locs hw ls (lv_sub hl [3, 4, 6, 7, 8, 1, 0] rfl) h
              · replace h := h.2 c18
                refine lv_iload hx hb dX12_order_59 (lv_at hl 0 rfl) ?_
                exact hret r17 z16 H locs 61 ls hw rfl h dX12_order_61
            · replace h := h.2 c15
              refine lv_iconst (v := -1) hx hb dX12_order_45 (by decide) ?_
              exact hret (-1 : Int32) z13 H locs 46 ls hw rfl h dX12_order_46
  exact b00 s.heap [] hw
