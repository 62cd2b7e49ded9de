def V_X3_goOn_103 (o0 : Nat) (post : ZS → Prop) (rr2 : ZS → Int32 → Int32 → Prop) (z : ZS) (v1 : Int32) (v2 : Int32) : Prop := (∀ z8 : ZS, z8 = wI z o0 5 ((zI z o0 5) + (1 : Int32)) → V_X3_held z8 (zI z8 o0 2) (fun r10 z9 => (∀ z11 : ZS, z11 = wI z9 o0 2 r10 → V_X3_held z11 (zI z11 o0 3) (fun r13 z12 => (∀ z14 : ZS, z14 = wI z12 o0 3 r13 → (∀ z15 : ZS, z15 = wI z14 o0 4 (if (0 : Int32) < (zI z14 o0 4) then (zI z14 o0 4) else (0 : Int32)) → (∀ t16 : Int32, t16 = v2 + (1 : Int32) → rr2 z15 v1 t16)))))))
def V_X3_goOn_90 (o0 : Nat) (post : ZS → Prop) (rr2 : ZS → Int32 → Int32 → Prop) (z : ZS) (v1 : Int32) (v2 : Int32) (v3 : Int32) (s1 : Int32) (s2 : Int32) : Prop := (vp_in v3 10 ∧ V_X3_sink z o0 (s1 + s2) (zR z 1 1 (Int32.toNatClampNeg v3)) (fun z6 => V_X3_goOn_103 o0 post rr2 z6 v1 v2))
def V_X3_goOn_2 (o0 : Nat) (post : ZS → Prop) : Nat → ZS → Int32 → Int32 → Prop
  | 0, _, _, _ => False
  | (n + 1), z, v1, v2 => ((v1 ≤ v2 → post z) ∧ (¬ v1 ≤ v2 → (((zI z o0 4) ≤ 0 → post z) ∧ (¬ (zI z o0 4) ≤ 0 → (∀ t3 : Int32, t3 = (if (0 : Int32) < (if (9 : Int32) < ((zI z o0 4) / (300 : Int32)) then (9 : Int32) else ((zI z o0 4) / (300 : Int32))) then (if (9 : Int32) < ((zI z o0 4) / (300 : Int32)) then (9 : Int32) else ((zI z o0 4) / (300 : Int32))) else (0 : Int32)) → (((zI z o0 7) ≤ (zI z o0 5) → (vp_in t3 10 ∧ ((¬ t3 = 0 → V_X3_goOn_90 o0 post (V_X3_goOn_2 o0 post n) z v1 v2 t3 (zR z 1 0 (Int32.toNatClampNeg t3)) (0 : Int32)) ∧ (t3 = 0 → V_X3_puff z o0 (fun r18 z17 => V_X3_goOn_90 o0 post (V_X3_goOn_2 o0 post n) z17 v1 v2 t3 (zR z 1 0 (Int32.toNatClampNeg t3)) r18))))) ∧ (¬ (zI z o0 7) ≤ (zI z o0 5) → (vp_in t3 10 ∧ (vp_in t3 10 ∧ V_X3_plunge z o0 (zR z 1 0 (Int32.toNatClampNeg t3)) (zR z 1 1 (Int32.toNatClampNeg t3)) (fun z19 => V_X3_goOn_103 o0 post (V_X3_goOn_2 o0 post n) z19 v1 v2))))))))))
def V_X3_goOn (z : ZS) (o0 : Nat) (p1 : Int32) (post : ZS → Prop) : Prop := (∃ n21 : Nat, V_X3_goOn_2 o0 post n21 z p1 (0 : Int32))
set_option maxHeartbeats 4000000 in
set_option maxRecDepth 100000 in
theorem c_X3_goOn (l : Launch) (D : va_G) (ad : Nat → Nat → Nat) (cs : Nat → ClassId) (sk : (Nat → Nat) × (Nat → Nat)) (z : ZS) (o0 : Nat) (p1 : Int32) (post : ZS → Prop) (ho0 : isL o0) (h : V_X3_goOn z o0 p1 post) : MV l D ad cs sk yX3_goOn cX3_goOn 4 (rmq 4 0 0) [.ref (ad o0 100), .int p1] z post := by
  refine MV.of RX3 rfl (by decide) (Nat.le_of_ble_eq_true rfl) ?_
  intro p e s m args below meth c A Q E hw hA hret ls hl
  have hx := E.1.1
  have hb := E.1.2.1
  have hml := E.1.2.2.1
  have hown := E.1.2.2.2.1
  have h0 := E.1.2.2.2.2
  have hl : lv_has ls 4 [(0, .ref (ad o0 100)), (1, .int p1)] := hl
  unfold V_X3_goOn at h
  have b2 : ∀ (n : Nat) (z : ZS) (v1 : Int32) (v2 : Int32), ∀ (H : Heap) (locs : List Loc), OW D ad cs A s.heap z H locs → ∀ ls : Array Slot, lv_has ls 4 [(0, .ref (ad o0 100)), (1, .int v1), (2, .int v2)] → V_X3_goOn_2 o0 post n z v1 v2 → W p l e (rmq 4 0 0) s m args below meth c H locs 0 0 Q (F0 m 2 ls []) := by
    intro n
    induction n with
    | zero =>
      intro z v1 v2 H locs hw ls hl h
      exact h.elim
    | succ n2x ih2 =>
      have b103 : ∀ (z : ZS) (v1 : Int32) (v2 : Int32), ∀ (H : Heap) (locs : List Loc), OW D ad cs A s.heap z H locs → ∀ ls : Array Slot, lv_has ls 4 [(0, .ref (ad o0 100)), (1, .int v1), (2, .int v2)] → V_X3_goOn_103 o0 post (V_X3_goOn_2 o0 post n2x) z v1 v2 → W p l e (rmq 4 0 0) s m args below meth c H locs 0 0 Q (F0 m 103 ls []) := by
        intro z v1 v2 H locs hw ls hl h
        unfold V_X3_goOn_103 at h
        refine lv_aload_n hx hb dX3_goOn_103 rfl (lv_at hl 0 rfl) ?_
        refine lv_dup hx hb dX3_goOn_104 rfl ?_
        refine xgI E hw (c1 := 3) (ciisL ho0) (kyisL_100 ho0) fo_3_5 qf_3_30 dX3_goOn_105 ?_
        refine lv_iconst (v := 1) hx hb dX3_goOn_108 (by decide) ?_
        refine lv_iadd hx hb dX3_goOn_109 ?_
        refine xpI E hw (c1 := 3) (ciisL ho0) (kyisL_100 ho0) fp_3_5 rfl rfl qf_3_30 dX3_goOn_110 (fun z8 ez8 H locs hw => ?_)
        replace h := h z8 ez8
        refine lv_aload_n hx hb dX3_goOn_113 rfl (lv_at hl 0 rfl) ?_
        refine lv_aload_n hx hb dX3_goOn_114 rfl (lv_at hl 0 rfl) ?_
        refine xgI E hw (c1 := 3) (ciisL ho0) (kyisL_100 ho0) fo_3_2 qf_3_20 dX3_goOn_115 ?_
        have hq := h
        clear h
        refine xcSI (As := [.int (zI z8 o0 2)]) (rest := [.ref (ad o0 100)]) E hw hA (c_X3_held l D ad cs sk z8 (zI z8 o0 2) _ hq) kc_3_101 yo_X3_held ⟨Nat.le_of_ble_eq_true rfl, Nat.le_of_ble_eq_true rfl⟩ rfl hl.1 rfl (Nat.le_of_ble_eq_true rfl) dX3_goOn_118 ⟨Nat.le_of_ble_eq_true rfl, Nat.le_of_ble_eq_true rfl⟩ (fun r10 z9 H locs h hw => ?_)
        refine xpI E hw (c1 := 3) (ciisL ho0) (kyisL_100 ho0) fp_3_2 rfl rfl qf_3_20 dX3_goOn_121 (fun z11 ez11 H locs hw => ?_)
        replace h := h z11 ez11
        refine lv_aload_n hx hb dX3_goOn_124 rfl (lv_at hl 0 rfl) ?_
        refine lv_aload_n hx hb dX3_goOn_125 rfl (lv_at hl 0 rfl) ?_
        refine xgI E hw (c1 := 3) (ciisL ho0) (kyisL_100 ho0) fo_3_3 qf_3_24 dX3_goOn_126 ?_
        have hq := h
        clear h
        refine xcSI (As := [.int (zI z11 o0 3)]) (rest := [.ref (ad o0 100)]) E hw hA (c_X3_held l D ad cs sk z11 (zI z11 o0 3) _ hq) kc_3_101 yo_X3_held ⟨Nat.le_of_ble_eq_true rfl, Nat.le_of_ble_eq_true rfl⟩ rfl hl.1 rfl (Nat.le_of_ble_eq_true rfl) dX3_goOn_129 ⟨Nat.le_of_ble_eq_true rfl, Nat.le_of_ble_eq_true rfl⟩ (fun r13 z12 H locs h hw => ?_)
        refine xpI E hw (c1 := 3) (ciisL ho0) (kyisL_100 ho0) fp_3_3 rfl rfl qf_3_24 dX3_goOn_132 (fun z14 ez14 H locs hw => ?_)
        replace h := h z14 ez14
        refine lv_aload_n hx hb dX3_goOn_135 rfl (lv_at hl 0 rfl) ?_
        refine lv_iconst (v := 0) hx hb dX3_goOn_136 (by decide) ?_
        refine lv_aload_n hx hb dX3_goOn_137 rfl (lv_at hl 0 rfl) ?_
        refine xgI E hw (c1 := 3) (ciisL ho0) (kyisL_100 ho0) fo_3_4 qf_3_27 dX3_goOn_138 ?_
        refine va_mmax hx hb (hml.trans hl.1.symm) hown (h0 _ qm_3_62) (h0 _ qs_ib_Math_max_name) (h0 _ qn_Math) (h0 _ qc_Math_max) (Nat.le_of_ble_eq_true rfl) (Nat.le_of_ble_eq_true rfl) (Nat.le_of_ble_eq_true rfl) (Nat.le_of_ble_eq_true rfl) dX3_goOn_141 ?_
        refine xpI E hw (c1 := 3) (ciisL ho0) (kyisL_100 ho0) fp_3_4 rfl rfl qf_3_27 dX3_goOn_144 (fun z15 ez15 H locs hw => ?_)
        replace h := h z15 ez15
        obtain ⟨t16, et16⟩ : ∃ y : Int32, y = v2 + (1 : Int32) := ⟨_, rfl⟩
        replace h := h t16 et16
        refine lv_iinc (v := t16) (lv' := [(2, .int t16), (0, .ref (ad o0 100)), (1, .int v1)]) hx hb dX3_goOn_147 hl (k := 2) rfl (by rw [et16]; rfl) (by decide) rfl (fun ls hl => ?_)
        refine lv_goto (tgt := 2) hx hb dX3_goOn_150 (by decide) ?_
        exact ih2 z15 v1 t16 H locs hw ls (lv_sub hl [1, 2, 0] rfl) h
      have b90 : ∀ (z : ZS) (v1 : Int32) (v2 : Int32) (v3 : Int32) (s1 : Int32) (s2 : Int32), ∀ (H : Heap) (locs : List Loc), OW D ad cs A s.heap z H locs → ∀ ls : Array Slot, lv_has ls 4 [(0, .ref (ad o0 100)), (1, .int v1), (2, .int v2), (3, .int v3)] → V_X3_goOn_90 o0 post (V_X3_goOn_2 o0 post n2x) z v1 v2 v3 s1 s2 → W p l e (rmq 4 0 0) s m args below meth c H locs 0 0 Q (F0 m 90 ls [.int s2, .int s1, .ref (ad o0 100)]) := by
        intro z v1 v2 v3 s1 s2 H locs hw ls hl h
        unfold V_X3_goOn_90 at h
        refine lv_iadd hx hb dX3_goOn_90 ?_
        refine lv_aload_n hx hb dX3_goOn_91 rfl (lv_at hl 0 rfl) ?_
        refine xgC E hw (c1 := 3) (t := (1, 100)) (ciisL ho0) (kyisL_100 ho0) fo_3_0 rfl qf_3_52 dX3_goOn_92 ?_
        refine xgC E hw (c1 := 0) (t := (1, 1)) rfl ky_1_100 fo_0_1 rfl qf_3_88 dX3_goOn_95 ?_
        refine lv_iload_n hx hb dX3_goOn_98 rfl (lv_at hl 3 rfl) ?_
        obtain ⟨hi, h⟩ := h
        refine xal E hw ky_1_1 ka_1_1 hi dX3_goOn_99 ?_
        have hq := h
        clear h
        refine xcVV (As := [.int (s1 + s2), .int (zR z 1 1 (Int32.toNatClampNeg v3))]) (rest := []) E hw hA (c_X3_sink l D ad cs sk z o0 (s1 + s2) (zR z 1 1 (Int32.toNatClampNeg v3)) _ ho0 hq) kc_3_98 yo_X3_sink ⟨Nat.le_of_ble_eq_true rfl, Nat.le_of_ble_eq_true rfl⟩ (xrc E hw (kyisL_100 ho0) (ciisL ho0)) rfl hl.1 rfl (Nat.le_of_ble_eq_true rfl) dX3_goOn_100 ⟨Nat.le_of_ble_eq_true rfl, Nat.le_of_ble_eq_true rfl⟩ (fun z6 H locs h hw => ?_)
        exact b103 z6 v1 v2 H locs hw ls (lv_sub hl [0, 1, 2] rfl) h
      intro z v1 v2 H locs hw ls hl h
      unfold V_X3_goOn_2 at h
      refine lv_iload_n hx hb dX3_goOn_2 rfl (lv_at hl 2 rfl) ?_
      refine lv_iload_n hx hb dX3_goOn_3 rfl (lv_at hl 1 rfl) ?_
      refine lv_icmp_ge (tgt := 153) hx hb dX3_goOn_4 (by decide) (fun c1 => ?_) (fun c1 => ?_)
      · replace h := h.1 c1
        exact hret z H locs 153 ls hw h dX3_goOn_153
      · replace h := h.2 c1
        refine lv_aload_n hx hb dX3_goOn_7 rfl (lv_at hl 0 rfl) ?_
        refine xgI E hw (c1 := 3) (ciisL ho0) (kyisL_100 ho0) fo_3_4 qf_3_27 dX3_goOn_8 ?_
        refine lv_if_le (tgt := 153) hx hb dX3_goOn_11 (by decide) (fun c2 => ?_) (fun c2 => ?_)
        · replace h := h.1 c2
          exact hret z H locs 153 ls hw h dX3_goOn_153
        · replace h := h.2 c2
          refine lv_iconst (v := 0) hx hb dX3_goOn_14 (by decide) ?_
          refine lv_aload_n hx hb dX3_goOn_15 rfl (lv_at hl 0 rfl) ?_
          refine xgI E hw (c1 := 3) (ciisL ho0) (kyisL_100 ho0) fo_3_4 qf_3_27 dX3_goOn_16 ?_
          refine lv_sipush (v := 300) hx hb dX3_goOn_19 (by decide) ?_
          refine lv_idiv hx hb dX3_goOn_22 (by decide) ?_
          refine lv_bipush (v := 9) hx hb dX3_goOn_23 (by decide) ?_
          refine va_mmin hx hb (hml.trans hl.1.symm) hown (h0 _ qm_3_56) (h0 _ qs_ib_Math_min_name) (h0 _ qn_Math) (h0 _ qc_Math_min) (Nat.le_of_ble_eq_true rfl) (Nat.le_of_ble_eq_true rfl) (Nat.le_of_ble_eq_true rfl) (Nat.le_of_ble_eq_true rfl) dX3_goOn_25 ?_
          refine va_mmax hx hb (hml.trans hl.1.symm) hown (h0 _ qm_3_62) (h0 _ qs_ib_Math_max_name) (h0 _ qn_Math) (h0 _ qc_Math_max) (Nat.le_of_ble_eq_true rfl) (Nat.le_of_ble_eq_true rfl) (Nat.le_of_ble_eq_true rfl) (Nat.le_of_ble_eq_true rfl) dX3_goOn_28 ?_
          refine lv_topi (fun t3 et3 => ?_)
          replace h := h t3 et3
          refine lv_istore_n (lv' := [(3, .int t3), (0, .ref (ad o0 100)), (1, .int v1), (2, .int v2)]) hx hb dX3_goOn_31 rfl hl (by decide) rfl (fun ls hl => ?_)
          refine lv_aload_n hx hb dX3_goOn_32 rfl (lv_at hl 1 rfl) ?_
          refine xgI E hw (c1 := 3) (ciisL ho0) (kyisL_100 ho0) fo_3_5 qf_3_30 dX3_goOn_33 ?_
          refine lv_aload_n hx hb dX3_goOn_36 rfl (lv_at hl 1 rfl) ?_
          refine xgI E hw (c1 := 3) (ciisL ho0) (kyisL_100 ho0) fo_3_7 qf_3_36 dX3_goOn_37 ?_
          refine lv_icmp_ge (tgt := 68) hx hb dX3_goOn_40 (by decide) (fun c4 => ?_) (fun c4 => ?_)
          · replace h := h.1 c4
            refine lv_aload_n hx hb dX3_goOn_68 rfl (lv_at hl 1 rfl) ?_
            refine lv_aload_n hx hb dX3_goOn_69 rfl (lv_at hl 1 rfl) ?_
            refine xgC E hw (c1 := 3) (t := (1, 100)) (ciisL ho0) (kyisL_100 ho0) fo_3_0 rfl qf_3_52 dX3_goOn_70 ?_
            refine xgC E hw (c1 := 0) (t := (1, 0)) rfl ky_1_100 fo_0_0 rfl qf_3_84 dX3_goOn_73 ?_
            refine lv_iload_n hx hb dX3_goOn_76 rfl (lv_at hl 0 rfl) ?_
            obtain ⟨hi, h⟩ := h
            refine xal E hw ky_1_0 ka_1_0 hi dX3_goOn_77 ?_
            refine lv_iload_n hx hb dX3_goOn_78 rfl (lv_at hl 0 rfl) ?_
            refine lv_if_ne (tgt := 89) hx hb dX3_goOn_79 (by decide) (fun c5 => ?_) (fun c5 => ?_)
            · replace h := h.1 c5
              refine lv_iconst (v := 0) hx hb dX3_goOn_89 (by decide) ?_
              exact b90 z v1 v2 t3 (zR z 1 0 (Int32.toNatClampNeg t3)) (0 : Int32) H locs hw ls (lv_sub hl [1, 2, 3, 0] rfl) h
            · replace h := h.2 c5
              refine lv_aload_n hx hb dX3_goOn_82 rfl (lv_at hl 1 rfl) ?_
              have hq := h
              clear h
              refine xcVI (As := []) (rest := [.int (zR z 1 0 (Int32.toNatClampNeg t3)), .ref (ad o0 100)]) E hw hA (c_X3_puff l D ad cs sk z o0 _ ho0 hq) kc_3_95 yo_X3_puff ⟨Nat.le_of_ble_eq_true rfl, Nat.le_of_ble_eq_true rfl⟩ (xrc E hw (kyisL_100 ho0) (ciisL ho0)) rfl hl.1 rfl (Nat.le_of_ble_eq_true rfl) dX3_goOn_83 ⟨Nat.le_of_ble_eq_true rfl, Nat.le_of_ble_eq_true rfl⟩ (fun r18 z17 H locs h hw => ?_)
              refine lv_goto (tgt := 90) hx hb dX3_goOn_86 (by decide) ?_
              exact b90 z17 v1 v2 t3 (zR z 1 0 (Int32.toNatClampNeg t3)) r18 H locs hw ls (lv_sub hl [1, 2, 3, 0] rfl) h
          · replace h := h.2 c4
            refine lv_aload_n hx hb dX3_goOn_43 rfl (lv_at hl 1 rfl) ?_
            refine lv_aload_n hx hb dX3_goOn_44 rfl (lv_at hl 1 rfl) ?_
            refine xgC E hw (c1 := 3) (t := (1, 100)) (ciisL ho0) (kyisL_100 ho0) fo_3_0 rfl qf_3_52 dX3_goOn_45 ?_
            refine xgC E hw (c1 := 0) (t := (1, 0)) rfl ky_1_100 fo_0_0 rfl qf_3_84 dX3_goOn_48 ?_
            refine lv_iload_n hx hb dX3_goOn_51 rfl (lv_at hl 0 rfl) ?_
            obtain ⟨hi, h⟩ := h
            refine xal E hw ky_1_0 ka_1_0 hi dX3_goOn_52 ?_
            refine lv_aload_n hx hb dX3_goOn_53 rfl (lv_at hl 1 rfl) ?_
            refine xgC E hw (c1 := 3) (t := (1, 100)) (ciisL ho0) (kyisL_100 ho0) fo_3_0 rfl qf_3_52 dX3_goOn_54 ?_
            refine xgC E hw (c1 := 0) (t := (1, 1)) rfl ky_1_100 fo_0_1 rfl qf_3_88 dX3_goOn_57 ?_
            refine lv_iload_n hx hb dX3_goOn_60 rfl (lv_at hl 0 rfl) ?_
            obtain ⟨hi, h⟩ := h
            refine xal E hw ky_1_1 ka_1_1 hi dX3_goOn_61 ?_
            have hq := h
            clear h
            refine xcVV (As := [.int (zR z 1 0 (Int32.toNatClampNeg t3)), .int (zR z 1 1 (Int32.toNatClampNeg t3))]) (rest := []) E hw hA (c_X3_plunge l D ad cs sk z o0 (zR z 1 0 (Int32.toNatClampNeg t3)) (zR z 1 1 (Int32.toNatClampNeg t3)) _ ho0 hq) kc_3_91 yo_X3_plunge ⟨Nat.le_of_ble_eq_true rfl, Nat.le_of_ble_eq_true rfl⟩ (xrc E hw (kyisL_100 ho0) (ciisL ho0)) rfl hl.1 rfl (Nat.le_of_ble_eq_true rfl) dX3_goOn_62 ⟨Nat.le_of_ble_eq_true rfl, Nat.le_of_ble_eq_true rfl⟩ (fun z19 H locs h hw => ?_)
            refine lv_goto (tgt := 103) hx hb dX3_goOn_65 (by decide) ?_
            exact b103 z19 v1 v2 H locs hw ls (lv_sub hl [1, 2, 3] rfl) h
  have b00 : ∀ (H : Heap) (locs : List Loc), OW D ad cs A s.heap z H locs → W p l e (rmq 4 0 0) s m args below meth c H locs 0 0 Q (F0 m 0 ls []) := by
    intro H locs hw
    refine lv_iconst (v := 0) hx hb dX3_goOn_0 (by decide) ?_
    refine lv_istore_n (lv' := [(2, .int (0 : Int32)), (0, .ref (ad o0 100)), (1, .int p1)]) hx hb dX3_goOn_1 rfl hl (by decide) rfl (fun ls hl => ?_)
    obtain ⟨n21, h⟩ := h
    exact b2 n21 z p1 (0 : Int32) H locs hw ls (lv_sub hl [1, 2, 0] rfl) h
  exact b00 s.heap [] hw
def V_X3_land (z : ZS) (o0 : Nat) (post : ZS → Prop) : Prop := V_X3_goOn z o0 (400 : Int32) (fun z1 => post z1)
set_option maxHeartbeats 4000000 in
set_option maxRecDepth 100000 in
theorem c_X3_land (l : Launch) (D : va_G) (ad : Nat → Nat → Nat) (cs : Nat → ClassId) (sk : (Nat → Nat) × (Nat → Nat)) (z : ZS) (o0 : Nat) (post : ZS → Prop) (ho0 : isL o0) (h : V_X3_land z o0 post) : MV l D ad cs sk yX3_land cX3_land 1 (rmq 5 0 0) [.ref (ad o0 100)] z post := by
  refine MV.of RX3 rfl (by decide) (Nat.le_of_ble_eq_true rfl) ?_
  intro p e s m args below meth c A Q E hw hA hret ls hl
  have hx := E.1.1
  have hb := E.1.2.1
  have hml := E.1.2.2.1
  have hown := E.1.2.2.2.1
  have h0 := E.1.2.2.2.2
  have hl : lv_has ls 1 [(0, .ref (ad o0 100))] := hl
  unfold V_X3_land at h
  have b00 : ∀ (H : Heap) (locs : List Loc), OW D ad cs A s.heap z H locs → W p l e (rmq 5 0 0) s m args below meth c H locs 0 0 Q (F0 m 0 ls []) := by
    intro H locs hw
    refine lv_aload_n hx hb dX3_land_0 rfl (lv_at hl 0 rfl) ?_
    refine lv_sipush (v := 400) hx hb dX3_land_1 (by decide) ?_
    have hq := h
    clear h
    refine xcVV (As := [.int (400 : Int32)]) (rest := []) E hw hA (c_X3_goOn l D ad cs sk z o0 (400 : Int32) _ ho0 hq) kc_3_72 yo_X3_goOn ⟨Nat.le_of_ble_eq_true rfl, Nat.le_of_ble_eq_true rfl⟩ (xrc E hw (kyisL_100 ho0) (ciisL ho0)) rfl hl.1 rfl (Nat.le_of_ble_eq_true rfl) dX3_land_4 ⟨Nat.le_of_ble_eq_true rfl, Nat.le_of_ble_eq_true rfl⟩ (fun z1 H locs h hw => ?_)
    exact hret z1 H locs 7 ls hw h dX3_land_7
  exact b00 s.heap [] hw
def V_X3_off (z : ZS) (o0 : Nat) (post : Int32 → ZS → Prop) : Prop := post ((if 0 ≤ (zI z o0 2) then (zI z o0 2) else 0 - (zI z o0 2)) + (if 0 ≤ (zI z o0 3) then (zI z o0 3) else 0 - (zI z o0 3))) z
set_option maxHeartbeats 4000000 in
set_option maxRecDepth 100000 in
theorem c_X3_off (l : Launch) (D : va_G) (ad : Nat → Nat → Nat) (cs : Nat → ClassId) (sk : (Nat → Nat) × (Nat → Nat)) (z : ZS) (o0 : Nat) (post : Int32 → ZS → Prop) (ho0 : isL o0) (h : V_X3_off z o0 post) : MI l D ad cs sk yX3_off cX3_off 1 .int (rmq 1 0 0) [.ref (ad o0 100)] z post := by
  refine MI.of RX3 rfl (by decide) (Nat.le_of_ble_eq_true rfl) ?_
  intro p e s m args below meth c A Q E hw hA hret ls hl
  have hx := E.1.1
  have hb := E.1.2.1
  have hml := E.1.2.2.1
  have hown := E.1.2.2.2.1
  have h0 := E.1.2.2.2.2
  have hl : lv_has ls 1 [(0, .ref (ad o0 100))] := hl
  unfold V_X3_off at h
  have b00 : ∀ (H : Heap) (locs : List Loc), OW D ad cs A s.heap z H locs → W p l e (rmq 1 0 0) s m args below meth c H locs 0 0 Q (F0 m 0 ls []) := by
    intro H locs hw
    refine lv_aload_n hx hb dX3_off_0 rfl (lv_at hl 0 rfl) ?_
    refine xgI E hw (c1 := 3) (ciisL ho0) (kyisL_100 ho0) fo_3_2 qf_3_20 dX3_off_1 ?_
    refine va_mabs hx hb (hml.trans hl.1.symm) hown (h0 _ qm_3_129) (h0 _ qs_ib_Math_abs_name) (h0 _ qn_Math) (h0 _ qc_Math_abs) (Nat.le_of_ble_eq_true rfl) (Nat.le_of_ble_eq_true rfl) (Nat.le_of_ble_eq_true rfl) (Nat.le_of_ble_eq_true rfl) dX3_off_4 ?_
    refine lv_aload_n hx hb dX3_off_7 rfl (lv_at hl 0 rfl) ?_
    refine xgI E hw (c1 := 3) (ciisL ho0) (kyisL_100 ho0) fo_3_3 qf_3_24 dX3_off_8 ?_
    refine va_mabs hx hb (hml.trans hl.1.symm) hown (h0 _ qm_3_129) (h0 _ qs_ib_Math_abs_name) (h0 _ qn_Math) (h0 _ qc_Math_abs) (Nat.le_of_ble_eq_true rfl) (Nat.le_of_ble_eq_true rfl) (Nat.le_of_ble_eq_true rfl) (Nat.le_of_ble_eq_true rfl) dX3_off_11 ?_
    refine lv_iadd hx hb dX3_off_14 ?_
    exact hret ((if 0 ≤ (zI z o0 2) then (zI z o0 2) else 0 - (zI z o0 2)) + (if 0 ≤ (zI z o0 3) then (zI z o0 3) else 0 - (zI z o0 3))) z H locs 15 ls hw rfl h dX3_off_15
  exact b00 s.heap [] hw
def V_X3_offFrom (z : ZS) (o0 : Nat) (p1 : Nat) (p2 : Int32) (p3 : Int32) (post : Int32 → ZS → Prop) : Prop := V_X3_begin z o0 p1 p2 p3 (1 : Int32) (fun z1 => V_X3_goOn z1 o0 (400 : Int32) (fun z3 => V_X3_off z3 o0 (fun r6 z5 => post r6 z5)))
set_option maxHeartbeats 4000000 in
set_option maxRecDepth 100000 in
theorem c_X3_offFrom (l : Launch) (D : va_G) (ad : Nat → Nat → Nat) (cs : Nat → ClassId) (sk : (Nat → Nat) × (Nat → Nat)) (z : ZS) (o0 : Nat) (p1 : Nat) (p2 : Int32) (p3 : Int32) (post : Int32 → ZS → Prop) (ho0 : isL o0) (h : V_X3_offFrom z o0 p1 p2 p3 post) : MI l D ad cs sk yX3_offFrom cX3_offFrom 4 .int (rmq 5 0 0) [.ref (ad o0 100), .ref p1, .int p2, .int p3] z post := by
  refine MI.of RX3 rfl (by decide) (Nat.le_of_ble_eq_true rfl) ?_
  intro p e s m args below meth c A Q E hw hA hret ls hl
  have hx := E.1.1
  have hb := E.1.2.1
  have hml := E.1.2.2.1
  have hown := E.1.2.2.2.1
  have h0 := E.1.2.2.2.2
  have hl : lv_has ls 4 [(0, .ref (ad o0 100)), (1, .ref p1), (2, .int p2), (3, .int p3)] := hl
  unfold V_X3_offFrom at h
  have b00 : ∀ (H : Heap) (locs : List Loc), OW D ad cs A s.heap z H locs → W p l e (rmq 5 0 0) s m args below meth c H locs 0 0 Q (F0 m 0 ls []) := by
    intro H locs hw
    refine lv_aload_n hx hb dX3_offFrom_0 rfl (lv_at hl 0 rfl) ?_
    refine lv_aload_n hx hb dX3_offFrom_1 rfl (lv_at hl 1 rfl) ?_
    refine lv_iload_n hx hb dX3_offFrom_2 rfl (lv_at hl 2 rfl) ?_
    refine lv_iload_n hx hb dX3_offFrom_3 rfl (lv_at hl 3 rfl) ?_
    refine lv_iconst (v := 1) hx hb dX3_offFrom_4 (by decide) ?_
    have hq := h
    clear h
    refine xcVV (As := [.ref p1, .int p2, .int p3, .int (1 : Int32)]) (rest := []) E hw hA (c_X3_begin l D ad cs sk z o0 p1 p2 p3 (1 : Int32) _ ho0 hq) kc_3_76 yo_X3_begin ⟨Nat.le_of_ble_eq_true rfl, Nat.le_of_ble_eq_true rfl⟩ (xrc E hw (kyisL_100 ho0) (ciisL ho0)) rfl hl.1 rfl (Nat.le_of_ble_eq_true rfl) dX3_offFrom_5 ⟨Nat.le_of_ble_eq_true rfl, Nat.le_of_ble_eq_true rfl⟩ (fun z1 H locs h hw => ?_)
    refine lv_aload_n hx hb dX3_offFrom_8 rfl (lv_at hl 0 rfl) ?_
    refine lv_sipush (v := 400) hx hb dX3_offFrom_9 (by decide) ?_
    have hq := h
    clear h
    refine xcVV (As := [.int (400 : Int32)]) (rest := []) E hw hA (c_X3_goOn l D ad cs sk z1 o0 (400 : Int32) _ ho0 hq) kc_3_72 yo_X3_goOn ⟨Nat.le_of_ble_eq_true rfl, Nat.le_of_ble_eq_true rfl⟩ (xrc E hw (kyisL_100 ho0) (ciisL ho0)) rfl hl.1 rfl (Nat.le_of_ble_eq_true rfl) dX3_offFrom_12 ⟨Nat.le_of_ble_eq_true rfl, Nat.le_of_ble_eq_true rfl⟩ (fun z3 H locs h hw => ?_)
    refine lv_aload_n hx hb dX3_offFrom_15 rfl (lv_at hl 0 rfl) ?_
    have hq := h
    clear h
    refine xcVI (As := []) (rest := []) E hw hA (c_X3_off l D ad cs sk z3 o0 _ ho0 hq) kc_3_80 yo_X3_off ⟨Nat.le_of_ble_eq_true rfl, Nat.le_of_ble_eq_true rfl⟩ (xrc E hw (kyisL_100 ho0) (ciisL ho0)) rfl hl.1 rfl (Nat.le_of_ble_eq_true rfl) dX3_offFrom_16 ⟨Nat.le_of_ble_eq_true rfl, Nat.le_of_ble_eq_true rfl⟩ (fun r6 z5 H locs h hw => ?_)
    exact hret r6 z5 H locs 19 ls hw rfl h dX3_offFrom_19
  exact b00 s.heap [] hw
def V_X3_apartFrom (z : ZS) (o0 : Nat) (p1 : Nat) (post : Int32 → ZS → Prop) : Prop := post (((if 0 ≤ ((zI z o0 2) - (zI z p1 2)) then ((zI z o0 2) - (zI z p1 2)) else 0 - ((zI z o0 2) - (zI z p1 2))) + (if 0 ≤ ((zI z o0 3) - (zI z p1 3)) then ((zI z o0 3) - (zI z p1 3)) else 0 - ((zI z o0 3) - (zI z p1 3)))) + (if 0 ≤ ((zI z o0 4) - (zI z p1 4)) then ((zI z o0 4) - (zI z p1 4)) else 0 - ((zI z o0 4) - (zI z p1 4)))) z
set_option maxHeartbeats 4000000 in
set_option maxRecDepth 100000 in
theorem c_X3_apartFrom (l : Launch) (D : va_G) (ad : Nat → Nat → Nat) (cs : Nat → ClassId) (sk : (Nat → Nat) × (Nat → Nat)) (z : ZS) (o0 : Nat) (p1 : Nat) (post : Int32 → ZS → Prop) (ho0 : isL o0) (hp1 : isL p1) (h : V_X3_apartFrom z o0 p1 post) : MI l D ad cs sk yX3_apartFrom cX3_apartFrom 2 .int (rmq 1 0 0) [.ref (ad o0 100), .ref (ad p1 100)] z post := by
  refine MI.of RX3 rfl (by decide) (Nat.le_of_ble_eq_true rfl) ?_
  intro p e s m args below meth c A Q E hw hA hret ls hl
  have hx := E.1.1
  have hb := E.1.2.1
  have hml := E.1.2.2.1
  have hown := E.1.2.2.2.1
  have h0 := E.1.2.2.2.2
  have hl : lv_has ls 2 [(0, .ref (ad o0 100)), (1, .ref (ad p1 100))] := hl
  unfold V_X3_apartFrom at h
  have b00 : ∀ (H : Heap) (locs : List Loc), OW D ad cs A s.heap z H locs → W p l e (rmq 1 0 0) s m args below meth c H locs 0 0 Q (F0 m 0 ls []) := by
    intro H locs hw
    refine lv_aload_n hx hb dX3_apartFrom_0 rfl (lv_at hl 0 rfl) ?_
    refine xgI E hw (c1 := 3) (ciisL ho0) (kyisL_100 ho0) fo_3_2 qf_3_20 dX3_apartFrom_1 ?_
    refine lv_aload_n hx hb dX3_apartFrom_4 rfl (lv_at hl 1 rfl) ?_
    refine xgI E hw (c1 := 3) (ciisL hp1) (kyisL_100 hp1) fo_3_2 qf_3_20 dX3_apartFrom_5 ?_
    refine lv_isub hx hb dX3_apartFrom_8 ?_
    refine va_mabs hx hb (hml.trans hl.1.symm) hown (h0 _ qm_3_129) (h0 _ qs_ib_Math_abs_name) (h0 _ qn_Math) (h0 _ qc_Math_abs) (Nat.le_of_ble_eq_true rfl) (Nat.le_of_ble_eq_true rfl) (Nat.le_of_ble_eq_true rfl) (Nat.le_of_ble_eq_true rfl) dX3_apartFrom_9 ?_
    refine lv_aload_n hx hb dX3_apartFrom_12 rfl (lv_at hl 0 rfl) ?_
    refine xgI E hw (c1 := 3) (ciisL ho0) (kyisL_100 ho0) fo_3_3 qf_3_24 dX3_apartFrom_13 ?_
    refine lv_aload_n hx hb dX3_apartFrom_16 rfl (lv_at hl 1 rfl) ?_
    refine xgI E hw (c1 := 3) (ciisL hp1) (kyisL_100 hp1) fo_3_3 qf_3_24 dX3_apartFrom_17 ?_
    refine lv_isub hx hb dX3_apartFrom_20 ?_
    refine va_mabs hx hb (hml.trans hl.1.symm) hown (h0 _ qm_3_129) (h0 _ qs_ib_Math_abs_name) (h0 _ qn_Math) (h0 _ qc_Math_abs) (Nat.le_of_ble_eq_true rfl) (Nat.le_of_ble_eq_true rfl) (Nat.le_of_ble_eq_true rfl) (Nat.le_of_ble_eq_true rfl) dX3_apartFrom_21 ?_
    refine lv_iadd hx hb dX3_apartFrom_24 ?_
    refine lv_aload_n hx hb dX3_apartFrom_25 rfl (lv_at hl 0 rfl) ?_
    refine xgI E hw (c1 := 3) (ciisL ho0) (kyisL_100 ho0) fo_3_4 qf_3_27 dX3_apartFrom_26 ?_
    refine lv_aload_n hx hb dX3_apartFrom_29 rfl (lv_at hl 1 rfl) ?_
    refine xgI E hw (c1 := 3) (ciisL hp1) (kyisL_100 hp1) fo_3_4 qf_3_27 dX3_apartFrom_30 ?_
    refine lv_isub hx hb dX3_apartFrom_33 ?_
    refine va_mabs hx hb (hml.trans hl.1.symm) hown (h0 _ qm_3_129) (h0 _ qs_ib_Math_abs_name) (h0 _ qn_Math) (h0 _ qc_Math_abs) (Nat.le_of_ble_eq_true rfl) (Nat.le_of_ble_eq_true rfl) (Nat.le_of_ble_eq_true rfl) (Nat.le_of_ble_eq_true rfl) dX3_apartFrom_34 ?_
    refine lv_iadd hx hb dX3_apartFrom_37 ?_
    exact hret (((if 0 ≤ ((zI z o0 2) - (zI z p1 2)) then ((zI z o0 2) - (zI z p1 2)) else 0 - ((zI z o0 2) - (zI z p1 2))) + (if 0 ≤ ((zI z o0 3) - (zI z p1 3)) then ((zI z o0 3) - (zI z p1 3)) else 0 - ((zI z o0 3) - (zI z p1 3)))) + (if 0 ≤ ((zI z o0 4) - (zI z p1 4)) then ((zI z o0 4) - (zI z p1 4)) else 0 - ((zI z o0 4) - (zI z p1 4)))) z H locs 38 ls hw rfl h dX3_apartFrom_38
  exact b00 s.heap [] hw
def V_X9_isEmpty (z : ZS) (o0 : Nat) (post : Int32 → ZS → Prop) : Prop := (∀ t1 : Option Nat, t1 = (zG z o0 0) → ((t1 = none → ((¬ (zI z o0 1) = 0 → post (0 : Int32) z) ∧ ((zI z o0 1) = 0 → post (1 : Int32) z))) ∧ (∀ a2 : Nat, t1 = some a2 → post (0 : Int32) z)))
set_option maxHeartbeats 4000000 in
set_option maxRecDepth 100000 in
theorem c_X9_isEmpty (l : Launch) (D : va_G) (ad : Nat → Nat → Nat) (cs : Nat → ClassId) (sk : (Nat → Nat) × (Nat → Nat)) (z : ZS) (o0 : Nat) (post : Int32 → ZS → Prop) (ho0 : isS o0) (h : V_X9_isEmpty z o0 post) : MI l D ad cs sk yX9_isEmpty cX9_isEmpty 1 .boolean (rmq 0 0 0) [.ref (ad o0 100)] z post := by
  refine MI.of RX9 rfl (by decide) (Nat.le_of_ble_eq_true rfl) ?_
  intro p e s m args below meth c A Q E hw hA hret ls hl
  have hx := E.1.1
  have hb := E.1.2.1
  have hml := E.1.2.2.1
  have hown := E.1.2.2.2.1
  have h0 := E.1.2.2.2.2
  have hl : lv_has ls 1 [(0, .ref (ad o0 100))] := hl
  unfold V_X9_isEmpty at h
  have b00 : ∀ (H : Heap) (locs : List Loc), OW D ad cs A s.heap z H locs → W p l e (rmq 0 0 0) s m args below meth c H locs 0 0 Q (F0 m 0 ls []) := by
    intro H locs hw
    refine lv_aload_n hx hb dX9_isEmpty_0 rfl (lv_at hl 0 rfl) ?_
    refine xgG E hw (c1 := 9) (ciisS ho0) (kyisS_100 ho0) fo_9_0 qf_9_9 dX9_isEmpty_1 ?_
    refine xtopq (fun t1 et1 => ?_)
    replace h := h t1 et1
    refine xnnl (tgt := 18) hx hb dX9_isEmpty_4 (by decide) (fun ea2 => ?_) (fun a2 ea2 => ?_)
    · replace h := h.1 ea2
      subst ea2
      have hl : lv_has ls 1 [(0, .ref (ad o0 100))] := hl
      refine lv_aload_n hx hb dX9_isEmpty_7 rfl (lv_at hl 0 rfl) ?_
      refine xgI E hw (c1 := 9) (ciisS ho0) (kyisS_100 ho0) fo_9_1 qf_9_15 dX9_isEmpty_8 ?_
      refine lv_if_ne (tgt := 18) hx hb dX9_isEmpty_11 (by decide) (fun c3 => ?_) (fun c3 => ?_)
      · replace h := h.1 c3
        refine lv_iconst (v := 0) hx hb dX9_isEmpty_18 (by decide) ?_
        exact hret (0 : Int32) z H locs 19 ls hw rfl h dX9_isEmpty_19
      · replace h := h.2 c3
        refine lv_iconst (v := 1) hx hb dX9_isEmpty_14 (by decide) ?_
        refine lv_goto (tgt := 19) hx hb dX9_isEmpty_15 (by decide) ?_
        exact hret (1 : Int32) z H locs 19 ls hw rfl h dX9_isEmpty_19
    · replace h := h.2 a2 ea2
      subst ea2
      have hl : lv_has ls 1 [(0, .ref (ad o0 100))] := hl
      refine lv_iconst (v := 0) hx hb dX9_isEmpty_18 (by decide) ?_
      exact hret (0 : Int32) z H locs 19 ls hw rfl h dX9_isEmpty_19
  exact b00 s.heap [] hw
def V_X9_empty (z : ZS) (o0 : Nat) (post : ZS → Prop) : Prop := (∀ z1 : ZS, z1 = wG z o0 0 none → (∀ z2 : ZS, z2 = wI z1 o0 1 (0 : Int32) → (∀ z3 : ZS, z3 = wI z2 o0 3 (0 : Int32) → post z3)))
set_option maxHeartbeats 4000000 in
set_option maxRecDepth 100000 in
theorem c_X9_empty (l : Launch) (D : va_G) (ad : Nat → Nat → Nat) (cs : Nat → ClassId) (sk : (Nat → Nat) × (Nat → Nat)) (z : ZS) (o0 : Nat) (post : ZS → Prop) (ho0 : isS o0) (h : V_X9_empty z o0 post) : MV l D ad cs sk yX9_empty cX9_empty 1 (rmq 0 0 0) [.ref (ad o0 100)] z post := by
  refine MV.of RX9 rfl (by decide) (Nat.le_of_ble_eq_true rfl) ?_
  intro p e s m args below meth c A Q E hw hA hret ls hl
  have hx := E.1.1
  have hb := E.1.2.1
  have hml := E.1.2.2.1
  have hown := E.1.2.2.2.1
  have h0 := E.1.2.2.2.2
  have hl : lv_has ls 1 [(0, .ref (ad o0 100))] := hl
  unfold V_X9_empty at h
  have b00 : ∀ (H : Heap) (locs : List Loc), OW D ad cs A s.heap z H locs → W p l e (rmq 0 0 0) s m args below meth c H locs 0 0 Q (F0 m 0 ls []) := by
    intro H locs hw
    refine lv_aload_n hx hb dX9_empty_0 rfl (lv_at hl 0 rfl) ?_
    refine lv_null hx hb dX9_empty_1 ?_
    refine xpG E hw (c1 := 9) (r := none) (ciisS ho0) (kyisS_100 ho0) fp_9_0 qf_9_9 dX9_empty_2 (fun z1 ez1 H locs hw => ?_)
    replace h := h z1 ez1
    refine lv_aload_n hx hb dX9_empty_5 rfl (lv_at hl 0 rfl) ?_
    refine lv_iconst (v := 0) hx hb dX9_empty_6 (by decide) ?_
    refine xpI E hw (c1 := 9) (ciisS ho0) (kyisS_100 ho0) fp_9_1 rfl rfl qf_9_15 dX9_empty_7 (fun z2 ez2 H locs hw => ?_)
    replace h := h z2 ez2
    refine lv_aload_n hx hb dX9_empty_10 rfl (lv_at hl 0 rfl) ?_
    refine lv_iconst (v := 0) hx hb dX9_empty_11 (by decide) ?_
    refine xpI E hw (c1 := 9) (ciisS ho0) (kyisS_100 ho0) fp_9_3 rfl rfl qf_9_23 dX9_empty_12 (fun z3 ez3 H locs hw => ?_)
    replace h := h z3 ez3
    exact hret z3 H locs 15 ls hw h dX9_empty_15
  exact b00 s.heap [] hw
def V_X9_hold (z : ZS) (o0 : Nat) (p1 : Nat) (post : ZS → Prop) : Prop := V_X9_empty z o0 (fun z1 => (∀ z3 : ZS, z3 = wG z1 o0 0 (some p1) → post z3))
set_option maxHeartbeats 4000000 in
set_option maxRecDepth 100000 in
theorem c_X9_hold (l : Launch) (D : va_G) (ad : Nat → Nat → Nat) (cs : Nat → ClassId) (sk : (Nat → Nat) × (Nat → Nat)) (z : ZS) (o0 : Nat) (p1 : Nat) (post : ZS → Prop) (ho0 : isS o0) (h : V_X9_hold z o0 p1 post) : MV l D ad cs sk yX9_hold cX9_hold 2 (rmq 1 0 0) [.ref (ad o0 100), .ref p1] z post := by
  refine MV.of RX9 rfl (by decide) (Nat.le_of_ble_eq_true rfl) ?_
  intro p e s m args below meth c A Q E hw hA hret ls hl
  have hx := E.1.1
  have hb := E.1.2.1
  have hml := E.1.2.2.1
  have hown := E.1.2.2.2.1
  have h0 := E.1.2.2.2.2
  have hl : lv_has ls 2 [(0, .ref (ad o0 100)), (1, .ref p1)] := hl
  unfold V_X9_hold at h
  have b00 : ∀ (H : Heap) (locs : List Loc), OW D ad cs A s.heap z H locs → W p l e (rmq 1 0 0) s m args below meth c H locs 0 0 Q (F0 m 0 ls []) := by
    intro H locs hw
    refine lv_aload_n hx hb dX9_hold_0 rfl (lv_at hl 0 rfl) ?_
    have hq := h
    clear h
    refine xcVV (As := []) (rest := []) E hw hA (c_X9_empty l D ad cs sk z o0 _ ho0 hq) kc_9_30 yo_X9_empty ⟨Nat.le_of_ble_eq_true rfl, Nat.le_of_ble_eq_true rfl⟩ (xrc E hw (kyisS_100 ho0) (ciisS ho0)) rfl hl.1 rfl (Nat.le_of_ble_eq_true rfl) dX9_hold_1 ⟨Nat.le_of_ble_eq_true rfl, Nat.le_of_ble_eq_true rfl⟩ (fun z1 H locs h hw => ?_)
    refine lv_aload_n hx hb dX9_hold_4 rfl (lv_at hl 0 rfl) ?_
    refine lv_aload_n hx hb dX9_hold_5 rfl (lv_at hl 1 rfl) ?_
    refine xpG E hw (c1 := 9) (r := (some p1)) (ciisS ho0) (kyisS_100 ho0) fp_9_0 qf_9_9 dX9_hold_6 (fun z3 ez3 H locs hw => ?_)
    replace h := h z3 ez3
    exact hret z3 H locs 9 ls hw h dX9_hold_9
  exact b00 s.heap [] hw
def V_X9_holdRow_30 (o0 : Nat) (post : ZS → Prop) : Nat → ZS → Int32 → Prop
  | 0, _, _ => False
  | (n + 1), z, v3 => (((zI z o0 3) ≤ v3 → post z) ∧ (¬ (zI z o0 3) ≤ v3 → (vp_in v3 100 ∧ ∀ z7 : ZS, z7 = wR z o0 4 (Int32.toNatClampNeg v3) (0 : Int32) → (∀ t8 : Int32, t8 = v3 + (1 : Int32) → (V_X9_holdRow_30 o0 post n) z7 t8))))
def V_X9_holdRow (z : ZS) (o0 : Nat) (p1 : Int32) (p2 : Int32) (post : ZS → Prop) : Prop := V_X9_empty z o0 (fun z1 => (∀ z3 : ZS, z3 = wI z1 o0 1 (1 : Int32) → (∀ z4 : ZS, z4 = wI z3 o0 2 p1 → (∀ z5 : ZS, z5 = wI z4 o0 3 (if (0 : Int32) < (if (100 : Int32) < p2 then (100 : Int32) else p2) then (if (100 : Int32) < p2 then (100 : Int32) else p2) else (0 : Int32)) → (∃ n9 : Nat, V_X9_holdRow_30 o0 post n9 z5 (0 : Int32))))))
set_option maxHeartbeats 4000000 in
set_option maxRecDepth 100000 in
theorem c_X9_holdRow (l : Launch) (D : va_G) (ad : Nat → Nat → Nat) (cs : Nat → ClassId) (sk : (Nat → Nat) × (Nat → Nat)) (z : ZS) (o0 : Nat) (p1 : Int32) (p2 : Int32) (post : ZS → Prop) (ho0 : isS o0) (h : V_X9_holdRow z o0 p1 p2 post) : MV l D ad cs sk yX9_holdRow cX9_holdRow 4 (rmq 1 0 0) [.ref (ad o0 100), .int p1, .int p2] z post := by
  refine MV.of RX9 rfl (by decide) (Nat.le_of_ble_eq_true rfl) ?_
  intro p e s m args below meth c A Q E hw hA hret ls hl
  have hx := E.1.1
  have hb := E.1.2.1
  have hml := E.1.2.2.1
  have hown := E.1.2.2.2.1
  have h0 := E.1.2.2.2.2
  have hl : lv_has ls 4 [(0, .ref (ad o0 100)), (1, .int p1), (2, .int p2)] := hl
  unfold V_X9_holdRow at h
  have b30 : ∀ (n : Nat) (z : ZS) (v3 : Int32), ∀ (H : Heap) (locs : List Loc), OW D ad cs A s.heap z H locs → ∀ ls : Array Slot, lv_has ls 4 [(0, .ref (ad o0 100)), (3, .int v3)] → V_X9_holdRow_30 o0 post n z v3 → W p l e (rmq 1 0 0) s m args below meth c H locs 0 0 Q (F0 m 30 ls []) := by
    intro n
    induction n with
    | zero =>
      intro z v3 H locs hw ls hl h
      exact h.elim
    | succ n30x ih30 =>
      intro z v3 H locs hw ls hl h
      unfold V_X9_holdRow_30 at h
      refine lv_iload_n hx hb dX9_holdRow_30 rfl (lv_at hl 1 rfl) ?_
      refine lv_aload_n hx hb dX9_holdRow_31 rfl (lv_at hl 0 rfl) ?_
      refine xgI E hw (c1 := 9) (ciisS ho0) (kyisS_100 ho0) fo_9_3 qf_9_23 dX9_holdRow_32 ?_
      refine lv_icmp_ge (tgt := 51) hx hb dX9_holdRow_35 (by decide) (fun c6 => ?_) (fun c6 => ?_)
      · replace h := h.1 c6
        exact hret z H locs 51 ls hw h dX9_holdRow_51
      · replace h := h.2 c6
        refine lv_aload_n hx hb dX9_holdRow_38 rfl (lv_at hl 0 rfl) ?_
        refine xgC E hw (c1 := 9) (t := (o0, 4)) (ciisS ho0) (kyisS_100 ho0) fo_9_4 rfl qf_9_26 dX9_holdRow_39 ?_
        refine lv_iload_n hx hb dX9_holdRow_42 rfl (lv_at hl 1 rfl) ?_
        refine lv_iconst (v := 0) hx hb dX9_holdRow_43 (by decide) ?_
        obtain ⟨hi, h⟩ := h
        refine xas E hw (kyisS_4 ho0) (kaisS_4 ho0) hi dX9_holdRow_44 (fun z7 ez7 H locs hw => ?_)
        replace h := h z7 ez7
        obtain ⟨t8, et8⟩ : ∃ y : Int32, y = v3 + (1 : Int32) := ⟨_, rfl⟩
        replace h := h t8 et8
        refine lv_iinc (v := t8) (lv' := [(3, .int t8), (0, .ref (ad o0 100))]) hx hb dX9_holdRow_45 hl (k := 1) rfl (by rw [et8]; rfl) (by decide) rfl (fun ls hl => ?_)
        refine lv_goto (tgt := 30) hx hb dX9_holdRow_48 (by decide) ?_
        exact ih30 z7 t8 H locs hw ls (lv_sub hl [1, 0] rfl) h
  have b00 : ∀ (H : Heap) (locs : List Loc), OW D ad cs A s.heap z H locs → W p l e (rmq 1 0 0) s m args below meth c H locs 0 0 Q (F0 m 0 ls []) := by
    intro H locs hw
    refine lv_aload_n hx hb dX9_holdRow_0 rfl (lv_at hl 0 rfl) ?_
    have hq := h
    clear h
    refine xcVV (As := []) (rest := []) E hw hA (c_X9_empty l D ad cs sk z o0 _ ho0 hq) kc_9_30 yo_X9_empty ⟨Nat.le_of_ble_eq_true rfl, Nat.le_of_ble_eq_true rfl⟩ (xrc E hw (kyisS_100 ho0) (ciisS ho0)) rfl hl.1 rfl (Nat.le_of_ble_eq_true rfl) dX9_holdRow_1 ⟨Nat.le_of_ble_eq_true rfl, Nat.le_of_ble_eq_true rfl⟩ (fun z1 H locs h hw => ?_)
    refine lv_aload_n hx hb dX9_holdRow_4 rfl (lv_at hl 0 rfl) ?_
    refine lv_iconst (v := 1) hx hb dX9_holdRow_5 (by decide) ?_
    refine xpI E hw (c1 := 9) (ciisS ho0) (kyisS_100 ho0) fp_9_1 rfl rfl qf_9_15 dX9_holdRow_6 (fun z3 ez3 H locs hw => ?_)
    replace h := h z3 ez3
    refine lv_aload_n hx hb dX9_holdRow_9 rfl (lv_at hl 0 rfl) ?_
    refine lv_iload_n hx hb dX9_holdRow_10 rfl (lv_at hl 1 rfl) ?_
    refine xpI E hw (c1 := 9) (ciisS ho0) (kyisS_100 ho0) fp_9_2 rfl rfl qf_9_19 dX9_holdRow_11 (fun z4 ez4 H locs hw => ?_)
    replace h := h z4 ez4
    refine lv_aload_n hx hb dX9_holdRow_14 rfl (lv_at hl 0 rfl) ?_
    refine lv_iconst (v := 0) hx hb dX9_holdRow_15 (by decide) ?_
    refine lv_iload_n hx hb dX9_holdRow_16 rfl (lv_at hl 2 rfl) ?_
    refine lv_bipush (v := 100) hx hb dX9_holdRow_17 (by decide) ?_
    refine va_mmin hx hb (hml.trans hl.1.symm) hown (h0 _ qm_9_33) (h0 _ qs_ib_Math_min_name) (h0 _ qn_Math) (h0 _ qc_Math_min) (Nat.le_of_ble_eq_true rfl) (Nat.le_of_ble_eq_true rfl) (Nat.le_of_ble_eq_true rfl) (Nat.le_of_ble_eq_true rfl) dX9_holdRow_19 ?_
    refine va_mmax hx hb (hml.trans hl.1.symm) hown (h0 _ qm_9_39) (h0 _ qs_ib_Math_max_name) (h0 _ qn_Math) (h0 _ qc_Math_max) (Nat.le_of_ble_eq_true rfl) (Nat.le_of_ble_eq_true rfl) (Nat.le_of_ble_eq_true rfl) (Nat.le_of_ble_eq_true rfl) dX9_holdRow_22 ?_
    refine xpI E hw (c1 := 9) (ciisS ho0) (kyisS_100 ho0) fp_9_3 rfl rfl qf_9_23 dX9_holdRow_25 (fun z5 ez5 H locs hw => ?_)
    replace h := h z5 ez5
    refine lv_iconst (v := 0) hx hb dX9_holdRow_28 (by decide) ?_
    refine lv_istore_n (lv' := [(3, .int (0 : Int32)), (0, .ref (ad o0 100)), (1, .int p1), (2, .int p2)]) hx hb dX9_holdRow_29 rfl hl (by decide) rfl (fun ls hl => ?_)
    obtain ⟨n9, h⟩ := h
    exact b30 n9 z5 (0 : Int32) H locs hw ls (lv_sub hl [1, 0] rfl) h
  exact b00 s.heap [] hw
def V_X9_store_40 (o0 : Nat) (post : ZS → Prop) (z : ZS) (s1 : Int32) (s2 : Int32) : Prop := (vp_in s1 100 ∧ ∀ z6 : ZS, z6 = wR z o0 4 (Int32.toNatClampNeg s1) s2 → post z6)
def V_X9_store (z : ZS) (o0 : Nat) (p1 : Int32) (p2 : Int32) (post : ZS → Prop) : Prop := V_X9_hasPlaces z o0 p1 (1 : Int32) (fun r2 z1 => ((r2 = 0 → post z1) ∧ (¬ r2 = 0 → ((¬ (zI z1 o0 2) = 0 → ((¬ (zI z1 o0 2) = (1 : Int32) → V_X9_store_40 o0 post z1 p1 p2) ∧ ((zI z1 o0 2) = (1 : Int32) → V_X9_store_40 o0 post z1 p1 (Int16.toInt32 (Int32.toInt16 p2))))) ∧ ((zI z1 o0 2) = 0 → V_X9_store_40 o0 post z1 p1 (Int8.toInt32 (Int32.toInt8 p2)))))))
set_option maxHeartbeats 4000000 in
set_option maxRecDepth 100000 in
theorem c_X9_store (l : Launch) (D : va_G) (ad : Nat → Nat → Nat) (cs : Nat → ClassId) (sk : (Nat → Nat) × (Nat → Nat)) (z : ZS) (o0 : Nat) (p1 : Int32) (p2 : Int32) (post : ZS → Prop) (ho0 : isS o0) (h : V_X9_store z o0 p1 p2 post) : MV l D ad cs sk yX9_store cX9_store 3 (rmq 1 0 0) [.ref (ad o0 100), .int p1, .int p2] z post := by
  refine MV.of RX9 rfl (by decide) (Nat.le_of_ble_eq_true rfl) ?_
  intro p e s m args below meth c A Q E hw hA hret ls hl
  have hx := E.1.1
  have hb := E.1.2.1
  have hml := E.1.2.2.1
  have hown := E.1.2.2.2.1
  have h0 := E.1.2.2.2.2
  have hl : lv_has ls 3 [(0, .ref (ad o0 100)), (1, .int p1), (2, .int p2)] := hl
  unfold V_X9_store at h
  have b40 : ∀ (z : ZS) (s1 : Int32) (s2 : Int32), ∀ (H : Heap) (locs : List Loc), OW D ad cs A s.heap z H locs → ∀ ls : Array Slot, lv_has ls 3 [] → V_X9_store_40 o0 post z s1 s2 → W p l e (rmq 1 0 0) s m args below meth c H locs 0 0 Q (F0 m 40 ls [.int s2, .int s1, .ref (ad o0 4)]) := by
    intro z s1 s2 H locs hw ls hl h
    unfold V_X9_store_40 at h
    obtain ⟨hi, h⟩ := h
    refine xas E hw (kyisS_4 ho0) (kaisS_4 ho0) hi dX9_store_40 (fun z6 ez6 H locs hw => ?_)
    replace h := h z6 ez6
    exact hret z6 H locs 41 ls hw h dX9_store_41
  have b00 : ∀ (H : Heap) (locs : List Loc), OW D ad cs A s.heap z H locs → W p l e (rmq 1 0 0) s m args below meth c H locs 0 0 Q (F0 m 0 ls []) := by
    intro H locs hw
    refine lv_aload_n hx hb dX9_store_0 rfl (lv_at hl 0 rfl) ?_
    refine lv_iload_n hx hb dX9_store_1 rfl (lv_at hl 1 rfl) ?_
    refine lv_iconst (v := 1) hx hb dX9_store_2 (by decide) ?_
    have hq := h
    clear h
    refine xcVI (As := [.int p1, .int (1 : Int32)]) (rest := []) E hw hA (c_X9_hasPlaces l D ad cs sk z o0 p1 (1 : Int32) _ ho0 hq) kc_9_42 yo_X9_hasPlaces ⟨Nat.le_of_ble_eq_true rfl, Nat.le_of_ble_eq_true rfl⟩ (xrc E hw (kyisS_100 ho0) (ciisS ho0)) rfl hl.1 rfl (Nat.le_of_ble_eq_true rfl) dX9_store_3 ⟨Nat.le_of_ble_eq_true rfl, Nat.le_of_ble_eq_true rfl⟩ (fun r2 z1 H locs h hw => ?_)
    refine lv_if_eq (tgt := 41) hx hb dX9_store_6 (by decide) (fun c3 => ?_) (fun c3 => ?_)
    · replace h := h.1 c3
      exact hret z1 H locs 41 ls hw h dX9_store_41
    · replace h := h.2 c3
      refine lv_aload_n hx hb dX9_store_9 rfl (lv_at hl 0 rfl) ?_
      refine xgC E hw (c1 := 9) (t := (o0, 4)) (ciisS ho0) (kyisS_100 ho0) fo_9_4 rfl qf_9_26 dX9_store_10 ?_
      refine lv_iload_n hx hb dX9_store_13 rfl (lv_at hl 1 rfl) ?_
      refine lv_aload_n hx hb dX9_store_14 rfl (lv_at hl 0 rfl) ?_
      refine xgI E hw (c1 := 9) (ciisS ho0) (kyisS_100 ho0) fo_9_2 qf_9_19 dX9_store_15 ?_
      refine lv_if_ne (tgt := 26) hx hb dX9_store_18 (by decide) (fun c4 => ?_) (fun c4 => ?_)
      · replace h := h.1 c4
        refine lv_aload_n hx hb dX9_store_26 rfl (lv_at hl 0 rfl) ?_
        refine xgI E hw (c1 := 9) (ciisS ho0) (kyisS_100 ho0) fo_9_2 qf_9_19 dX9_store_27 ?_
        refine lv_iconst (v := 1) hx hb dX9_store_30 (by decide) ?_
        refine lv_icmp_ne (tgt := 39) hx hb dX9_store_31 (by decide) (fun c5 => ?_) (fun c5 => ?_)
        · replace h := h.1 c5
          refine lv_iload_n hx hb dX9_store_39 rfl (lv_at hl 2 rfl) ?_
          exact b40 z1 p1 p2 H locs hw ls (lv_sub hl [] rfl) h
        · replace h := h.2 c5
          refine lv_iload_n hx hb dX9_store_34 rfl (lv_at hl 2 rfl) ?_
          refine lv_i2s hx hb dX9_store_35 rfl ?_
          refine lv_goto (tgt := 40) hx hb dX9_store_36 (by decide) ?_
          exact b40 z1 p1 (Int16.toInt32 (Int32.toInt16 p2)) H locs hw ls (lv_sub hl [] rfl) h
      · replace h := h.2 c4
        refine lv_iload_n hx hb dX9_store_21 rfl (lv_at hl 2 rfl) ?_
        refine lv_i2b hx hb dX9_store_22 rfl ?_
        refine lv_goto (tgt := 40) hx hb dX9_store_23 (by decide) ?_
        exact b40 z1 p1 (Int8.toInt32 (Int32.toInt8 p2)) H locs hw ls (lv_sub hl [] rfl) h
  exact b00 s.heap [] hw
def V_X9_leastOfSort (z : ZS) (o0 : Nat) (post : Int32 → ZS → Prop) : Prop := ((¬ (zI z o0 2) = 0 → ((¬ (zI z o0 2) = (1 : Int32) → post (-2147483648 : Int32) z) ∧ ((zI z o0 2) = (1 : Int32) → post (-32768 : Int32) z))) ∧ ((zI z o0 2) = 0 → post (-128 : Int32) z))
set_option maxHeartbeats 4000000 in
set_option maxRecDepth 100000 in
theorem c_X9_leastOfSort (l : Launch) (D : va_G) (ad : Nat → Nat → Nat) (cs : Nat → ClassId) (sk : (Nat → Nat) × (Nat → Nat)) (z : ZS) (o0 : Nat) (post : Int32 → ZS → Prop) (ho0 : isS o0) (h : V_X9_leastOfSort z o0 post) : MI l D ad cs sk yX9_leastOfSort cX9_leastOfSort 1 .int (rmq 0 0 0) [.ref (ad o0 100)] z post := by
  refine MI.of RX9 rfl (by decide) (Nat.le_of_ble_eq_true rfl) ?_
  intro p e s m args below meth c A Q E hw hA hret ls hl
  have hx := E.1.1
  have hb := E.1.2.1
  have hml := E.1.2.2.1
  have hown := E.1.2.2.2.1
  have h0 := E.1.2.2.2.2
  have hl : lv_has ls 1 [(0, .ref (ad o0 100))] := hl
  unfold V_X9_leastOfSort at h
  have b00 : ∀ (H : Heap) (locs : List Loc), OW D ad cs A s.heap z H locs → W p l e (rmq 0 0 0) s m args below meth c H locs 0 0 Q (F0 m 0 ls []) := by
    intro H locs hw
    refine lv_aload_n hx hb dX9_leastOfSort_0 rfl (lv_at hl 0 rfl) ?_
    refine xgI E hw (c1 := 9) (ciisS ho0) (kyisS_100 ho0) fo_9_2 qf_9_19 dX9_leastOfSort_1 ?_
    refine lv_if_ne (tgt := 12) hx hb dX9_leastOfSort_4 (by decide) (fun c1 => ?_) (fun c1 => ?_)
    · replace h := h.1 c1
      refine lv_aload_n hx hb dX9_leastOfSort_12 rfl (lv_at hl 0 rfl) ?_
      refine xgI E hw (c1 := 9) (ciisS ho0) (kyisS_100 ho0) fo_9_2 qf_9_19 dX9_leastOfSort_13 ?_
      refine lv_iconst (v := 1) hx hb dX9_leastOfSort_16 (by decide) ?_
      refine lv_icmp_ne (tgt := 26) hx hb dX9_leastOfSort_17 (by decide) (fun c2 => ?_) (fun c2 => ?_)
      · replace h := h.1 c2
        refine lv_ldc (v := -2147483648) hx hb hown (h0 _ qk_9_48) dX9_leastOfSort_26 ?_
        exact hret (-2147483648 : Int32) z H locs 28 ls hw rfl h dX9_leastOfSort_28
      · replace h := h.2 c2
        refine lv_sipush (v := -32768) hx hb dX9_leastOfSort_20 (by decide) ?_
        refine lv_goto (tgt := 28) hx hb dX9_leastOfSort_23 (by decide) ?_
        exact hret (-32768 : Int32) z H locs 28 ls hw rfl h dX9_leastOfSort_28
    · replace h := h.2 c1
      refine lv_bipush (v := -128) hx hb dX9_leastOfSort_7 (by decide) ?_
      refine lv_goto (tgt := 28) hx hb dX9_leastOfSort_9 (by decide) ?_
      exact hret (-128 : Int32) z H locs 28 ls hw rfl h dX9_leastOfSort_28
  exact b00 s.heap [] hw
def V_X11_refusalOfRow (z : ZS) (p0 : Nat) (post : Int32 → ZS → Prop) : Prop := V_X9_isEmpty z p0 (fun r2 z1 => ((r2 = 0 → (((zI z1 p0 1) = 0 → post (-12 : Int32) z1) ∧ (¬ (zI z1 p0 1) = 0 → post (0 : Int32) z1))) ∧ (¬ r2 = 0 → post (-11 : Int32) z1)))
set_option maxHeartbeats 4000000 in
set_option maxRecDepth 100000 in
theorem c_X11_refusalOfRow (l : Launch) (D : va_G) (ad : Nat → Nat → Nat) (cs : Nat → ClassId) (sk : (Nat → Nat) × (Nat → Nat)) (z : ZS) (p0 : Nat) (post : Int32 → ZS → Prop) (hp0 : isS p0) (h : V_X11_refusalOfRow z p0 post) : MI l D ad cs sk yX11_refusalOfRow cX11_refusalOfRow 1 .int (rmq 1 0 0) [.ref (ad p0 100)] z post := by
  refine MI.of RX11 rfl (by decide) (Nat.le_of_ble_eq_true rfl) ?_
  intro p e s m args below meth c A Q E hw hA hret ls hl
  have hx := E.1.1
  have hb := E.1.2.1
  have hml := E.1.2.2.1
  have hown := E.1.2.2.2.1
  have h0 := E.1.2.2.2.2
  have hl : lv_has ls 1 [(0, .ref (ad p0 100))] := hl
  unfold V_X11_refusalOfRow at h
  have b00 : ∀ (H : Heap) (locs : List Loc), OW D ad cs A s.heap z H locs → W p l e (rmq 1 0 0) s m args below meth c H locs 0 0 Q (F0 m 0 ls []) := by
    intro H locs hw
    refine lv_aload_n hx hb dX11_refusalOfRow_0 rfl (lv_at hl 0 rfl) ?_
    have hq := h
    clear h
    refine xcVI (As := []) (rest := []) E hw hA (c_X9_isEmpty l D ad cs sk z p0 _ hp0 hq) kc_11_306 yo_X9_isEmpty ⟨Nat.le_of_ble_eq_true rfl, Nat.le_of_ble_eq_true rfl⟩ (xrc E hw (kyisS_100 hp0) (ciisS hp0)) rfl hl.1 rfl (Nat.le_of_ble_eq_true rfl) dX11_refusalOfRow_1 ⟨Nat.le_of_ble_eq_true rfl, Nat.le_of_ble_eq_true rfl⟩ (fun r2 z1 H locs h hw => ?_)
    refine lv_if_eq (tgt := 10) hx hb dX11_refusalOfRow_4 (by decide) (fun c3 => ?_) (fun c3 => ?_)
    · replace h := h.1 c3
      refine lv_aload_n hx hb dX11_refusalOfRow_10 rfl (lv_at hl 0 rfl) ?_
      refine xgI E hw (c1 := 9) (ciisS hp0) (kyisS_100 hp0) fo_9_1 qf_11_296 dX11_refusalOfRow_11 ?_
      refine lv_if_eq (tgt := 21) hx hb dX11_refusalOfRow_14 (by decide) (fun c4 => ?_) (fun c4 => ?_)
      · replace h := h.1 c4
        refine lv_bipush (v := -12) hx hb dX11_refusalOfRow_21 (by decide) ?_
        exact hret (-12 : Int32) z1 H locs 23 ls hw rfl h dX11_refusalOfRow_23
      · replace h := h.2 c4
        refine lv_iconst (v := 0) hx hb dX11_refusalOfRow_17 (by decide) ?_
        refine lv_goto (tgt := 23) hx hb dX11_refusalOfRow_18 (by decide) ?_
        exact hret (0 : Int32) z1 H locs 23 ls hw rfl h dX11_refusalOfRow_23
    · replace h := h.2 c3
      refine lv_bipush (v := -11) hx hb dX11_refusalOfRow_7 (by decide) ?_
      exact hret (-11 : Int32) z1 H locs 9 ls hw rfl h dX11_refusalOfRow_9
  exact b00 s.heap [] hw
def V_X11_refusalOfBytes (z : ZS) (p0 : Nat) (post : Int32 → ZS → Prop) : Prop := V_X11_refusalOfRow z p0 (fun r2 z1 => ((¬ r2 = 0 → post r2 z1) ∧ (r2 = 0 → (((zI z1 p0 2) = 0 → post r2 z1) ∧ (¬ (zI z1 p0 2) = 0 → post (-12 : Int32) z1)))))
set_option maxHeartbeats 4000000 in
set_option maxRecDepth 100000 in
theorem c_X11_refusalOfBytes (l : Launch) (D : va_G) (ad : Nat → Nat → Nat) (cs : Nat → ClassId) (sk : (Nat → Nat) × (Nat → Nat)) (z : ZS) (p0 : Nat) (post : Int32 → ZS → Prop) (hp0 : isS p0) (h : V_X11_refusalOfBytes z p0 post) : MI l D ad cs sk yX11_refusalOfBytes cX11_refusalOfBytes 2 .int (rmq 2 0 0) [.ref (ad p0 100)] z post := by
  refine MI.of RX11 rfl (by decide) (Nat.le_of_ble_eq_true rfl) ?_
  intro p e s m args below meth c A Q E hw hA hret ls hl
  have hx := E.1.1
  have hb := E.1.2.1
  have hml := E.1.2.2.1
  have hown := E.1.2.2.2.1
  have h0 := E.1.2.2.2.2
  have hl : lv_has ls 2 [(0, .ref (ad p0 100))] := hl
  unfold V_X11_refusalOfBytes at h
  have b00 : ∀ (H : Heap) (locs : List Loc), OW D ad cs A s.heap z H locs → W p l e (rmq 2 0 0) s m args below meth c H locs 0 0 Q (F0 m 0 ls []) := by
    intro H locs hw
    refine lv_aload_n hx hb dX11_refusalOfBytes_0 rfl (lv_at hl 0 rfl) ?_
    have hq := h
    clear h
    refine xcSI (As := [.ref (ad p0 100)]) (rest := []) E hw hA (c_X11_refusalOfRow l D ad cs sk z p0 _ hp0 hq) kc_11_255 yo_X11_refusalOfRow ⟨Nat.le_of_ble_eq_true rfl, Nat.le_of_ble_eq_true rfl⟩ rfl hl.1 rfl (Nat.le_of_ble_eq_true rfl) dX11_refusalOfBytes_1 ⟨Nat.le_of_ble_eq_true rfl, Nat.le_of_ble_eq_true rfl⟩ (fun r2 z1 H locs h hw => ?_)
    refine lv_istore_n (lv' := [(1, .int r2), (0, .ref (ad p0 100))]) hx hb dX11_refusalOfBytes_4 rfl hl (by decide) rfl (fun ls hl => ?_)
    refine lv_iload_n hx hb dX11_refusalOfBytes_5 rfl (lv_at hl 0 rfl) ?_
    refine lv_if_ne (tgt := 19) hx hb dX11_refusalOfBytes_6 (by decide) (fun c3 => ?_) (fun c3 => ?_)
    · replace h := h.1 c3
      refine lv_iload_n hx hb dX11_refusalOfBytes_19 rfl (lv_at hl 0 rfl) ?_
      exact hret r2 z1 H locs 20 ls hw rfl h dX11_refusalOfBytes_20
    · replace h := h.2 c3
      refine lv_aload_n hx hb dX11_refusalOfBytes_9 rfl (lv_at hl 1 rfl) ?_
      refine xgI E hw (c1 := 9) (ciisS hp0) (kyisS_100 hp0) fo_9_2 qf_11_309 dX11_refusalOfBytes_10 ?_
      refine lv_if_eq (tgt := 19) hx hb dX11_refusalOfBytes_13 (by decide) (fun c4 => ?_) (fun c4 => ?_)
      · replace h := h.1 c4
        refine lv_iload_n hx hb dX11_refusalOfBytes_19 rfl (lv_at hl 0 rfl) ?_
        exact hret r2 z1 H locs 20 ls hw rfl h dX11_refusalOfBytes_20
      · replace h := h.2 c4
        refine lv_bipush (v := -12) hx hb dX11_refusalOfBytes_16 (by decide) ?_
        exact hret (-12 : Int32) z1 H locs 18 ls hw rfl h dX11_refusalOfBytes_18
  exact b00 s.heap [] hw
def V_X11_shelfAt_20 (post : Option Nat → ZS → Prop) (z : ZS) (s0 : Option Nat) : Prop := post s0 z
def V_X11_shelfAt (z : ZS) (p1 : Int32) (post : Option Nat → ZS → Prop) : Prop := V_X11_isFrom z (0 : Int32) p1 (7 : Int32) (fun r2 z1 => ((r2 = 0 → V_X11_shelfAt_20 post z1 none) ∧ (¬ r2 = 0 → (vp_in p1 8 ∧ V_X11_shelfAt_20 post z1 (some (6 + Int32.toNatClampNeg p1))))))
set_option maxHeartbeats 4000000 in
set_option maxRecDepth 100000 in
theorem c_X11_shelfAt (l : Launch) (D : va_G) (ad : Nat → Nat → Nat) (cs : Nat → ClassId) (sk : (Nat → Nat) × (Nat → Nat)) (z : ZS) (p1 : Int32) (post : Option Nat → ZS → Prop) (h : V_X11_shelfAt z p1 post) : MA l D ad cs sk yX11_shelfAt cX11_shelfAt 2 "TenYards$Shelf" (rmq 1 0 0) [.ref (ad 0 100), .int p1] z (fun r z1 => ∃ ro : Option Nat, r = Option.map (fun o => ad o 100) ro ∧ post ro z1) := by
  refine MA.of RX11 rfl (by decide) (Nat.le_of_ble_eq_true rfl) ?_
  intro p e s m args below meth c A Q E hw hA hret ls hl
  have hx := E.1.1
  have hb := E.1.2.1
  have hml := E.1.2.2.1
  have hown := E.1.2.2.2.1
  have h0 := E.1.2.2.2.2
  have hl : lv_has ls 2 [(0, .ref (ad 0 100)), (1, .int p1)] := hl
  unfold V_X11_shelfAt at h
  have b20 : ∀ (z : ZS) (s0 : Option Nat), ∀ (H : Heap) (locs : List Loc), OW D ad cs A s.heap z H locs → ∀ ls : Array Slot, lv_has ls 2 [] → V_X11_shelfAt_20 post z s0 → W p l e (rmq 1 0 0) s m args below meth c H locs 0 0 Q (F0 m 20 ls [va_rf (Option.map (fun o => ad o 100) s0)]) := by
    intro z s0 H locs hw ls hl h
    unfold V_X11_shelfAt_20 at h
    exact hret _ z H locs 20 ls hw ⟨s0, rfl, h⟩ dX11_shelfAt_20
  have b00 : ∀ (H : Heap) (locs : List Loc), OW D ad cs A s.heap z H locs → W p l e (rmq 1 0 0) s m args below meth c H locs 0 0 Q (F0 m 0 ls []) := by
    intro H locs hw
    refine lv_iconst (v := 0) hx hb dX11_shelfAt_0 (by decide) ?_
    refine lv_iload_n hx hb dX11_shelfAt_1 rfl (lv_at hl 1 rfl) ?_
    refine lv_bipush (v := 7) hx hb dX11_shelfAt_2 (by decide) ?_
    have hq := h
    clear h
    refine xcSI (As := [.int (0 : Int32), .int p1, .int (7 : Int32)]) (rest := []) E hw hA (c_X11_isFrom l D ad cs sk z (0 : Int32) p1 (7 : Int32) _ hq) kc_11_83 yo_X11_isFrom ⟨Nat.le_of_ble_eq_true rfl, Nat.le_of_ble_eq_true rfl⟩ rfl hl.1 rfl (Nat.le_of_ble_eq_true rfl) dX11_shelfAt_4 ⟨Nat.le_of_ble_eq_true rfl, Nat.le_of_ble_eq_true rfl⟩ (fun r2 z1 H locs h hw => ?_)
    refine lv_if_eq (tgt := 19) hx hb dX11_shelfAt_7 (by decide) (fun c3 => ?_) (fun c3 => ?_)
    · replace h := h.1 c3
      refine lv_null hx hb dX11_shelfAt_19 ?_
      exact b20 z1 none H locs hw ls (lv_sub hl [] rfl) h
    · replace h := h.2 c3
      refine lv_aload_n hx hb dX11_shelfAt_10 rfl (lv_at hl 0 rfl) ?_
      refine xgC E hw (c1 := 11) (t := (0, 6)) rfl ky_0_100 fo_11_6 rfl qf_11_40 dX11_shelfAt_11 ?_
      refine lv_iload_n hx hb dX11_shelfAt_14 rfl (lv_at hl 1 rfl) ?_
      obtain ⟨hi, h⟩ := h
      refine xsh E hw hi dX11_shelfAt_15 ?_
      refine lv_goto (tgt := 20) hx hb dX11_shelfAt_16 (by decide) ?_
      exact b20 z1 (some (6 + Int32.toNatClampNeg p1)) H locs hw ls (lv_sub hl [] rfl) h
  exact b00 s.heap [] hw
def V_X11_wind (z : ZS) (p1 : Int32) (p2 : Int32) (post : Int32 → ZS → Prop) : Prop := V_X11_isLayer z p1 (fun r2 z1 => ((¬ r2 = 0 → ((p2 = 0 → (vp_in p1 10 ∧ post (zR z1 1 0 (Int32.toNatClampNeg p1)) z1)) ∧ (¬ p2 = 0 → (vp_in p1 10 ∧ post (zR z1 1 1 (Int32.toNatClampNeg p1)) z1)))) ∧ (r2 = 0 → post (-1000000001 : Int32) z1)))
set_option maxHeartbeats 4000000 in
set_option maxRecDepth 100000 in
theorem c_X11_wind (l : Launch) (D : va_G) (ad : Nat → Nat → Nat) (cs : Nat → ClassId) (sk : (Nat → Nat) × (Nat → Nat)) (z : ZS) (p1 : Int32) (p2 : Int32) (post : Int32 → ZS → Prop) (h : V_X11_wind z p1 p2 post) : MI l D ad cs sk yX11_wind cX11_wind 3 .int (rmq 2 0 0) [.ref (ad 0 100), .int p1, .int p2] z post := by
  refine MI.of RX11 rfl (by decide) (Nat.le_of_ble_eq_true rfl) ?_
  intro p e s m args below meth c A Q E hw hA hret ls hl
  have hx := E.1.1
  have hb := E.1.2.1
  have hml := E.1.2.2.1
  have hown := E.1.2.2.2.1
  have h0 := E.1.2.2.2.2
  have hl : lv_has ls 3 [(0, .ref (ad 0 100)), (1, .int p1), (2, .int p2)] := hl
  unfold V_X11_wind at h
  have b00 : ∀ (H : Heap) (locs : List Loc), OW D ad cs A s.heap z H locs → W p l e (rmq 2 0 0) s m args below meth c H locs 0 0 Q (F0 m 0 ls []) := by
    intro H locs hw
    refine lv_iload_n hx hb dX11_wind_0 rfl (lv_at hl 1 rfl) ?_
    have hq := h
    clear h
    refine xcSI (As := [.int p1]) (rest := []) E hw hA (c_X11_isLayer l D ad cs sk z p1 _ hq) kc_11_72 yo_X11_isLayer ⟨Nat.le_of_ble_eq_true rfl, Nat.le_of_ble_eq_true rfl⟩ rfl hl.1 rfl (Nat.le_of_ble_eq_true rfl) dX11_wind_1 ⟨Nat.le_of_ble_eq_true rfl, Nat.le_of_ble_eq_true rfl⟩ (fun r2 z1 H locs h hw => ?_)
    refine lv_if_ne (tgt := 10) hx hb dX11_wind_4 (by decide) (fun c3 => ?_) (fun c3 => ?_)
    · replace h := h.1 c3
      refine lv_iload_n hx hb dX11_wind_10 rfl (lv_at hl 2 rfl) ?_
      refine lv_if_eq (tgt := 26) hx hb dX11_wind_11 (by decide) (fun c4 => ?_) (fun c4 => ?_)
      · replace h := h.1 c4
        refine lv_aload_n hx hb dX11_wind_26 rfl (lv_at hl 0 rfl) ?_
        refine xgC E hw (c1 := 11) (t := (1, 100)) rfl ky_0_100 fo_11_0 rfl qf_11_10 dX11_wind_27 ?_
        refine xgC E hw (c1 := 0) (t := (1, 0)) rfl ky_1_100 fo_0_0 rfl qf_11_80 dX11_wind_30 ?_
        refine lv_iload_n hx hb dX11_wind_33 rfl (lv_at hl 1 rfl) ?_
        obtain ⟨hi, h⟩ := h
        refine xal E hw ky_1_0 ka_1_0 hi dX11_wind_34 ?_
        exact hret (zR z1 1 0 (Int32.toNatClampNeg p1)) z1 H locs 35 ls hw rfl h dX11_wind_35
      · replace h := h.2 c4
        refine lv_aload_n hx hb dX11_wind_14 rfl (lv_at hl 0 rfl) ?_
        refine xgC E hw (c1 := 11) (t := (1, 100)) rfl ky_0_100 fo_11_0 rfl qf_11_10 dX11_wind_15 ?_
        refine xgC E hw (c1 := 0) (t := (1, 1)) rfl ky_1_100 fo_0_1 rfl qf_11_77 dX11_wind_18 ?_
        refine lv_iload_n hx hb dX11_wind_21 rfl (lv_at hl 1 rfl) ?_
        obtain ⟨hi, h⟩ := h
        refine xal E hw ky_1_1 ka_1_1 hi dX11_wind_22 ?_
        refine lv_goto (tgt := 35) hx hb dX11_wind_23 (by decide) ?_
        exact hret (zR z1 1 1 (Int32.toNatClampNeg p1)) z1 H locs 35 ls hw rfl h dX11_wind_35
    · replace h := h.2 c3
      refine lv_ldc (v := -1000000001) hx hb hown (h0 _ qk_11_76) dX11_wind_7 ?_
      exact hret (-1000000001 : Int32) z1 H locs 9 ls hw rfl h dX11_wind_9
  exact b00 s.heap [] hw
def V_X11_set_70 (post : Int32 → ZS → Prop) (z : ZS) (v1 : Int32) (v2 : Int32) (v3 : Int32) : Prop := ((¬ v1 = (2 : Int32) → post v3 z) ∧ (v1 = (2 : Int32) → V_X11_isFrom z (300 : Int32) v2 (3000 : Int32) (fun r5 z4 => ((r5 = 0 → post v3 z4) ∧ (¬ r5 = 0 → (∀ t7 : Int32, t7 = (zI z4 1 4) → (∀ z8 : ZS, z8 = wI z4 1 4 v2 → post t7 z8)))))))
def V_X11_set_35 (post : Int32 → ZS → Prop) (z : ZS) (v1 : Int32) (v2 : Int32) (v3 : Int32) : Prop := ((¬ v1 = (1 : Int32) → V_X11_set_70 post z v1 v2 v3) ∧ (v1 = (1 : Int32) → V_X11_isFrom z (0 : Int32) v2 (900 : Int32) (fun r10 z9 => ((r10 = 0 → V_X11_set_70 post z9 v1 v2 v3) ∧ (¬ r10 = 0 → (∀ t12 : Int32, t12 = (zI z9 1 3) → (∀ z13 : ZS, z13 = wI z9 1 3 v2 → post t12 z13)))))))
def V_X11_set (z : ZS) (p1 : Int32) (p2 : Int32) (post : Int32 → ZS → Prop) : Prop := ((¬ p1 = 0 → V_X11_set_35 post z p1 p2 (-1 : Int32)) ∧ (p1 = 0 → V_X11_isFrom z (0 : Int32) p2 (30 : Int32) (fun r15 z14 => ((r15 = 0 → V_X11_set_35 post z14 p1 p2 (-1 : Int32)) ∧ (¬ r15 = 0 → (∀ t17 : Int32, t17 = (zI z14 1 2) → (∀ z18 : ZS, z18 = wI z14 1 2 p2 → post t17 z18)))))))
set_option maxHeartbeats 4000000 in
set_option maxRecDepth 100000 in
theorem c_X11_set (l : Launch) (D : va_G) (ad : Nat → Nat → Nat) (cs : Nat → ClassId) (sk : (Nat → Nat) × (Nat → Nat)) (z : ZS) (p1 : Int32) (p2 : Int32) (post : Int32 → ZS → Prop) (h : V_X11_set z p1 p2 post) : MI l D ad cs sk yX11_set cX11_set 4 .int (rmq 1 0 0) [.ref (ad 0 100), .int p1, .int p2] z post := by
  refine MI.of RX11 rfl (by decide) (Nat.le_of_ble_eq_true rfl) ?_
  intro p e s m args below meth c A Q E hw hA hret ls hl
  have hx := E.1.1
  have hb := E.1.2.1
  have hml := E.1.2.2.1
  have hown := E.1.2.2.2.1
  have h0 := E.1.2.2.2.2
  have hl : lv_has ls 4 [(0, .ref (ad 0 100)), (1, .int p1), (2, .int p2)] := hl
  unfold V_X11_set at h
  have b70 : ∀ (z : ZS) (v1 : Int32) (v2 : Int32) (v3 : Int32), ∀ (H : Heap) (locs : List Loc), OW D ad cs A s.heap z H locs → ∀ ls : Array Slot, lv_has ls 4 [(0, .ref (ad 0 100)), (1, .int v1), (2, .int v2), (3, .int v3)] → V_X11_set_70 post z v1 v2 v3 → W p l e (rmq 1 0 0) s m args below meth c H locs 0 0 Q (F0 m 70 ls []) := by
    intro z v1 v2 v3 H locs hw ls hl h
    unfold V_X11_set_70 at h
    refine lv_iload_n hx hb dX11_set_70 rfl (lv_at hl 1 rfl) ?_
    refine lv_iconst (v := 2) hx hb dX11_set_71 (by decide) ?_
    refine lv_icmp_ne (tgt := 104) hx hb dX11_set_72 (by decide) (fun c3 => ?_) (fun c3 => ?_)
    · replace h := h.1 c3
      refine lv_iload_n hx hb dX11_set_104 rfl (lv_at hl 3 rfl) ?_
      exact hret v3 z H locs 105 ls hw rfl h dX11_set_105
    · replace h := h.2 c3
      refine lv_sipush (v := 300) hx hb dX11_set_75 (by decide) ?_
      refine lv_iload_n hx hb dX11_set_78 rfl (lv_at hl 2 rfl) ?_
      refine lv_sipush (v := 3000) hx hb dX11_set_79 (by decide) ?_
      have hq := h
      clear h
      refine xcSI (As := [.int (300 : Int32), .int v2, .int (3000 : Int32)]) (rest := []) E hw hA (c_X11_isFrom l D ad cs sk z (300 : Int32) v2 (3000 : Int32) _ hq) kc_11_83 yo_X11_isFrom ⟨Nat.le_of_ble_eq_true rfl, Nat.le_of_ble_eq_true rfl⟩ rfl hl.1 rfl (Nat.le_of_ble_eq_true rfl) dX11_set_82 ⟨Nat.le_of_ble_eq_true rfl, Nat.le_of_ble_eq_true rfl⟩ (fun r5 z4 H locs h hw => ?_)
      refine lv_if_eq (tgt := 104) hx hb dX11_set_85 (by decide) (fun c6 => ?_) (fun c6 => ?_)
      · replace h := h.1 c6
        refine lv_iload_n hx hb dX11_set_104 rfl (lv_at hl 3 rfl) ?_
        exact hret v3 z4 H locs 105 ls hw rfl h dX11_set_105
      · replace h := h.2 c6
        refine lv_aload_n hx hb dX11_set_88 rfl (lv_at hl 0 rfl) ?_
        refine xgC E hw (c1 := 11) (t := (1, 100)) rfl ky_0_100 fo_11_0 rfl qf_11_10 dX11_set_89 ?_
        refine xgI E hw (c1 := 0) rfl ky_1_100 fo_0_4 qf_11_94 dX11_set_92 ?_
        refine lv_topi (fun t7 et7 => ?_)
        replace h := h t7 et7
        refine lv_istore_n (lv' := [(3, .int t7), (0, .ref (ad 0 100)), (1, .int v1), (2, .int v2)]) hx hb dX11_set_95 rfl hl (by decide) rfl (fun ls hl => ?_)
        refine lv_aload_n hx hb dX11_set_96 rfl (lv_at hl 1 rfl) ?_
        refine xgC E hw (c1 := 11) (t := (1, 100)) rfl ky_0_100 fo_11_0 rfl qf_11_10 dX11_set_97 ?_
        refine lv_iload_n hx hb dX11_set_100 rfl (lv_at hl 3 rfl) ?_
        refine xpI E hw (c1 := 0) rfl ky_1_100 fp_0_4 rfl rfl qf_11_94 dX11_set_101 (fun z8 ez8 H locs hw => ?_)
        replace h := h z8 ez8
        refine lv_iload_n hx hb dX11_set_104 rfl (lv_at hl 0 rfl) ?_
        exact hret t7 z8 H locs 105 ls hw rfl h dX11_set_105
  have b35 : ∀ (z : ZS) (v1 : Int32) (v2 : Int32) (v3 : Int32), ∀ (H : Heap) (locs : List Loc), OW D ad cs A s.heap z H locs → ∀ ls : Array Slot, lv_has ls 4 [(0, .ref (ad 0 100)), (1, .int v1), (2, .int v2), (3, .int v3)] → V_X11_set_35 post z v1 v2 v3 → W p l e (rmq 1 0 0) s m args below meth c H locs 0 0 Q (F0 m 35 ls []) := by
    intro z v1 v2 v3 H locs hw ls hl h
    unfold V_X11_set_35 at h
    refine lv_iload_n hx hb dX11_set_35 rfl (lv_at hl 1 rfl) ?_
    refine lv_iconst (v := 1) hx hb dX11_set_36 (by decide) ?_
    refine lv_icmp_ne (tgt := 70) hx hb dX11_set_37 (by decide) (fun c2 => ?_) (fun c2 => ?_)
    · replace h := h.1 c2
      exact b70 z v1 v2 v3 H locs hw ls (lv_sub hl [0, 1, 2, 3] rfl) h
    · replace h := h.2 c2
      refine lv_iconst (v := 0) hx hb dX11_set_40 (by decide) ?_
      refine lv_iload_n hx hb dX11_set_41 rfl (lv_at hl 2 rfl) ?_
      refine lv_sipush (v := 900) hx hb dX11_set_42 (by decide) ?_
      have hq := h
      clear h
      refine xcSI (As := [.int (0 : Int32), .int v2, .int (900 : Int32)]) (rest := []) E hw hA (c_X11_isFrom l D ad cs sk z (0 : Int32) v2 (900 : Int32) _ hq) kc_11_83 yo_X11_isFrom ⟨Nat.le_of_ble_eq_true rfl, Nat.le_of_ble_eq_true rfl⟩ rfl hl.1 rfl (Nat.le_of_ble_eq_true rfl) dX11_set_45 ⟨Nat.le_of_ble_eq_true rfl, Nat.le_of_ble_eq_true rfl⟩ (fun r10 z9 H locs h hw => ?_)
      refine lv_if_eq (tgt := 70) hx hb dX11_set_48 (by decide) (fun c11 => ?_) (fun c11 => ?_)
      · replace h := h.1 c11
        exact b70 z9 v1 v2 v3 H locs hw ls (lv_sub hl [0, 1, 2, 3] rfl) h
      · replace h := h.2 c11
        refine lv_aload_n hx hb dX11_set_51 rfl (lv_at hl 0 rfl) ?_
        refine xgC E hw (c1 := 11) (t := (1, 100)) rfl ky_0_100 fo_11_0 rfl qf_11_10 dX11_set_52 ?_
        refine xgI E hw (c1 := 0) rfl ky_1_100 fo_0_3 qf_11_91 dX11_set_55 ?_
        refine lv_topi (fun t12 et12 => ?_)
        replace h := h t12 et12
        refine lv_istore_n (lv' := [(3, .int t12), (0, .ref (ad 0 100)), (1, .int v1), (2, .int v2)]) hx hb dX11_set_58 rfl hl (by decide) rfl (fun ls hl => ?_)
        refine lv_aload_n hx hb dX11_set_59 rfl (lv_at hl 1 rfl) ?_
        refine xgC E hw (c1 := 11) (t := (1, 100)) rfl ky_0_100 fo_11_0 rfl qf_11_10 dX11_set_60 ?_
        refine lv_iload_n hx hb dX11_set_63 rfl (lv_at hl 3 rfl) ?_
        refine xpI E hw (c1 := 0) rfl ky_1_100 fp_0_3 rfl rfl qf_11_91 dX11_set_64 (fun z13 ez13 H locs hw => ?_)
        replace h := h z13 ez13
        refine lv_goto (tgt := 104) hx hb dX11_set_67 (by decide) ?_
        refine lv_iload_n hx hb dX11_set_104 rfl (lv_at hl 0 rfl) ?_
        exact hret t12 z13 H locs 105 ls hw rfl h dX11_set_105
  have b00 : ∀ (H : Heap) (locs : List Loc), OW D ad cs A s.heap z H locs → W p l e (rmq 1 0 0) s m args below meth c H locs 0 0 Q (F0 m 0 ls []) := by
    intro H locs hw
    refine lv_iconst (v := -1) hx hb dX11_set_0 (by decide) ?_
    refine lv_istore_n (lv' := [(3, .int (-1 : Int32)), (0, .ref (ad 0 100)), (1, .int p1), (2, .int p2)]) hx hb dX11_set_1 rfl hl (by decide) rfl (fun ls hl => ?_)
    refine lv_iload_n hx hb dX11_set_2 rfl (lv_at hl 2 rfl) ?_
    refine lv_if_ne (tgt := 35) hx hb dX11_set_3 (by decide) (fun c1 => ?_) (fun c1 => ?_)
    · replace h := h.1 c1
      exact b35 z p1 p2 (-1 : Int32) H locs hw ls (lv_sub hl [1, 2, 3, 0] rfl) h
    · replace h := h.2 c1
      refine lv_iconst (v := 0) hx hb dX11_set_6 (by decide) ?_
      refine lv_iload_n hx hb dX11_set_7 rfl (lv_at hl 3 rfl) ?_
      refine lv_bipush (v := 30) hx hb dX11_set_8 (by decide) ?_
      have hq := h
      clear h
      refine xcSI (As := [.int (0 : Int32), .int p2, .int (30 : Int32)]) (rest := []) E hw hA (c_X11_isFrom l D ad cs sk z (0 : Int32) p2 (30 : Int32) _ hq) kc_11_83 yo_X11_isFrom ⟨Nat.le_of_ble_eq_true rfl, Nat.le_of_ble_eq_true rfl⟩ rfl hl.1 rfl (Nat.le_of_ble_eq_true rfl) dX11_set_10 ⟨Nat.le_of_ble_eq_true rfl, Nat.le_of_ble_eq_true rfl⟩ (fun r15 z14 H locs h hw => ?_)
      refine lv_if_eq (tgt := 35) hx hb dX11_set_13 (by decide) (fun c16 => ?_) (fun c16 => ?_)
      · replace h := h.1 c16
        exact b35 z14 p1 p2 (-1 : Int32) H locs hw ls (lv_sub hl [1, 2, 3, 0] rfl) h
      · replace h := h.2 c16
        refine lv_aload_n hx hb dX11_set_16 rfl (lv_at hl 1 rfl) ?_
        refine xgC E hw (c1 := 11) (t := (1, 100)) rfl ky_0_100 fo_11_0 rfl qf_11_10 dX11_set_17 ?_
        refine xgI E hw (c1 := 0) rfl ky_1_100 fo_0_2 qf_11_87 dX11_set_20 ?_
        refine lv_topi (fun t17 et17 => ?_)
        replace h := h t17 et17
        refine lv_istore_n (lv' := [(3, .int t17), (0, .ref (ad 0 100)), (1, .int p1), (2, .int p2)]) hx hb dX11_set_23 rfl hl (by decide) rfl (fun ls hl => ?_)
        refine lv_aload_n hx hb dX11_set_24 rfl (lv_at hl 1 rfl) ?_
        refine xgC E hw (c1 := 11) (t := (1, 100)) rfl ky_0_100 fo_11_0 rfl qf_11_10 dX11_set_25 ?_
        refine lv_iload_n hx hb dX11_set_28 rfl (lv_at hl 3 rfl) ?_
        refine xpI E hw (c1 := 0) rfl ky_1_100 fp_0_2 rfl rfl qf_11_87 dX11_set_29 (fun z18 ez18 H locs hw => ?_)
        replace h := h z18 ez18
        refine lv_goto (tgt := 104) hx hb dX11_set_32 (by decide) ?_
        refine lv_iload_n hx hb dX11_set_104 rfl (lv_at hl 0 rfl) ?_
        exact hret t17 z18 H locs 105 ls hw rfl h dX11_set_105
  exact b00 s.heap [] hw
