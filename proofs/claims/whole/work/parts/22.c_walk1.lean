def V_J6_signum_0f7a4 (z : ZS) (p0 : Int32) (post : Int32 → ZS → Prop) : Prop := post ((p0 >>> ((31 : Int32) &&& 31)) ||| (UInt32.toInt32 (Int32.toUInt32 (-p0) >>> (Int32.toUInt32 (31 : Int32) &&& Int32.toUInt32 31)))) z
set_option maxHeartbeats 4000000 in
set_option maxRecDepth 100000 in
theorem c_J6_signum_0f7a4 (l : Launch) (D : va_G) (ad : Nat → Nat → Nat) (cs : Nat → ClassId) (sk : (Nat → Nat) × (Nat → Nat)) (z : ZS) (p0 : Int32) (post : Int32 → ZS → Prop) (h : V_J6_signum_0f7a4 z p0 post) : MI l D ad cs sk yJ6_signum_0f7a4 cJ6_signum_0f7a4 1 .int (rmq 0 0 0) [.int p0] z post := by
  refine MI.of RJ6 rfl (by decide) (Nat.le_of_ble_eq_true rfl) ?_
  intro p e s m args below meth c A Q E hw hA hret ls hl
  have hx := E.1.1
  have hb := E.1.2.1
  have hml := E.1.2.2.1
  have hown := E.1.2.2.2.1
  have h0 := E.1.2.2.2.2
  have hl : lv_has ls 1 [(0, .int p0)] := hl
  unfold V_J6_signum_0f7a4 at h
  have b00 : ∀ (H : Heap) (locs : List Loc), OW D ad cs A s.heap z H locs → W p l e (rmq 0 0 0) s m args below meth c H locs 0 0 Q (F0 m 0 ls []) := by
    intro H locs hw
    refine lv_iload_n hx hb dJ6_signum_0f7a4_0 rfl (lv_at hl 0 rfl) ?_
    refine lv_bipush (v := 31) hx hb dJ6_signum_0f7a4_1 (by decide) ?_
    refine lv_ishr hx hb dJ6_signum_0f7a4_3 ?_
    refine lv_iload_n hx hb dJ6_signum_0f7a4_4 rfl (lv_at hl 0 rfl) ?_
    refine lv_ineg hx hb dJ6_signum_0f7a4_5 ?_
    refine lv_bipush (v := 31) hx hb dJ6_signum_0f7a4_6 (by decide) ?_
    refine lv_iushr hx hb dJ6_signum_0f7a4_8 rfl ?_
    refine lv_ior hx hb dJ6_signum_0f7a4_9 ?_
    exact hret ((p0 >>> ((31 : Int32) &&& 31)) ||| (UInt32.toInt32 (Int32.toUInt32 (-p0) >>> (Int32.toUInt32 (31 : Int32) &&& Int32.toUInt32 31)))) z H locs 10 ls hw rfl h dJ6_signum_0f7a4_10
  exact b00 s.heap [] hw
def V_X0_become_47 (o0 : Nat) (p1 : Nat) (post : ZS → Prop) : Nat → ZS → Int32 → Prop
  | 0, _, _ => False
  | (n + 1), z, v2 => (((8 : Int32) ≤ v2 → (∀ z5 : ZS, z5 = wI z o0 2 (zI z p1 2) → (∀ z6 : ZS, z6 = wI z5 o0 3 (zI z5 p1 3) → (∀ z7 : ZS, z7 = wI z6 o0 4 (zI z6 p1 4) → (∀ z8 : ZS, z8 = wI z7 o0 6 (zI z7 p1 6) → (∀ z9 : ZS, z9 = wI z8 o0 8 (zI z8 p1 8) → post z9)))))) ∧ (¬ (8 : Int32) ≤ v2 → (vp_in v2 8 ∧ (vp_in v2 8 ∧ (∀ v, (zQ z p1 (Int32.toNatClampNeg v2)) = some v → v ∈ zP z) ∧ ∀ z10 : ZS, z10 = wQ z o0 (Int32.toNatClampNeg v2) (zQ z p1 (Int32.toNatClampNeg v2)) → (∀ t11 : Int32, t11 = v2 + (1 : Int32) → (V_X0_become_47 o0 p1 post n) z10 t11)))))
def V_X0_become (z : ZS) (o0 : Nat) (p1 : Nat) (post : ZS → Prop) : Prop := (∀ z1 : ZS, z1 = wA z o0 0 (va_cpy (zR z p1 0) (zR z o0 0) (Int32.toNatClampNeg (0 : Int32)) (Int32.toNatClampNeg (0 : Int32)) (Int32.toNatClampNeg (10 : Int32))) → (∀ z2 : ZS, z2 = wA z1 o0 1 (va_cpy (zR z1 p1 1) (zR z1 o0 1) (Int32.toNatClampNeg (0 : Int32)) (Int32.toNatClampNeg (0 : Int32)) (Int32.toNatClampNeg (10 : Int32))) → (∀ z3 : ZS, z3 = wA z2 o0 7 (va_cpy (zR z2 p1 7) (zR z2 o0 7) (Int32.toNatClampNeg (0 : Int32)) (Int32.toNatClampNeg (0 : Int32)) (Int32.toNatClampNeg (24 : Int32))) → (∃ n12 : Nat, V_X0_become_47 o0 p1 post n12 z3 (0 : Int32)))))
set_option maxHeartbeats 4000000 in
set_option maxRecDepth 100000 in
theorem c_X0_become (l : Launch) (D : va_G) (ad : Nat → Nat → Nat) (cs : Nat → ClassId) (sk : (Nat → Nat) × (Nat → Nat)) (z : ZS) (o0 : Nat) (p1 : Nat) (post : ZS → Prop) (ho0 : isA o0) (hp1 : isA p1) (h : V_X0_become z o0 p1 post) : MV l D ad cs sk yX0_become cX0_become 3 (rmq 1 0 0) [.ref (ad o0 100), .ref (ad p1 100)] z post := by
  refine MV.of RX0 rfl (by decide) (Nat.le_of_ble_eq_true rfl) ?_
  intro p e s m args below meth c A Q E hw hA hret ls hl
  have hx := E.1.1
  have hb := E.1.2.1
  have hml := E.1.2.2.1
  have hown := E.1.2.2.2.1
  have h0 := E.1.2.2.2.2
  have hl : lv_has ls 3 [(0, .ref (ad o0 100)), (1, .ref (ad p1 100))] := hl
  unfold V_X0_become at h
  have b47 : ∀ (n : Nat) (z : ZS) (v2 : Int32), ∀ (H : Heap) (locs : List Loc), OW D ad cs A s.heap z H locs → ∀ ls : Array Slot, lv_has ls 3 [(0, .ref (ad o0 100)), (1, .ref (ad p1 100)), (2, .int v2)] → V_X0_become_47 o0 p1 post n z v2 → W p l e (rmq 1 0 0) s m args below meth c H locs 0 0 Q (F0 m 47 ls []) := by
    intro n
    induction n with
    | zero =>
      intro z v2 H locs hw ls hl h
      exact h.elim
    | succ n47x ih47 =>
      intro z v2 H locs hw ls hl h
      unfold V_X0_become_47 at h
      refine lv_iload_n hx hb dX0_become_47 rfl (lv_at hl 2 rfl) ?_
      refine lv_bipush (v := 8) hx hb dX0_become_48 (by decide) ?_
      refine lv_icmp_ge (tgt := 71) hx hb dX0_become_50 (by decide) (fun c4 => ?_) (fun c4 => ?_)
      · replace h := h.1 c4
        refine lv_aload_n hx hb dX0_become_71 rfl (lv_at hl 0 rfl) ?_
        refine lv_aload_n hx hb dX0_become_72 rfl (lv_at hl 1 rfl) ?_
        refine xgI E hw (c1 := 0) (ciisA hp1) (kyisA_100 hp1) fo_0_2 qf_0_18 dX0_become_73 ?_
        refine xpI E hw (c1 := 0) (ciisA ho0) (kyisA_100 ho0) fp_0_2 rfl rfl qf_0_18 dX0_become_76 (fun z5 ez5 H locs hw => ?_)
        replace h := h z5 ez5
        refine lv_aload_n hx hb dX0_become_79 rfl (lv_at hl 0 rfl) ?_
        refine lv_aload_n hx hb dX0_become_80 rfl (lv_at hl 1 rfl) ?_
        refine xgI E hw (c1 := 0) (ciisA hp1) (kyisA_100 hp1) fo_0_3 qf_0_22 dX0_become_81 ?_
        refine xpI E hw (c1 := 0) (ciisA ho0) (kyisA_100 ho0) fp_0_3 rfl rfl qf_0_22 dX0_become_84 (fun z6 ez6 H locs hw => ?_)
        replace h := h z6 ez6
        refine lv_aload_n hx hb dX0_become_87 rfl (lv_at hl 0 rfl) ?_
        refine lv_aload_n hx hb dX0_become_88 rfl (lv_at hl 1 rfl) ?_
        refine xgI E hw (c1 := 0) (ciisA hp1) (kyisA_100 hp1) fo_0_4 qf_0_25 dX0_become_89 ?_
        refine xpI E hw (c1 := 0) (ciisA ho0) (kyisA_100 ho0) fp_0_4 rfl rfl qf_0_25 dX0_become_92 (fun z7 ez7 H locs hw => ?_)
        replace h := h z7 ez7
        refine lv_aload_n hx hb dX0_become_95 rfl (lv_at hl 0 rfl) ?_
        refine lv_aload_n hx hb dX0_become_96 rfl (lv_at hl 1 rfl) ?_
        refine xgI E hw (c1 := 0) (ciisA hp1) (kyisA_100 hp1) fo_0_6 qf_0_34 dX0_become_97 ?_
        refine xpI E hw (c1 := 0) (ciisA ho0) (kyisA_100 ho0) fp_0_6 rfl rfl qf_0_34 dX0_become_100 (fun z8 ez8 H locs hw => ?_)
        replace h := h z8 ez8
        refine lv_aload_n hx hb dX0_become_103 rfl (lv_at hl 0 rfl) ?_
        refine lv_aload_n hx hb dX0_become_104 rfl (lv_at hl 1 rfl) ?_
        refine xgI E hw (c1 := 0) (ciisA hp1) (kyisA_100 hp1) fo_0_8 qf_0_40 dX0_become_105 ?_
        refine xpI E hw (c1 := 0) (ciisA ho0) (kyisA_100 ho0) fp_0_8 rfl rfl qf_0_40 dX0_become_108 (fun z9 ez9 H locs hw => ?_)
        replace h := h z9 ez9
        exact hret z9 H locs 111 ls hw h dX0_become_111
      · replace h := h.2 c4
        refine lv_aload_n hx hb dX0_become_53 rfl (lv_at hl 0 rfl) ?_
        refine xgC E hw (c1 := 0) (t := (o0, 5)) (ciisA ho0) (kyisA_100 ho0) fo_0_5 rfl qf_0_30 dX0_become_54 ?_
        refine lv_iload_n hx hb dX0_become_57 rfl (lv_at hl 2 rfl) ?_
        refine lv_aload_n hx hb dX0_become_58 rfl (lv_at hl 1 rfl) ?_
        refine xgC E hw (c1 := 0) (t := (p1, 5)) (ciisA hp1) (kyisA_100 hp1) fo_0_5 rfl qf_0_30 dX0_become_59 ?_
        refine lv_iload_n hx hb dX0_become_62 rfl (lv_at hl 2 rfl) ?_
        obtain ⟨hi, h⟩ := h
        refine xfl E hw (kyisA_5 hp1) (ciisA hp1) (isA_n15 hp1) (isA_n0 hp1) hi dX0_become_63 ?_
        obtain ⟨hi, hr, h⟩ := h
        refine xfs (r := (zQ z p1 (Int32.toNatClampNeg v2))) E hw (kyisA_5 ho0) (ciisA ho0) (isA_n15 ho0) (isA_n0 ho0) hr hi dX0_become_64 (fun z10 ez10 H locs hw => ?_)
        replace h := h z10 ez10
        obtain ⟨t11, et11⟩ : ∃ y : Int32, y = v2 + (1 : Int32) := ⟨_, rfl⟩
        replace h := h t11 et11
        refine lv_iinc (v := t11) (lv' := [(2, .int t11), (0, .ref (ad o0 100)), (1, .ref (ad p1 100))]) hx hb dX0_become_65 hl (k := 2) rfl (by rw [et11]; rfl) (by decide) rfl (fun ls hl => ?_)
        refine lv_goto (tgt := 47) hx hb dX0_become_68 (by decide) ?_
        exact ih47 z10 t11 H locs hw ls (lv_sub hl [1, 2, 0] rfl) h
  have b00 : ∀ (H : Heap) (locs : List Loc), OW D ad cs A s.heap z H locs → W p l e (rmq 1 0 0) s m args below meth c H locs 0 0 Q (F0 m 0 ls []) := by
    intro H locs hw
    refine lv_aload_n hx hb dX0_become_0 rfl (lv_at hl 1 rfl) ?_
    refine xgC E hw (c1 := 0) (t := (p1, 0)) (ciisA hp1) (kyisA_100 hp1) fo_0_0 rfl qf_0_9 dX0_become_1 ?_
    refine lv_iconst (v := 0) hx hb dX0_become_4 (by decide) ?_
    refine lv_aload_n hx hb dX0_become_5 rfl (lv_at hl 0 rfl) ?_
    refine xgC E hw (c1 := 0) (t := (o0, 0)) (ciisA ho0) (kyisA_100 ho0) fo_0_0 rfl qf_0_9 dX0_become_6 ?_
    refine lv_iconst (v := 0) hx hb dX0_become_9 (by decide) ?_
    refine lv_bipush (v := 10) hx hb dX0_become_10 (by decide) ?_
    refine xcp E hw hl.1 (kyisA_0 hp1) (kaisA_0 hp1) (kyisA_0 ho0) (kaisA_0 ho0) (by decide) (by decide) (by decide) (by decide) (by decide) kz_0_46 (Nat.le_of_ble_eq_true rfl) (Nat.le_of_ble_eq_true rfl) dX0_become_12 (fun z1 ez1 H locs hw => ?_)
    replace h := h z1 ez1
    refine lv_aload_n hx hb dX0_become_15 rfl (lv_at hl 1 rfl) ?_
    refine xgC E hw (c1 := 0) (t := (p1, 1)) (ciisA hp1) (kyisA_100 hp1) fo_0_1 rfl qf_0_15 dX0_become_16 ?_
    refine lv_iconst (v := 0) hx hb dX0_become_19 (by decide) ?_
    refine lv_aload_n hx hb dX0_become_20 rfl (lv_at hl 0 rfl) ?_
    refine xgC E hw (c1 := 0) (t := (o0, 1)) (ciisA ho0) (kyisA_100 ho0) fo_0_1 rfl qf_0_15 dX0_become_21 ?_
    refine lv_iconst (v := 0) hx hb dX0_become_24 (by decide) ?_
    refine lv_bipush (v := 10) hx hb dX0_become_25 (by decide) ?_
    refine xcp E hw hl.1 (kyisA_1 hp1) (kaisA_1 hp1) (kyisA_1 ho0) (kaisA_1 ho0) (by decide) (by decide) (by decide) (by decide) (by decide) kz_0_46 (Nat.le_of_ble_eq_true rfl) (Nat.le_of_ble_eq_true rfl) dX0_become_27 (fun z2 ez2 H locs hw => ?_)
    replace h := h z2 ez2
    refine lv_aload_n hx hb dX0_become_30 rfl (lv_at hl 1 rfl) ?_
    refine xgC E hw (c1 := 0) (t := (p1, 7)) (ciisA hp1) (kyisA_100 hp1) fo_0_7 rfl qf_0_37 dX0_become_31 ?_
    refine lv_iconst (v := 0) hx hb dX0_become_34 (by decide) ?_
    refine lv_aload_n hx hb dX0_become_35 rfl (lv_at hl 0 rfl) ?_
    refine xgC E hw (c1 := 0) (t := (o0, 7)) (ciisA ho0) (kyisA_100 ho0) fo_0_7 rfl qf_0_37 dX0_become_36 ?_
    refine lv_iconst (v := 0) hx hb dX0_become_39 (by decide) ?_
    refine lv_bipush (v := 24) hx hb dX0_become_40 (by decide) ?_
    refine xcp E hw hl.1 (kyisA_7 hp1) (kaisA_7 hp1) (kyisA_7 ho0) (kaisA_7 ho0) (by decide) (by decide) (by decide) (by decide) (by decide) kz_0_46 (Nat.le_of_ble_eq_true rfl) (Nat.le_of_ble_eq_true rfl) dX0_become_42 (fun z3 ez3 H locs hw => ?_)
    replace h := h z3 ez3
    refine lv_iconst (v := 0) hx hb dX0_become_45 (by decide) ?_
    refine lv_istore_n (lv' := [(2, .int (0 : Int32)), (0, .ref (ad o0 100)), (1, .ref (ad p1 100))]) hx hb dX0_become_46 rfl hl (by decide) rfl (fun ls hl => ?_)
    obtain ⟨n12, h⟩ := h
    exact b47 n12 z3 (0 : Int32) H locs hw ls (lv_sub hl [1, 2, 0] rfl) h
  exact b00 s.heap [] hw
def V_X0_fallerAt_28 (o0 : Nat) (post : Option Nat → ZS → Prop) (z : ZS) (s0 : Option Nat) : Prop := post s0 z
def V_X0_fallerAt_27 (o0 : Nat) (post : Option Nat → ZS → Prop) (z : ZS) : Prop := V_X0_fallerAt_28 o0 post z none
def V_X0_fallerAt (z : ZS) (o0 : Nat) (p1 : Int32) (post : Option Nat → ZS → Prop) : Prop := ((p1 < 0 → V_X0_fallerAt_27 o0 post z) ∧ (¬ p1 < 0 → (((zI z o0 6) ≤ p1 → V_X0_fallerAt_27 o0 post z) ∧ (¬ (zI z o0 6) ≤ p1 → (((8 : Int32) ≤ p1 → V_X0_fallerAt_27 o0 post z) ∧ (¬ (8 : Int32) ≤ p1 → (vp_in p1 8 ∧ V_X0_fallerAt_28 o0 post z (zQ z o0 (Int32.toNatClampNeg p1)))))))))
set_option maxHeartbeats 4000000 in
set_option maxRecDepth 100000 in
theorem c_X0_fallerAt (l : Launch) (D : va_G) (ad : Nat → Nat → Nat) (cs : Nat → ClassId) (sk : (Nat → Nat) × (Nat → Nat)) (z : ZS) (o0 : Nat) (p1 : Int32) (post : Option Nat → ZS → Prop) (ho0 : isA o0) (h : V_X0_fallerAt z o0 p1 post) : MA l D ad cs sk yX0_fallerAt cX0_fallerAt 2 "TenYards$Faller" (rmq 0 0 0) [.ref (ad o0 100), .int p1] z post := by
  refine MA.of RX0 rfl (by decide) (Nat.le_of_ble_eq_true rfl) ?_
  intro p e s m args below meth c A Q E hw hA hret ls hl
  have hx := E.1.1
  have hb := E.1.2.1
  have hml := E.1.2.2.1
  have hown := E.1.2.2.2.1
  have h0 := E.1.2.2.2.2
  have hl : lv_has ls 2 [(0, .ref (ad o0 100)), (1, .int p1)] := hl
  unfold V_X0_fallerAt at h
  have b28 : ∀ (z : ZS) (s0 : Option Nat), ∀ (H : Heap) (locs : List Loc), OW D ad cs A s.heap z H locs → ∀ ls : Array Slot, lv_has ls 2 [] → V_X0_fallerAt_28 o0 post z s0 → W p l e (rmq 0 0 0) s m args below meth c H locs 0 0 Q (F0 m 28 ls [va_rf s0]) := by
    intro z s0 H locs hw ls hl h
    unfold V_X0_fallerAt_28 at h
    exact hret s0 z H locs 28 ls hw h dX0_fallerAt_28
  have b27 : ∀ (z : ZS), ∀ (H : Heap) (locs : List Loc), OW D ad cs A s.heap z H locs → ∀ ls : Array Slot, lv_has ls 2 [] → V_X0_fallerAt_27 o0 post z → W p l e (rmq 0 0 0) s m args below meth c H locs 0 0 Q (F0 m 27 ls []) := by
    intro z H locs hw ls hl h
    unfold V_X0_fallerAt_27 at h
    refine lv_null hx hb dX0_fallerAt_27 ?_
    exact b28 z none H locs hw ls (lv_sub hl [] rfl) h
  have b00 : ∀ (H : Heap) (locs : List Loc), OW D ad cs A s.heap z H locs → W p l e (rmq 0 0 0) s m args below meth c H locs 0 0 Q (F0 m 0 ls []) := by
    intro H locs hw
    refine lv_iload_n hx hb dX0_fallerAt_0 rfl (lv_at hl 1 rfl) ?_
    refine lv_if_lt (tgt := 27) hx hb dX0_fallerAt_1 (by decide) (fun c1 => ?_) (fun c1 => ?_)
    · replace h := h.1 c1
      exact b27 z H locs hw ls (lv_sub hl [] rfl) h
    · replace h := h.2 c1
      refine lv_iload_n hx hb dX0_fallerAt_4 rfl (lv_at hl 1 rfl) ?_
      refine lv_aload_n hx hb dX0_fallerAt_5 rfl (lv_at hl 0 rfl) ?_
      refine xgI E hw (c1 := 0) (ciisA ho0) (kyisA_100 ho0) fo_0_6 qf_0_34 dX0_fallerAt_6 ?_
      refine lv_icmp_ge (tgt := 27) hx hb dX0_fallerAt_9 (by decide) (fun c2 => ?_) (fun c2 => ?_)
      · replace h := h.1 c2
        exact b27 z H locs hw ls (lv_sub hl [] rfl) h
      · replace h := h.2 c2
        refine lv_iload_n hx hb dX0_fallerAt_12 rfl (lv_at hl 1 rfl) ?_
        refine lv_bipush (v := 8) hx hb dX0_fallerAt_13 (by decide) ?_
        refine lv_icmp_ge (tgt := 27) hx hb dX0_fallerAt_15 (by decide) (fun c3 => ?_) (fun c3 => ?_)
        · replace h := h.1 c3
          exact b27 z H locs hw ls (lv_sub hl [] rfl) h
        · replace h := h.2 c3
          refine lv_aload_n hx hb dX0_fallerAt_18 rfl (lv_at hl 0 rfl) ?_
          refine xgC E hw (c1 := 0) (t := (o0, 5)) (ciisA ho0) (kyisA_100 ho0) fo_0_5 rfl qf_0_30 dX0_fallerAt_19 ?_
          refine lv_iload_n hx hb dX0_fallerAt_22 rfl (lv_at hl 1 rfl) ?_
          obtain ⟨hi, h⟩ := h
          refine xfl E hw (kyisA_5 ho0) (ciisA ho0) (isA_n15 ho0) (isA_n0 ho0) hi dX0_fallerAt_23 ?_
          refine lv_goto (tgt := 28) hx hb dX0_fallerAt_24 (by decide) ?_
          exact b28 z (zQ z o0 (Int32.toNatClampNeg p1)) H locs hw ls (lv_sub hl [] rfl) h
  exact b00 s.heap [] hw
def V_X11_isFrom (z : ZS) (p0 : Int32) (p1 : Int32) (p2 : Int32) (post : Int32 → ZS → Prop) : Prop := ((p1 < p0 → post (0 : Int32) z) ∧ (¬ p1 < p0 → ((p2 < p1 → post (0 : Int32) z) ∧ (¬ p2 < p1 → post (1 : Int32) z))))
set_option maxHeartbeats 4000000 in
set_option maxRecDepth 100000 in
theorem c_X11_isFrom (l : Launch) (D : va_G) (ad : Nat → Nat → Nat) (cs : Nat → ClassId) (sk : (Nat → Nat) × (Nat → Nat)) (z : ZS) (p0 : Int32) (p1 : Int32) (p2 : Int32) (post : Int32 → ZS → Prop) (h : V_X11_isFrom z p0 p1 p2 post) : MI l D ad cs sk yX11_isFrom cX11_isFrom 3 .boolean (rmq 0 0 0) [.int p0, .int p1, .int p2] z post := by
  refine MI.of RX11 rfl (by decide) (Nat.le_of_ble_eq_true rfl) ?_
  intro p e s m args below meth c A Q E hw hA hret ls hl
  have hx := E.1.1
  have hb := E.1.2.1
  have hml := E.1.2.2.1
  have hown := E.1.2.2.2.1
  have h0 := E.1.2.2.2.2
  have hl : lv_has ls 3 [(0, .int p0), (1, .int p1), (2, .int p2)] := hl
  unfold V_X11_isFrom at h
  have b00 : ∀ (H : Heap) (locs : List Loc), OW D ad cs A s.heap z H locs → W p l e (rmq 0 0 0) s m args below meth c H locs 0 0 Q (F0 m 0 ls []) := by
    intro H locs hw
    refine lv_iload_n hx hb dX11_isFrom_0 rfl (lv_at hl 0 rfl) ?_
    refine lv_iload_n hx hb dX11_isFrom_1 rfl (lv_at hl 1 rfl) ?_
    refine lv_icmp_gt (tgt := 14) hx hb dX11_isFrom_2 (by decide) (fun c1 => ?_) (fun c1 => ?_)
    · replace h := h.1 c1
      refine lv_iconst (v := 0) hx hb dX11_isFrom_14 (by decide) ?_
      exact hret (0 : Int32) z H locs 15 ls hw rfl h dX11_isFrom_15
    · replace h := h.2 c1
      refine lv_iload_n hx hb dX11_isFrom_5 rfl (lv_at hl 1 rfl) ?_
      refine lv_iload_n hx hb dX11_isFrom_6 rfl (lv_at hl 2 rfl) ?_
      refine lv_icmp_gt (tgt := 14) hx hb dX11_isFrom_7 (by decide) (fun c2 => ?_) (fun c2 => ?_)
      · replace h := h.1 c2
        refine lv_iconst (v := 0) hx hb dX11_isFrom_14 (by decide) ?_
        exact hret (0 : Int32) z H locs 15 ls hw rfl h dX11_isFrom_15
      · replace h := h.2 c2
        refine lv_iconst (v := 1) hx hb dX11_isFrom_10 (by decide) ?_
        refine lv_goto (tgt := 15) hx hb dX11_isFrom_11 (by decide) ?_
        exact hret (1 : Int32) z H locs 15 ls hw rfl h dX11_isFrom_15
  exact b00 s.heap [] hw
def V_X0_bars_70 (o0 : Nat) (post : Int32 → ZS → Prop) (rr2 : ZS → Int32 → Int32 → Int32 → Prop) (z : ZS) (v1 : Int32) (v2 : Int32) (v3 : Int32) : Prop := (∀ t6 : Int32, t6 = v3 + (1 : Int32) → rr2 z v1 v2 t6)
def V_X0_bars_2 (o0 : Nat) (post : Int32 → ZS → Prop) : Nat → ZS → Int32 → Int32 → Int32 → Prop
  | 0, _, _, _, _ => False
  | (n + 1), z, v1, v2, v3 => (((zI z o0 8) ≤ v3 → post (0 : Int32) z) ∧ (¬ (zI z o0 8) ≤ v3 → (((6 : Int32) ≤ v3 → post (0 : Int32) z) ∧ (¬ (6 : Int32) ≤ v3 → (vp_in ((4 : Int32) * v3) 24 ∧ (vp_in (((4 : Int32) * v3) + (2 : Int32)) 24 ∧ V_X11_isFrom z (zR z o0 7 (Int32.toNatClampNeg ((4 : Int32) * v3))) v1 (zR z o0 7 (Int32.toNatClampNeg (((4 : Int32) * v3) + (2 : Int32)))) (fun r4 z3 => ((r4 = 0 → V_X0_bars_70 o0 post (V_X0_bars_2 o0 post n) z3 v1 v2 v3) ∧ (¬ r4 = 0 → (vp_in (((4 : Int32) * v3) + (1 : Int32)) 24 ∧ (vp_in (((4 : Int32) * v3) + (3 : Int32)) 24 ∧ V_X11_isFrom z3 (zR z3 o0 7 (Int32.toNatClampNeg (((4 : Int32) * v3) + (1 : Int32)))) v2 (zR z3 o0 7 (Int32.toNatClampNeg (((4 : Int32) * v3) + (3 : Int32)))) (fun r8 z7 => ((r8 = 0 → V_X0_bars_70 o0 post (V_X0_bars_2 o0 post n) z7 v1 v2 v3) ∧ (¬ r8 = 0 → post (1 : Int32) z7))))))))))))))
def V_X0_bars (z : ZS) (o0 : Nat) (p1 : Int32) (p2 : Int32) (post : Int32 → ZS → Prop) : Prop := (∃ n10 : Nat, V_X0_bars_2 o0 post n10 z p1 p2 (0 : Int32))
set_option maxHeartbeats 4000000 in
set_option maxRecDepth 100000 in
theorem c_X0_bars (l : Launch) (D : va_G) (ad : Nat → Nat → Nat) (cs : Nat → ClassId) (sk : (Nat → Nat) × (Nat → Nat)) (z : ZS) (o0 : Nat) (p1 : Int32) (p2 : Int32) (post : Int32 → ZS → Prop) (ho0 : isA o0) (h : V_X0_bars z o0 p1 p2 post) : MI l D ad cs sk yX0_bars cX0_bars 4 .boolean (rmq 1 0 0) [.ref (ad o0 100), .int p1, .int p2] z post := by
  refine MI.of RX0 rfl (by decide) (Nat.le_of_ble_eq_true rfl) ?_
  intro p e s m args below meth c A Q E hw hA hret ls hl
  have hx := E.1.1
  have hb := E.1.2.1
  have hml := E.1.2.2.1
  have hown := E.1.2.2.2.1
  have h0 := E.1.2.2.2.2
  have hl : lv_has ls 4 [(0, .ref (ad o0 100)), (1, .int p1), (2, .int p2)] := hl
  unfold V_X0_bars at h
  have b2 : ∀ (n : Nat) (z : ZS) (v1 : Int32) (v2 : Int32) (v3 : Int32), ∀ (H : Heap) (locs : List Loc), OW D ad cs A s.heap z H locs → ∀ ls : Array Slot, lv_has ls 4 [(0, .ref (ad o0 100)), (1, .int v1), (2, .int v2), (3, .int v3)] → V_X0_bars_2 o0 post n z v1 v2 v3 → W p l e (rmq 1 0 0) s m args below meth c H locs 0 0 Q (F0 m 2 ls []) := by
    intro n
    induction n with
    | zero =>
      intro z v1 v2 v3 H locs hw ls hl h
      exact h.elim
    | succ n2x ih2 =>
      have b70 : ∀ (z : ZS) (v1 : Int32) (v2 : Int32) (v3 : Int32), ∀ (H : Heap) (locs : List Loc), OW D ad cs A s.heap z H locs → ∀ ls : Array Slot, lv_has ls 4 [(0, .ref (ad o0 100)), (1, .int v1), (2, .int v2), (3, .int v3)] → V_X0_bars_70 o0 post (V_X0_bars_2 o0 post n2x) z v1 v2 v3 → W p l e (rmq 1 0 0) s m args below meth c H locs 0 0 Q (F0 m 70 ls []) := by
        intro z v1 v2 v3 H locs hw ls hl h
        unfold V_X0_bars_70 at h
        obtain ⟨t6, et6⟩ : ∃ y : Int32, y = v3 + (1 : Int32) := ⟨_, rfl⟩
        replace h := h t6 et6
        refine lv_iinc (v := t6) (lv' := [(3, .int t6), (0, .ref (ad o0 100)), (1, .int v1), (2, .int v2)]) hx hb dX0_bars_70 hl (k := 3) rfl (by rw [et6]; rfl) (by decide) rfl (fun ls hl => ?_)
        refine lv_goto (tgt := 2) hx hb dX0_bars_73 (by decide) ?_
        exact ih2 z v1 v2 t6 H locs hw ls (lv_sub hl [1, 2, 3, 0] rfl) h
      intro z v1 v2 v3 H locs hw ls hl h
      unfold V_X0_bars_2 at h
      refine lv_iload_n hx hb dX0_bars_2 rfl (lv_at hl 3 rfl) ?_
      refine lv_aload_n hx hb dX0_bars_3 rfl (lv_at hl 0 rfl) ?_
      refine xgI E hw (c1 := 0) (ciisA ho0) (kyisA_100 ho0) fo_0_8 qf_0_40 dX0_bars_4 ?_
      refine lv_icmp_ge (tgt := 76) hx hb dX0_bars_7 (by decide) (fun c1 => ?_) (fun c1 => ?_)
      · replace h := h.1 c1
        refine lv_iconst (v := 0) hx hb dX0_bars_76 (by decide) ?_
        exact hret (0 : Int32) z H locs 77 ls hw rfl h dX0_bars_77
      · replace h := h.2 c1
        refine lv_iload_n hx hb dX0_bars_10 rfl (lv_at hl 3 rfl) ?_
        refine lv_bipush (v := 6) hx hb dX0_bars_11 (by decide) ?_
        refine lv_icmp_ge (tgt := 76) hx hb dX0_bars_13 (by decide) (fun c2 => ?_) (fun c2 => ?_)
        · replace h := h.1 c2
          refine lv_iconst (v := 0) hx hb dX0_bars_76 (by decide) ?_
          exact hret (0 : Int32) z H locs 77 ls hw rfl h dX0_bars_77
        · replace h := h.2 c2
          refine lv_aload_n hx hb dX0_bars_16 rfl (lv_at hl 0 rfl) ?_
          refine xgC E hw (c1 := 0) (t := (o0, 7)) (ciisA ho0) (kyisA_100 ho0) fo_0_7 rfl qf_0_37 dX0_bars_17 ?_
          refine lv_iconst (v := 4) hx hb dX0_bars_20 (by decide) ?_
          refine lv_iload_n hx hb dX0_bars_21 rfl (lv_at hl 3 rfl) ?_
          refine lv_imul hx hb dX0_bars_22 ?_
          obtain ⟨hi, h⟩ := h
          refine xal E hw (kyisA_7 ho0) (kaisA_7 ho0) hi dX0_bars_23 ?_
          refine lv_iload_n hx hb dX0_bars_24 rfl (lv_at hl 1 rfl) ?_
          refine lv_aload_n hx hb dX0_bars_25 rfl (lv_at hl 0 rfl) ?_
          refine xgC E hw (c1 := 0) (t := (o0, 7)) (ciisA ho0) (kyisA_100 ho0) fo_0_7 rfl qf_0_37 dX0_bars_26 ?_
          refine lv_iconst (v := 4) hx hb dX0_bars_29 (by decide) ?_
          refine lv_iload_n hx hb dX0_bars_30 rfl (lv_at hl 3 rfl) ?_
          refine lv_imul hx hb dX0_bars_31 ?_
          refine lv_iconst (v := 2) hx hb dX0_bars_32 (by decide) ?_
          refine lv_iadd hx hb dX0_bars_33 ?_
          obtain ⟨hi, h⟩ := h
          refine xal E hw (kyisA_7 ho0) (kaisA_7 ho0) hi dX0_bars_34 ?_
          have hq := h
          clear h
          refine xcNI (As := [.int (zR z o0 7 (Int32.toNatClampNeg ((4 : Int32) * v3))), .int v1, .int (zR z o0 7 (Int32.toNatClampNeg (((4 : Int32) * v3) + (2 : Int32))))]) (rest := []) E hw hA (c_X11_isFrom l D ad cs sk z (zR z o0 7 (Int32.toNatClampNeg ((4 : Int32) * v3))) v1 (zR z o0 7 (Int32.toNatClampNeg (((4 : Int32) * v3) + (2 : Int32)))) _ hq) E.2.1.2.1 kn_X11_isFrom yo_X11_isFrom ⟨Nat.le_of_ble_eq_true rfl, Nat.le_of_ble_eq_true rfl⟩ rfl hl.1 rfl (Nat.le_of_ble_eq_true rfl) dX0_bars_35 ⟨Nat.le_of_ble_eq_true rfl, Nat.le_of_ble_eq_true rfl⟩ (fun r4 z3 H locs h hw => ?_)
          refine lv_if_eq (tgt := 70) hx hb dX0_bars_38 (by decide) (fun c5 => ?_) (fun c5 => ?_)
          · replace h := h.1 c5
            exact b70 z3 v1 v2 v3 H locs hw ls (lv_sub hl [0, 1, 2, 3] rfl) h
          · replace h := h.2 c5
            refine lv_aload_n hx hb dX0_bars_41 rfl (lv_at hl 0 rfl) ?_
            refine xgC E hw (c1 := 0) (t := (o0, 7)) (ciisA ho0) (kyisA_100 ho0) fo_0_7 rfl qf_0_37 dX0_bars_42 ?_
            refine lv_iconst (v := 4) hx hb dX0_bars_45 (by decide) ?_
            refine lv_iload_n hx hb dX0_bars_46 rfl (lv_at hl 3 rfl) ?_
            refine lv_imul hx hb dX0_bars_47 ?_
            refine lv_iconst (v := 1) hx hb dX0_bars_48 (by decide) ?_
            refine lv_iadd hx hb dX0_bars_49 ?_
            obtain ⟨hi, h⟩ := h
            refine xal E hw (kyisA_7 ho0) (kaisA_7 ho0) hi dX0_bars_50 ?_
            refine lv_iload_n hx hb dX0_bars_51 rfl (lv_at hl 2 rfl) ?_
            refine lv_aload_n hx hb dX0_bars_52 rfl (lv_at hl 0 rfl) ?_
            refine xgC E hw (c1 := 0) (t := (o0, 7)) (ciisA ho0) (kyisA_100 ho0) fo_0_7 rfl qf_0_37 dX0_bars_53 ?_
            refine lv_iconst (v := 4) hx hb dX0_bars_56 (by decide) ?_
            refine lv_iload_n hx hb dX0_bars_57 rfl (lv_at hl 3 rfl) ?_
            refine lv_imul hx hb dX0_bars_58 ?_
            refine lv_iconst (v := 3) hx hb dX0_bars_59 (by decide) ?_
            refine lv_iadd hx hb dX0_bars_60 ?_
            obtain ⟨hi, h⟩ := h
            refine xal E hw (kyisA_7 ho0) (kaisA_7 ho0) hi dX0_bars_61 ?_
            have hq := h
            clear h
            refine xcNI (As := [.int (zR z3 o0 7 (Int32.toNatClampNeg (((4 : Int32) * v3) + (1 : Int32)))), .int v2, .int (zR z3 o0 7 (Int32.toNatClampNeg (((4 : Int32) * v3) + (3 : Int32))))]) (rest := []) E hw hA (c_X11_isFrom l D ad cs sk z3 (zR z3 o0 7 (Int32.toNatClampNeg (((4 : Int32) * v3) + (1 : Int32)))) v2 (zR z3 o0 7 (Int32.toNatClampNeg (((4 : Int32) * v3) + (3 : Int32)))) _ hq) E.2.1.2.1 kn_X11_isFrom yo_X11_isFrom ⟨Nat.le_of_ble_eq_true rfl, Nat.le_of_ble_eq_true rfl⟩ rfl hl.1 rfl (Nat.le_of_ble_eq_true rfl) dX0_bars_62 ⟨Nat.le_of_ble_eq_true rfl, Nat.le_of_ble_eq_true rfl⟩ (fun r8 z7 H locs h hw => ?_)
            refine lv_if_eq (tgt := 70) hx hb dX0_bars_65 (by decide) (fun c9 => ?_) (fun c9 => ?_)
            · replace h := h.1 c9
              exact b70 z7 v1 v2 v3 H locs hw ls (lv_sub hl [0, 1, 2, 3] rfl) h
            · replace h := h.2 c9
              refine lv_iconst (v := 1) hx hb dX0_bars_68 (by decide) ?_
              exact hret (1 : Int32) z7 H locs 69 ls hw rfl h dX0_bars_69
  have b00 : ∀ (H : Heap) (locs : List Loc), OW D ad cs A s.heap z H locs → W p l e (rmq 1 0 0) s m args below meth c H locs 0 0 Q (F0 m 0 ls []) := by
    intro H locs hw
    refine lv_iconst (v := 0) hx hb dX0_bars_0 (by decide) ?_
    refine lv_istore_n (lv' := [(3, .int (0 : Int32)), (0, .ref (ad o0 100)), (1, .int p1), (2, .int p2)]) hx hb dX0_bars_1 rfl hl (by decide) rfl (fun ls hl => ?_)
    obtain ⟨n10, h⟩ := h
    exact b2 n10 z p1 p2 (0 : Int32) H locs hw ls (lv_sub hl [1, 2, 3, 0] rfl) h
  exact b00 s.heap [] hw
def V_X0_windyLayers_31 (o0 : Nat) (post : Int32 → ZS → Prop) (rr4 : ZS → Int32 → Int32 → Prop) (z : ZS) (v1 : Int32) (v2 : Int32) : Prop := (∀ t4 : Int32, t4 = v2 + (1 : Int32) → rr4 z v1 t4)
def V_X0_windyLayers_28 (o0 : Nat) (post : Int32 → ZS → Prop) (rr4 : ZS → Int32 → Int32 → Prop) (z : ZS) (v1 : Int32) (v2 : Int32) : Prop := (∀ t3 : Int32, t3 = v1 + (1 : Int32) → V_X0_windyLayers_31 o0 post rr4 z t3 v2)
def V_X0_windyLayers_4 (o0 : Nat) (post : Int32 → ZS → Prop) : Nat → ZS → Int32 → Int32 → Prop
  | 0, _, _, _ => False
  | (n + 1), z, v1, v2 => (((10 : Int32) ≤ v2 → post v1 z) ∧ (¬ (10 : Int32) ≤ v2 → (vp_in v2 10 ∧ ((¬ (zR z o0 0 (Int32.toNatClampNeg v2)) = 0 → V_X0_windyLayers_28 o0 post (V_X0_windyLayers_4 o0 post n) z v1 v2) ∧ ((zR z o0 0 (Int32.toNatClampNeg v2)) = 0 → (vp_in v2 10 ∧ (((zR z o0 1 (Int32.toNatClampNeg v2)) = 0 → V_X0_windyLayers_31 o0 post (V_X0_windyLayers_4 o0 post n) z v1 v2) ∧ (¬ (zR z o0 1 (Int32.toNatClampNeg v2)) = 0 → V_X0_windyLayers_28 o0 post (V_X0_windyLayers_4 o0 post n) z v1 v2))))))))
def V_X0_windyLayers (z : ZS) (o0 : Nat) (post : Int32 → ZS → Prop) : Prop := (∃ n6 : Nat, V_X0_windyLayers_4 o0 post n6 z (0 : Int32) (0 : Int32))
set_option maxHeartbeats 4000000 in
set_option maxRecDepth 100000 in
theorem c_X0_windyLayers (l : Launch) (D : va_G) (ad : Nat → Nat → Nat) (cs : Nat → ClassId) (sk : (Nat → Nat) × (Nat → Nat)) (z : ZS) (o0 : Nat) (post : Int32 → ZS → Prop) (ho0 : isA o0) (h : V_X0_windyLayers z o0 post) : MI l D ad cs sk yX0_windyLayers cX0_windyLayers 3 .int (rmq 0 0 0) [.ref (ad o0 100)] z post := by
  refine MI.of RX0 rfl (by decide) (Nat.le_of_ble_eq_true rfl) ?_
  intro p e s m args below meth c A Q E hw hA hret ls hl
  have hx := E.1.1
  have hb := E.1.2.1
  have hml := E.1.2.2.1
  have hown := E.1.2.2.2.1
  have h0 := E.1.2.2.2.2
  have hl : lv_has ls 3 [(0, .ref (ad o0 100))] := hl
  unfold V_X0_windyLayers at h
  have b4 : ∀ (n : Nat) (z : ZS) (v1 : Int32) (v2 : Int32), ∀ (H : Heap) (locs : List Loc), OW D ad cs A s.heap z H locs → ∀ ls : Array Slot, lv_has ls 3 [(0, .ref (ad o0 100)), (1, .int v1), (2, .int v2)] → V_X0_windyLayers_4 o0 post n z v1 v2 → W p l e (rmq 0 0 0) s m args below meth c H locs 0 0 Q (F0 m 4 ls []) := by
    intro n
    induction n with
    | zero =>
      intro z v1 v2 H locs hw ls hl h
      exact h.elim
    | succ n4x ih4 =>
      have b31 : ∀ (z : ZS) (v1 : Int32) (v2 : Int32), ∀ (H : Heap) (locs : List Loc), OW D ad cs A s.heap z H locs → ∀ ls : Array Slot, lv_has ls 3 [(0, .ref (ad o0 100)), (1, .int v1), (2, .int v2)] → V_X0_windyLayers_31 o0 post (V_X0_windyLayers_4 o0 post n4x) z v1 v2 → W p l e (rmq 0 0 0) s m args below meth c H locs 0 0 Q (F0 m 31 ls []) := by
        intro z v1 v2 H locs hw ls hl h
        unfold V_X0_windyLayers_31 at h
        obtain ⟨t4, et4⟩ : ∃ y : Int32, y = v2 + (1 : Int32) := ⟨_, rfl⟩
        replace h := h t4 et4
        refine lv_iinc (v := t4) (lv' := [(2, .int t4), (0, .ref (ad o0 100)), (1, .int v1)]) hx hb dX0_windyLayers_31 hl (k := 2) rfl (by rw [et4]; rfl) (by decide) rfl (fun ls hl => ?_)
        refine lv_goto (tgt := 4) hx hb dX0_windyLayers_34 (by decide) ?_
        exact ih4 z v1 t4 H locs hw ls (lv_sub hl [1, 2, 0] rfl) h
      have b28 : ∀ (z : ZS) (v1 : Int32) (v2 : Int32), ∀ (H : Heap) (locs : List Loc), OW D ad cs A s.heap z H locs → ∀ ls : Array Slot, lv_has ls 3 [(0, .ref (ad o0 100)), (1, .int v1), (2, .int v2)] → V_X0_windyLayers_28 o0 post (V_X0_windyLayers_4 o0 post n4x) z v1 v2 → W p l e (rmq 0 0 0) s m args below meth c H locs 0 0 Q (F0 m 28 ls []) := by
        intro z v1 v2 H locs hw ls hl h
        unfold V_X0_windyLayers_28 at h
        obtain ⟨t3, et3⟩ : ∃ y : Int32, y = v1 + (1 : Int32) := ⟨_, rfl⟩
        replace h := h t3 et3
        refine lv_iinc (v := t3) (lv' := [(1, .int t3), (0, .ref (ad o0 100)), (2, .int v2)]) hx hb dX0_windyLayers_28 hl (k := 1) rfl (by rw [et3]; rfl) (by decide) rfl (fun ls hl => ?_)
        exact b31 z t3 v2 H locs hw ls (lv_sub hl [1, 0, 2] rfl) h
      intro z v1 v2 H locs hw ls hl h
      unfold V_X0_windyLayers_4 at h
      refine lv_iload_n hx hb dX0_windyLayers_4 rfl (lv_at hl 2 rfl) ?_
      refine lv_bipush (v := 10) hx hb dX0_windyLayers_5 (by decide) ?_
      refine lv_icmp_ge (tgt := 37) hx hb dX0_windyLayers_7 (by decide) (fun c1 => ?_) (fun c1 => ?_)
      · replace h := h.1 c1
        refine lv_iload_n hx hb dX0_windyLayers_37 rfl (lv_at hl 1 rfl) ?_
        exact hret v1 z H locs 38 ls hw rfl h dX0_windyLayers_38
      · replace h := h.2 c1
        refine lv_aload_n hx hb dX0_windyLayers_10 rfl (lv_at hl 0 rfl) ?_
        refine xgC E hw (c1 := 0) (t := (o0, 0)) (ciisA ho0) (kyisA_100 ho0) fo_0_0 rfl qf_0_9 dX0_windyLayers_11 ?_
        refine lv_iload_n hx hb dX0_windyLayers_14 rfl (lv_at hl 2 rfl) ?_
        obtain ⟨hi, h⟩ := h
        refine xal E hw (kyisA_0 ho0) (kaisA_0 ho0) hi dX0_windyLayers_15 ?_
        refine lv_if_ne (tgt := 28) hx hb dX0_windyLayers_16 (by decide) (fun c2 => ?_) (fun c2 => ?_)
        · replace h := h.1 c2
          exact b28 z v1 v2 H locs hw ls (lv_sub hl [0, 1, 2] rfl) h
        · replace h := h.2 c2
          refine lv_aload_n hx hb dX0_windyLayers_19 rfl (lv_at hl 0 rfl) ?_
          refine xgC E hw (c1 := 0) (t := (o0, 1)) (ciisA ho0) (kyisA_100 ho0) fo_0_1 rfl qf_0_15 dX0_windyLayers_20 ?_
          refine lv_iload_n hx hb dX0_windyLayers_23 rfl (lv_at hl 2 rfl) ?_
          obtain ⟨hi, h⟩ := h
          refine xal E hw (kyisA_1 ho0) (kaisA_1 ho0) hi dX0_windyLayers_24 ?_
          refine lv_if_eq (tgt := 31) hx hb dX0_windyLayers_25 (by decide) (fun c5 => ?_) (fun c5 => ?_)
          · replace h := h.1 c5
            exact b31 z v1 v2 H locs hw ls (lv_sub hl [0, 1, 2] rfl) h
          · replace h := h.2 c5
            exact b28 z v1 v2 H locs hw ls (lv_sub hl [0, 1, 2] rfl) h
  have b00 : ∀ (H : Heap) (locs : List Loc), OW D ad cs A s.heap z H locs → W p l e (rmq 0 0 0) s m args below meth c H locs 0 0 Q (F0 m 0 ls []) := by
    intro H locs hw
    refine lv_iconst (v := 0) hx hb dX0_windyLayers_0 (by decide) ?_
    refine lv_istore_n (lv' := [(1, .int (0 : Int32)), (0, .ref (ad o0 100))]) hx hb dX0_windyLayers_1 rfl hl (by decide) rfl (fun ls hl => ?_)
    refine lv_iconst (v := 0) hx hb dX0_windyLayers_2 (by decide) ?_
    refine lv_istore_n (lv' := [(2, .int (0 : Int32)), (1, .int (0 : Int32)), (0, .ref (ad o0 100))]) hx hb dX0_windyLayers_3 rfl hl (by decide) rfl (fun ls hl => ?_)
    obtain ⟨n6, h⟩ := h
    exact b4 n6 z (0 : Int32) (0 : Int32) H locs hw ls (lv_sub hl [2, 1, 0] rfl) h
  exact b00 s.heap [] hw
def V_X0_isWind (z : ZS) (p0 : Int32) (post : Int32 → ZS → Prop) : Prop := V_X11_isFrom z (-90 : Int32) p0 (90 : Int32) (fun r2 z1 => (narrow .boolean (.int r2) = .int r2 ∧ post r2 z1))
set_option maxHeartbeats 4000000 in
set_option maxRecDepth 100000 in
theorem c_X0_isWind (l : Launch) (D : va_G) (ad : Nat → Nat → Nat) (cs : Nat → ClassId) (sk : (Nat → Nat) × (Nat → Nat)) (z : ZS) (p0 : Int32) (post : Int32 → ZS → Prop) (h : V_X0_isWind z p0 post) : MI l D ad cs sk yX0_isWind cX0_isWind 1 .boolean (rmq 1 0 0) [.int p0] z post := by
  refine MI.of RX0 rfl (by decide) (Nat.le_of_ble_eq_true rfl) ?_
  intro p e s m args below meth c A Q E hw hA hret ls hl
  have hx := E.1.1
  have hb := E.1.2.1
  have hml := E.1.2.2.1
  have hown := E.1.2.2.2.1
  have h0 := E.1.2.2.2.2
  have hl : lv_has ls 1 [(0, .int p0)] := hl
  unfold V_X0_isWind at h
  have b00 : ∀ (H : Heap) (locs : List Loc), OW D ad cs A s.heap z H locs → W p l e (rmq 1 0 0) s m args below meth c H locs 0 0 Q (F0 m 0 ls []) := by
    intro H locs hw
    refine lv_bipush (v := -90) hx hb dX0_isWind_0 (by decide) ?_
    refine lv_iload_n hx hb dX0_isWind_2 rfl (lv_at hl 0 rfl) ?_
    refine lv_bipush (v := 90) hx hb dX0_isWind_3 (by decide) ?_
    have hq := h
    clear h
    refine xcNI (As := [.int (-90 : Int32), .int p0, .int (90 : Int32)]) (rest := []) E hw hA (c_X11_isFrom l D ad cs sk z (-90 : Int32) p0 (90 : Int32) _ hq) E.2.1.2.1 kn_X11_isFrom yo_X11_isFrom ⟨Nat.le_of_ble_eq_true rfl, Nat.le_of_ble_eq_true rfl⟩ rfl hl.1 rfl (Nat.le_of_ble_eq_true rfl) dX0_isWind_5 ⟨Nat.le_of_ble_eq_true rfl, Nat.le_of_ble_eq_true rfl⟩ (fun r2 z1 H locs h hw => ?_)
    exact hret r2 z1 H locs 8 ls hw h.1 h.2 dX0_isWind_8
  exact b00 s.heap [] hw
def V_X0_isYards (z : ZS) (p0 : Int32) (post : Int32 → ZS → Prop) : Prop := V_X11_isFrom z (-3000 : Int32) p0 (3000 : Int32) (fun r2 z1 => (narrow .boolean (.int r2) = .int r2 ∧ post r2 z1))
set_option maxHeartbeats 4000000 in
set_option maxRecDepth 100000 in
theorem c_X0_isYards (l : Launch) (D : va_G) (ad : Nat → Nat → Nat) (cs : Nat → ClassId) (sk : (Nat → Nat) × (Nat → Nat)) (z : ZS) (p0 : Int32) (post : Int32 → ZS → Prop) (h : V_X0_isYards z p0 post) : MI l D ad cs sk yX0_isYards cX0_isYards 1 .boolean (rmq 1 0 0) [.int p0] z post := by
  refine MI.of RX0 rfl (by decide) (Nat.le_of_ble_eq_true rfl) ?_
  intro p e s m args below meth c A Q E hw hA hret ls hl
  have hx := E.1.1
  have hb := E.1.2.1
  have hml := E.1.2.2.1
  have hown := E.1.2.2.2.1
  have h0 := E.1.2.2.2.2
  have hl : lv_has ls 1 [(0, .int p0)] := hl
  unfold V_X0_isYards at h
  have b00 : ∀ (H : Heap) (locs : List Loc), OW D ad cs A s.heap z H locs → W p l e (rmq 1 0 0) s m args below meth c H locs 0 0 Q (F0 m 0 ls []) := by
    intro H locs hw
    refine lv_sipush (v := -3000) hx hb dX0_isYards_0 (by decide) ?_
    refine lv_iload_n hx hb dX0_isYards_3 rfl (lv_at hl 0 rfl) ?_
    refine lv_sipush (v := 3000) hx hb dX0_isYards_4 (by decide) ?_
    have hq := h
    clear h
    refine xcNI (As := [.int (-3000 : Int32), .int p0, .int (3000 : Int32)]) (rest := []) E hw hA (c_X11_isFrom l D ad cs sk z (-3000 : Int32) p0 (3000 : Int32) _ hq) E.2.1.2.1 kn_X11_isFrom yo_X11_isFrom ⟨Nat.le_of_ble_eq_true rfl, Nat.le_of_ble_eq_true rfl⟩ rfl hl.1 rfl (Nat.le_of_ble_eq_true rfl) dX0_isYards_7 ⟨Nat.le_of_ble_eq_true rfl, Nat.le_of_ble_eq_true rfl⟩ (fun r2 z1 H locs h hw => ?_)
    exact hret r2 z1 H locs 10 ls hw h.1 h.2 dX0_isYards_10
  exact b00 s.heap [] hw
def V_X11_isLayer (z : ZS) (p0 : Int32) (post : Int32 → ZS → Prop) : Prop := V_X11_isFrom z (0 : Int32) p0 (9 : Int32) (fun r2 z1 => (narrow .boolean (.int r2) = .int r2 ∧ post r2 z1))
set_option maxHeartbeats 4000000 in
set_option maxRecDepth 100000 in
theorem c_X11_isLayer (l : Launch) (D : va_G) (ad : Nat → Nat → Nat) (cs : Nat → ClassId) (sk : (Nat → Nat) × (Nat → Nat)) (z : ZS) (p0 : Int32) (post : Int32 → ZS → Prop) (h : V_X11_isLayer z p0 post) : MI l D ad cs sk yX11_isLayer cX11_isLayer 1 .boolean (rmq 1 0 0) [.int p0] z post := by
  refine MI.of RX11 rfl (by decide) (Nat.le_of_ble_eq_true rfl) ?_
  intro p e s m args below meth c A Q E hw hA hret ls hl
  have hx := E.1.1
  have hb := E.1.2.1
  have hml := E.1.2.2.1
  have hown := E.1.2.2.2.1
  have h0 := E.1.2.2.2.2
  have hl : lv_has ls 1 [(0, .int p0)] := hl
  unfold V_X11_isLayer at h
  have b00 : ∀ (H : Heap) (locs : List Loc), OW D ad cs A s.heap z H locs → W p l e (rmq 1 0 0) s m args below meth c H locs 0 0 Q (F0 m 0 ls []) := by
    intro H locs hw
    refine lv_iconst (v := 0) hx hb dX11_isLayer_0 (by decide) ?_
    refine lv_iload_n hx hb dX11_isLayer_1 rfl (lv_at hl 0 rfl) ?_
    refine lv_bipush (v := 9) hx hb dX11_isLayer_2 (by decide) ?_
    have hq := h
    clear h
    refine xcSI (As := [.int (0 : Int32), .int p0, .int (9 : Int32)]) (rest := []) E hw hA (c_X11_isFrom l D ad cs sk z (0 : Int32) p0 (9 : Int32) _ hq) kc_11_83 yo_X11_isFrom ⟨Nat.le_of_ble_eq_true rfl, Nat.le_of_ble_eq_true rfl⟩ rfl hl.1 rfl (Nat.le_of_ble_eq_true rfl) dX11_isLayer_4 ⟨Nat.le_of_ble_eq_true rfl, Nat.le_of_ble_eq_true rfl⟩ (fun r2 z1 H locs h hw => ?_)
    exact hret r2 z1 H locs 7 ls hw h.1 h.2 dX11_isLayer_7
  exact b00 s.heap [] hw
def V_X0_isAsTold (z : ZS) (o0 : Nat) (p1 : Int32) (post : Int32 → ZS → Prop) : Prop := ((p1 = (97 : Int32) → V_X11_isFrom z (0 : Int32) (zR z o0 9 0) (900 : Int32) (fun r38 z37 => ((r38 = 0 → post (0 : Int32) z37) ∧ (¬ r38 = 0 → V_X11_isFrom z37 (300 : Int32) (zR z37 o0 9 1) (3000 : Int32) (fun r41 z40 => ((r41 = 0 → post (0 : Int32) z40) ∧ (¬ r41 = 0 → post (1 : Int32) z40))))))) ∧ (¬ p1 = (97 : Int32) → ((p1 = (102 : Int32) → V_X11_isFrom z (0 : Int32) (zR z o0 9 0) (7 : Int32) (fun r31 z30 => ((r31 = 0 → post (0 : Int32) z30) ∧ (¬ r31 = 0 → V_X11_isFrom z30 (0 : Int32) (zR z30 o0 9 2) (20 : Int32) (fun r34 z33 => ((r34 = 0 → post (0 : Int32) z33) ∧ (¬ r34 = 0 → (((8 : Int32) ≤ (zI z33 o0 6) → post (0 : Int32) z33) ∧ (¬ (8 : Int32) ≤ (zI z33 o0 6) → post (1 : Int32) z33))))))))) ∧ (¬ p1 = (102 : Int32) → ((p1 = (103 : Int32) → V_X11_isFrom z (0 : Int32) (zR z o0 9 0) (30 : Int32) (fun r29 z28 => (narrow .boolean (.int r29) = .int r29 ∧ post r29 z28))) ∧ (¬ p1 = (103 : Int32) → ((p1 = (108 : Int32) → V_X11_isLayer z (zR z o0 9 0) (fun r20 z19 => ((r20 = 0 → post (0 : Int32) z19) ∧ (¬ r20 = 0 → V_X0_isWind z19 (zR z19 o0 9 1) (fun r23 z22 => ((r23 = 0 → post (0 : Int32) z22) ∧ (¬ r23 = 0 → V_X0_isWind z22 (zR z22 o0 9 2) (fun r26 z25 => ((r26 = 0 → post (0 : Int32) z25) ∧ (¬ r26 = 0 → post (1 : Int32) z25)))))))))) ∧ (¬ p1 = (108 : Int32) → V_X0_isYards z (zR z o0 9 0) (fun r2 z1 => ((r2 = 0 → post (0 : Int32) z1) ∧ (¬ r2 = 0 → V_X0_isYards z1 (zR z1 o0 9 1) (fun r5 z4 => ((r5 = 0 → post (0 : Int32) z4) ∧ (¬ r5 = 0 → V_X0_isYards z4 (zR z4 o0 9 2) (fun r8 z7 => ((r8 = 0 → post (0 : Int32) z7) ∧ (¬ r8 = 0 → V_X0_isYards z7 (zR z7 o0 9 3) (fun r11 z10 => ((r11 = 0 → post (0 : Int32) z10) ∧ (¬ r11 = 0 → (((6 : Int32) ≤ (zI z10 o0 8) → post (0 : Int32) z10) ∧ (¬ (6 : Int32) ≤ (zI z10 o0 8) → post (1 : Int32) z10))))))))))))))))))))))
set_option maxHeartbeats 4000000 in
set_option maxRecDepth 100000 in
theorem c_X0_isAsTold (l : Launch) (D : va_G) (ad : Nat → Nat → Nat) (cs : Nat → ClassId) (sk : (Nat → Nat) × (Nat → Nat)) (z : ZS) (o0 : Nat) (p1 : Int32) (post : Int32 → ZS → Prop) (ho0 : isA o0) (h : V_X0_isAsTold z o0 p1 post) : MI l D ad cs sk yX0_isAsTold cX0_isAsTold 2 .boolean (rmq 2 0 0) [.ref (ad o0 100), .int p1] z post := by
  refine MI.of RX0 rfl (by decide) (Nat.le_of_ble_eq_true rfl) ?_
  intro p e s m args below meth c A Q E hw hA hret ls hl
  have hx := E.1.1
  have hb := E.1.2.1
  have hml := E.1.2.2.1
  have hown := E.1.2.2.2.1
  have h0 := E.1.2.2.2.2
  have hl : lv_has ls 2 [(0, .ref (ad o0 100)), (1, .int p1)] := hl
  unfold V_X0_isAsTold at h
  have b00 : ∀ (H : Heap) (locs : List Loc), OW D ad cs A s.heap z H locs → W p l e (rmq 2 0 0) s m args below meth c H locs 0 0 Q (F0 m 0 ls []) := by
    intro H locs hw
    refine lv_iload_n hx hb dX0_isAsTold_0 rfl (lv_at hl 1 rfl) ?_
    by_cases c14 : p1 = (97 : Int32)
    · replace h := h.1 c14
      refine lv_lookup (tgt := 99) (off := 98) hx hb dX0_isAsTold_1 (by decide) (by rw [c14]; rfl) (by decide) ?_
      refine lv_iconst (v := 0) hx hb dX0_isAsTold_99 (by decide) ?_
      refine lv_aload_n hx hb dX0_isAsTold_100 rfl (lv_at hl 0 rfl) ?_
      refine xgC E hw (c1 := 0) (t := (o0, 9)) (ciisA ho0) (kyisA_100 ho0) fo_0_9 rfl qf_0_43 dX0_isAsTold_101 ?_
      refine lv_iconst (v := 0) hx hb dX0_isAsTold_104 (by decide) ?_
      refine xalL (j := 0) E hw (kyisA_9 ho0) (kaisA_9 ho0) (by decide) (by decide) dX0_isAsTold_105 ?_
      refine lv_sipush (v := 900) hx hb dX0_isAsTold_106 (by decide) ?_
      have hq := h
      clear h
      refine xcNI (As := [.int (0 : Int32), .int (zR z o0 9 0), .int (900 : Int32)]) (rest := []) E hw hA (c_X11_isFrom l D ad cs sk z (0 : Int32) (zR z o0 9 0) (900 : Int32) _ hq) E.2.1.2.1 kn_X11_isFrom yo_X11_isFrom ⟨Nat.le_of_ble_eq_true rfl, Nat.le_of_ble_eq_true rfl⟩ rfl hl.1 rfl (Nat.le_of_ble_eq_true rfl) dX0_isAsTold_109 ⟨Nat.le_of_ble_eq_true rfl, Nat.le_of_ble_eq_true rfl⟩ (fun r38 z37 H locs h hw => ?_)
      refine lv_if_eq (tgt := 137) hx hb dX0_isAsTold_112 (by decide) (fun c39 => ?_) (fun c39 => ?_)
      · replace h := h.1 c39
        refine lv_iconst (v := 0) hx hb dX0_isAsTold_137 (by decide) ?_
        exact hret (0 : Int32) z37 H locs 138 ls hw rfl h dX0_isAsTold_138
      · replace h := h.2 c39
        refine lv_sipush (v := 300) hx hb dX0_isAsTold_115 (by decide) ?_
        refine lv_aload_n hx hb dX0_isAsTold_118 rfl (lv_at hl 0 rfl) ?_
        refine xgC E hw (c1 := 0) (t := (o0, 9)) (ciisA ho0) (kyisA_100 ho0) fo_0_9 rfl qf_0_43 dX0_isAsTold_119 ?_
        refine lv_iconst (v := 1) hx hb dX0_isAsTold_122 (by decide) ?_
        refine xalL (j := 1) E hw (kyisA_9 ho0) (kaisA_9 ho0) (by decide) (by decide) dX0_isAsTold_123 ?_
        refine lv_sipush (v := 3000) hx hb dX0_isAsTold_124 (by decide) ?_
        have hq := h
        clear h
        refine xcNI (As := [.int (300 : Int32), .int (zR z37 o0 9 1), .int (3000 : Int32)]) (rest := []) E hw hA (c_X11_isFrom l D ad cs sk z37 (300 : Int32) (zR z37 o0 9 1) (3000 : Int32) _ hq) E.2.1.2.1 kn_X11_isFrom yo_X11_isFrom ⟨Nat.le_of_ble_eq_true rfl, Nat.le_of_ble_eq_true rfl⟩ rfl hl.1 rfl (Nat.le_of_ble_eq_true rfl) dX0_isAsTold_127 ⟨Nat.le_of_ble_eq_true rfl, Nat.le_of_ble_eq_true rfl⟩ (fun r41 z40 H locs h hw => ?_)
        refine lv_if_eq (tgt := 137) hx hb dX0_isAsTold_130 (by decide) (fun c42 => ?_) (fun c42 => ?_)
        · replace h := h.1 c42
          refine lv_iconst (v := 0) hx hb dX0_isAsTold_137 (by decide) ?_
          exact hret (0 : Int32) z40 H locs 138 ls hw rfl h dX0_isAsTold_138
        · replace h := h.2 c42
          refine lv_iconst (v := 1) hx hb dX0_isAsTold_133 (by decide) ?_
          refine lv_goto (tgt := 138) hx hb dX0_isAsTold_134 (by decide) ?_
          exact hret (1 : Int32) z40 H locs 138 ls hw rfl h dX0_isAsTold_138
    · replace h := h.2 c14
      by_cases c15 : p1 = (102 : Int32)
      · replace h := h.1 c15
        refine lv_lookup (tgt := 139) (off := 138) hx hb dX0_isAsTold_1 (by decide) (by rw [c15]; rfl) (by decide) ?_
        refine lv_iconst (v := 0) hx hb dX0_isAsTold_139 (by decide) ?_
        refine lv_aload_n hx hb dX0_isAsTold_140 rfl (lv_at hl 0 rfl) ?_
        refine xgC E hw (c1 := 0) (t := (o0, 9)) (ciisA ho0) (kyisA_100 ho0) fo_0_9 rfl qf_0_43 dX0_isAsTold_141 ?_
        refine lv_iconst (v := 0) hx hb dX0_isAsTold_144 (by decide) ?_
        refine xalL (j := 0) E hw (kyisA_9 ho0) (kaisA_9 ho0) (by decide) (by decide) dX0_isAsTold_145 ?_
        refine lv_bipush (v := 7) hx hb dX0_isAsTold_146 (by decide) ?_
        have hq := h
        clear h
        refine xcNI (As := [.int (0 : Int32), .int (zR z o0 9 0), .int (7 : Int32)]) (rest := []) E hw hA (c_X11_isFrom l D ad cs sk z (0 : Int32) (zR z o0 9 0) (7 : Int32) _ hq) E.2.1.2.1 kn_X11_isFrom yo_X11_isFrom ⟨Nat.le_of_ble_eq_true rfl, Nat.le_of_ble_eq_true rfl⟩ rfl hl.1 rfl (Nat.le_of_ble_eq_true rfl) dX0_isAsTold_148 ⟨Nat.le_of_ble_eq_true rfl, Nat.le_of_ble_eq_true rfl⟩ (fun r31 z30 H locs h hw => ?_)
        refine lv_if_eq (tgt := 182) hx hb dX0_isAsTold_151 (by decide) (fun c32 => ?_) (fun c32 => ?_)
        · replace h := h.1 c32
          refine lv_iconst (v := 0) hx hb dX0_isAsTold_182 (by decide) ?_
          exact hret (0 : Int32) z30 H locs 183 ls hw rfl h dX0_isAsTold_183
        · replace h := h.2 c32
          refine lv_iconst (v := 0) hx hb dX0_isAsTold_154 (by decide) ?_
          refine lv_aload_n hx hb dX0_isAsTold_155 rfl (lv_at hl 0 rfl) ?_
          refine xgC E hw (c1 := 0) (t := (o0, 9)) (ciisA ho0) (kyisA_100 ho0) fo_0_9 rfl qf_0_43 dX0_isAsTold_156 ?_
          refine lv_iconst (v := 2) hx hb dX0_isAsTold_159 (by decide) ?_
          refine xalL (j := 2) E hw (kyisA_9 ho0) (kaisA_9 ho0) (by decide) (by decide) dX0_isAsTold_160 ?_
          refine lv_bipush (v := 20) hx hb dX0_isAsTold_161 (by decide) ?_
          have hq := h
          clear h
          refine xcNI (As := [.int (0 : Int32), .int (zR z30 o0 9 2), .int (20 : Int32)]) (rest := []) E hw hA (c_X11_isFrom l D ad cs sk z30 (0 : Int32) (zR z30 o0 9 2) (20 : Int32) _ hq) E.2.1.2.1 kn_X11_isFrom yo_X11_isFrom ⟨Nat.le_of_ble_eq_true rfl, Nat.le_of_ble_eq_true rfl⟩ rfl hl.1 rfl (Nat.le_of_ble_eq_true rfl) dX0_isAsTold_163 ⟨Nat.le_of_ble_eq_true rfl, Nat.le_of_ble_eq_true rfl⟩ (fun r34 z33 H locs h hw => ?_)
          refine lv_if_eq (tgt := 182) hx hb dX0_isAsTold_166 (by decide) (fun c35 => ?_) (fun c35 => ?_)
          · replace h := h.1 c35
            refine lv_iconst (v := 0) hx hb dX0_isAsTold_182 (by decide) ?_
            exact hret (0 : Int32) z33 H locs 183 ls hw rfl h dX0_isAsTold_183
          · replace h := h.2 c35
            refine lv_aload_n hx hb dX0_isAsTold_169 rfl (lv_at hl 0 rfl) ?_
            refine xgI E hw (c1 := 0) (ciisA ho0) (kyisA_100 ho0) fo_0_6 qf_0_34 dX0_isAsTold_170 ?_
            refine lv_bipush (v := 8) hx hb dX0_isAsTold_173 (by decide) ?_
            refine lv_icmp_ge (tgt := 182) hx hb dX0_isAsTold_175 (by decide) (fun c36 => ?_) (fun c36 => ?_)
            · replace h := h.1 c36
              refine lv_iconst (v := 0) hx hb dX0_isAsTold_182 (by decide) ?_
              exact hret (0 : Int32) z33 H locs 183 ls hw rfl h dX0_isAsTold_183
            · replace h := h.2 c36
              refine lv_iconst (v := 1) hx hb dX0_isAsTold_178 (by decide) ?_
              refine lv_goto (tgt := 183) hx hb dX0_isAsTold_179 (by decide) ?_
              exact hret (1 : Int32) z33 H locs 183 ls hw rfl h dX0_isAsTold_183
      · replace h := h.2 c15
        by_cases c16 : p1 = (103 : Int32)
        · replace h := h.1 c16
          refine lv_lookup (tgt := 86) (off := 85) hx hb dX0_isAsTold_1 (by decide) (by rw [c16]; rfl) (by decide) ?_
          refine lv_iconst (v := 0) hx hb dX0_isAsTold_86 (by decide) ?_
          refine lv_aload_n hx hb dX0_isAsTold_87 rfl (lv_at hl 0 rfl) ?_
          refine xgC E hw (c1 := 0) (t := (o0, 9)) (ciisA ho0) (kyisA_100 ho0) fo_0_9 rfl qf_0_43 dX0_isAsTold_88 ?_
          refine lv_iconst (v := 0) hx hb dX0_isAsTold_91 (by decide) ?_
          refine xalL (j := 0) E hw (kyisA_9 ho0) (kaisA_9 ho0) (by decide) (by decide) dX0_isAsTold_92 ?_
          refine lv_bipush (v := 30) hx hb dX0_isAsTold_93 (by decide) ?_
          have hq := h
          clear h
          refine xcNI (As := [.int (0 : Int32), .int (zR z o0 9 0), .int (30 : Int32)]) (rest := []) E hw hA (c_X11_isFrom l D ad cs sk z (0 : Int32) (zR z o0 9 0) (30 : Int32) _ hq) E.2.1.2.1 kn_X11_isFrom yo_X11_isFrom ⟨Nat.le_of_ble_eq_true rfl, Nat.le_of_ble_eq_true rfl⟩ rfl hl.1 rfl (Nat.le_of_ble_eq_true rfl) dX0_isAsTold_95 ⟨Nat.le_of_ble_eq_true rfl, Nat.le_of_ble_eq_true rfl⟩ (fun r29 z28 H locs h hw => ?_)
          exact hret r29 z28 H locs 98 ls hw h.1 h.2 dX0_isAsTold_98
        · replace h := h.2 c16
          by_cases c17 : p1 = (108 : Int32)
          · replace h := h.1 c17
            refine lv_lookup (tgt := 44) (off := 43) hx hb dX0_isAsTold_1 (by decide) (by rw [c17]; rfl) (by decide) ?_
            refine lv_aload_n hx hb dX0_isAsTold_44 rfl (lv_at hl 0 rfl) ?_
            refine xgC E hw (c1 := 0) (t := (o0, 9)) (ciisA ho0) (kyisA_100 ho0) fo_0_9 rfl qf_0_43 dX0_isAsTold_45 ?_
            refine lv_iconst (v := 0) hx hb dX0_isAsTold_48 (by decide) ?_
            refine xalL (j := 0) E hw (kyisA_9 ho0) (kaisA_9 ho0) (by decide) (by decide) dX0_isAsTold_49 ?_
            have hq := h
            clear h
            refine xcNI (As := [.int (zR z o0 9 0)]) (rest := []) E hw hA (c_X11_isLayer l D ad cs sk z (zR z o0 9 0) _ hq) E.2.1.2.2.1 kn_X11_isLayer yo_X11_isLayer ⟨Nat.le_of_ble_eq_true rfl, Nat.le_of_ble_eq_true rfl⟩ rfl hl.1 rfl (Nat.le_of_ble_eq_true rfl) dX0_isAsTold_50 ⟨Nat.le_of_ble_eq_true rfl, Nat.le_of_ble_eq_true rfl⟩ (fun r20 z19 H locs h hw => ?_)
            refine lv_if_eq (tgt := 84) hx hb dX0_isAsTold_53 (by decide) (fun c21 => ?_) (fun c21 => ?_)
            · replace h := h.1 c21
              refine lv_iconst (v := 0) hx hb dX0_isAsTold_84 (by decide) ?_
              exact hret (0 : Int32) z19 H locs 85 ls hw rfl h dX0_isAsTold_85
            · replace h := h.2 c21
              refine lv_aload_n hx hb dX0_isAsTold_56 rfl (lv_at hl 0 rfl) ?_
              refine xgC E hw (c1 := 0) (t := (o0, 9)) (ciisA ho0) (kyisA_100 ho0) fo_0_9 rfl qf_0_43 dX0_isAsTold_57 ?_
              refine lv_iconst (v := 1) hx hb dX0_isAsTold_60 (by decide) ?_
              refine xalL (j := 1) E hw (kyisA_9 ho0) (kaisA_9 ho0) (by decide) (by decide) dX0_isAsTold_61 ?_
              have hq := h
              clear h
              refine xcSI (As := [.int (zR z19 o0 9 1)]) (rest := []) E hw hA (c_X0_isWind l D ad cs sk z19 (zR z19 o0 9 1) _ hq) kc_0_124 yo_X0_isWind ⟨Nat.le_of_ble_eq_true rfl, Nat.le_of_ble_eq_true rfl⟩ rfl hl.1 rfl (Nat.le_of_ble_eq_true rfl) dX0_isAsTold_62 ⟨Nat.le_of_ble_eq_true rfl, Nat.le_of_ble_eq_true rfl⟩ (fun r23 z22 H locs h hw => ?_)
              refine lv_if_eq (tgt := 84) hx hb dX0_isAsTold_65 (by decide) (fun c24 => ?_) (fun c24 => ?_)
              · replace h := h.1 c24
                refine lv_iconst (v := 0) hx hb dX0_isAsTold_84 (by decide) ?_
                exact hret (0 : Int32) z22 H locs 85 ls hw rfl h dX0_isAsTold_85
              · replace h := h.2 c24
                refine lv_aload_n hx hb dX0_isAsTold_68 rfl (lv_at hl 0 rfl) ?_
                refine xgC E hw (c1 := 0) (t := (o0, 9)) (ciisA ho0) (kyisA_100 ho0) fo_0_9 rfl qf_0_43 dX0_isAsTold_69 ?_
                refine lv_iconst (v := 2) hx hb dX0_isAsTold_72 (by decide) ?_
                refine xalL (j := 2) E hw (kyisA_9 ho0) (kaisA_9 ho0) (by decide) (by decide) dX0_isAsTold_73 ?_
                have hq := h
                clear h
                refine xcSI (As := [.int (zR z22 o0 9 2)]) (rest := []) E hw hA (c_X0_isWind l D ad cs sk z22 (zR z22 o0 9 2) _ hq) kc_0_124 yo_X0_isWind ⟨Nat.le_of_ble_eq_true rfl, Nat.le_of_ble_eq_true rfl⟩ rfl hl.1 rfl (Nat.le_of_ble_eq_true rfl) dX0_isAsTold_74 ⟨Nat.le_of_ble_eq_true rfl, Nat.le_of_ble_eq_true rfl⟩ (fun r26 z25 H locs h hw => ?_)
                refine lv_if_eq (tgt := 84) hx hb dX0_isAsTold_77 (by decide) (fun c27 => ?_) (fun c27 => ?_)
                · replace h := h.1 c27
                  refine lv_iconst (v := 0) hx hb dX0_isAsTold_84 (by decide) ?_
                  exact hret (0 : Int32) z25 H locs 85 ls hw rfl h dX0_isAsTold_85
                · replace h := h.2 c27
                  refine lv_iconst (v := 1) hx hb dX0_isAsTold_80 (by decide) ?_
                  refine lv_goto (tgt := 85) hx hb dX0_isAsTold_81 (by decide) ?_
                  exact hret (1 : Int32) z25 H locs 85 ls hw rfl h dX0_isAsTold_85
          · replace h := h.2 c17
            refine lv_lookup (tgt := 184) (off := 183) hx hb dX0_isAsTold_1 (by decide) (by rw [lv_osw c14 (by decide), lv_osw c15 (by decide), lv_osw c16 (by decide), lv_osw c17 (by decide)]; rfl) (by decide) ?_
            refine lv_aload_n hx hb dX0_isAsTold_184 rfl (lv_at hl 0 rfl) ?_
            refine xgC E hw (c1 := 0) (t := (o0, 9)) (ciisA ho0) (kyisA_100 ho0) fo_0_9 rfl qf_0_43 dX0_isAsTold_185 ?_
            refine lv_iconst (v := 0) hx hb dX0_isAsTold_188 (by decide) ?_
            refine xalL (j := 0) E hw (kyisA_9 ho0) (kaisA_9 ho0) (by decide) (by decide) dX0_isAsTold_189 ?_
            have hq := h
            clear h
            refine xcSI (As := [.int (zR z o0 9 0)]) (rest := []) E hw hA (c_X0_isYards l D ad cs sk z (zR z o0 9 0) _ hq) kc_0_127 yo_X0_isYards ⟨Nat.le_of_ble_eq_true rfl, Nat.le_of_ble_eq_true rfl⟩ rfl hl.1 rfl (Nat.le_of_ble_eq_true rfl) dX0_isAsTold_190 ⟨Nat.le_of_ble_eq_true rfl, Nat.le_of_ble_eq_true rfl⟩ (fun r2 z1 H locs h hw => ?_)
            refine lv_if_eq (tgt := 245) hx hb dX0_isAsTold_193 (by decide) (fun c3 => ?_) (fun c3 => ?_)
            · replace h := h.1 c3
              refine lv_iconst (v := 0) hx hb dX0_isAsTold_245 (by decide) ?_
              exact hret (0 : Int32) z1 H locs 246 ls hw rfl h dX0_isAsTold_246
            · replace h := h.2 c3
              refine lv_aload_n hx hb dX0_isAsTold_196 rfl (lv_at hl 0 rfl) ?_
              refine xgC E hw (c1 := 0) (t := (o0, 9)) (ciisA ho0) (kyisA_100 ho0) fo_0_9 rfl qf_0_43 dX0_isAsTold_197 ?_
              refine lv_iconst (v := 1) hx hb dX0_isAsTold_200 (by decide) ?_
              refine xalL (j := 1) E hw (kyisA_9 ho0) (kaisA_9 ho0) (by decide) (by decide) dX0_isAsTold_201 ?_
              have hq := h
              clear h
              refine xcSI (As := [.int (zR z1 o0 9 1)]) (rest := []) E hw hA (c_X0_isYards l D ad cs sk z1 (zR z1 o0 9 1) _ hq) kc_0_127 yo_X0_isYards ⟨Nat.le_of_ble_eq_true rfl, Nat.le_of_ble_eq_true rfl⟩ rfl hl.1 rfl (Nat.le_of_ble_eq_true rfl) dX0_isAsTold_202 ⟨Nat.le_of_ble_eq_true rfl, Nat.le_of_ble_eq_true rfl⟩ (fun r5 z4 H locs h hw => ?_)
              refine lv_if_eq (tgt := 245) hx hb dX0_isAsTold_205 (by decide) (fun c6 => ?_) (fun c6 => ?_)
              · replace h := h.1 c6
                refine lv_iconst (v := 0) hx hb dX0_isAsTold_245 (by decide) ?_
                exact hret (0 : Int32) z4 H locs 246 ls hw rfl h dX0_isAsTold_246
              · replace h := h.2 c6
                refine lv_aload_n hx hb dX0_isAsTold_208 rfl (lv_at hl 0 rfl) ?_
                refine xgC E hw (c1 := 0) (t := (o0, 9)) (ciisA ho0) (kyisA_100 ho0) fo_0_9 rfl qf_0_43 dX0_isAsTold_209 ?_
                refine lv_iconst (v := 2) hx hb dX0_isAsTold_212 (by decide) ?_
                refine xalL (j := 2) E hw (kyisA_9 ho0) (kaisA_9 ho0) (by decide) (by decide) dX0_isAsTold_213 ?_
                have hq := h
                clear h
                refine xcSI (As := [.int (zR z4 o0 9 2)]) (rest := []) E hw hA (c_X0_isYards l D ad cs sk z4 (zR z4 o0 9 2) _ hq) kc_0_127 yo_X0_isYards ⟨Nat.le_of_ble_eq_true rfl, Nat.le_of_ble_eq_true rfl⟩ rfl hl.1 rfl (Nat.le_of_ble_eq_true rfl) dX0_isAsTold_214 ⟨Nat.le_of_ble_eq_true rfl, Nat.le_of_ble_eq_true rfl⟩ (fun r8 z7 H locs h hw => ?_)
                refine lv_if_eq (tgt := 245) hx hb dX0_isAsTold_217 (by decide) (fun c9 => ?_) (fun c9 => ?_)
                · replace h := h.1 c9
                  refine lv_iconst (v := 0) hx hb dX0_isAsTold_245 (by decide) ?_
                  exact hret (0 : Int32) z7 H locs 246 ls hw rfl h dX0_isAsTold_246
                · replace h := h.2 c9
                  refine lv_aload_n hx hb dX0_isAsTold_220 rfl (lv_at hl 0 rfl) ?_
                  refine xgC E hw (c1 := 0) (t := (o0, 9)) (ciisA ho0) (kyisA_100 ho0) fo_0_9 rfl qf_0_43 dX0_isAsTold_221 ?_
                  refine lv_iconst (v := 3) hx hb dX0_isAsTold_224 (by decide) ?_
                  refine xalL (j := 3) E hw (kyisA_9 ho0) (kaisA_9 ho0) (by decide) (by decide) dX0_isAsTold_225 ?_
                  have hq := h
                  clear h
                  refine xcSI (As := [.int (zR z7 o0 9 3)]) (rest := []) E hw hA (c_X0_isYards l D ad cs sk z7 (zR z7 o0 9 3) _ hq) kc_0_127 yo_X0_isYards ⟨Nat.le_of_ble_eq_true rfl, Nat.le_of_ble_eq_true rfl⟩ rfl hl.1 rfl (Nat.le_of_ble_eq_true rfl) dX0_isAsTold_226 ⟨Nat.le_of_ble_eq_true rfl, Nat.le_of_ble_eq_true rfl⟩ (fun r11 z10 H locs h hw => ?_)
                  refine lv_if_eq (tgt := 245) hx hb dX0_isAsTold_229 (by decide) (fun c12 => ?_) (fun c12 => ?_)
                  · replace h := h.1 c12
                    refine lv_iconst (v := 0) hx hb dX0_isAsTold_245 (by decide) ?_
                    exact hret (0 : Int32) z10 H locs 246 ls hw rfl h dX0_isAsTold_246
                  · replace h := h.2 c12
                    refine lv_aload_n hx hb dX0_isAsTold_232 rfl (lv_at hl 0 rfl) ?_
                    refine xgI E hw (c1 := 0) (ciisA ho0) (kyisA_100 ho0) fo_0_8 qf_0_40 dX0_isAsTold_233 ?_
                    refine lv_bipush (v := 6) hx hb dX0_isAsTold_236 (by decide) ?_
                    refine lv_icmp_ge (tgt := 245) hx hb dX0_isAsTold_238 (by decide) (fun c13 => ?_) (fun c13 => ?_)
                    · replace h := h.1 c13
                      refine lv_iconst (v := 0) hx hb dX0_isAsTold_245 (by decide) ?_
                      exact hret (0 : Int32) z10 H locs 246 ls hw rfl h dX0_isAsTold_246
                    · replace h := h.2 c13
                      refine lv_iconst (v := 1) hx hb dX0_isAsTold_241 (by decide) ?_
                      refine lv_goto (tgt := 246) hx hb dX0_isAsTold_242 (by decide) ?_
                      exact hret (1 : Int32) z10 H locs 246 ls hw rfl h dX0_isAsTold_246
  exact b00 s.heap [] hw
def V_X0_isDigit (z : ZS) (p0 : Int32) (post : Int32 → ZS → Prop) : Prop := V_X11_isFrom z (48 : Int32) p0 (57 : Int32) (fun r2 z1 => (narrow .boolean (.int r2) = .int r2 ∧ post r2 z1))
set_option maxHeartbeats 4000000 in
set_option maxRecDepth 100000 in
theorem c_X0_isDigit (l : Launch) (D : va_G) (ad : Nat → Nat → Nat) (cs : Nat → ClassId) (sk : (Nat → Nat) × (Nat → Nat)) (z : ZS) (p0 : Int32) (post : Int32 → ZS → Prop) (h : V_X0_isDigit z p0 post) : MI l D ad cs sk yX0_isDigit cX0_isDigit 1 .boolean (rmq 1 0 0) [.int p0] z post := by
  refine MI.of RX0 rfl (by decide) (Nat.le_of_ble_eq_true rfl) ?_
  intro p e s m args below meth c A Q E hw hA hret ls hl
  have hx := E.1.1
  have hb := E.1.2.1
  have hml := E.1.2.2.1
  have hown := E.1.2.2.2.1
  have h0 := E.1.2.2.2.2
  have hl : lv_has ls 1 [(0, .int p0)] := hl
  unfold V_X0_isDigit at h
  have b00 : ∀ (H : Heap) (locs : List Loc), OW D ad cs A s.heap z H locs → W p l e (rmq 1 0 0) s m args below meth c H locs 0 0 Q (F0 m 0 ls []) := by
    intro H locs hw
    refine lv_bipush (v := 48) hx hb dX0_isDigit_0 (by decide) ?_
    refine lv_iload_n hx hb dX0_isDigit_2 rfl (lv_at hl 0 rfl) ?_
    refine lv_bipush (v := 57) hx hb dX0_isDigit_3 (by decide) ?_
    have hq := h
    clear h
    refine xcNI (As := [.int (48 : Int32), .int p0, .int (57 : Int32)]) (rest := []) E hw hA (c_X11_isFrom l D ad cs sk z (48 : Int32) p0 (57 : Int32) _ hq) E.2.1.2.1 kn_X11_isFrom yo_X11_isFrom ⟨Nat.le_of_ble_eq_true rfl, Nat.le_of_ble_eq_true rfl⟩ rfl hl.1 rfl (Nat.le_of_ble_eq_true rfl) dX0_isDigit_5 ⟨Nat.le_of_ble_eq_true rfl, Nat.le_of_ble_eq_true rfl⟩ (fun r2 z1 H locs h hw => ?_)
    exact hret r2 z1 H locs 8 ls hw h.1 h.2 dX0_isDigit_8
  exact b00 s.heap [] hw
