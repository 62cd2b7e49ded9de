def V_X11_care (z : ZS) (p1 : Int32) (post : Int32 → ZS → Prop) : Prop := V_X11_shelfAt z p1 (fun r2o z1 => ((r2o = none → post (-1 : Int32) z1) ∧ (∀ a3 : Nat, r2o = some a3 → isS a3 ∧ (∀ t4 : Option Nat, t4 = (zG z1 a3 0) → ((t4 = none → (((zI z1 a3 1) = 0 → post (-11 : Int32) z1) ∧ (¬ (zI z1 a3 1) = 0 → post (-12 : Int32) z1))) ∧ (∀ a5 : Nat, t4 = some a5 → (a5 ∈ zP z1 ∧ post (zF z1 a5 7) z1)))))))
set_option maxHeartbeats 4000000 in
set_option maxRecDepth 100000 in
theorem c_X11_care (l : Launch) (D : va_G) (ad : Nat → Nat → Nat) (cs : Nat → ClassId) (sk : (Nat → Nat) × (Nat → Nat)) (z : ZS) (p1 : Int32) (post : Int32 → ZS → Prop) (h : V_X11_care z p1 post) : MI l D ad cs sk yX11_care cX11_care 4 .int (rmq 2 0 0) [.ref (ad 0 100), .int p1] z post := by
  refine MI.of RX11 rfl (by decide) (Nat.le_of_ble_eq_true rfl) ?_
  intro p e s m args below meth c A Q E hw hA hret ls hl
  have hx := E.1.1
  have hb := E.1.2.1
  have hml := E.1.2.2.1
  have hown := E.1.2.2.2.1
  have h0 := E.1.2.2.2.2
  have hl : lv_has ls 4 [(0, .ref (ad 0 100)), (1, .int p1)] := hl
  unfold V_X11_care at h
  have b00 : ∀ (H : Heap) (locs : List Loc), OW D ad cs A s.heap z H locs → W p l e (rmq 2 0 0) s m args below meth c H locs 0 0 Q (F0 m 0 ls []) := by
    intro H locs hw
    refine lv_aload_n hx hb dX11_care_0 rfl (lv_at hl 0 rfl) ?_
    refine lv_iload_n hx hb dX11_care_1 rfl (lv_at hl 1 rfl) ?_
    have hq := h
    clear h
    refine xcVA (As := [.int p1]) (rest := []) E hw hA (c_X11_shelfAt l D ad cs sk z p1 _ hq) kc_11_58 yo_X11_shelfAt ⟨Nat.le_of_ble_eq_true rfl, Nat.le_of_ble_eq_true rfl⟩ (xrc E hw ky_0_100 rfl) rfl hl.1 rfl (Nat.le_of_ble_eq_true rfl) dX11_care_2 ⟨Nat.le_of_ble_eq_true rfl, Nat.le_of_ble_eq_true rfl⟩ (fun r2 z1 H locs h hw => ?_)
    obtain ⟨r2o, rfl, h⟩ := h
    refine xsqastore_n (lv' := [(2, va_rf (Option.map (fun o => ad o 100) r2o)), (0, .ref (ad 0 100)), (1, .int p1)]) hx hb dX11_care_5 rfl hl (by decide) rfl (fun ls hl => ?_)
    refine xlqaload_n hx hb dX11_care_6 rfl (lv_at hl 0 rfl) ?_
    refine xnnlo (tgt := 12) hx hb dX11_care_7 (by decide) (fun ea3 => ?_) (fun a3 ea3 => ?_)
    · replace h := h.1 ea3
      subst ea3
      have hl : lv_has ls 4 [(2, .null), (0, .ref (ad 0 100)), (1, .int p1)] := hl
      refine lv_iconst (v := -1) hx hb dX11_care_10 (by decide) ?_
      exact hret (-1 : Int32) z1 H locs 11 ls hw rfl h dX11_care_11
    · replace h := h.2 a3 ea3
      obtain ⟨ha3, h⟩ := h
      subst ea3
      have hl : lv_has ls 4 [(2, .ref (ad a3 100)), (0, .ref (ad 0 100)), (1, .int p1)] := hl
      refine lv_aload_n hx hb dX11_care_12 rfl (lv_at hl 0 rfl) ?_
      refine xgG E hw (c1 := 9) (ciisS ha3) (kyisS_100 ha3) fo_9_0 qf_11_321 dX11_care_13 ?_
      refine xtopq (fun t4 et4 => ?_)
      replace h := h t4 et4
      refine xsqastore_n (lv' := [(3, va_rf t4), (2, .ref (ad a3 100)), (0, .ref (ad 0 100)), (1, .int p1)]) hx hb dX11_care_16 rfl hl (by decide) rfl (fun ls hl => ?_)
      refine xlqaload_n hx hb dX11_care_17 rfl (lv_at hl 0 rfl) ?_
      refine xnnl (tgt := 36) hx hb dX11_care_18 (by decide) (fun ea5 => ?_) (fun a5 ea5 => ?_)
      · replace h := h.1 ea5
        subst ea5
        have hl : lv_has ls 4 [(3, .null), (2, .ref (ad a3 100)), (0, .ref (ad 0 100)), (1, .int p1)] := hl
        refine lv_aload_n hx hb dX11_care_21 rfl (lv_at hl 1 rfl) ?_
        refine xgI E hw (c1 := 9) (ciisS ha3) (kyisS_100 ha3) fo_9_1 qf_11_296 dX11_care_22 ?_
        refine lv_if_eq (tgt := 33) hx hb dX11_care_25 (by decide) (fun c6 => ?_) (fun c6 => ?_)
        · replace h := h.1 c6
          refine lv_bipush (v := -11) hx hb dX11_care_33 (by decide) ?_
          exact hret (-11 : Int32) z1 H locs 35 ls hw rfl h dX11_care_35
        · replace h := h.2 c6
          refine lv_bipush (v := -12) hx hb dX11_care_28 (by decide) ?_
          refine lv_goto (tgt := 35) hx hb dX11_care_30 (by decide) ?_
          exact hret (-12 : Int32) z1 H locs 35 ls hw rfl h dX11_care_35
      · replace h := h.2 a5 ea5
        subst ea5
        have hl : lv_has ls 4 [(3, .ref a5), (2, .ref (ad a3 100)), (0, .ref (ad 0 100)), (1, .int p1)] := hl
        refine lv_aload_n hx hb dX11_care_36 rfl (lv_at hl 0 rfl) ?_
        obtain ⟨hm, h⟩ := h
        refine xgF E hw hm (k := 7) (ref := "TenYards$Faller") (by decide) qf_11_325 (Or.inl rfl) dX11_care_37 ?_
        exact hret (zF z1 a5 7) z1 H locs 40 ls hw rfl h dX11_care_40
  exact b00 s.heap [] hw
