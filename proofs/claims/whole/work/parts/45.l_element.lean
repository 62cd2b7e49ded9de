/-! the law's own element: what the class throws is told by numbers -/
theorem dL_element_0 : decode cL_element 0 = .ok (.aload_n 3, 1) := by decide +kernel
theorem dL_element_1 : decode cL_element 1 = .ok (.iconst 0, 1) := by decide +kernel
theorem dL_element_2 : decode cL_element 2 = .ok (.aload_n 0, 1) := by decide +kernel
theorem dL_element_3 : decode cL_element 3 = .ok (.iload_n 1, 1) := by decide +kernel
theorem dL_element_4 : decode cL_element 4 = .ok (.iload_n 2, 1) := by decide +kernel
theorem dL_element_5 : decode cL_element 5 = .ok (.invokevirtual 7, 3) := by decide +kernel
theorem dL_element_8 : decode cL_element 8 = .ok (.lastore, 1) := by decide +kernel
theorem dL_element_9 : decode cL_element 9 = .ok (.goto 11, 3) := by decide +kernel
theorem dL_element_12 : decode cL_element 12 = .ok (.astore 4, 2) := by decide +kernel
theorem dL_element_14 : decode cL_element 14 = .ok (.iconst 1, 1) := by decide +kernel
theorem dL_element_15 : decode cL_element 15 = .ok (.ireturn, 1) := by decide +kernel
theorem dL_element_16 : decode cL_element 16 = .ok (.astore 4, 2) := by decide +kernel
theorem dL_element_18 : decode cL_element 18 = .ok (.iconst 2, 1) := by decide +kernel
theorem dL_element_19 : decode cL_element 19 = .ok (.ireturn, 1) := by decide +kernel
theorem dL_element_20 : decode cL_element 20 = .ok (.iconst 0, 1) := by decide +kernel
theorem dL_element_21 : decode cL_element 21 = .ok (.ireturn, 1) := by decide +kernel
theorem upl1 (c : ClassId) (f : Nat → Int64) (x : Int64) : vp_cell c (1, .inr (.inl (vp_updL f 0 x))) = vp_cell c (1, .inr (.inl (fun _ => x))) := by
  rw [vp_cell_l, vp_cell_l]
  unfold arrV
  congr 1
theorem vaP_swap {D : va_G} {cl : List vw_C} {ws : va_W} {H : Heap} {j a : Nat} {e1 e2 : va_E} (h : va_P D cl (ws.set j (a, e1)) H) (hj : j < ws.length) (he : va_at D cl (a, e1) H → va_at D cl (a, e2) H) : va_P D cl (ws.set j (a, e2)) H := by
  intro k q hk
  by_cases hkj : j = k
  · subst hkj
    rw [List.getElem?_set, if_pos rfl, if_pos hj] at hk
    cases hk
    exact he (h j (a, e1) (by rw [List.getElem?_set, if_pos rfl, if_pos hj]))
  · rw [List.getElem?_set, if_neg hkj] at hk
    exact h k q (by rw [List.getElem?_set, if_neg hkj]; exact hk)
theorem ce_lo (ad : Nat → Nat → Nat) (cs : Nat → ClassId) (z : ZS) : ce ad cs z (15, 0) = .inl (cs 3, 1, .inr (.inl (fun _ => zO z))) := rfl
theorem set_wO (ad : Nat → Nat → Nat) (cs : Nat → ClassId) (z : ZS) {j : Nat} (x : Int64) (hj : KY[j]? = some (15, 0)) : (wd ad cs z).set j (ad 15 0, .inl (cs 3, 1, .inr (.inl (fun _ => x)))) = wd ad cs (wO z x) := by
  refine wd_set ad cs (q := (15, 0)) hj _ ⟨rfl, rfl, rfl⟩ rfl ?_
  intro y hy hne
  unfold ce
  by_cases h : y.2 = 100
  · rw [if_pos h, if_pos h]; rfl
  · rw [if_neg h, if_neg h]
    unfold ae
    have hk : ak y ≠ 3 := fun q => by
      unfold ak at q
      split at q
      · rename_i h15
        revert h15 hne hy
        have : ∀ y ∈ KY, y.1 = 15 → y = (15, 0) := by decide
        intro hy hne h15
        exact hne (this y hy h15)
      · split at q
        · cases q
        · split at q <;> cases q
    have hk3 : ak y < 3 := by
      have : ak y ≤ 3 := by
        unfold ak
        split
        · omega
        · split
          · omega
          · split <;> omega
      omega
    generalize ak y = kx at hk3
    match kx, hk3 with
    | 0, _ => rfl
    | 1, _ => rfl
    | 2, _ => rfl
theorem xls {p : Program} {l : Launch} {e : Env} {R : Room} {s : State} {m : MethodId} {args : Array Value} {below : List Frame} {meth : Method} {c : Code} {H : Heap} {locs : List Loc} {cells slots : Nat} {Q : State → Prop} {cc : ByteArray} {nL pc : Nat} {ls : Array Slot} {rest : List Value} {D : va_G} {ad : Nat → Nat → Nat} {cs : Nat → ClassId} {A : Nat → Prop} {sk : (Nat → Nat) × (Nat → Nat)} {H0 : Heap} {z : ZS} {own : String} (E : EN p m c cc nL s args own D cs A sk) (hw : OW D ad cs A H0 z H locs) {x : Int64} (hdg : decode cc pc = .ok (.lastore, 1))
    (kk : ∀ (H1 : Heap) (locs1 : List Loc), OW D ad cs A H0 (wO z x) H1 locs1 → W p l e R s m args below meth c H1 locs1 cells slots Q (F0 m (pc + 1) ls rest)) : W p l e R s m args below meth c H locs cells slots Q (F0 m pc ls (.long x :: .int 0 :: .ref (ad 15 0) :: rest)) := by
  obtain ⟨j, hj0, hj⟩ := wd_at ad cs z (q := (15, 0)) (by decide)
  rw [ce_lo] at hj
  have hjl : j < (wd ad cs z).length := (List.getElem?_eq_some_iff.mp hj).1
  refine va_last E.1.1 E.1.2.1 E.2.1.1 hw.1 hw.2.1 hw.2.2 j 3 hj rfl (by unfold vp_in; decide) hdg (fun H1 locs1 hP1 hD1 hS1 => ?_)
  have hP2 := vaP_swap (e2 := .inl (cs 3, 1, .inr (.inl (fun _ => x)))) hP1 hjl (fun h => by
    show H1[ad 15 0]? = some (vp_cell (cs 3) (1, .inr (.inl (fun _ => x))))
    rw [← upl1 (cs 3) (fun _ => zO z) x]
    exact h)
  have hD2 : va_D A ((wd ad cs z).set j (ad 15 0, .inl (cs 3, 1, .inr (.inl (fun _ => x))))) := va_D.set hw.2.1 hj
  rw [set_wO ad cs z x hj0] at hP2 hD2
  exact kk H1 locs1 ⟨hP2, hD2, hS1⟩
abbrev hhL : List (Nat × Nat × Nat × Nat) := [(0, 9, 12, 13), (0, 9, 16, 15)]
/-- 0 and the long told, or 1, 2 for what was thrown -/
def V_L_element (z : ZS) (p1 p2 : Int32) (post : Int32 → ZS → Prop) : Prop := V_X11_element z p1 p2 (fun r z1 => post 0 (wO z1 r)) (fun E z1 => (E = EXA ∧ post 1 z1) ∨ (E = EXI ∧ post 2 z1))
theorem ke_7 : cV RL 7 RX11 yX11_element cX11_element 4 (some .long) := ⟨w0_m (a := tables_1_5) 125 rfl tb_5 rfl, w0_m (a := tables_1_5) 126 rfl tb_5 rfl, w0_m (a := tables_1_5) 127 rfl tb_5 rfl, w0_m (a := tables_1_1) 1 rfl tb_1 rfl, w0_m (a := tables_1_5) 128 rfl tb_5 rfl⟩
theorem ye_el : yOK yX11_element 2 := by decide +kernel
theorem qe_13 : Cond.classLink RL 13 EXA ∈ W0 := w0_m (a := tables_1_5) 123 rfl tb_5 rfl
theorem qe_15 : Cond.classLink RL 15 EXI ∈ W0 := w0_m (a := tables_1_5) 124 rfl tb_5 rfl
set_option maxHeartbeats 4000000 in
theorem c_L_element (l : Launch) (hst : l.stackTraces = false) (D : va_G) (ad : Nat → Nat → Nat) (cs : Nat → ClassId) (sk : (Nat → Nat) × (Nat → Nat)) (z : ZS) (p1 p2 : Int32) (post : Int32 → ZS → Prop) (h : V_L_element z p1 p2 post) : MIW l D ad cs sk yL_element cL_element 5 hhL (rmq 8 1 6) [.ref (ad 0 100), .int p1, .int p2, .ref (ad 15 0)] z post := by
  refine MIW.of RL rfl (by decide) (Nat.le_of_ble_eq_true rfl) ?_
  intro p e s m args below meth c A Q E hw hA htab hret ls hl
  have hx := E.1.1
  have hb := E.1.2.1
  have hown := E.1.2.2.2.1
  have h0 := E.1.2.2.2.2
  have hl : lv_has ls 5 [(0, .ref (ad 0 100)), (1, .int p1), (2, .int p2), (3, .ref (ad 15 0))] := hl
  unfold V_L_element at h
  refine lv_aload_n hx hb dL_element_0 rfl (lv_at hl 3 rfl) ?_
  refine lv_iconst (v := 0) hx hb dL_element_1 (by decide) ?_
  refine lv_aload_n hx hb dL_element_2 rfl (lv_at hl 0 rfl) ?_
  refine lv_iload_n hx hb dL_element_3 rfl (lv_at hl 1 rfl) ?_
  refine lv_iload_n hx hb dL_element_4 rfl (lv_at hl 2 rfl) ?_
  refine vx_calll (vx_runV (As := [.int p1, .int p2]) (rest := [.int 0, .ref (ad 15 0)]) E.1 (c_X11_element l hst D ad cs sk z p1 p2 _ _ h A _ (xA hw hA)) (xwV E ke_7 ye_el ⟨Nat.le_of_ble_eq_true rfl, Nat.le_of_ble_eq_true rfl⟩) ⟨PP.blind, xrc E hw ky_0_100 rfl, PP.pre E.2.1 E.2.2 hw⟩ rfl rfl hl.1 rfl (lv_room (Nat.le_of_ble_eq_true rfl)) dL_element_5 ⟨Nat.le_of_ble_eq_true rfl, Nat.le_of_ble_eq_true rfl⟩) hw.2.2 (fun _ _ h => h) (fun _ h => h) (fun _ _ h => h) ?_ ?_
  · intro EE ce q9 u t H1 locs1 ht _ _ hB _ _ hS1 hcell hv hcl
    obtain ⟨hE, hP, hD⟩ := hB
    have hw1 : OW D ad cs A s.heap u H1 locs1 := ⟨by rw [← ht]; exact hP, hD, hS1⟩
    rcases hE with ⟨rfl, hp⟩ | ⟨rfl, hp⟩
    · refine vx_catch (name := EXA) hown [] ⟨0, 9, 12, 13⟩ [⟨0, 9, 16, 15⟩] htab (fun w hw => absurd hw List.not_mem_nil) (by decide) (by decide) (h0 _ qe_13) (va_Nw.use rfl (E.2.1.2.2.2.2.1 EXA (by simp))) hcell hv hcl ?_
      refine lv_astore (lv' := [(4, .ref q9), (0, .ref (ad 0 100)), (1, .int p1), (2, .int p2), (3, .ref (ad 15 0))]) hx hb dL_element_12 hl (by decide) rfl (fun ls hl => ?_)
      refine lv_iconst (v := 1) hx hb dL_element_14 (by decide) ?_
      exact W.widen (by decide) (by decide) (hret 1 u H1 locs1 15 ls hw1 hp dL_element_15)
    · refine vx_catch (name := EXI) hown [⟨0, 9, 12, 13⟩] ⟨0, 9, 16, 15⟩ [] htab (fun w hw => ?_) (by decide) (by decide) (h0 _ qe_15) (va_Nw.use rfl (E.2.1.2.2.2.2.1 EXI (by simp))) hcell hv hcl ?_
      · rw [List.mem_singleton.mp hw]; exact Or.inr ⟨by decide, EXA, h0 _ qe_13, E.2.1.2.2.2.2.2.2.2.2.1⟩
      refine lv_astore (lv' := [(4, .ref q9), (0, .ref (ad 0 100)), (1, .int p1), (2, .int p2), (3, .ref (ad 15 0))]) hx hb dL_element_16 hl (by decide) rfl (fun ls hl => ?_)
      refine lv_iconst (v := 2) hx hb dL_element_18 (by decide) ?_
      exact W.widen (by decide) (by decide) (hret 2 u H1 locs1 19 ls hw1 hp dL_element_19)
  · intro r u t H1 locs1 ht _ hp hB _ _ hS1
    have hw1 : OW D ad cs A s.heap u H1 locs1 := ⟨by rw [← ht]; exact hB.1, hB.2, hS1⟩
    refine xls E hw1 dL_element_8 (fun H2 locs2 hw2 => ?_)
    refine lv_goto (tgt := 20) hx hb dL_element_9 (by decide) ?_
    refine lv_iconst (v := 0) hx hb dL_element_20 (by decide) ?_
    exact W.widen (by decide) (by decide) (hret 0 _ H2 locs2 21 ls hw2 hp dL_element_21)
