/-! the law: its case 32, its loop -/
theorem l_sub7 {n : Nat} (h : n ≤ 448) : (nI n - 7).toInt = (n : Int) - 7 := by
  rw [Int32.toInt_sub, nI_toInt (by omega), show (7 : Int32).toInt = 7 by decide]
  rw [Int.bmod_def]
  split <;> omega
theorem l_gt {n j : Nat} (h : n ≤ 448) (hj : j ≤ 1000) : nI n - 7 < nI j ↔ n < j + 7 := by
  rw [Int32.lt_iff_toInt_lt, l_sub7 h, nI_toInt (by omega)]
  omega
theorem lc_lel : Cond.codeWith yL_element cL_element 5 (some .int) hhL ∈ W0 := w0_m (a := tables_1_5) 122 rfl tb_5 rfl
theorem lm_lel : Cond.methodLink RL 159 yL_element ∈ W0 := w0_m (a := tables_1_5) 120 rfl tb_5 rfl
theorem ls_lel : Cond.static yL_element ∈ W0 := w0_m (a := tables_1_5) 121 rfl tb_5 rfl
theorem ln_lel : Cond.initialized RL ∈ W0 := w0_m (a := tables_1_1) 0 rfl tb_1 rfl
theorem lo_lel : yOK yL_element 4 := by decide +kernel
theorem xcSW {p : Program} {l : Launch} {e : Env} {R : Room} {s : State} {m : MethodId} {args : Array Value} {below : List Frame} {meth : Method} {c : Code} {H : Heap} {locs : List Loc} {cells slots : Nat} {Q : State → Prop} {cc : ByteArray} {nL pc : Nat} {ls : Array Slot} {rest st0 : List Value} {D : va_G} {ad : Nat → Nat → Nat} {cs : Nat → ClassId} {A : Nat → Prop} {sk : (Nat → Nat) × (Nat → Nat)} {z : ZS} {own : String} {y : MethodName} {bs : ByteArray} {n na idx : Nat} {rm : Room} {As : List Value} {hh : List (Nat × Nat × Nat × Nat)} (E : EN p m c cc nL s args own D cs A sk) (hw : OW D ad cs A s.heap z H locs) (hA : ∀ q, s.heap.size ≤ q → A q) {post : Int32 → ZS → Prop} (hM : MIW l D ad cs sk y bs n hh rm As z post) (hq : Cond.methodLink own idx y ∈ W0 ∧ Cond.static y ∈ W0 ∧ Cond.initialized y.cls ∈ W0 ∧ Cond.codeWith y bs n (some .int) hh ∈ W0) (hy : yOK y na) (hR : rm.frames + 1 ≤ R.frames ∧ 8 + (n + 11) + rm.locals ≤ R.locals) (hna : As.length = na) (hsz : ls.size = nL) (hst : st0 = As.reverse ++ rest) (h8 : (rest.map fun v => v.category).sum ≤ 8) (hdg : decode cc pc = .ok (.invokestatic idx, 3)) (hf : cells + rm.cells ≤ R.cells ∧ slots + rm.slots ≤ R.slots)
    (kk : ∀ (r : Int32) (z1 : ZS) (H1 : Heap) (locs1 : List Loc), post r z1 → OW D ad cs A s.heap z1 H1 locs1 → W p l e R s m args below meth c H1 locs1 (cells + rm.cells) (slots + rm.slots) Q (F0 m (pc + 3) ls (.int r :: rest))) : W p l e R s m args below meth c H locs cells slots Q (F0 m pc ls st0) := by
  have hT : GoodIn W0 (va_wsS own idx y (.codeWith y bs n (some .int) hh :: W0)) := by
    intro w hw9
    unfold va_wsS at hw9
    simp only [List.mem_append, List.mem_cons, List.not_mem_nil, or_false] at hw9
    rcases hw9 with h9 | h9
    · rcases h9 with rfl | rfl | rfl
      · exact w0_good _ (by first | exact hq.1 | exact hq.2.1 | exact hq.2.2.1)
      · exact w0_good _ (by first | exact hq.1 | exact hq.2.1 | exact hq.2.2.1)
      · exact w0_good _ (by first | exact hq.1 | exact hq.2.1 | exact hq.2.2.1)
    · rcases h9 with rfl | h9
      · exact w0_good _ hq.2.2.2
      · exact w0_good _ h9
  exact va_calli (vx_runSW E.1 (hM A H.size (xA hw hA)) (vx_cwSW na E.1.2.2.2.2 hT rfl rfl rfl hy hR) ⟨PP.blind, PP.pre E.2.1 E.2.2 hw⟩ rfl hna hsz hst (lv_room h8) hdg hf) hw.2.2 (fun _ _ h => h) (fun _ h => h) (fun r u t H1 locs1 ht _ hp hB _ _ hS1 => kk r u H1 locs1 hp ⟨by rw [← ht]; exact hB.1, hB.2, hS1⟩)
theorem xll {p : Program} {l : Launch} {e : Env} {R : Room} {s : State} {m : MethodId} {args : Array Value} {below : List Frame} {meth : Method} {c : Code} {H : Heap} {locs : List Loc} {cells slots : Nat} {Q : State → Prop} {cc : ByteArray} {nL pc : Nat} {ls : Array Slot} {rest : List Value} {D : va_G} {ad : Nat → Nat → Nat} {cs : Nat → ClassId} {A : Nat → Prop} {sk : (Nat → Nat) × (Nat → Nat)} {H0 : Heap} {z : ZS} {own : String} (E : EN p m c cc nL s args own D cs A sk) (hw : OW D ad cs A H0 z H locs) (hdg : decode cc pc = .ok (.laload, 1))
    (kk : W p l e R s m args below meth c H locs cells slots Q (F0 m (pc + 1) ls (.long (zO z) :: rest))) : W p l e R s m args below meth c H locs cells slots Q (F0 m pc ls (.int 0 :: .ref (ad 15 0) :: rest)) := by
  obtain ⟨j, hj0, hj⟩ := wd_at ad cs z (q := (15, 0)) (by decide)
  rw [ce_lo] at hj
  exact va_lald E.1.1 E.1.2.1 E.2.1.1 hw.1 j 3 hj rfl (by unfold vp_in; decide) hdg kk
def SK_32 (Rel : ZS → Prop) : Prop := ∀ (z : ZS) (p1 p2 : Int32), Rel z → V_L_element z p1 p2 (fun k z1 => V_X12_element z1 p1 p2 (fun b2 z2 => V_X12_thrown z2 (fun t z3 => t = k ∧ (k = 0 → zO z3 = b2) ∧ Rel z3)))
set_option maxHeartbeats 4000000 in
theorem L_32 {p : Program} {l : Launch} {e : Env} {s : State} {m : MethodId} {below : List Frame} {meth : Method} {c : Code} {D : va_G} {ad : Nat → Nat → Nat} {cs : Nat → ClassId} {sk : (Nat → Nat) × (Nat → Nat)} {b Ln : Nat} {xs : Nat → Int32} {Q : State → Prop} {z : ZS} {H : Heap} {locs : List Loc} {ls : Array Slot} {cells slots j : Nat} (hst : l.stackTraces = false) (C0 : LX p m c s b Ln xs D cs sk) (Rel : ZS → Prop) (SK : SK_32 Rel) (hz : Rel z) (hj : j + 7 ≤ Ln) (hw : OW D ad cs (fun q : Nat => s.heap.size ≤ q) s.heap z H locs) (hl : lv_has ls 8 [(0, .ref b), (1, .ref (ad 0 100)), (2, .ref (ad 14 100)), (3, .ref (ad 15 0)), (4, .int (nI j))]) (hce : cells + 300 ≤ 600128) (hsl : slots + 3000 ≤ 7301098) (kk : ∀ (z1 : ZS) (H1 : Heap) (locs1 : List Loc) (ls : Array Slot), Rel z1 → OW D ad cs (fun q : Nat => s.heap.size ≤ q) s.heap z1 H1 locs1 → lv_has ls 8 [(0, .ref b), (1, .ref (ad 0 100)), (2, .ref (ad 14 100)), (3, .ref (ad 15 0)), (4, .int (nI j))] → W p l e room_1 s m #[Value.ref b] below meth c H1 locs1 (cells + 300) (slots + 3000) Q (F0 m 2120 ls [])) : W p l e room_1 s m #[Value.ref b] below meth c H locs cells slots Q (F0 m 1930 ls []) := by
  have E := C0.1
  have hx := E.1.1
  have hb := E.1.2.1
  have hA : ∀ q, s.heap.size ≤ q → (fun q : Nat => s.heap.size ≤ q) q := fun _ h => h
  refine lv_aload_n hx hb dL_law_1930 rfl (lv_at hl 1 rfl) ?_
  refine lv_aload_n hx hb dL_law_1931 rfl (lv_at hl 0 rfl) ?_
  refine lv_iload hx hb dL_law_1932 (lv_at hl 4 rfl) ?_
  refine lv_iconst (v := 1) hx hb dL_law_1934 (by decide) ?_
  refine lv_iadd hx hb dL_law_1935 ?_
  refine lw_ld C0 hw hj (k := 1) (by decide) rfl dL_law_1936 ?_
  refine lv_aload_n hx hb dL_law_1937 rfl (lv_at hl 0 rfl) ?_
  refine lv_iload hx hb dL_law_1938 (lv_at hl 4 rfl) ?_
  refine lv_iconst (v := 2) hx hb dL_law_1940 (by decide) ?_
  refine lv_iadd hx hb dL_law_1941 ?_
  refine lw_ld C0 hw hj (k := 2) (by decide) rfl dL_law_1942 ?_
  refine lv_aload_n hx hb dL_law_1943 rfl (lv_at hl 3 rfl) ?_
  refine xcSW (As := [.ref (ad 0 100), .int (xs (j + 1)), .int (xs (j + 2)), .ref (ad 15 0)]) (rest := []) E hw hA (c_L_element l hst D ad cs sk z (xs (j + 1)) (xs (j + 2)) _ (SK z (xs (j + 1)) (xs (j + 2)) hz)) ⟨lm_lel, ls_lel, ln_lel, lc_lel⟩ lo_lel ⟨Nat.le_of_ble_eq_true rfl, Nat.le_of_ble_eq_true rfl⟩ rfl hl.1 rfl (Nat.le_of_ble_eq_true rfl) dL_law_1944 ⟨by simp only [rmq, room_1]; omega, by simp only [rmq, room_1]; omega⟩ (fun k1 z1 H locs hp hw => ?_)
  refine lv_istore (lv' := [(5, .int k1), (0, .ref b), (1, .ref (ad 0 100)), (2, .ref (ad 14 100)), (3, .ref (ad 15 0)), (4, .int (nI j))]) hx hb dL_law_1947 hl (by decide) rfl (fun ls hl => ?_)
  refine lv_aload_n hx hb dL_law_1949 rfl (lv_at hl 3 rfl) ?_
  refine lv_aload_n hx hb dL_law_1950 rfl (lv_at hl 1 rfl) ?_
  refine lv_iload hx hb dL_law_1951 (lv_at hl 5 rfl) ?_
  refine lv_iconst (v := 1) hx hb dL_law_1953 (by decide) ?_
  refine lv_iadd hx hb dL_law_1954 ?_
  refine lw_ld C0 hw hj (k := 1) (by decide) rfl dL_law_1955 ?_
  refine lv_aload_n hx hb dL_law_1956 rfl (lv_at hl 1 rfl) ?_
  refine lv_iload hx hb dL_law_1957 (lv_at hl 5 rfl) ?_
  refine lv_iconst (v := 2) hx hb dL_law_1959 (by decide) ?_
  refine lv_iadd hx hb dL_law_1960 ?_
  refine lw_ld C0 hw hj (k := 2) (by decide) rfl dL_law_1961 ?_
  refine xcVL (As := [.int (xs (j + 1)), .int (xs (j + 2))]) (rest := []) E hw hA (c_X12_element l D ad cs sk z1 (xs (j + 1)) (xs (j + 2)) _ hp) lk_12_element lo_12_element ⟨Nat.le_of_ble_eq_true rfl, Nat.le_of_ble_eq_true rfl⟩ (xrc E hw ky_14_100 rfl) rfl hl.1 rfl (Nat.le_of_ble_eq_true rfl) dL_law_1962 ⟨by simp only [rmq, room_1]; omega, by simp only [rmq, room_1]; omega⟩ (fun b2 z2 H locs hp hw => ?_)
  refine lv_lstore (lv' := [(6, .long b2), (5, .int k1), (0, .ref b), (1, .ref (ad 0 100)), (2, .ref (ad 14 100)), (3, .ref (ad 15 0)), (4, .int (nI j))]) hx hb dL_law_1965 hl (by decide) rfl (fun ls hl => ?_)
  refine lv_aload_n hx hb dL_law_1967 rfl (lv_at hl 4 rfl) ?_
  refine xcVI (As := []) (rest := []) E hw hA (c_X12_thrown l D ad cs sk z2 _ hp) lk_12_thrown lo_12_thrown ⟨Nat.le_of_ble_eq_true rfl, Nat.le_of_ble_eq_true rfl⟩ (xrc E hw ky_14_100 rfl) rfl hl.1 rfl (Nat.le_of_ble_eq_true rfl) dL_law_1968 ⟨by simp only [rmq, room_1]; omega, by simp only [rmq, room_1]; omega⟩ (fun t1 z3 H locs hp hw => ?_)
  have hl5 : lv_has ls 8 [(0, .ref b), (1, .ref (ad 0 100)), (2, .ref (ad 14 100)), (3, .ref (ad 15 0)), (4, .int (nI j))] := lv_sub hl [2, 3, 4, 5, 6] rfl
  have fin : W p l e room_1 s m #[Value.ref b] below meth c H locs (cells + (rmq 8 1 6).cells + (rmq 2 0 0).cells + (rmq 0 0 0).cells) (slots + (rmq 8 1 6).slots + (rmq 2 0 0).slots + (rmq 0 0 0).slots) Q (F0 m 1994 ls []) := by
    refine lv_goto (tgt := 2120) hx hb dL_law_1994 (by decide) ?_
    exact W.widen (k := cells + 300) (n := slots + 3000) (by simp only [rmq]; omega) (by simp only [rmq]; omega) (kk z3 H locs ls hp.2.2 hw hl5)
  refine lv_iload hx hb dL_law_1971 (lv_at hl 1 rfl) ?_
  refine lv_icmp_eq (tgt := 1978) hx hb dL_law_1973 (by decide) (fun _ => ?_) (fun c9 => absurd hp.1 c9)
  refine lv_iload hx hb dL_law_1978 (lv_at hl 1 rfl) ?_
  refine lv_if_ne (tgt := 1994) hx hb dL_law_1980 (by decide) (fun _ => fin) (fun c0 => ?_)
  refine lv_aload_n hx hb dL_law_1983 rfl (lv_at hl 5 rfl) ?_
  refine lv_iconst (v := 0) hx hb dL_law_1984 (by decide) ?_
  refine xll E hw dL_law_1985 ?_
  refine lv_lload hx hb dL_law_1986 (lv_at hl 0 rfl) ?_
  refine W.lcmp hx hb dL_law_1988 ?_
  have e0 : lg_cmp (zO z3) b2 = 0 := by
    rw [hp.2.1 c0]
    unfold lg_cmp
    rw [if_neg (show ¬ b2 > b2 from Int64.lt_irrefl), if_pos rfl]
  rw [e0]
  exact lv_if_eq (tgt := 1994) hx hb dL_law_1989 (by decide) (fun _ => fin) (fun c9 => absurd rfl c9)
/-- what the pure part owes -/
def SKs (Rel : ZS → Prop) : Prop := SK_0 Rel ∧ SK_1 Rel ∧ SK_2 Rel ∧ SK_3 Rel ∧ SK_4 Rel ∧ SK_5 Rel ∧ SK_6 Rel ∧ SK_7 Rel ∧ SK_8 Rel ∧ SK_9 Rel ∧ SK_10 Rel ∧ SK_11 Rel ∧ SK_12 Rel ∧ SK_13 Rel ∧ SK_14 Rel ∧ SK_15 Rel ∧ SK_16 Rel ∧ SK_17 Rel ∧ SK_18 Rel ∧ SK_19 Rel ∧ SK_20 Rel ∧ SK_21 Rel ∧ SK_22 Rel ∧ SK_23 Rel ∧ SK_24 Rel ∧ SK_25 Rel ∧ SK_26 Rel ∧ SK_27 Rel ∧ SK_28 Rel ∧ SK_29 Rel ∧ SK_30 Rel ∧ SK_31 Rel ∧ SK_32 Rel ∧ SK_33 Rel ∧ SK_34 Rel ∧ SK_35 Rel
set_option maxHeartbeats 4000000 in
theorem law_loop {p : Program} {l : Launch} {e : Env} {s : State} {m : MethodId} {below : List Frame} {meth : Method} {c : Code} {D : va_G} {ad : Nat → Nat → Nat} {cs : Nat → ClassId} {sk : (Nat → Nat) × (Nat → Nat)} {b Ln : Nat} {xs : Nat → Int32} (hst : l.stackTraces = false) (C0 : LX p m c s b Ln xs D cs sk) (hr : meth.sig.returnType = ret) (hlocks : meth.locks = false) (Rel : ZS → Prop) (SK : SKs Rel) : ∀ (n j : Nat), Ln < j + 7 * n → j ≤ 455 → ∀ (z : ZS) (H : Heap) (locs : List Loc) (ls : Array Slot) (cells slots : Nat), Rel z → OW D ad cs (fun q : Nat => s.heap.size ≤ q) s.heap z H locs → lv_has ls 8 [(0, .ref b), (1, .ref (ad 0 100)), (2, .ref (ad 14 100)), (3, .ref (ad 15 0)), (4, .int (nI j))] → cells + 300 * n ≤ 600128 → slots + 3000 * n ≤ 7301098 → W p l e room_1 s m #[Value.ref b] below meth c H locs cells slots (lw_Z below #[Value.ref b] s) (F0 m 23 ls []) := by
  have E := C0.1
  have hx := E.1.1
  have hb := E.1.2.1
  have hL := C0.2.2.2
  have head : ∀ (j : Nat) (z : ZS) (H : Heap) (locs : List Loc) (ls : Array Slot) (cells slots : Nat), j ≤ 455 → OW D ad cs (fun q : Nat => s.heap.size ≤ q) s.heap z H locs → lv_has ls 8 [(0, .ref b), (1, .ref (ad 0 100)), (2, .ref (ad 14 100)), (3, .ref (ad 15 0)), (4, .int (nI j))] → cells ≤ 600128 → slots ≤ 7301098 → (j + 7 ≤ Ln → W p l e room_1 s m #[Value.ref b] below meth c H locs cells slots (lw_Z below #[Value.ref b] s) (F0 m 33 ls [])) → W p l e room_1 s m #[Value.ref b] below meth c H locs cells slots (lw_Z below #[Value.ref b] s) (F0 m 23 ls []) := by
    intro j z H locs ls cells slots hj hw hl hce hsl kk
    refine lv_iload hx hb dL_law_23 (lv_at hl 4 rfl) ?_
    refine lv_aload_n hx hb dL_law_25 rfl (lv_at hl 0 rfl) ?_
    refine va_slen hx hb C0.2.1 C0.2.2.1 (Nat.not_le.mpr C0.2.2.1) hw.2.2 dL_law_26 ?_
    refine lv_bipush (v := 7) hx hb dL_law_27 (by decide) ?_
    refine lv_isub hx hb dL_law_29 ?_
    refine lv_icmp_gt (tgt := 2126) hx hb dL_law_30 (by decide) (fun _ => ?_) (fun c9 => kk (Nat.le_of_not_lt (fun h9 => c9 ((l_gt hL (by omega)).mpr h9))))
    refine lv_iconst (v := 1) hx hb dL_law_2126 (by decide) ?_
    refine va_forget hw.2.2.2.2 ?_
    exact W.widen (k := 600128) (n := 7301098) hce hsl (lw_ret hx hb hr hlocks dL_law_2127)
  intro n
  induction n with
  | zero =>
    intro j hn hj z H locs ls cells slots hz hw hl hce hsl
    exact head j z H locs ls cells slots hj hw hl (by omega) (by omega) (fun h => absurd h (by omega))
  | succ n ih =>
    intro j hn hj z H locs ls cells slots hz hw hl hce hsl
    refine head j z H locs ls cells slots hj hw hl (by omega) (by omega) (fun hj7 => ?_)
    have ce3 : cells + 300 ≤ 600128 := Nat.le_trans (Nat.add_le_add_left (Nat.le_mul_of_pos_right 300 (Nat.succ_pos n)) cells) hce
    have sl3 : slots + 3000 ≤ 7301098 := Nat.le_trans (Nat.add_le_add_left (Nat.le_mul_of_pos_right 3000 (Nat.succ_pos n)) slots) hsl
    have next : ∀ (z1 : ZS) (H1 : Heap) (locs1 : List Loc) (ls : Array Slot), Rel z1 → OW D ad cs (fun q : Nat => s.heap.size ≤ q) s.heap z1 H1 locs1 → lv_has ls 8 [(0, .ref b), (1, .ref (ad 0 100)), (2, .ref (ad 14 100)), (3, .ref (ad 15 0)), (4, .int (nI j))] → W p l e room_1 s m #[Value.ref b] below meth c H1 locs1 (cells + 300) (slots + 3000) (lw_Z below #[Value.ref b] s) (F0 m 2120 ls []) := by
      intro z1 H1 locs1 ls hz1 hw1 hl1
      refine lv_iinc (v := nI (j + 7)) (lv' := [(4, .int (nI (j + 7))), (0, .ref b), (1, .ref (ad 0 100)), (2, .ref (ad 14 100)), (3, .ref (ad 15 0))]) hx hb dL_law_2120 hl1 (k := 4) rfl (nI_add j 7) (by decide) rfl (fun ls hl => ?_)
      refine lv_goto (tgt := 23) hx hb dL_law_2123 (by decide) ?_
      exact ih (j + 7) (by omega) (by omega) z1 H1 locs1 ls (cells + 300) (slots + 3000) hz1 hw1 (lv_sub hl [1, 2, 3, 4, 0] rfl) (by omega) (by omega)
    refine lv_aload_n hx hb dL_law_33 rfl (lv_at hl 0 rfl) ?_
    refine lv_iload hx hb dL_law_34 (lv_at hl 4 rfl) ?_
    refine lw_ld C0 hw hj7 (k := 0) (by decide) (by rw [nI_add]; rfl) dL_law_36 ?_
    refine lv_bipush (v := 63) hx hb dL_law_37 (by decide) ?_
    refine lv_iand hx hb dL_law_39 ?_
    generalize hv : xs (j + 0) &&& 63 = v
    have out : v.toInt < 0 ∨ 35 < v.toInt → W p l e room_1 s m #[Value.ref b] below meth c H locs cells slots (lw_Z below #[Value.ref b] s) (F0 m 40 ls [.int v]) := fun h9 =>
      lv_tableOut (tgt := 2120) hx hb dL_law_40 h9 (by decide) (W.widen (k := cells + 300) (n := slots + 3000) (by omega) (by omega) (next z H locs ls hz hw hl))
    obtain ⟨k0, k1, k2, k3, k4, k5, k6, k7, k8, k9, k10, k11, k12, k13, k14, k15, k16, k17, k18, k19, k20, k21, k22, k23, k24, k25, k26, k27, k28, k29, k30, k31, k32, k33, k34, k35⟩ := SK
    by_cases h9 : v.toInt < 0 ∨ 35 < v.toInt
    · exact out h9
    · have h0 : ¬ v.toInt < 0 := fun q => h9 (Or.inl q)
      have h1 : ¬ 35 < v.toInt := fun q => h9 (Or.inr q)
      rcases (show v.toInt = 0 ∨ v.toInt = 1 ∨ v.toInt = 2 ∨ v.toInt = 3 ∨ v.toInt = 4 ∨ v.toInt = 5 ∨ v.toInt = 6 ∨ v.toInt = 7 ∨ v.toInt = 8 ∨ v.toInt = 9 ∨ v.toInt = 10 ∨ v.toInt = 11 ∨ v.toInt = 12 ∨ v.toInt = 13 ∨ v.toInt = 14 ∨ v.toInt = 15 ∨ v.toInt = 16 ∨ v.toInt = 17 ∨ v.toInt = 18 ∨ v.toInt = 19 ∨ v.toInt = 20 ∨ v.toInt = 21 ∨ v.toInt = 22 ∨ v.toInt = 23 ∨ v.toInt = 24 ∨ v.toInt = 25 ∨ v.toInt = 26 ∨ v.toInt = 27 ∨ v.toInt = 28 ∨ v.toInt = 29 ∨ v.toInt = 30 ∨ v.toInt = 31 ∨ v.toInt = 32 ∨ v.toInt = 33 ∨ v.toInt = 34 ∨ v.toInt = 35 by omega) with hk | hk | hk | hk | hk | hk | hk | hk | hk | hk | hk | hk | hk | hk | hk | hk | hk | hk | hk | hk | hk | hk | hk | hk | hk | hk | hk | hk | hk | hk | hk | hk | hk | hk | hk | hk
      · exact lv_tableIn (tgt := 200) (off := 160) hx hb dL_law_40 h0 h1 (by rw [hk]; rfl) (by decide) (L_0 hst C0 Rel k0 hz hj7 hw hl ce3 sl3 (fun z1 H1 locs1 hz1 hw1 => next z1 H1 locs1 ls hz1 hw1 hl))
      · exact lv_tableIn (tgt := 225) (off := 185) hx hb dL_law_40 h0 h1 (by rw [hk]; rfl) (by decide) (L_1 hst C0 Rel k1 hz hj7 hw hl ce3 sl3 (fun z1 H1 locs1 hz1 hw1 => next z1 H1 locs1 ls hz1 hw1 hl))
      · exact lv_tableIn (tgt := 278) (off := 238) hx hb dL_law_40 h0 h1 (by rw [hk]; rfl) (by decide) (L_2 hst C0 Rel k2 hz hj7 hw hl ce3 sl3 (fun z1 H1 locs1 hz1 hw1 => next z1 H1 locs1 ls hz1 hw1 hl))
      · exact lv_tableIn (tgt := 315) (off := 275) hx hb dL_law_40 h0 h1 (by rw [hk]; rfl) (by decide) (L_3 hst C0 Rel k3 hz hj7 hw hl ce3 sl3 (fun z1 H1 locs1 hz1 hw1 => next z1 H1 locs1 ls hz1 hw1 hl))
      · exact lv_tableIn (tgt := 352) (off := 312) hx hb dL_law_40 h0 h1 (by rw [hk]; rfl) (by decide) (L_4 hst C0 Rel k4 hz hj7 hw hl ce3 sl3 (fun z1 H1 locs1 hz1 hw1 => next z1 H1 locs1 ls hz1 hw1 hl))
      · exact lv_tableIn (tgt := 389) (off := 349) hx hb dL_law_40 h0 h1 (by rw [hk]; rfl) (by decide) (L_5 hst C0 Rel k5 hz hj7 hw hl ce3 sl3 (fun z1 H1 locs1 hz1 hw1 => next z1 H1 locs1 ls hz1 hw1 hl))
      · exact lv_tableIn (tgt := 478) (off := 438) hx hb dL_law_40 h0 h1 (by rw [hk]; rfl) (by decide) (L_6 hst C0 Rel k6 hz hj7 hw hl ce3 sl3 (fun z1 H1 locs1 hz1 hw1 => next z1 H1 locs1 ls hz1 hw1 hl))
      · exact lv_tableIn (tgt := 515) (off := 475) hx hb dL_law_40 h0 h1 (by rw [hk]; rfl) (by decide) (L_7 hst C0 Rel k7 hz hj7 hw hl ce3 sl3 (fun z1 H1 locs1 hz1 hw1 => next z1 H1 locs1 ls hz1 hw1 hl))
      · exact lv_tableIn (tgt := 576) (off := 536) hx hb dL_law_40 h0 h1 (by rw [hk]; rfl) (by decide) (L_8 hst C0 Rel k8 hz hj7 hw hl ce3 sl3 (fun z1 H1 locs1 hz1 hw1 => next z1 H1 locs1 ls hz1 hw1 hl))
      · exact lv_tableIn (tgt := 649) (off := 609) hx hb dL_law_40 h0 h1 (by rw [hk]; rfl) (by decide) (L_9 hst C0 Rel k9 hz hj7 hw hl ce3 sl3 (fun z1 H1 locs1 hz1 hw1 => next z1 H1 locs1 ls hz1 hw1 hl))
      · exact lv_tableIn (tgt := 722) (off := 682) hx hb dL_law_40 h0 h1 (by rw [hk]; rfl) (by decide) (L_10 hst C0 Rel k10 hz hj7 hw hl ce3 sl3 (fun z1 H1 locs1 hz1 hw1 => next z1 H1 locs1 ls hz1 hw1 hl))
      · exact lv_tableIn (tgt := 799) (off := 759) hx hb dL_law_40 h0 h1 (by rw [hk]; rfl) (by decide) (L_11 hst C0 Rel k11 hz hj7 hw hl ce3 sl3 (fun z1 H1 locs1 hz1 hw1 => next z1 H1 locs1 ls hz1 hw1 hl))
      · exact lv_tableIn (tgt := 836) (off := 796) hx hb dL_law_40 h0 h1 (by rw [hk]; rfl) (by decide) (L_12 hst C0 Rel k12 hz hj7 hw hl ce3 sl3 (fun z1 H1 locs1 hz1 hw1 => next z1 H1 locs1 ls hz1 hw1 hl))
      · exact lv_tableIn (tgt := 909) (off := 869) hx hb dL_law_40 h0 h1 (by rw [hk]; rfl) (by decide) (L_13 hst C0 Rel k13 hz hj7 hw hl ce3 sl3 (fun z1 H1 locs1 hz1 hw1 => next z1 H1 locs1 ls hz1 hw1 hl))
      · exact lv_tableIn (tgt := 970) (off := 930) hx hb dL_law_40 h0 h1 (by rw [hk]; rfl) (by decide) (L_14 hst C0 Rel k14 hz hj7 hw hl ce3 sl3 (fun z1 H1 locs1 hz1 hw1 => next z1 H1 locs1 ls hz1 hw1 hl))
      · exact lv_tableIn (tgt := 1043) (off := 1003) hx hb dL_law_40 h0 h1 (by rw [hk]; rfl) (by decide) (L_15 hst C0 Rel k15 hz hj7 hw hl ce3 sl3 (fun z1 H1 locs1 hz1 hw1 => next z1 H1 locs1 ls hz1 hw1 hl))
      · exact lv_tableIn (tgt := 1092) (off := 1052) hx hb dL_law_40 h0 h1 (by rw [hk]; rfl) (by decide) (L_16 hst C0 Rel k16 hz hj7 hw hl ce3 sl3 (fun z1 H1 locs1 hz1 hw1 => next z1 H1 locs1 ls hz1 hw1 hl))
      · exact lv_tableIn (tgt := 1153) (off := 1113) hx hb dL_law_40 h0 h1 (by rw [hk]; rfl) (by decide) (L_17 hst C0 Rel k17 hz hj7 hw hl ce3 sl3 (fun z1 H1 locs1 hz1 hw1 => next z1 H1 locs1 ls hz1 hw1 hl))
      · exact lv_tableIn (tgt := 1178) (off := 1138) hx hb dL_law_40 h0 h1 (by rw [hk]; rfl) (by decide) (L_18 hst C0 Rel k18 hz hj7 hw hl ce3 sl3 (fun z1 H1 locs1 hz1 hw1 => next z1 H1 locs1 ls hz1 hw1 hl))
      · exact lv_tableIn (tgt := 1227) (off := 1187) hx hb dL_law_40 h0 h1 (by rw [hk]; rfl) (by decide) (L_19 hst C0 Rel k19 hz hj7 hw hl ce3 sl3 (fun z1 H1 locs1 hz1 hw1 => next z1 H1 locs1 ls hz1 hw1 hl))
      · exact lv_tableIn (tgt := 1314) (off := 1274) hx hb dL_law_40 h0 h1 (by rw [hk]; rfl) (by decide) (L_20 hst C0 Rel k20 hz hj7 hw hl ce3 sl3 (fun z1 H1 locs1 hz1 hw1 => next z1 H1 locs1 ls hz1 hw1 hl))
      · exact lv_tableIn (tgt := 1401) (off := 1361) hx hb dL_law_40 h0 h1 (by rw [hk]; rfl) (by decide) (L_21 hst C0 Rel k21 hz hj7 hw hl ce3 sl3 (fun z1 H1 locs1 hz1 hw1 => next z1 H1 locs1 ls hz1 hw1 hl))
      · exact lv_tableIn (tgt := 1462) (off := 1422) hx hb dL_law_40 h0 h1 (by rw [hk]; rfl) (by decide) (L_22 hst C0 Rel k22 hz hj7 hw hl ce3 sl3 (fun z1 H1 locs1 hz1 hw1 => next z1 H1 locs1 ls hz1 hw1 hl))
      · exact lv_tableIn (tgt := 1535) (off := 1495) hx hb dL_law_40 h0 h1 (by rw [hk]; rfl) (by decide) (L_23 hst C0 Rel k23 hz hj7 hw hl ce3 sl3 (fun z1 H1 locs1 hz1 hw1 => next z1 H1 locs1 ls hz1 hw1 hl))
      · exact lv_tableIn (tgt := 1622) (off := 1582) hx hb dL_law_40 h0 h1 (by rw [hk]; rfl) (by decide) (L_24 hst C0 Rel k24 hz hj7 hw hl ce3 sl3 (fun z1 H1 locs1 hz1 hw1 => next z1 H1 locs1 ls hz1 hw1 hl))
      · exact lv_tableIn (tgt := 1683) (off := 1643) hx hb dL_law_40 h0 h1 (by rw [hk]; rfl) (by decide) (L_25 hst C0 Rel k25 hz hj7 hw hl ce3 sl3 (fun z1 H1 locs1 hz1 hw1 => next z1 H1 locs1 ls hz1 hw1 hl))
      · exact lv_tableIn (tgt := 1732) (off := 1692) hx hb dL_law_40 h0 h1 (by rw [hk]; rfl) (by decide) (L_26 hst C0 Rel k26 hz hj7 hw hl ce3 sl3 (fun z1 H1 locs1 hz1 hw1 => next z1 H1 locs1 ls hz1 hw1 hl))
      · exact lv_tableIn (tgt := 1745) (off := 1705) hx hb dL_law_40 h0 h1 (by rw [hk]; rfl) (by decide) (L_27 hst C0 Rel k27 hz hj7 hw hl ce3 sl3 (fun z1 H1 locs1 hz1 hw1 => next z1 H1 locs1 ls hz1 hw1 hl))
      · exact lv_tableIn (tgt := 1758) (off := 1718) hx hb dL_law_40 h0 h1 (by rw [hk]; rfl) (by decide) (L_28 hst C0 Rel k28 hz hj7 hw hl ce3 sl3 (fun z1 H1 locs1 hz1 hw1 => next z1 H1 locs1 ls hz1 hw1 hl))
      · exact lv_tableIn (tgt := 1783) (off := 1743) hx hb dL_law_40 h0 h1 (by rw [hk]; rfl) (by decide) (L_29 hst C0 Rel k29 hz hj7 hw hl ce3 sl3 (fun z1 H1 locs1 hz1 hw1 => next z1 H1 locs1 ls hz1 hw1 hl))
      · exact lv_tableIn (tgt := 1832) (off := 1792) hx hb dL_law_40 h0 h1 (by rw [hk]; rfl) (by decide) (L_30 hst C0 Rel k30 hz hj7 hw hl ce3 sl3 (fun z1 H1 locs1 hz1 hw1 => next z1 H1 locs1 ls hz1 hw1 hl))
      · exact lv_tableIn (tgt := 1881) (off := 1841) hx hb dL_law_40 h0 h1 (by rw [hk]; rfl) (by decide) (L_31 hst C0 Rel k31 hz hj7 hw hl ce3 sl3 (fun z1 H1 locs1 hz1 hw1 => next z1 H1 locs1 ls hz1 hw1 hl))
      · exact lv_tableIn (tgt := 1930) (off := 1890) hx hb dL_law_40 h0 h1 (by rw [hk]; rfl) (by decide) (L_32 hst C0 Rel k32 hz hj7 hw hl ce3 sl3 next)
      · exact lv_tableIn (tgt := 1997) (off := 1957) hx hb dL_law_40 h0 h1 (by rw [hk]; rfl) (by decide) (L_33 hst C0 Rel k33 hz hj7 hw hl ce3 sl3 (fun z1 H1 locs1 hz1 hw1 => next z1 H1 locs1 ls hz1 hw1 hl))
      · exact lv_tableIn (tgt := 2070) (off := 2030) hx hb dL_law_40 h0 h1 (by rw [hk]; rfl) (by decide) (L_34 hst C0 Rel k34 hz hj7 hw hl ce3 sl3 (fun z1 H1 locs1 hz1 hw1 => next z1 H1 locs1 ls hz1 hw1 hl))
      · exact lv_tableIn (tgt := 2095) (off := 2055) hx hb dL_law_40 h0 h1 (by rw [hk]; rfl) (by decide) (L_35 hst C0 Rel k35 hz hj7 hw hl ce3 sl3 (fun z1 H1 locs1 hz1 hw1 => next z1 H1 locs1 ls hz1 hw1 hl))
