theorem qj_ini0 : Cond.initialized RJ0 ∈ W0 := w0_m (a := tables_1_1) 8 rfl tb_1 rfl
theorem qj_ini1 : Cond.initialized RJ1 ∈ W0 := w0_m (a := tables_1_1) 9 rfl tb_1 rfl
theorem qj_ini3 : Cond.initialized RJ3 ∈ W0 := w0_m (a := tables_1_1) 10 rfl tb_1 rfl
theorem qj_i_isEmpty : Cond.instanceMethod yJ0_isEmpty_aae02 ∈ W0 := w0_m (a := tables_1_2) 120 rfl tb_2 rfl
theorem qj_s_isEmpty : Cond.selects RJ0 yJ0_isEmpty_aae02 yJ0_isEmpty_aae02 ∈ W0 := w0_m (a := tables_1_2) 121 rfl tb_2 rfl
theorem qj_c_isEmpty : Cond.code yJ0_isEmpty_aae02 cJ0_isEmpty_aae02 1 (some .boolean) ∈ W0 := w0_m (a := tables_1_2) 122 rfl tb_2 rfl
theorem yj_isEmpty : yOK yJ0_isEmpty_aae02 0 := by decide +kernel
theorem qj_i_length : Cond.instanceMethod yJ0_length_8abf5 ∈ W0 := w0_m (a := tables_1_2) 124 rfl tb_2 rfl
theorem qj_s_length : Cond.selects RJ0 yJ0_length_8abf5 yJ0_length_8abf5 ∈ W0 := w0_m (a := tables_1_2) 125 rfl tb_2 rfl
theorem qj_c_length : Cond.code yJ0_length_8abf5 cJ0_length_8abf5 1 (some .int) ∈ W0 := w0_m (a := tables_1_2) 126 rfl tb_2 rfl
theorem yj_length : yOK yJ0_length_8abf5 0 := by decide +kernel
theorem qj_i_charAt : Cond.instanceMethod yJ0_charAt_5068e ∈ W0 := w0_m (a := tables_1_2) 134 rfl tb_2 rfl
theorem qj_s_charAt : Cond.selects RJ0 yJ0_charAt_5068e yJ0_charAt_5068e ∈ W0 := w0_m (a := tables_1_2) 135 rfl tb_2 rfl
theorem qj_c_charAt : Cond.code yJ0_charAt_5068e cJ0_charAt_5068e 2 (some .char) ∈ W0 := w0_m (a := tables_1_2) 136 rfl tb_2 rfl
theorem yj_charAt : yOK yJ0_charAt_5068e 1 := by decide +kernel
theorem qj_i_coder : Cond.instanceMethod yJ0_coder_7d493 ∈ W0 := w0_m (a := tables_1_2) 128 rfl tb_2 rfl
theorem qj_s_coder : Cond.selects RJ0 yJ0_coder_7d493 yJ0_coder_7d493 ∈ W0 := w0_m (a := tables_1_2) 129 rfl tb_2 rfl
theorem qj_c_coder : Cond.code yJ0_coder_7d493 cJ0_coder_7d493 1 (some .byte) ∈ W0 := w0_m (a := tables_1_2) 130 rfl tb_2 rfl
theorem yj_coder : yOK yJ0_coder_7d493 0 := by decide +kernel
theorem qj_i_isLatin1 : Cond.instanceMethod yJ0_isLatin1_aae02 ∈ W0 := w0_m (a := tables_1_2) 138 rfl tb_2 rfl
theorem qj_s_isLatin1 : Cond.selects RJ0 yJ0_isLatin1_aae02 yJ0_isLatin1_aae02 ∈ W0 := w0_m (a := tables_1_2) 139 rfl tb_2 rfl
theorem qj_c_isLatin1 : Cond.code yJ0_isLatin1_aae02 cJ0_isLatin1_aae02 1 (some .boolean) ∈ W0 := w0_m (a := tables_1_2) 140 rfl tb_2 rfl
theorem yj_isLatin1 : yOK yJ0_isLatin1_aae02 0 := by decide +kernel
theorem kj_RX0_81 : cV RX0 81 RJ0 yJ0_isEmpty_aae02 cJ0_isEmpty_aae02 1 (some .boolean) := ⟨w0_m (a := tables_1_2) 119 rfl tb_2 rfl, qj_i_isEmpty, qj_s_isEmpty, qj_ini0, qj_c_isEmpty⟩
theorem kj_RX0_87 : cV RX0 87 RJ0 yJ0_length_8abf5 cJ0_length_8abf5 1 (some .int) := ⟨w0_m (a := tables_1_2) 123 rfl tb_2 rfl, qj_i_length, qj_s_length, qj_ini0, qj_c_length⟩
theorem kj_RX0_91 : cV RX0 91 RJ0 yJ0_charAt_5068e cJ0_charAt_5068e 2 (some .char) := ⟨w0_m (a := tables_1_2) 133 rfl tb_2 rfl, qj_i_charAt, qj_s_charAt, qj_ini0, qj_c_charAt⟩
theorem kj_RJ0_335 : cV RJ0 335 RJ0 yJ0_coder_7d493 cJ0_coder_7d493 1 (some .byte) := ⟨w0_m (a := tables_1_2) 127 rfl tb_2 rfl, qj_i_coder, qj_s_coder, qj_ini0, qj_c_coder⟩
theorem kj_RJ0_492 : cV RJ0 492 RJ0 yJ0_isLatin1_aae02 cJ0_isLatin1_aae02 1 (some .boolean) := ⟨w0_m (a := tables_1_2) 137 rfl tb_2 rfl, qj_i_isLatin1, qj_s_isLatin1, qj_ini0, qj_c_isLatin1⟩
theorem kj_RJ0_495 : cS RJ0 495 yJ1_charAt_3b067 cJ1_charAt_3b067 2 (some .char) := ⟨w0_m (a := tables_1_2) 141 rfl tb_2 rfl, w0_m (a := tables_1_2) 142 rfl tb_2 rfl, qj_ini1, w0_m (a := tables_1_2) 143 rfl tb_2 rfl⟩
theorem yj_J1_charAt_3b067 : yOK yJ1_charAt_3b067 2 := by decide +kernel
theorem kj_RJ1_9 : cS RJ1 9 yJ0_checkIndex_df160 cJ0_checkIndex_df160 2 none := ⟨w0_m (a := tables_1_2) 144 rfl tb_2 rfl, w0_m (a := tables_1_2) 145 rfl tb_2 rfl, qj_ini0, w0_m (a := tables_1_2) 146 rfl tb_2 rfl⟩
theorem yj_J0_checkIndex_df160 : yOK yJ0_checkIndex_df160 2 := by decide +kernel
theorem kj_RJ0_1059 : cS RJ0 1059 yJ3_checkIndex_8e157 cJ3_checkIndex_8e157 3 (some .int) := ⟨w0_m (a := tables_1_2) 149 rfl tb_2 rfl, w0_m (a := tables_1_2) 150 rfl tb_2 rfl, qj_ini3, w0_m (a := tables_1_2) 151 rfl tb_2 rfl⟩
theorem yj_J3_checkIndex_8e157 : yOK yJ3_checkIndex_8e157 3 := by decide +kernel
theorem qj_f9 : Cond.fieldLink RJ0 9 "java/lang/String" "value" "[B" ∈ W0 := w0_m (a := tables_1_7) 131 rfl tb_7 rfl
theorem qj_f15 : Cond.fieldLink RJ0 15 "java/lang/String" "coder" "B" ∈ W0 := w0_m (a := tables_1_7) 132 rfl tb_7 rfl
theorem qj_f38 : Cond.fieldLink RJ0 38 "java/lang/String" "COMPACT_STRINGS" "Z" ∈ W0 := w0_m (a := tables_1_2) 131 rfl tb_2 rfl
theorem qj_f1053 : Cond.fieldLink RJ0 1053 "jdk/internal/util/Preconditions" "SIOOBE_FORMATTER" "Ljava/util/function/BiFunction;" ∈ W0 := w0_m (a := tables_1_2) 147 rfl tb_2 rfl
-- a static call that answers nothing
theorem xcSV {p : Program} {l : Launch} {e : Env} {R : Room} {s : State} {m : MethodId} {args : Array Value} {below : List Frame} {meth : Method} {c : Code} {H : Heap} {locs : List Loc} {cells slots : Nat} {Q : State → Prop} {cc : ByteArray} {nL pc : Nat} {ls : Array Slot} {rest st0 : List Value} {D : va_G} {ad : Nat → Nat → Nat} {cs : Nat → ClassId} {A : Nat → Prop} {sk : (Nat → Nat) × (Nat → Nat)} {z : ZS} {own : String} {y : MethodName} {bs : ByteArray} {n na idx : Nat} {rm : Room} {As : List Value} (E : EN p m c cc nL s args own D cs A sk) (hw : OW D ad cs A s.heap z H locs) (hA : ∀ q, s.heap.size ≤ q → A q) {post : ZS → Prop} (hM : MV l D ad cs sk y bs n rm As z post) (hq : cS own idx y bs n none) (hy : yOK y na) (hR : rm.frames + 1 ≤ R.frames ∧ 8 + (n + 11) + rm.locals ≤ R.locals) (hna : As.length = na) (hsz : ls.size = nL) (hst : st0 = As.reverse ++ rest) (h8 : (rest.map fun v => v.category).sum ≤ 8) (hdg : decode cc pc = .ok (.invokestatic idx, 3)) (hf : cells + rm.cells ≤ R.cells ∧ slots + rm.slots ≤ R.slots)
    (kk : ∀ (z1 : ZS) (H1 : Heap) (locs1 : List Loc), post z1 → OW D ad cs A s.heap z1 H1 locs1 → W p l e R s m args below meth c H1 locs1 (cells + rm.cells) (slots + rm.slots) Q (F0 m (pc + 3) ls rest)) : W p l e R s m args below meth c H locs cells slots Q (F0 m pc ls st0) :=
  va_callv (va_runS E.1 (hM A H.size (xA hw hA)) (xwS E hq hy hR) ⟨PP.blind, PP.pre E.2.1 E.2.2 hw⟩ rfl hna hsz hst (lv_room h8) hdg hf) hw.2.2 (fun _ _ h => h) (fun _ h => h) (fun u t H1 locs1 ht _ hp hB _ _ hS1 => kk u H1 locs1 hp ⟨by rw [← ht]; exact hB.1, hB.2, hS1⟩)
def sL (i : Nat) : Nat := sLen.getD i 0
def sB (i j : Nat) : Int32 := (sByt.getD i []).getD j 0
/-- the char at k of the text i, as charAt answers it -/
def sCh (i : Nat) (k : Int32) : Int32 := UInt32.toInt32 (Int32.toUInt32 (sB i k.toNatClampNeg &&& 255) % 65536)
def V_J0_isEmpty (z : ZS) (i : Nat) (post : Int32 → ZS → Prop) : Prop := post (if sL i = 0 then 1 else 0) z
def V_J0_length (z : ZS) (i : Nat) (post : Int32 → ZS → Prop) : Prop := post (nI (sL i)) z
def V_J0_charAt (z : ZS) (i : Nat) (k : Int32) (post : Int32 → ZS → Prop) : Prop := vp_in k (sL i) ∧ post (sCh i k) z
set_option maxHeartbeats 4000000 in
theorem c_J0_coder (l : Launch) (D : va_G) (ad : Nat → Nat → Nat) (cs : Nat → ClassId) (sk : (Nat → Nat) × (Nat → Nat)) (z : ZS) (i : Nat) (hi : i < 6) : MI l D ad cs sk yJ0_coder_7d493 cJ0_coder_7d493 1 .byte (rmq 0 0 0) [.ref (sk.1 i)] z (fun r z1 => r = 0 ∧ z1 = z) := by
  refine MI.of RJ0 rfl (by decide) (Nat.le_of_ble_eq_true rfl) ?_
  intro p e s m args below meth c A Q E hw hA hret ls hl
  have hx := E.1.1
  have hb := E.1.2.1
  have hown := E.1.2.2.2.1
  have h0 := E.1.2.2.2.2
  have hl : lv_has ls 1 [(0, .ref (sk.1 i))] := hl
  refine va_gets hx hb E.2.2.2.1 hw.2.2 hown (h0 _ qj_f38) (fun _ h => h) dJ0_coder_7d493_0 ?_
  refine lv_if_eq (tgt := 13) hx hb dJ0_coder_7d493_3 (by decide) (fun c1 => absurd c1 (by decide)) (fun c1 => ?_)
  refine lv_aload_n hx hb dJ0_coder_7d493_6 rfl (lv_at hl 0 rfl) ?_
  refine vk_getf hx hb (E.2.2.1.1 i hi).2.1 hw.2.2 hown (h0 _ qj_f15) (fun _ h => h) dJ0_coder_7d493_7 ?_
  refine lv_goto (tgt := 14) hx hb dJ0_coder_7d493_10 (by decide) ?_
  exact hret 0 z s.heap [] 14 ls hw rfl ⟨rfl, rfl⟩ dJ0_coder_7d493_14
set_option maxHeartbeats 4000000 in
theorem c_J0_isLatin1 (l : Launch) (D : va_G) (ad : Nat → Nat → Nat) (cs : Nat → ClassId) (sk : (Nat → Nat) × (Nat → Nat)) (z : ZS) (i : Nat) (hi : i < 6) : MI l D ad cs sk yJ0_isLatin1_aae02 cJ0_isLatin1_aae02 1 .boolean (rmq 0 0 0) [.ref (sk.1 i)] z (fun r z1 => r = 1 ∧ z1 = z) := by
  refine MI.of RJ0 rfl (by decide) (Nat.le_of_ble_eq_true rfl) ?_
  intro p e s m args below meth c A Q E hw hA hret ls hl
  have hx := E.1.1
  have hb := E.1.2.1
  have hown := E.1.2.2.2.1
  have h0 := E.1.2.2.2.2
  have hl : lv_has ls 1 [(0, .ref (sk.1 i))] := hl
  refine va_gets hx hb E.2.2.2.1 hw.2.2 hown (h0 _ qj_f38) (fun _ h => h) dJ0_isLatin1_aae02_0 ?_
  refine lv_if_eq (tgt := 17) hx hb dJ0_isLatin1_aae02_3 (by decide) (fun c1 => absurd c1 (by decide)) (fun c1 => ?_)
  refine lv_aload_n hx hb dJ0_isLatin1_aae02_6 rfl (lv_at hl 0 rfl) ?_
  refine vk_getf hx hb (E.2.2.1.1 i hi).2.1 hw.2.2 hown (h0 _ qj_f15) (fun _ h => h) dJ0_isLatin1_aae02_7 ?_
  refine lv_if_ne (tgt := 17) hx hb dJ0_isLatin1_aae02_10 (by decide) (fun c2 => absurd rfl c2) (fun c2 => ?_)
  refine lv_iconst (v := 1) hx hb dJ0_isLatin1_aae02_13 (by decide) ?_
  refine lv_goto (tgt := 18) hx hb dJ0_isLatin1_aae02_14 (by decide) ?_
  exact hret 1 z s.heap [] 18 ls hw rfl ⟨rfl, rfl⟩ dJ0_isLatin1_aae02_18
set_option maxHeartbeats 4000000 in
theorem c_J0_isEmpty (l : Launch) (D : va_G) (ad : Nat → Nat → Nat) (cs : Nat → ClassId) (sk : (Nat → Nat) × (Nat → Nat)) (z : ZS) (i : Nat) (post : Int32 → ZS → Prop) (hi : i < 6) (h : V_J0_isEmpty z i post) : MI l D ad cs sk yJ0_isEmpty_aae02 cJ0_isEmpty_aae02 1 .boolean (rmq 0 0 0) [.ref (sk.1 i)] z post := by
  refine MI.of RJ0 rfl (by decide) (Nat.le_of_ble_eq_true rfl) ?_
  intro p e s m args below meth c A Q E hw hA hret ls hl
  have hx := E.1.1
  have hb := E.1.2.1
  have hown := E.1.2.2.2.1
  have h0 := E.1.2.2.2.2
  have hl : lv_has ls 1 [(0, .ref (sk.1 i))] := hl
  unfold V_J0_isEmpty at h
  have hlen : sL i < 2 ^ 31 := by
    rcases (show i = 0 ∨ i = 1 ∨ i = 2 ∨ i = 3 ∨ i = 4 ∨ i = 5 by omega) with rfl | rfl | rfl | rfl | rfl | rfl <;> decide
  refine lv_aload_n hx hb dJ0_isEmpty_aae02_0 rfl (lv_at hl 0 rfl) ?_
  refine vk_getf hx hb (E.2.2.1.1 i hi).2.2.1 hw.2.2 hown (h0 _ qj_f9) (fun _ h => h) dJ0_isEmpty_aae02_1 ?_
  refine va_tlen hx hb (E.2.2.1.1 i hi).2.2.2 hw.2.2 (v := nI (sL i)) rfl dJ0_isEmpty_aae02_4 ?_
  refine lv_if_ne (tgt := 12) hx hb dJ0_isEmpty_aae02_5 (by decide) (fun c1 => ?_) (fun c1 => ?_)
  · rw [if_neg (fun q => c1 (by rw [q]; rfl))] at h
    refine lv_iconst (v := 0) hx hb dJ0_isEmpty_aae02_12 (by decide) ?_
    exact hret 0 z s.heap [] 13 ls hw rfl h dJ0_isEmpty_aae02_13
  · rw [if_pos (by rcases Nat.eq_zero_or_pos (sL i) with q | q; exact q; exact absurd c1 (nI_ne0 q hlen))] at h
    refine lv_iconst (v := 1) hx hb dJ0_isEmpty_aae02_8 (by decide) ?_
    refine lv_goto (tgt := 13) hx hb dJ0_isEmpty_aae02_9 (by decide) ?_
    exact hret 1 z s.heap [] 13 ls hw rfl h dJ0_isEmpty_aae02_13
set_option maxHeartbeats 4000000 in
theorem c_J0_length (l : Launch) (D : va_G) (ad : Nat → Nat → Nat) (cs : Nat → ClassId) (sk : (Nat → Nat) × (Nat → Nat)) (z : ZS) (i : Nat) (post : Int32 → ZS → Prop) (hi : i < 6) (h : V_J0_length z i post) : MI l D ad cs sk yJ0_length_8abf5 cJ0_length_8abf5 1 .int (rmq 1 0 0) [.ref (sk.1 i)] z post := by
  refine MI.of RJ0 rfl (by decide) (Nat.le_of_ble_eq_true rfl) ?_
  intro p e s m args below meth c A Q E hw hA hret ls hl
  have hx := E.1.1
  have hb := E.1.2.1
  have hown := E.1.2.2.2.1
  have h0 := E.1.2.2.2.2
  have hl : lv_has ls 1 [(0, .ref (sk.1 i))] := hl
  unfold V_J0_length at h
  refine lv_aload_n hx hb dJ0_length_8abf5_0 rfl (lv_at hl 0 rfl) ?_
  refine vk_getf hx hb (E.2.2.1.1 i hi).2.2.1 hw.2.2 hown (h0 _ qj_f9) (fun _ h => h) dJ0_length_8abf5_1 ?_
  refine va_tlen hx hb (E.2.2.1.1 i hi).2.2.2 hw.2.2 (v := nI (sL i)) rfl dJ0_length_8abf5_4 ?_
  refine lv_aload_n hx hb dJ0_length_8abf5_5 rfl (lv_at hl 0 rfl) ?_
  refine xcVI (As := []) (rest := [.int (nI (sL i))]) E hw hA (c_J0_coder l D ad cs sk z i hi) kj_RJ0_335 yj_coder ⟨Nat.le_of_ble_eq_true rfl, Nat.le_of_ble_eq_true rfl⟩ (vk_recv E.2.2.1 hi hw.2.2) rfl hl.1 rfl (Nat.le_of_ble_eq_true rfl) dJ0_length_8abf5_6 ⟨Nat.le_of_ble_eq_true rfl, Nat.le_of_ble_eq_true rfl⟩ (fun r z1 H locs hp hw2 => ?_)
  obtain ⟨rfl, rfl⟩ := hp
  have hw := hw2
  refine lv_ishr hx hb dJ0_length_8abf5_9 ?_
  rw [sb_shr0]
  exact hret (nI (sL i)) z1 H locs 10 ls hw rfl h dJ0_length_8abf5_10
set_option maxHeartbeats 4000000 in
theorem c_J3_checkIndex (l : Launch) (D : va_G) (ad : Nat → Nat → Nat) (cs : Nat → ClassId) (sk : (Nat → Nat) × (Nat → Nat)) (z : ZS) (k n : Int32) (v : Option Nat) (h1 : ¬ k < 0) (h2 : k < n) : MI l D ad cs sk yJ3_checkIndex_8e157 cJ3_checkIndex_8e157 3 .int (rmq 0 0 0) [.int k, .int n, va_rf v] z (fun r z1 => r = k ∧ z1 = z) := by
  refine MI.of RJ3 rfl (by decide) (by cases v <;> exact Nat.le_of_ble_eq_true rfl) ?_
  intro p e s m args below meth c A Q E hw hA hret ls hl
  have hx := E.1.1
  have hb := E.1.2.1
  have hl : lv_has ls 3 [(0, .int k), (1, .int n)] := by
    cases v
    · exact lv_sub (l := [(0, .int k), (1, .int n), (2, .null)]) hl [0, 1] rfl
    · exact lv_sub (l := [(0, .int k), (1, .int n), (2, .ref _)]) hl [0, 1] rfl
  refine lv_iload_n hx hb dJ3_checkIndex_8e157_0 rfl (lv_at hl 0 rfl) ?_
  refine lv_if_lt (tgt := 9) hx hb dJ3_checkIndex_8e157_1 (by decide) (fun c1 => absurd c1 h1) (fun c1 => ?_)
  refine lv_iload_n hx hb dJ3_checkIndex_8e157_4 rfl (lv_at hl 0 rfl) ?_
  refine lv_iload_n hx hb dJ3_checkIndex_8e157_5 rfl (lv_at hl 1 rfl) ?_
  refine lv_icmp_lt (tgt := 16) hx hb dJ3_checkIndex_8e157_6 (by decide) (fun c2 => ?_) (fun c2 => absurd h2 c2)
  refine lv_iload_n hx hb dJ3_checkIndex_8e157_16 rfl (lv_at hl 0 rfl) ?_
  exact hret k z s.heap [] 17 ls hw rfl ⟨rfl, rfl⟩ dJ3_checkIndex_8e157_17
set_option maxHeartbeats 4000000 in
theorem c_J0_checkIndex (l : Launch) (D : va_G) (ad : Nat → Nat → Nat) (cs : Nat → ClassId) (sk : (Nat → Nat) × (Nat → Nat)) (z : ZS) (k n : Int32) (h1 : ¬ k < 0) (h2 : k < n) : MV l D ad cs sk yJ0_checkIndex_df160 cJ0_checkIndex_df160 2 (rmq 1 0 0) [.int k, .int n] z (fun z1 => z1 = z) := by
  refine MV.of RJ0 rfl (by decide) (Nat.le_of_ble_eq_true rfl) ?_
  intro p e s m args below meth c A Q E hw hA hret ls hl
  have hx := E.1.1
  have hb := E.1.2.1
  have hown := E.1.2.2.2.1
  have h0 := E.1.2.2.2.2
  have hl : lv_has ls 2 [(0, .int k), (1, .int n)] := hl
  refine lv_iload_n hx hb dJ0_checkIndex_df160_0 rfl (lv_at hl 0 rfl) ?_
  refine lv_iload_n hx hb dJ0_checkIndex_df160_1 rfl (lv_at hl 1 rfl) ?_
  have go : ∀ v : Option Nat, W p l e (rmq 1 0 0) s m args below meth c s.heap [] 0 0 Q (F0 m 5 ls [va_rf v, .int n, .int k]) := by
    intro v
    refine xcSI (As := [.int k, .int n, va_rf v]) (rest := []) E hw hA (c_J3_checkIndex l D ad cs sk z k n v h1 h2) kj_RJ0_1059 yj_J3_checkIndex_8e157 ⟨Nat.le_of_ble_eq_true rfl, Nat.le_of_ble_eq_true rfl⟩ rfl hl.1 rfl (Nat.le_of_ble_eq_true rfl) dJ0_checkIndex_df160_5 ⟨Nat.le_of_ble_eq_true rfl, Nat.le_of_ble_eq_true rfl⟩ (fun r z1 H locs hp hw2 => ?_)
    obtain ⟨rfl, rfl⟩ := hp
    have hw := hw2
    refine lv_pop hx hb dJ0_checkIndex_df160_8 rfl ?_
    exact hret z1 H locs 9 ls hw rfl dJ0_checkIndex_df160_9
  rcases E.2.2.2.2.2.2.2 with hz | ⟨t, hz⟩
  · exact va_gets hx hb hz hw.2.2 hown (h0 _ qj_f1053) (fun _ h => h) dJ0_checkIndex_df160_2 (go none)
  · exact va_gets hx hb hz hw.2.2 hown (h0 _ qj_f1053) (fun _ h => h) dJ0_checkIndex_df160_2 (go (some t))
set_option maxHeartbeats 4000000 in
theorem c_J1_charAt (l : Launch) (D : va_G) (ad : Nat → Nat → Nat) (cs : Nat → ClassId) (sk : (Nat → Nat) × (Nat → Nat)) (z : ZS) (i : Nat) (k : Int32) (hi : i < 6) (hk : vp_in k (sL i)) : MI l D ad cs sk yJ1_charAt_3b067 cJ1_charAt_3b067 2 .char (rmq 2 0 0) [.ref (sk.2 i), .int k] z (fun r z1 => r = sCh i k ∧ z1 = z) := by
  refine MI.of RJ1 rfl (by decide) (Nat.le_of_ble_eq_true rfl) ?_
  intro p e s m args below meth c A Q E hw hA hret ls hl
  have hx := E.1.1
  have hb := E.1.2.1
  have hl : lv_has ls 2 [(0, .ref (sk.2 i)), (1, .int k)] := hl
  have hlen : sL i < 2 ^ 31 := by
    rcases (show i = 0 ∨ i = 1 ∨ i = 2 ∨ i = 3 ∨ i = 4 ∨ i = 5 by omega) with rfl | rfl | rfl | rfl | rfl | rfl <;> decide
  obtain ⟨j, hj, rfl⟩ := vp_in_of hk hlen
  refine lv_iload_n hx hb dJ1_charAt_3b067_0 rfl (lv_at hl 1 rfl) ?_
  refine lv_aload_n hx hb dJ1_charAt_3b067_1 rfl (lv_at hl 0 rfl) ?_
  refine va_tlen hx hb (E.2.2.1.1 i hi).2.2.2 hw.2.2 (v := nI (sL i)) rfl dJ1_charAt_3b067_2 ?_
  refine xcSV (As := [.int (nI j), .int (nI (sL i))]) (rest := []) E hw hA (c_J0_checkIndex l D ad cs sk z (nI j) (nI (sL i)) (nI_pos (by omega)) (nI_lt hj hlen)) kj_RJ1_9 yj_J0_checkIndex_df160 ⟨Nat.le_of_ble_eq_true rfl, Nat.le_of_ble_eq_true rfl⟩ rfl hl.1 rfl (Nat.le_of_ble_eq_true rfl) dJ1_charAt_3b067_3 ⟨Nat.le_of_ble_eq_true rfl, Nat.le_of_ble_eq_true rfl⟩ (fun z1 H locs hp hw2 => ?_)
  subst hp
  have hw := hw2
  refine lv_aload_n hx hb dJ1_charAt_3b067_6 rfl (lv_at hl 0 rfl) ?_
  refine lv_iload_n hx hb dJ1_charAt_3b067_7 rfl (lv_at hl 1 rfl) ?_
  refine va_tb hx hb (E.2.2.1.1 i hi).2.2.2 hw.2.2 hk (v := .int (sB i (nI j).toNatClampNeg)) rfl dJ1_charAt_3b067_8 ?_
  refine lv_sipush (v := 255) hx hb dJ1_charAt_3b067_9 (by decide) ?_
  refine lv_iand hx hb dJ1_charAt_3b067_12 ?_
  refine lv_i2c hx hb dJ1_charAt_3b067_13 rfl ?_
  exact hret (sCh i (nI j)) z1 H locs 14 ls hw (pk_nc _) ⟨rfl, rfl⟩ dJ1_charAt_3b067_14
set_option maxHeartbeats 4000000 in
theorem c_J0_charAt (l : Launch) (D : va_G) (ad : Nat → Nat → Nat) (cs : Nat → ClassId) (sk : (Nat → Nat) × (Nat → Nat)) (z : ZS) (i : Nat) (k : Int32) (post : Int32 → ZS → Prop) (hi : i < 6) (h : V_J0_charAt z i k post) : MI l D ad cs sk yJ0_charAt_5068e cJ0_charAt_5068e 2 .char (rmq 3 0 0) [.ref (sk.1 i), .int k] z post := by
  refine MI.of RJ0 rfl (by decide) (Nat.le_of_ble_eq_true rfl) ?_
  intro p e s m args below meth c A Q E hw hA hret ls hl
  have hx := E.1.1
  have hb := E.1.2.1
  have hown := E.1.2.2.2.1
  have h0 := E.1.2.2.2.2
  have hl : lv_has ls 2 [(0, .ref (sk.1 i)), (1, .int k)] := hl
  obtain ⟨hk, h⟩ := h
  refine lv_aload_n hx hb dJ0_charAt_5068e_0 rfl (lv_at hl 0 rfl) ?_
  refine xcVI (As := []) (rest := []) E hw hA (c_J0_isLatin1 l D ad cs sk z i hi) kj_RJ0_492 yj_isLatin1 ⟨Nat.le_of_ble_eq_true rfl, Nat.le_of_ble_eq_true rfl⟩ (vk_recv E.2.2.1 hi hw.2.2) rfl hl.1 rfl (Nat.le_of_ble_eq_true rfl) dJ0_charAt_5068e_1 ⟨Nat.le_of_ble_eq_true rfl, Nat.le_of_ble_eq_true rfl⟩ (fun r z1 H locs hp hw2 => ?_)
  obtain ⟨rfl, rfl⟩ := hp
  have hw := hw2
  refine lv_if_eq (tgt := 16) hx hb dJ0_charAt_5068e_4 (by decide) (fun c1 => absurd c1 (by decide)) (fun c1 => ?_)
  refine lv_aload_n hx hb dJ0_charAt_5068e_7 rfl (lv_at hl 0 rfl) ?_
  refine vk_getf hx hb (E.2.2.1.1 i hi).2.2.1 hw.2.2 hown (h0 _ qj_f9) (fun _ h => h) dJ0_charAt_5068e_8 ?_
  refine lv_iload_n hx hb dJ0_charAt_5068e_11 rfl (lv_at hl 1 rfl) ?_
  refine xcSI (As := [.ref (sk.2 i), .int k]) (rest := []) E hw hA (c_J1_charAt l D ad cs sk z1 i k hi hk) kj_RJ0_495 yj_J1_charAt_3b067 ⟨Nat.le_of_ble_eq_true rfl, Nat.le_of_ble_eq_true rfl⟩ rfl hl.1 rfl (Nat.le_of_ble_eq_true rfl) dJ0_charAt_5068e_12 ⟨Nat.le_of_ble_eq_true rfl, Nat.le_of_ble_eq_true rfl⟩ (fun r z2 H locs hp hw3 => ?_)
  obtain ⟨rfl, rfl⟩ := hp
  have hw := hw3
  exact hret _ z2 H locs 15 ls hw (pk_nc _) h dJ0_charAt_5068e_15
