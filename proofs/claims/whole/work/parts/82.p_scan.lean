/-! PURE, part 33: air: a STATEMENT read, one function; the class's scan -/
abbrev isDg (t : Int32) : Prop := 48 ≤ t.toInt ∧ t.toInt ≤ 57
def nlF (tc : Nat → Int32) (p : Nat) : Nat → Nat → Int32 → Nat × Int32
  | 0, k, v => (k, v)
  | (r + 1), k, v => if v ≤ 0 then (k, v) else if isDg (tc (p + k)) then nlF tc p r (k + 1) (10 * v + tc (p + k) - 48) else (k, v)
theorem nlF_s (tc : Nat → Int32) (p r k : Nat) (v : Int32) : nlF tc p (r + 1) k v = if v ≤ 0 then (k, v) else if isDg (tc (p + k)) then nlF tc p r (k + 1) (10 * v + tc (p + k) - 48) else (k, v) := rfl
def nbF (tc : Nat → Int32) (p : Nat) : Nat → Nat → Int32 → Int32
  | 0, _, v => v
  | (r + 1), k, v => nbF tc p r (k + 1) (v * 10 + tc (p + k) - 48)
def nmF (tc : Nat → Int32) (p : Nat) : Nat × Int32 := nlF tc p 3 1 (tc p - 48)
abbrev SR : Type := Nat × Option (Nat → Int32)
def scF (tc : Nat → Int32) : List Int32 → Nat → Nat → Int32 → (Nat → Int32) → SR
  | [], p, _, _, tl => (p, some tl)
  | (c :: r), p, cnt, bl, tl =>
    if c = 100 then (if isDg (tc p) then scF tc r (p + 1) (cnt + 1) 0 (upd tl cnt (if bl = 0 then tc p - 48 else -(tc p - 48))) else (p, none))
    else if c = 110 then (if isDg (tc p) then scF tc r (p + (nmF tc p).1) (cnt + 1) 0 (upd tl cnt (if bl = 0 then (nmF tc p).2 else -(nmF tc p).2)) else (p, none))
    else if c = 115 then (if tc p = 43 ∨ tc p = 45 then scF tc r (p + 1) cnt (if tc p = 45 then 1 else 0) tl else (p, none))
    else (if tc p = c then scF tc r (p + 1) cnt 0 tl else (p, none))
theorem scF_s (tc : Nat → Int32) (c : Int32) (r : List Int32) (p cnt : Nat) (bl : Int32) (tl : Nat → Int32) : scF tc (c :: r) p cnt bl tl = if c = 100 then (if isDg (tc p) then scF tc r (p + 1) (cnt + 1) 0 (upd tl cnt (if bl = 0 then tc p - 48 else -(tc p - 48))) else (p, none)) else if c = 110 then (if isDg (tc p) then scF tc r (p + (nmF tc p).1) (cnt + 1) 0 (upd tl cnt (if bl = 0 then (nmF tc p).2 else -(nmF tc p).2)) else (p, none)) else if c = 115 then (if tc p = 43 ∨ tc p = 45 then scF tc r (p + 1) cnt (if tc p = 45 then 1 else 0) tl else (p, none)) else (if tc p = c then scF tc r (p + 1) cnt 0 tl else (p, none)) := rfl
theorem dg_v {t : Int32} (h : isDg t) : (t - 48).toInt = t.toInt - 48 ∧ 0 ≤ (t - 48).toInt ∧ (t - 48).toInt ≤ 9 := by
  have e : (t - 48).toInt = t.toInt - 48 := by
    rw [Int32.toInt_sub, show (48 : Int32).toInt = 48 by decide, Int.bmod_def]
    split <;> omega
  omega
theorem nl_step {v t : Int32} (hv : 0 < v.toInt ∧ v.toInt ≤ 999) (ht : isDg t) : (10 * v + t - 48).toInt = 10 * v.toInt + t.toInt - 48 := by
  have e1 : (10 * v).toInt = 10 * v.toInt := by
    rw [Int32.toInt_mul, show (10 : Int32).toInt = 10 by decide, Int.bmod_def]
    split <;> omega
  have e2 : (10 * v + t).toInt = 10 * v.toInt + t.toInt := by
    rw [Int32.toInt_add, e1, Int.bmod_def]
    split <;> omega
  rw [Int32.toInt_sub, e2, show (48 : Int32).toInt = 48 by decide, Int.bmod_def]
  split <;> omega
def bdV (r : Nat) (v : Int) : Prop := (r = 3 ∧ v ≤ 9) ∨ (r = 2 ∧ v ≤ 99) ∨ (r = 1 ∧ v ≤ 999) ∨ (r = 0 ∧ v ≤ 9999)
/-- what the reading of a number gives -/
theorem nl_eq {tc : Nat → Int32} {p n : Nat} (hE : ∀ q, n ≤ q → ¬ isDg (tc q)) : ∀ (r k : Nat) (v : Int32), 0 < v.toInt → bdV r v.toInt → p + k ≤ n → (nlF tc p r k v).2 = nbF tc p ((nlF tc p r k v).1 - k) k v ∧ k ≤ (nlF tc p r k v).1 ∧ (nlF tc p r k v).1 ≤ k + r ∧ p + (nlF tc p r k v).1 ≤ n ∧ 0 < (nlF tc p r k v).2.toInt ∧ (nlF tc p r k v).2.toInt ≤ 9999 := by
  intro r
  induction r with
  | zero =>
    intro k v hv hb hp
    unfold bdV at hb
    have e : nlF tc p 0 k v = (k, v) := rfl
    rw [e, show (k, v).1 - k = 0 from Nat.sub_self k]
    exact ⟨rfl, Nat.le_refl _, Nat.le_refl _, hp, hv, by show v.toInt ≤ 9999; omega⟩
  | succ r ih =>
    intro k v hv hb hp
    unfold bdV at hb
    have n1 : ¬ v ≤ 0 := fun q => by rw [Int32.le_iff_toInt_le, i_0] at q; omega
    by_cases c : isDg (tc (p + k))
    · have e : nlF tc p (r + 1) k v = nlF tc p r (k + 1) (10 * v + tc (p + k) - 48) := by
        rw [nlF_s, if_neg n1, if_pos c]
      have es := nl_step (v := v) (t := tc (p + k)) (by omega) c
      have hk : p + k < n := Nat.lt_of_not_le (fun q => hE _ q c)
      obtain ⟨h1, h2, h3, h4, h5, h6⟩ := ih (k + 1) (10 * v + tc (p + k) - 48) (by rw [es]; omega) (by unfold bdV; rw [es]; omega) (by omega)
      rw [e]
      refine ⟨?_, by omega, by omega, h4, h5, h6⟩
      have el : (nlF tc p r (k + 1) (10 * v + tc (p + k) - 48)).1 - k = ((nlF tc p r (k + 1) (10 * v + tc (p + k) - 48)).1 - (k + 1)) + 1 := by omega
      rw [h1, el]
      generalize (nlF tc p r (k + 1) (10 * v + tc (p + k) - 48)).1 - (k + 1) = j
      have eb : nbF tc p (j + 1) k v = nbF tc p j (k + 1) (v * 10 + tc (p + k) - 48) := rfl
      rw [eb, Int32.mul_comm v 10]
    · have e : nlF tc p (r + 1) k v = (k, v) := by
        unfold nlF
        rw [if_neg n1, if_neg c]
      rw [e, show (k, v).1 - k = 0 from Nat.sub_self k]
      exact ⟨rfl, Nat.le_refl _, by show k ≤ _; omega, hp, hv, by show v.toInt ≤ 9999; omega⟩
theorem nm_0 {tc : Nat → Int32} {p : Nat} (h : tc p = 48) : nmF tc p = (1, 0) := by
  unfold nmF
  rw [h]
  rfl
theorem nm_eq {tc : Nat → Int32} {p n : Nat} (hE : ∀ q, n ≤ q → ¬ isDg (tc q)) (h : isDg (tc p)) : (nmF tc p).2 = nbF tc p (nmF tc p).1 0 0 ∧ 1 ≤ (nmF tc p).1 ∧ (nmF tc p).1 ≤ 4 ∧ p + (nmF tc p).1 ≤ n ∧ 0 ≤ (nmF tc p).2.toInt ∧ (nmF tc p).2.toInt ≤ 9999 := by
  have hp : p < n := Nat.lt_of_not_le (fun q => hE _ q h)
  by_cases c : tc p = 48
  · rw [nm_0 c]
    refine ⟨?_, by decide, by decide, by show p + 1 ≤ n; omega, by decide, by decide⟩
    show (0 : Int32) = 0 * 10 + tc (p + 0) - 48
    rw [Nat.add_zero, c]
    decide
  · have hd := dg_v h
    have hv : 0 < (tc p - 48).toInt := by
      have : ¬ (tc p).toInt = 48 := fun q => c (Int32.toInt_inj.mp (q.trans (by decide)))
      omega
    obtain ⟨h1, h2, h3, h4, h5, h6⟩ := nl_eq (tc := tc) (p := p) hE 3 1 (tc p - 48) hv (by unfold bdV; omega) (by omega)
    unfold nmF
    refine ⟨?_, by omega, by omega, h4, by omega, h6⟩
    obtain ⟨j, ej⟩ : ∃ j, (nlF tc p 3 1 (tc p - 48)).1 = j + 1 := ⟨(nlF tc p 3 1 (tc p - 48)).1 - 1, by omega⟩
    rw [h1, ej, show j + 1 - 1 = j from rfl]
    have e0 : (0 : Int32) * 10 + tc (p + 0) - 48 = tc p - 48 := by rw [Int32.zero_mul, Int32.zero_add, Nat.add_zero]
    have eb : nbF tc p (j + 1) 0 0 = nbF tc p j 1 (0 * 10 + tc (p + 0) - 48) := rfl
    rw [eb, e0]
-- the class
/-- the text's char at p, as the class reads it -/
def tcZ (z : ZS) (d n p : Nat) : Int32 := if p < n then eL z d p else -1
theorem tcZ_E (z : ZS) (d n : Nat) : ∀ q, n ≤ q → ¬ isDg (tcZ z d n q) := fun q hq h => by
  unfold tcZ at h
  rw [if_neg (by omega)] at h
  exact absurd h.1 (by decide)
theorem c_val {z : ZS} {d n p : Nat} (w : RW z d n) (hp : p < 1000) {post : Int32 → ZS → Prop} (h : post (tcZ z d n p) z) : V_X9_valueAt z (6 + d) (nI p) post := by
  unfold tcZ at h
  by_cases c : p < n
  · rw [if_pos c] at h
    exact w.v c h
  · rw [if_neg c] at h
    exact c_valueB w.2.2.2.2.2.2.1 w.2.2.2.2.2.1 (fun q => by rw [nI_toInt (by omega)] at q; omega) h
theorem c_dg {z : ZS} {t : Int32} {post : Int32 → ZS → Prop} (h1 : isDg t → post 1 z) (h0 : ¬ isDg t → post 0 z) : V_X0_isDigit z t post := by
  unfold V_X0_isDigit
  exact ge_from 48 57 rfl rfl (fun c => ⟨rfl, h1 c⟩) (fun c => ⟨rfl, h0 c⟩)
def okC (c t : Int32) : Prop := if c = 100 then isDg t else if c = 110 then isDg t else if c = 115 then (t = 43 ∨ t = 45) else t = c
theorem c_formed {z : ZS} {c t : Int32} {post : Int32 → ZS → Prop} (h1 : okC c t → post 1 z) (h0 : ¬ okC c t → post 0 z) : V_X0_isAsFormed z c t post := by
  unfold V_X0_isAsFormed V_X0_isAsFormed_53
  unfold okC at h1 h0
  refine ⟨fun q => ?_, fun q => ⟨fun q2 => ?_, fun q2 => ⟨fun q3 => ⟨fun q4 => ?_, fun q4 => ⟨fun q5 => ?_, fun q5 => ?_⟩⟩, fun q3 => ⟨fun q4 => ?_, fun q4 => ?_⟩⟩⟩⟩
  · rw [if_pos q] at h1 h0
    exact c_dg (fun c => ⟨rfl, h1 c⟩) (fun c => ⟨rfl, h0 c⟩)
  · rw [if_neg q, if_pos q2] at h1 h0
    exact c_dg (fun c => ⟨rfl, h1 c⟩) (fun c => ⟨rfl, h0 c⟩)
  · rw [if_neg q, if_neg q2, if_pos q3] at h1
    exact h1 (Or.inl q4)
  · rw [if_neg q, if_neg q2, if_pos q3] at h0
    exact h0 (fun r => r.elim q4 q5)
  · rw [if_neg q, if_neg q2, if_pos q3] at h1
    exact h1 (Or.inr q5)
  · rw [if_neg q, if_neg q2, if_neg q3] at h0
    exact h0 q4
  · rw [if_neg q, if_neg q2, if_neg q3] at h1
    exact h1 q4
theorem c_behind_lp {z : ZS} {d n p : Nat} (w : RW z d n) (hp : p < 500) {post : Int32 → ZS → Prop} : ∀ (r k : Nat) (v : Int32), r + k = 4 → 0 < v.toInt → bdV r v.toInt → post (nI (p + (nlF (tcZ z d n) p r k v).1)) z → V_X0_behindNumber_18 (6 + d) post (r + 1) z (nI p) 4 (nI k) := by
  intro r
  induction r with
  | zero =>
    intro k v e hv hb kk
    unfold V_X0_behindNumber_18
    have hk : k = 4 := by omega
    subst hk
    refine ⟨fun _ => ?_, fun q => absurd (by decide : (4 : Int32) ≤ nI 4) q⟩
    rw [nI_add]
    exact kk
  | succ r ih =>
    intro k v e hv hb kk
    unfold V_X0_behindNumber_18
    have hk : ¬ (4 : Int32) ≤ nI k := fun q => by
      rw [Int32.le_iff_toInt_le, nI_toInt (by omega), show (4 : Int32).toInt = 4 by decide] at q
      omega
    have n1 : ¬ v ≤ 0 := fun q => by rw [Int32.le_iff_toInt_le, i_0] at q; omega
    unfold bdV at hb
    rw [nlF_s, if_neg n1] at kk
    rw [nI_add]
    refine ⟨fun q => absurd q hk, fun _ => c_val w (by omega) (c_dg (fun c => no1 (fun t10 e10 => ?_)) (fun c => no0 ?_))⟩
    · rw [if_pos c] at kk
      have es := nl_step (v := v) (t := tcZ z d n (p + k)) (by omega) c
      rw [e10, nI_1]
      exact ih (k + 1) _ (by omega) (by rw [es]; omega) (by unfold bdV; rw [es]; omega) kk
    · rw [if_neg c] at kk
      exact kk
theorem c_behind {z : ZS} {d n p : Nat} (w : RW z d n) (hp : p < 500) (h : isDg (tcZ z d n p)) {post : Int32 → ZS → Prop} (kk : post (nI (p + (nmF (tcZ z d n) p).1)) z) : V_X0_behindNumber z (6 + d) (nI p) post := by
  unfold V_X0_behindNumber V_X0_behindNumber_15
  refine c_val w (by omega) ⟨fun q => ⟨5, ?_⟩, fun q => ⟨2, ?_⟩⟩
  · unfold V_X0_behindNumber_18
    refine ⟨fun q => absurd q (by decide), fun _ => ?_⟩
    rw [Int32.add_zero]
    refine c_val w (by omega) (c_dg (fun c => no1 (fun t10 e10 => ?_)) (fun c => absurd h c))
    have hd := dg_v h
    have hv : 0 < (tcZ z d n p - 48).toInt := by
      have : ¬ (tcZ z d n p).toInt = 48 := fun r => q (Int32.toInt_inj.mp (r.trans (by decide)))
      omega
    rw [e10]
    exact c_behind_lp w hp 3 1 (tcZ z d n p - 48) rfl hv (by unfold bdV; omega) kk
  · unfold V_X0_behindNumber_18
    refine ⟨fun q => absurd q (by decide), fun _ => ?_⟩
    rw [Int32.add_zero]
    refine c_val w (by omega) (c_dg (fun c => no1 (fun t10 e10 => ?_)) (fun c => absurd h c))
    rw [nm_0 q] at kk
    rw [e10]
    unfold V_X0_behindNumber_18
    refine ⟨fun _ => ?_, fun q => absurd (by decide) q⟩
    have e1 : nI p + ((0 : Int32) + 1) = nI (p + 1) := nI_add p 1
    rw [e1]
    exact kk
theorem c_between_lp {z : ZS} {d n p : Nat} (w : RW z d n) (hp : p < 500) {post : Int32 → ZS → Prop} : ∀ (r k : Nat) (v : Int32), k + r < 100 → post (nbF (tcZ z d n) p r k v) z → V_X0_numberBetween_5 (6 + d) post (r + 1) z (nI (p + (k + r))) v (nI (p + k)) := by
  intro r
  induction r with
  | zero =>
    intro k v e kk
    unfold V_X0_numberBetween_5
    exact ⟨fun _ => kk, fun q => absurd (nI_le (by omega) (by omega)) q⟩
  | succ r ih =>
    intro k v e kk
    unfold V_X0_numberBetween_5
    refine ⟨fun q => absurd q (nI_ge (by omega) (by omega)), fun _ => c_val w (by omega) (fun t4 e4 t5 e5 => ?_)⟩
    rw [e4, e5, nI_1]
    have h := ih (k + 1) (v * 10 + tcZ z d n (p + k) - 48) (by omega) kk
    rw [show k + 1 + r = k + (r + 1) by omega] at h
    exact h
theorem c_between {z : ZS} {d n p r : Nat} (w : RW z d n) (hp : p < 500) (hr : r < 100) {post : Int32 → ZS → Prop} (kk : post (nbF (tcZ z d n) p r 0 0) z) : V_X0_numberBetween z (6 + d) (nI p) (nI (p + r)) post := by
  have h := c_between_lp w hp (post := post) r 0 0 (by omega) kk
  rw [Nat.zero_add, Nat.add_zero] at h
  exact ⟨r + 1, h⟩
/-- only the draft's told has changed -/
def S9 (z z1 : ZS) : Prop := zI z1 = zI z ∧ (∀ a k, ¬ (a = 2 ∧ k = 9) → zR z1 a k = zR z a k) ∧ zG z1 = zG z ∧ zQ z1 = zQ z ∧ zP z1 = zP z ∧ zK z1 = zK z ∧ zF z1 = zF z
theorem S9.rf (z : ZS) : S9 z z := ⟨rfl, fun _ _ _ => rfl, rfl, rfl, rfl, rfl, rfl⟩
theorem S9.tr {z z1 z2 : ZS} (h : S9 z z1) (g : S9 z1 z2) : S9 z z2 := ⟨g.1.trans h.1, fun a k q => (g.2.1 a k q).trans (h.2.1 a k q), g.2.2.1.trans h.2.2.1, g.2.2.2.1.trans h.2.2.2.1, g.2.2.2.2.1.trans h.2.2.2.2.1, g.2.2.2.2.2.1.trans h.2.2.2.2.2.1, g.2.2.2.2.2.2.trans h.2.2.2.2.2.2⟩
theorem S9.w (z : ZS) (i : Nat) (v : Int32) : S9 z (wR z 2 9 i v) := ⟨rfl, fun a k q => if_neg q, rfl, rfl, rfl, rfl, rfl⟩
theorem S9.kp {z z1 : ZS} (h : S9 z z1) : Kp z z1 := ⟨fun o k _ => by rw [h.1], fun o k q => h.2.1 o k (by unfold keepR at q; omega), fun o _ => by rw [h.2.2.1], h.2.2.2.1, fun a q => ⟨by rw [h.2.2.2.2.1]; exact q, by rw [h.2.2.2.2.2.1], by rw [h.2.2.2.2.2.2]⟩⟩
def fml (i : Nat) : Nat → Nat → List Int32
  | 0, _ => []
  | (r + 1), k => sCh i (nI k) :: fml i r (k + 1)
def nN : List Int32 → Nat
  | [] => 0
  | (c :: r) => (if c = 100 ∨ c = 110 then 1 else 0) + nN r
theorem tcZ_kp {z z1 : ZS} (h : Kp z z1) (d n : Nat) : tcZ z1 d n = tcZ z d n := by
  funext p
  unfold tcZ
  rw [eL_kp h]
theorem okC_lt {z : ZS} {d n p : Nat} {c : Int32} (hc : c ≠ -1) (h : okC c (tcZ z d n p)) : p < n := by
  apply Nat.lt_of_not_le
  intro q
  unfold tcZ at h
  rw [if_neg (by omega)] at h
  unfold okC at h
  split at h
  · exact absurd h.1 (by decide)
  · split at h
    · exact absurd h.1 (by decide)
    · split at h
      · exact absurd h (by decide)
      · exact hc h.symm
theorem xor_m {p : Nat} : nI p ^^^ (-1 : Int32) = nI p ^^^ (-1 : Int32) := rfl
theorem c_scan_lp {z0 : ZS} {d n i : Nat} (hd : d < 8) (w0 : RW z0 d n) (hi : sL i < 100) (hm : ∀ k, k < sL i → sCh i (nI k) ≠ -1) {post : Int32 → ZS → Prop} : ∀ (r k p cnt : Nat) (bl : Int32) (tl : Nat → Int32) (z : ZS), r + k = sL i → p ≤ n → nN (fml i r k) + cnt ≤ 4 → S9 z0 z → (∀ j, j < cnt → zR z 2 9 j = tl j) → (∀ q, scF (tcZ z0 d n) (fml i r k) p cnt bl tl = (q, none) → q ≤ n → ∀ z1, S9 z0 z1 → post (nI q ^^^ (-1 : Int32)) z1) → (∀ q tl1, scF (tcZ z0 d n) (fml i r k) p cnt bl tl = (q, some tl1) → q ≤ n → ∀ z1, S9 z0 z1 → (∀ j, j < cnt + nN (fml i r k) → zR z1 2 9 j = tl1 j) → post (nI q) z1) → V_X0_scan_34 2 (6 + d) post (r + 1) z i (nI p) (nI cnt) bl (nI k) := by
  have hn := w0.2.2.2.2.2.1
  intro r
  induction r with
  | zero =>
    intro k p cnt bl tl z e hp hN s ht k0 k1
    unfold V_X0_scan_34 V_J0_length
    refine ⟨fun _ => k1 p tl rfl hp z s ht, fun q => absurd (nI_le (by omega) (by omega)) q⟩
  | succ r ih =>
    intro k p cnt bl tl z e hp hN s ht k0 k1
    unfold V_X0_scan_34 V_J0_length V_J0_charAt
    have wz := w0.kp s.kp hd
    have etc : tcZ z d n = tcZ z0 d n := tcZ_kp s.kp d n
    have efm : fml i (r + 1) k = sCh i (nI k) :: fml i r (k + 1) := rfl
    have eN : nN (fml i (r + 1) k) = (if sCh i (nI k) = 100 ∨ sCh i (nI k) = 110 then 1 else 0) + nN (fml i r (k + 1)) := rfl
    rw [efm] at k0 k1
    rw [eN] at hN
    have hmk := hm k (by omega)
    generalize sCh i (nI k) = c at k0 k1 hN hmk ⊢
    have eNc : nN (c :: fml i r (k + 1)) = (if c = 100 ∨ c = 110 then 1 else 0) + nN (fml i r (k + 1)) := rfl
    rw [eNc] at k1
    rw [scF_s] at k0 k1
    refine ⟨fun q => absurd q (nI_ge (by omega) (by omega)), fun _ => ⟨vin (by omega) (by omega), c_val wz (by omega) ?_⟩⟩
    rw [etc]
    have go153 : ∀ (cnt' : Nat) (tl' : Nat → Int32) (z' : ZS) (q' : Nat) (bl' : Int32), (¬ c = 115 → bl' = 0) → (c = 115 → bl' = if tcZ z0 d n p = 45 then 1 else 0) → q' ≤ n → nN (fml i r (k + 1)) + cnt' ≤ 4 → S9 z0 z' → (∀ j, j < cnt' → zR z' 2 9 j = tl' j) → (∀ q, scF (tcZ z0 d n) (fml i r (k + 1)) q' cnt' bl' tl' = (q, none) → q ≤ n → ∀ z1, S9 z0 z1 → post (nI q ^^^ (-1 : Int32)) z1) → (∀ q tl1, scF (tcZ z0 d n) (fml i r (k + 1)) q' cnt' bl' tl' = (q, some tl1) → q ≤ n → ∀ z1, S9 z0 z1 → (∀ j, j < cnt' + nN (fml i r (k + 1)) → zR z1 2 9 j = tl1 j) → post (nI q) z1) → V_X0_scan_153 2 (6 + d) post (V_X0_scan_34 2 (6 + d) post (r + 1)) z' i (nI cnt') (nI k) c (tcZ z0 d n p) (nI q') := fun cnt' tl' z' q' bl' b0 b1 hq hN' s' ht' kk0 kk1 => by
      unfold V_X0_scan_153 V_X0_scan_171 V_X0_scan_172
      have next : ∀ t23 : Int32, t23 = nI k + 1 → V_X0_scan_34 2 (6 + d) post (r + 1) z' i (nI q') (nI cnt') bl' t23 := fun t23 e23 => by
        rw [e23, nI_1]
        exact ih (k + 1) q' cnt' bl' tl' z' (by omega) hq hN' s' ht' kk0 kk1
      refine ⟨fun q => ?_, fun q => ⟨fun q2 => ?_, fun q2 => ?_⟩⟩
      · rw [b0 q] at next; exact next
      · rw [b1 q, if_neg q2] at next; exact next
      · rw [b1 q, if_pos q2] at next; exact next
    have go110 : ∀ (len : Nat) (v : Int32), (c = 100 ∨ c = 110) → v = nbF (tcZ z0 d n) p len 0 0 → len < 100 → p + len ≤ n → (∀ q, scF (tcZ z0 d n) (fml i r (k + 1)) (p + len) (cnt + 1) 0 (upd tl cnt (if bl = 0 then v else -v)) = (q, none) → q ≤ n → ∀ z1, S9 z0 z1 → post (nI q ^^^ (-1 : Int32)) z1) → (∀ q tl1, scF (tcZ z0 d n) (fml i r (k + 1)) (p + len) (cnt + 1) 0 (upd tl cnt (if bl = 0 then v else -v)) = (q, some tl1) → q ≤ n → ∀ z1, S9 z0 z1 → (∀ j, j < cnt + 1 + nN (fml i r (k + 1)) → zR z1 2 9 j = tl1 j) → post (nI q) z1) → V_X0_scan_110 2 (6 + d) post (V_X0_scan_34 2 (6 + d) post (r + 1)) z i (nI p) (nI cnt) bl (nI k) c (tcZ z0 d n p) (nI (p + len)) := fun len v hc hv hl hpl kk0 kk1 => by
      unfold V_X0_scan_110
      rw [if_pos hc] at hN
      have c4 : ¬ (4 : Int32) ≤ nI cnt := fun q => by
        rw [Int32.le_iff_toInt_le, nI_toInt (by omega), show (4 : Int32).toInt = 4 by decide] at q
        omega
      have nc : ¬ c = 115 := fun q => by rcases hc with h | h <;> rw [h] at q <;> exact absurd q (by decide)
      have st : ∀ x : Int32, x = (if bl = 0 then v else -v) → V_X0_scan_149 2 (6 + d) post (V_X0_scan_34 2 (6 + d) post (r + 1)) z i (nI cnt) (nI k) c (tcZ z0 d n p) (nI (p + len)) (nI cnt) x := fun x ex => by
        unfold V_X0_scan_149
        rw [nI_clamp (show cnt < 2 ^ 31 by omega)]
        refine ⟨vin (by omega) (by decide), fun z28 e28 t29 e29 => ?_⟩
        have s28 : S9 z0 z28 := by rw [e28]; exact s.tr (S9.w z cnt x)
        rw [e29, nI_1]
        refine go153 (cnt + 1) (upd tl cnt (if bl = 0 then v else -v)) z28 (p + len) 0 (fun _ => rfl) (fun q => absurd q nc) hpl (by omega) s28 (fun j hj => ?_) kk0 kk1
        rw [e28, zR_wR]
        unfold upd
        by_cases cj : j = cnt
        · rw [if_pos cj, if_pos cj, ex]
        · rw [if_neg cj, if_neg cj]
          exact ht j (by omega)
      refine ⟨fun q => absurd q c4, fun _ => c_between wz (by omega) hl ?_⟩
      rw [etc, ← hv]
      exact ⟨fun q => st v (by rw [if_pos q]), fun q => st (-v) (by rw [if_neg q])⟩
    refine c_formed (fun ok => on1 ?_) (fun ok => on0 ?_)
    · have hp2 : p < n := okC_lt hmk ok
      unfold okC at ok
      unfold V_X0_scan_94
      by_cases h100 : c = 100
      · rw [if_pos h100] at k0 k1 ok
        rw [if_pos ok] at k0 k1
        rw [if_pos (Or.inl h100)] at k1
        have n110 : ¬ c = 110 := fun q => by rw [h100] at q; exact absurd q (by decide)
        refine ⟨fun _ => ⟨fun q => absurd q n110, fun _ => ⟨fun q => absurd h100 q, fun _ => ?_⟩⟩, fun q => absurd q n110⟩
        rw [nI_1]
        refine go110 1 (tcZ z0 d n p - 48) (Or.inl h100) ?_ (by decide) (by omega) k0 (fun q tl1 e1 hq z1 s1 h1 => k1 q tl1 e1 hq z1 s1 (fun j hj => h1 j (by omega)))
        show tcZ z0 d n p - 48 = 0 * 10 + tcZ z0 d n (p + 0) - 48
        rw [Int32.zero_mul, Int32.zero_add, Nat.add_zero]
      · rw [if_neg h100] at k0 k1 ok
        by_cases h110 : c = 110
        · rw [if_pos h110] at k0 k1 ok
          rw [if_pos ok] at k0 k1
          rw [if_pos (Or.inr h110)] at k1
          obtain ⟨m1, m2, m3, m4, -, -⟩ := nm_eq (tcZ_E z0 d n) ok
          refine ⟨fun q => absurd h110 q, fun _ => c_behind wz (by omega) (by rw [etc]; exact ok) ?_⟩
          rw [etc]
          exact ⟨fun _ => go110 (nmF (tcZ z0 d n) p).1 (nmF (tcZ z0 d n) p).2 (Or.inr h110) m1 (by omega) m4 k0 (fun q tl1 e1 hq z1 s1 h1 => k1 q tl1 e1 hq z1 s1 (fun j hj => h1 j (by omega))), fun q => absurd h110 q⟩
        · rw [if_neg h110] at k0 k1 ok
          have nb : ¬ (c = 100 ∨ c = 110) := fun q => q.elim h100 h110
          rw [if_neg nb, Nat.zero_add] at k1
          rw [if_neg nb, Nat.zero_add] at hN
          refine ⟨fun _ => ⟨fun q => absurd q h110, fun _ => ⟨fun _ => ?_, fun q => absurd q h100⟩⟩, fun q => absurd q h110⟩
          rw [nI_1]
          by_cases h115 : c = 115
          · rw [if_pos h115] at k0 k1 ok
            rw [if_pos ok] at k0 k1
            exact go153 cnt tl z (p + 1) (if tcZ z0 d n p = 45 then 1 else 0) (fun q => absurd h115 q) (fun _ => rfl) (by omega) hN s ht k0 k1
          · rw [if_neg h115] at k0 k1 ok
            rw [if_pos ok] at k0 k1
            exact go153 cnt tl z (p + 1) 0 (fun _ => rfl) (fun q => absurd q h115) (by omega) hN s ht k0 k1
    · refine k0 p ?_ hp z s
      unfold okC at ok
      by_cases h100 : c = 100
      · rw [if_pos h100] at ok ⊢
        rw [if_neg ok]
      · rw [if_neg h100] at ok ⊢
        by_cases h110 : c = 110
        · rw [if_pos h110] at ok ⊢
          rw [if_neg ok]
        · rw [if_neg h110] at ok ⊢
          by_cases h115 : c = 115
          · rw [if_pos h115] at ok ⊢
            rw [if_neg ok]
          · rw [if_neg h115] at ok ⊢
            rw [if_neg ok]
