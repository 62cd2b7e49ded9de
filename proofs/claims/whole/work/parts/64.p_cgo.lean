/-! PURE, part 15: bounds of a second; falls by so many seconds, of the class -/
theorem nI_div {a b : Nat} (ha : a < 2 ^ 31) (hb : 0 < b) (hb2 : b < 2 ^ 31) : nI a / nI b = nI (a / b) := by
  apply Int32.toInt_inj.mp
  have hne : nI b ≠ -1 := fun q => by
    have q2 := congrArg Int32.toInt q
    rw [nI_toInt hb2, show (-1 : Int32).toInt = -1 by decide] at q2
    omega
  have hd : a / b ≤ a := Nat.div_le_self a b
  rw [Int32.toInt_div_of_ne_right _ _ hne, nI_toInt ha, nI_toInt hb2, nI_toInt (by omega)]
  rfl
theorem and31 (x : Int32) : ∃ j : Nat, j < 2 ^ 31 ∧ x &&& 2147483647 = nI j := pk_andE x 31 (by decide)
theorem puff_m {g : Nat} : (2 : Int32) * nI g + 1 = nI (2 * g + 1) := by
  rw [show (2 : Int32) * nI g = nI (2 * g) from (Int32.ofNat_mul 2 g).symm, nI_1]
theorem puff_bd {sd : Int32} {g : Nat} (h1 : 1 ≤ g) (h2 : g ≤ 30) : 0 ≤ (puffB sd (nI g)).toInt ∧ (puffB sd (nI g)).toInt ≤ 2 * g := by
  obtain ⟨j, hj, e⟩ := and31 (sdB sd)
  unfold puffB
  rw [e, show (65536 : Int32) = nI 65536 from rfl, puff_m, nI_div hj (by decide) (by decide)]
  have hq : j / 65536 < 32768 := by omega
  generalize j / 65536 = q at hq ⊢
  rw [nI_div (by omega) (by omega) (by omega)]
  have hm : q / (2 * g + 1) * (2 * g + 1) ≤ q := Nat.div_mul_le_self _ _
  rw [show nI (q / (2 * g + 1)) * nI (2 * g + 1) = nI (q / (2 * g + 1) * (2 * g + 1)) from (Int32.ofNat_mul _ _).symm]
  have hmod : q / (2 * g + 1) * (2 * g + 1) + q % (2 * g + 1) = q := by rw [Nat.mul_comm]; exact Nat.div_add_mod q (2 * g + 1)
  have hlt := Nat.mod_lt q (show 0 < 2 * g + 1 by omega)
  generalize q / (2 * g + 1) * (2 * g + 1) = w at hm hmod ⊢
  generalize q % (2 * g + 1) = r at hmod hlt
  rw [Int32.toInt_sub, nI_toInt (by omega), nI_toInt (by omega), Int.bmod_def]
  split <;> omega
/-- the air and the one that falls are as they must be -/
def PI (P : FP) : Prop := (0 ≤ P.1.2.1.toInt ∧ P.1.2.1.toInt ≤ 30) ∧ (∀ l, l < 10 → (-90 ≤ (P.1.2.2.1 l).toInt ∧ (P.1.2.2.1 l).toInt ≤ 90) ∧ (-90 ≤ (P.1.2.2.2 l).toInt ∧ (P.1.2.2.2 l).toInt ≤ 90)) ∧ (∃ kn, kn < 8 ∧ P.2.1.1 = nI kn) ∧ (0 ≤ P.2.1.2.1.toInt ∧ P.2.1.2.1.toInt ≤ 9)
/-- the place, the height and the seconds are as they must be -/
def FI (t : FS) : Prop := (-30000 ≤ t.1.toInt ∧ t.1.toInt ≤ 30000) ∧ (-30000 ≤ t.2.1.toInt ∧ t.2.1.toInt ≤ 30000) ∧ 0 ≤ t.2.2.1.toInt ∧ 0 ≤ t.2.2.2.1.toInt ∧ t.2.2.2.1.toInt ≤ 231 ∧ (t.2.2.1.toInt = 0 ∨ t.2.2.1.toInt + 13 * t.2.2.2.1.toInt ≤ 3000)
theorem FI.h {t : FS} (h : FI t) : 0 ≤ t.2.2.1.toInt ∧ t.2.2.1.toInt ≤ 3000 := by
  obtain ⟨-, -, h3, h4, h5, h6⟩ := h
  omega
theorem i_0 : (0 : Int32).toInt = 0 := by decide
theorem FI.zero {t : FS} (h : FI t) (q : t.2.2.1 ≤ 0) : t.2.2.1 = 0 := by
  have h3 := h.2.2.1
  apply Int32.toInt_inj.mp
  rw [Int32.le_iff_toInt_le, i_0] at q
  rw [i_0]
  omega
theorem i_ne0 {v : Int32} (h : ¬ v = 0) : ¬ v.toInt = 0 := fun q => h (Int32.toInt_inj.mp (q.trans i_0.symm))
theorem sinks_all : ∀ kn, kn < 8 → ∀ f, f < 10 → 13 ≤ (sinksB (nI kn) (nI f)).toInt ∧ (sinksB (nI kn) (nI f)).toInt ≤ 100 := by decide +kernel
theorem falls_all : ∀ kn, kn < 8 → 13 ≤ (fallsB (nI kn)).toInt ∧ (fallsB (nI kn)).toInt ≤ 145 := by decide +kernel
theorem PI.sinks {P : FP} (h : PI P) : 13 ≤ (sinksB P.2.1.1 P.2.1.2.1).toInt ∧ (sinksB P.2.1.1 P.2.1.2.1).toInt ≤ 100 := by
  obtain ⟨-, -, ⟨kn, hk, e⟩, hf⟩ := h
  obtain ⟨f, e2, e3, -⟩ := nat_of hf.1
  rw [e, e2]
  exact sinks_all kn hk f (by omega)
theorem PI.falls {P : FP} (h : PI P) : 13 ≤ (fallsB P.2.1.1).toInt ∧ (fallsB P.2.1.1).toInt ≤ 145 := by
  obtain ⟨-, -, ⟨kn, hk, e⟩, hf⟩ := h
  rw [e]
  exact falls_all kn hk
theorem gst_bd {P : FP} (h : PI P) {hh sd : Int32} (b : 0 ≤ hh.toInt ∧ hh.toInt ≤ 3000) : -1000 ≤ (gst P hh sd).1.toInt ∧ (gst P hh sd).1.toInt ≤ 1000 := by
  unfold gst
  split
  · rename_i q
    obtain ⟨g, e, e2, -⟩ := nat_of h.1.1
    have hb := h.1
    have hg := q.2
    rw [Int32.lt_iff_toInt_lt, i_0] at hg
    have hp := puff_bd (sd := sd) (g := g) (by omega) (by omega)
    rw [← e] at hp
    have hw := (h.2.1 0 (by decide)).1
    show -1000 ≤ (P.1.2.2.1 0 + (puffB sd P.1.2.1 - P.1.2.1)).toInt ∧ (P.1.2.2.1 0 + (puffB sd P.1.2.1 - P.1.2.1)).toInt ≤ 1000
    rw [Int32.toInt_add, Int32.toInt_sub]
    generalize (puffB sd P.1.2.1).toInt = a at hp ⊢
    generalize (P.1.2.2.1 0).toInt = c at hw ⊢
    generalize P.1.2.1.toInt = d at hb hg e2 ⊢
    have e5 : Int.bmod (a - d) (2 ^ 32) = a - d := by rw [Int.bmod_def]; split <;> omega
    rw [e5]
    have e6 : Int.bmod (c + (a - d)) (2 ^ 32) = c + (a - d) := by rw [Int.bmod_def]; split <;> omega
    rw [e6]
    omega
  · obtain ⟨l, hl, el, -⟩ := lay_in b
    have hw := (h.2.1 l hl).1
    show -1000 ≤ (P.1.2.2.1 (lay hh).toNatClampNeg).toInt ∧ (P.1.2.2.1 (lay hh).toNatClampNeg).toInt ≤ 1000
    rw [el, nI_clamp (by omega)]
    omega
theorem nw_bd {P : FP} (h : PI P) {hh : Int32} (b : 0 ≤ hh.toInt ∧ hh.toInt ≤ 3000) : -1000 ≤ (P.1.2.2.2 (lay hh).toNatClampNeg).toInt ∧ (P.1.2.2.2 (lay hh).toNatClampNeg).toInt ≤ 1000 := by
  obtain ⟨l, hl, el, -⟩ := lay_in b
  have hw := (h.2.1 l hl).2
  rw [el, nI_clamp (by omega)]
  omega
theorem dn_int {h f : Int32} (hh : 0 ≤ h.toInt ∧ h.toInt ≤ 3000) (hf : 0 ≤ f.toInt ∧ f.toInt ≤ 1000) : (dnB h f).toInt = if f.toInt < h.toInt then h.toInt - f.toInt else 0 := by
  have e := dn_sub hh hf
  unfold dnB
  by_cases c : f.toInt < h.toInt
  · rw [if_pos (by rw [Int32.lt_iff_toInt_lt, e, i_0]; omega), if_pos c, e]
  · rw [if_neg (fun q => by rw [Int32.lt_iff_toInt_lt, e, i_0] at q; omega), if_neg c, i_0]
theorem s_1 {s : Int32} (h : 0 ≤ s.toInt ∧ s.toInt ≤ 1000) : (s + 1).toInt = s.toInt + 1 := by
  rw [Int32.toInt_add, show (1 : Int32).toInt = 1 by decide, Int.bmod_def]
  split <;> omega
theorem sec_s {P : FP} {t : FS} : (secF P t).2.2.2.1 = t.2.2.2.1 + 1 := by unfold secF; split <;> rfl
theorem sec_FI {P : FP} {t : FS} (hP : PI P) (hF : FI t) (h0 : ¬ t.2.2.1 = 0) : FI (secF P t) ∧ (secF P t).2.2.2.1.toInt = t.2.2.2.1.toInt + 1 := by
  have hh := hF.h
  have h1 := i_ne0 h0
  obtain ⟨-, -, h3, h4, h5, h6⟩ := hF
  have es := s_1 (s := t.2.2.2.1) (by omega)
  have hb : ∀ f : Int32, 13 ≤ f.toInt ∧ f.toInt ≤ 145 → 0 ≤ (dnB t.2.2.1 f).toInt ∧ ((dnB t.2.2.1 f).toInt = 0 ∨ (dnB t.2.2.1 f).toInt + 13 * (t.2.2.2.1.toInt + 1) ≤ 3000) := fun f hf => by
    rw [dn_int hh (by omega)]
    split <;> omega
  refine ⟨?_, by rw [sec_s]; exact es⟩
  unfold secF
  split
  · have b := hb _ ⟨hP.sinks.1, Int.le_trans hP.sinks.2 (by decide)⟩
    refine ⟨hB_bd _, hB_bd _, b.1, ?_, ?_, ?_⟩
    · show 0 ≤ (t.2.2.2.1 + 1).toInt
      omega
    · show (t.2.2.2.1 + 1).toInt ≤ 231
      omega
    · show _ ∨ _ + 13 * (t.2.2.2.1 + 1).toInt ≤ 3000
      rw [es]
      exact b.2
  · have b := hb _ hP.falls
    refine ⟨hB_bd _, hB_bd _, b.1, ?_, ?_, ?_⟩
    · show 0 ≤ (t.2.2.2.1 + 1).toInt
      omega
    · show (t.2.2.2.1 + 1).toInt ≤ 231
      omega
    · show _ ∨ _ + 13 * (t.2.2.2.1 + 1).toInt ≤ 3000
      rw [es]
      exact b.2
/-- so many seconds, until it has landed -/
noncomputable def itF (P : FP) : Nat → FS → FS
  | 0, t => t
  | (n + 1), t => if t.2.2.1 = 0 then t else itF P n (secF P t)
theorem itF_0 {P : FP} {n : Nat} {t : FS} (h : t.2.2.1 = 0) : itF P n t = t := by
  cases n with
  | zero => rfl
  | succ n => exact if_pos h
theorem itF_s {P : FP} {n : Nat} {t : FS} (h : ¬ t.2.2.1 = 0) : itF P (n + 1) t = itF P n (secF P t) := if_neg h
theorem itF_FI {P : FP} (hP : PI P) : ∀ (n : Nat) (t : FS), FI t → FI (itF P n t) := by
  intro n
  induction n with
  | zero => intro t h; exact h
  | succ n ih =>
    intro t h
    by_cases c : t.2.2.1 = 0
    · rw [itF_0 c]; exact h
    · rw [itF_s c]; exact ih _ (sec_FI hP h c).1
theorem itF_add {P : FP} (m : Nat) : ∀ (n : Nat) (t : FS), itF P (n + m) t = itF P m (itF P n t) := by
  intro n
  induction n with
  | zero => intro t; rw [Nat.zero_add]; rfl
  | succ n ih =>
    intro t
    by_cases c : t.2.2.1 = 0
    · rw [itF_0 c, itF_0 c, itF_0 c]
    · rw [show n + 1 + m = n + m + 1 by omega, itF_s c, itF_s c]; exact ih _
theorem itF_land {P : FP} (hP : PI P) : ∀ (n : Nat) (t : FS), FI t → 231 ≤ (n : Int) + t.2.2.2.1.toInt → (itF P n t).2.2.1 = 0 := by
  intro n
  induction n with
  | zero =>
    intro t h q
    show t.2.2.1 = 0
    obtain ⟨-, -, h3, h4, h5, h6⟩ := h
    apply Int32.toInt_inj.mp
    rw [i_0]
    omega
  | succ n ih =>
    intro t h q
    by_cases c : t.2.2.1 = 0
    · rw [itF_0 c]; exact c
    · rw [itF_s c]
      have e := sec_FI hP h c
      exact ih _ e.1 (by rw [e.2]; omega)
/-- where it lands -/
noncomputable def fin (P : FP) (t : FS) : FS := itF P 231 t
theorem itF_fin {P : FP} (hP : PI P) {n : Nat} (hn : 231 ≤ n) {t : FS} (h : FI t) : itF P n t = fin P t := by
  obtain ⟨m, rfl⟩ : ∃ m, n = 231 + m := ⟨n - 231, by omega⟩
  rw [itF_add]
  exact itF_0 (itF_land hP 231 t h (by have := h.2.2.2.1; omega))
/-- a second of one that is open, by the wind east and the seed then -/
noncomputable def opF (P : FP) (t : FS) (e sd : Int32) : FS := (hB (t.1 + ((stO P t.1 t.2.1 e (P.1.2.2.2 (lay t.2.2.1).toNatClampNeg)).1 + driftB P.2.1.1 e)), hB (t.2.1 + ((stO P t.1 t.2.1 e (P.1.2.2.2 (lay t.2.2.1).toNatClampNeg)).2 + driftB P.2.1.1 (P.1.2.2.2 (lay t.2.2.1).toNatClampNeg))), dnB t.2.2.1 (sinksB P.2.1.1 P.2.1.2.1), t.2.2.2.1 + 1, sd)
theorem opF_sd (P : FP) (t : FS) (e sd v : Int32) : opF P (t.1, t.2.1, t.2.2.1, t.2.2.2.1, v) e sd = opF P t e sd := rfl
theorem sec_open {P : FP} {t : FS} (hs : P.2.1.2.2 ≤ t.2.2.2.1) {e sd : Int32} (eg : gst P t.2.2.1 t.2.2.2.2 = (e, sd)) : secF P t = opF P t e sd := by
  unfold secF opF
  rw [if_pos hs, eg]
theorem c_90 {z : ZS} {o : Nat} {P : FP} {t : FS} {v1 v2 s1 s2 : Int32} (c : CF z o P t) (vl : vp_in (lay t.2.2.1) 10) (b1 : -1000 ≤ (s1 + s2).toInt ∧ (s1 + s2).toInt ≤ 1000) (b2 : -1000 ≤ (P.1.2.2.2 (lay t.2.2.1).toNatClampNeg).toInt ∧ (P.1.2.2.2 (lay t.2.2.1).toNatClampNeg).toInt ≤ 1000) {post : ZS → Prop} {rr : ZS → Int32 → Int32 → Prop} (kk : ∀ z1, OF o z z1 → CF z1 o P (opF P t (s1 + s2) t.2.2.2.2) → rr z1 v1 (v2 + 1)) : V_X3_goOn_90 o post rr z v1 v2 (lay t.2.2.1) s1 s2 := by
  unfold V_X3_goOn_90
  refine ⟨vl, ?_⟩
  have qn : zR z 1 1 = P.1.2.2.2 := c.2.2.2.2.2.2.2.1
  rw [qn]
  exact c_sink c b1 b2 (fun z6 o6 c6 => c_after c6 (fun z7 o7 c7 => kk z7 (o6.tr o7) c7))
theorem c_90v {z : ZS} {o : Nat} {P : FP} {t : FS} {v v1 v2 s1 s2 : Int32} (c : CF z o P (t.1, t.2.1, t.2.2.1, t.2.2.2.1, v)) (vl : vp_in (lay t.2.2.1) 10) (b1 : -1000 ≤ (s1 + s2).toInt ∧ (s1 + s2).toInt ≤ 1000) (b2 : -1000 ≤ (P.1.2.2.2 (lay t.2.2.1).toNatClampNeg).toInt ∧ (P.1.2.2.2 (lay t.2.2.1).toNatClampNeg).toInt ≤ 1000) {post : ZS → Prop} {rr : ZS → Int32 → Int32 → Prop} (kk : ∀ z1, OF o z z1 → CF z1 o P (opF P t (s1 + s2) v) → rr z1 v1 (v2 + 1)) : V_X3_goOn_90 o post rr z v1 v2 (lay t.2.2.1) s1 s2 :=
  c_90 (t := (t.1, t.2.1, t.2.2.1, t.2.2.2.1, v)) c vl b1 b2 kk
theorem c_puff {z : ZS} {o : Nat} {P : FP} {t : FS} (hP : PI P) (c : CF z o P t) {post : Int32 → ZS → Prop} (h1 : 0 < P.1.2.1 → ∀ z1, OF o z z1 → CF z1 o P (t.1, t.2.1, t.2.2.1, t.2.2.2.1, sdB t.2.2.2.2) → post (puffB t.2.2.2.2 P.1.2.1 - P.1.2.1) z1) (h0 : ¬ 0 < P.1.2.1 → post 0 z) : V_X3_puff z o post := by
  unfold V_X3_puff
  have c0 := c
  obtain ⟨-, -, -, -, q6, -, -, -, -, -, -, -, q8⟩ := c
  rw [q6]
  refine ⟨fun hg z2 e2 => ?_, h0⟩
  rw [q8] at e2
  have a2 := c0.d (sdB t.2.2.2.2)
  have o2 := (OF.rf o z).I 8 (sdB t.2.2.2.2)
  have e2 : z2 = wI z o 8 (sdB t.2.2.2.2) := e2
  rw [← e2] at a2 o2
  have a20 := a2
  obtain ⟨-, -, -, -, q6', -, -, -, -, -, -, -, q8'⟩ := a2
  rw [q6', q8']
  refine ⟨fun r => ?_, h1 hg z2 o2 a20⟩
  obtain ⟨g, e, e2, -⟩ := nat_of hP.1.1
  rw [e, puff_m] at r
  exact nI_ne0 (by omega) (by have := hP.1.2; omega) r
theorem c_goOn_lp {o : Nat} {P : FP} (hP : PI P) {post : ZS → Prop} {n : Nat} (hn : n < 2 ^ 31) : ∀ (k i : Nat) (z : ZS) (t : FS), k + i = n → CF z o P t → FI t → (∀ z1, OF o z z1 → CF z1 o P (itF P k t) → post z1) → V_X3_goOn_2 o post (k + 1) z (nI n) (nI i) := by
  intro k
  induction k with
  | zero =>
    intro i z t e c f kk
    unfold V_X3_goOn_2
    exact ⟨fun _ => kk z (OF.rf o z) c, fun q => absurd (nI_le (by omega) (by omega)) q⟩
  | succ k ih =>
    intro i z t e c f kk
    unfold V_X3_goOn_2
    have c0 := c
    obtain ⟨-, -, q7, -, q6, -, qe, qn, q2, q3, q4, q5, q8⟩ := c
    rw [q4, q7, q5, qe, qn]
    refine ⟨fun q => absurd q (nI_ge (by omega) hn), fun _ => ⟨fun q => ?_, fun q => ?_⟩⟩
    · refine kk z (OF.rf o z) ?_
      rw [itF_0 (f.zero q)]
      exact c0
    · have h0 : ¬ t.2.2.1 = 0 := fun r => q (by rw [r]; decide)
      have next : ∀ z1, OF o z z1 → CF z1 o P (secF P t) → V_X3_goOn_2 o post (k + 1) z1 (nI n) (nI i + 1) := fun z1 o1 c1 => by
        rw [nI_1]
        exact ih (i + 1) z1 _ (by omega) c1 (sec_FI hP f h0).1 (fun z2 o2 c2 => kk z2 (o1.tr o2) (by rw [itF_s h0]; exact c2))
      generalize V_X3_goOn_2 o post (k + 1) = rr at next ⊢
      clear ih kk
      intro t3 e3
      have e3 : t3 = lay t.2.2.1 := e3
      subst e3
      have vl : vp_in (lay t.2.2.1) 10 := by
        obtain ⟨l, hl, el, -⟩ := lay_in f.h
        rw [el]
        exact vin hl (by decide)
      have bg := gst_bd hP (sd := t.2.2.2.2) f.h
      have bn := nw_bd hP f.h
      refine ⟨fun hs => ⟨vl, fun l0 => ?_, fun l0 => ?_⟩, fun hs => ⟨vl, vl, ?_⟩⟩
      · have eg : gst P t.2.2.1 t.2.2.2.2 = (P.1.2.2.1 (lay t.2.2.1).toNatClampNeg + 0, t.2.2.2.2) := by rw [Int32.add_zero]; exact if_neg (fun r => l0 r.1)
        rw [eg] at bg
        rw [sec_open hs eg] at next
        exact c_90 c0 vl bg bn next
      · have ez : P.1.2.2.1 (lay t.2.2.1).toNatClampNeg = P.1.2.2.1 0 := by rw [l0]; rfl
        refine c_puff hP c0 (fun hg z1 o1 c1 => ?_) (fun hg => ?_)
        · have eg : gst P t.2.2.1 t.2.2.2.2 = (P.1.2.2.1 (lay t.2.2.1).toNatClampNeg + (puffB t.2.2.2.2 P.1.2.1 - P.1.2.1), sdB t.2.2.2.2) := by rw [ez]; exact if_pos ⟨l0, hg⟩
          rw [eg] at bg
          rw [sec_open hs eg] at next
          exact c_90v c1 vl bg bn (fun z2 o2 c2 => next z2 (o1.tr o2) c2)
        · have eg : gst P t.2.2.1 t.2.2.2.2 = (P.1.2.2.1 (lay t.2.2.1).toNatClampNeg + 0, t.2.2.2.2) := by rw [Int32.add_zero]; exact if_neg (fun r => hg r.2)
          rw [eg] at bg
          rw [sec_open hs eg] at next
          exact c_90 c0 vl bg bn next
      · refine c_plunge c0 (fun z6 o6 c6 => c_after c6 (fun z7 o7 c7 => next z7 (o6.tr o7) ?_))
        unfold secF
        rw [if_neg hs]
        exact c7
theorem c_goOn {o : Nat} {P : FP} (hP : PI P) {post : ZS → Prop} {n : Nat} (hn : n < 2 ^ 31) {z : ZS} {t : FS} (c : CF z o P t) (f : FI t) (kk : ∀ z1, OF o z z1 → CF z1 o P (itF P n t) → post z1) : V_X3_goOn z o (nI n) post := ⟨n + 1, c_goOn_lp hP hn n 0 z t (by omega) c f kk⟩
theorem c_land {o : Nat} {P : FP} (hP : PI P) {post : ZS → Prop} {z : ZS} {t : FS} (c : CF z o P t) (f : FI t) (kk : ∀ z1, OF o z z1 → CF z1 o P (fin P t) → post z1) : V_X3_goOn z o (400 : Int32) post := c_goOn (n := 400) hP (by decide) c f (fun z1 o1 c1 => kk z1 o1 (by rw [← itF_fin hP (n := 400) (by decide) f]; exact c1))
