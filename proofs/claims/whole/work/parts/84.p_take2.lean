/-! PURE, part 35: air: what a STATEMENT does to the draft -/
def WQ (z : ZS) : Prop := ∀ o k a, zQ z o k = some a → a ∈ zP z
/-- only the draft has changed; Fallers may have been made -/
def DF (z z1 : ZS) : Prop := (∀ a k, a ≠ 2 → zI z1 a k = zI z a k) ∧ (∀ a k, a ≠ 2 → zR z1 a k = zR z a k) ∧ zG z1 = zG z ∧ (∀ a, a ≠ 2 → zQ z1 a = zQ z a) ∧ (∀ a, a ∈ zP z → a ∈ zP z1 ∧ zK z1 a = zK z a ∧ zF z1 a = zF z a)
theorem DF.rf (z : ZS) : DF z z := ⟨fun _ _ _ => rfl, fun _ _ _ => rfl, rfl, fun _ _ => rfl, fun _ h => ⟨h, rfl, rfl⟩⟩
theorem DF.tr {z z1 z2 : ZS} (h : DF z z1) (g : DF z1 z2) : DF z z2 := ⟨fun a k q => (g.1 a k q).trans (h.1 a k q), fun a k q => (g.2.1 a k q).trans (h.2.1 a k q), g.2.2.1.trans h.2.2.1, fun a q => (g.2.2.2.1 a q).trans (h.2.2.2.1 a q), fun a q => ⟨(g.2.2.2.2 a (h.2.2.2.2 a q).1).1, (g.2.2.2.2 a (h.2.2.2.2 a q).1).2.1.trans (h.2.2.2.2 a q).2.1, (g.2.2.2.2 a (h.2.2.2.2 a q).1).2.2.trans (h.2.2.2.2 a q).2.2⟩⟩
theorem DF.I {z z1 : ZS} (h : DF z z1) (k : Nat) (v : Int32) : DF z (wI z1 2 k v) := h.tr ⟨fun a b ha => if_neg (fun q => ha q.1), fun _ _ _ => rfl, rfl, fun _ _ => rfl, fun _ h => ⟨h, rfl, rfl⟩⟩
theorem DF.R {z z1 : ZS} (h : DF z z1) (k i : Nat) (v : Int32) : DF z (wR z1 2 k i v) := h.tr ⟨fun _ _ _ => rfl, fun a b ha => if_neg (fun q => ha q.1), rfl, fun _ _ => rfl, fun _ h => ⟨h, rfl, rfl⟩⟩
theorem S9.df {z z1 : ZS} (h : S9 z z1) : DF z z1 := ⟨fun a k _ => by rw [h.1], fun a k q => h.2.1 a k (fun r => q r.1), h.2.2.1, fun a _ => by rw [h.2.2.2.1], fun a q => ⟨by rw [h.2.2.2.2.1]; exact q, by rw [h.2.2.2.2.2.1], by rw [h.2.2.2.2.2.2]⟩⟩
theorem S9.wq {z z1 : ZS} (h : S9 z z1) (w : WQ z) : WQ z1 := fun o k a q => by rw [h.2.2.2.1] at q; rw [h.2.2.2.2.1]; exact w o k a q
theorem RA.s9 {z z1 : ZS} (h : S9 z z1) {m : Nat → Int32} (g : RA z 2 m) : RA z1 2 m := by
  refine RA.bc (z := z) (z1 := z1) (o := 2) (p := 2) (fun k _ => by rw [h.1]) (fun l _ => ⟨by rw [h.2.1 2 0 (by decide)], by rw [h.2.1 2 1 (by decide)]⟩) (fun l _ => by rw [h.2.1 2 7 (by decide)]) (fun l _ => by rw [h.2.2.2.1]) h.2.2.2.2.1 h.2.2.2.2.2.1 h.2.2.2.2.2.2 (fun k _ => rfl) g
theorem RW.df {z z1 : ZS} (h : DF z z1) {d n : Nat} (g : RW z d n) : RW z1 d n := by
  have hI : ∀ k, zI z1 (6 + d) k = zI z (6 + d) k := fun k => h.1 _ k (by omega)
  have hR : ∀ k, zR z1 (6 + d) k = zR z (6 + d) k := fun k => h.2.1 _ k (by omega)
  have hM : ∀ k, zR z1 14 k = zR z 14 k := fun k => h.2.1 14 k (by decide)
  unfold RW
  rw [h.2.2.1, hI, hI, hI, hR, hM, hM, hM, hM]
  exact g
theorem tcZ_df {z z1 : ZS} (h : DF z z1) (d n : Nat) : tcZ z1 d n = tcZ z d n := by
  funext p
  unfold tcZ eL
  rw [h.2.1 14 6 (by decide)]
theorem ten {t : Int32} (h : -3000 ≤ t.toInt ∧ t.toInt ≤ 3000) : (10 * t).toInt = 10 * t.toInt := by
  rw [Int32.toInt_mul, show (10 : Int32).toInt = 10 by decide, Int.bmod_def]
  split <;> omega
theorem box_lo {t u : Int32} (ht : -3000 ≤ t.toInt ∧ t.toInt ≤ 3000) (hu : -3000 ≤ u.toInt ∧ u.toInt ≤ 3000) : (10 : Int32) * (if u < t then u else t) = lsr (10 * t) (10 * u) := by
  unfold lsr
  by_cases c : u < t
  · rw [if_pos c, if_pos (by rw [Int32.lt_iff_toInt_lt, ten ht, ten hu]; rw [Int32.lt_iff_toInt_lt] at c; omega)]
  · rw [if_neg c, if_neg (fun q => by rw [Int32.lt_iff_toInt_lt, ten ht, ten hu] at q; rw [Int32.lt_iff_toInt_lt] at c; omega)]
theorem box_hi {t u : Int32} (ht : -3000 ≤ t.toInt ∧ t.toInt ≤ 3000) (hu : -3000 ≤ u.toInt ∧ u.toInt ≤ 3000) : (10 : Int32) * (if t < u then u else t) = 10 * t + 10 * u - lsr (10 * t) (10 * u) := by
  rw [← box_lo ht hu]
  by_cases c : u < t
  · rw [if_pos c, if_neg (fun q => by rw [Int32.lt_iff_toInt_lt] at q c; omega), Int32.add_sub_cancel]
  · rw [if_neg c]
    have e : 10 * t + 10 * u - 10 * t = 10 * u := by rw [Int32.add_comm, Int32.add_sub_cancel]
    rw [e]
    by_cases c2 : t < u
    · rw [if_pos c2]
    · rw [if_neg c2]
      have : t = u := by
        apply Int32.toInt_inj.mp
        rw [Int32.lt_iff_toInt_lt] at c c2
        omega
      rw [this]
theorem tk_a {z : ZS} {m : Nat → Int32} {v0 v1 : Int32} (hR : RA z 2 m) (h0 : 0 ≤ v0.toInt ∧ v0.toInt ≤ 900) (h1 : 300 ≤ v1.toInt ∧ v1.toInt ≤ 3000) : RA (wI (wI z 2 3 v0) 2 4 v1) 2 (upd (upd m 1 v0) 2 v1) := by
  obtain ⟨⟨a0, a1, a2, a3, a4⟩, g2, ⟨n, g3, g4, g5⟩, ⟨n2, g6, g7, g8⟩, g9, g10, g11⟩ := hR
  have e : ∀ k, k ≠ 1 → k ≠ 2 → upd (upd m 1 v0) 2 v1 k = m k := fun k h1 h2 => by rw [upd_ne h2, upd_ne h1]
  refine ⟨⟨a0, rfl, rfl, a3, a4⟩, fun l hl => ?_, ⟨n, g3, g4, fun f hf => ?_⟩, ⟨n2, g6, g7, fun b hb k hk => ?_⟩, g9, h0, h1⟩
  · rw [e _ (by omega) (by omega), e _ (by omega) (by omega)]; exact g2 l hl
  · rw [e _ (by omega) (by omega), e _ (by omega) (by omega), e _ (by omega) (by omega)]; exact g5 f hf
  · rw [e _ (by omega) (by omega)]; exact g8 b hb k hk
theorem tk_g {z : ZS} {m : Nat → Int32} {v0 : Int32} (hR : RA z 2 m) (h0 : 0 ≤ v0.toInt ∧ v0.toInt ≤ 30) : RA (wI z 2 2 v0) 2 (upd m 0 v0) := by
  obtain ⟨⟨a0, a1, a2, a3, a4⟩, g2, ⟨n, g3, g4, g5⟩, ⟨n2, g6, g7, g8⟩, g9, g10, g11⟩ := hR
  have e : ∀ k, k ≠ 0 → upd m 0 v0 k = m k := fun k h1 => by rw [upd_ne h1]
  refine ⟨⟨rfl, a1, a2, a3, a4⟩, fun l hl => ?_, ⟨n, g3, g4, fun f hf => ?_⟩, ⟨n2, g6, g7, fun b hb k hk => ?_⟩, h0, g10, g11⟩
  · rw [e _ (by omega), e _ (by omega)]; exact g2 l hl
  · rw [e _ (by omega), e _ (by omega), e _ (by omega)]; exact g5 f hf
  · rw [e _ (by omega)]; exact g8 b hb k hk
theorem tk_l {z : ZS} {m : Nat → Int32} {v1 v2 : Int32} {l0 : Nat} (hl0 : l0 < 10) (hR : RA z 2 m) (h1 : -90 ≤ v1.toInt ∧ v1.toInt ≤ 90) (h2 : -90 ≤ v2.toInt ∧ v2.toInt ≤ 90) : RA (wR (wR z 2 0 l0 v1) 2 1 l0 v2) 2 (upd (upd m (5 + 2 * l0) v1) (6 + 2 * l0) v2) := by
  obtain ⟨⟨a0, a1, a2, a3, a4⟩, g2, ⟨n, g3, g4, g5⟩, ⟨n2, g6, g7, g8⟩, g9, g10, g11⟩ := hR
  have e : ∀ k, k ≠ 5 + 2 * l0 → k ≠ 6 + 2 * l0 → upd (upd m (5 + 2 * l0) v1) (6 + 2 * l0) v2 k = m k := fun k h1 h2 => by rw [upd_ne h2, upd_ne h1]
  refine ⟨⟨?_, ?_, ?_, ?_, ?_⟩, fun l hl => ?_, ⟨n, g3, g4, fun f hf => ?_⟩, ⟨n2, g6, g7, fun b hb k hk => ?_⟩, ?_, ?_, ?_⟩
  · rw [e _ (by omega) (by omega)]; exact a0
  · rw [e _ (by omega) (by omega)]; exact a1
  · rw [e _ (by omega) (by omega)]; exact a2
  · rw [e _ (by omega) (by omega)]; exact a3
  · rw [e _ (by omega) (by omega)]; exact a4
  · have r0 : zR (wR (wR z 2 0 l0 v1) 2 1 l0 v2) 2 0 l = if l = l0 then v1 else zR z 2 0 l := zR_wR z 2 0 l0 v1 l
    have r1 : zR (wR (wR z 2 0 l0 v1) 2 1 l0 v2) 2 1 l = if l = l0 then v2 else zR z 2 1 l := by rw [zR_wR]; rfl
    rw [r0, r1]
    by_cases c : l = l0
    · rw [if_pos c, if_pos c, c, upd_ne (by omega), upd_at, upd_at]
      exact ⟨rfl, rfl, h1, h2⟩
    · rw [if_neg c, if_neg c, e _ (by omega) (by omega), e _ (by omega) (by omega)]
      exact g2 l hl
  · rw [e _ (by omega) (by omega), e _ (by omega) (by omega), e _ (by omega) (by omega)]; exact g5 f hf
  · rw [e _ (by omega) (by omega)]; exact g8 b hb k hk
  · rw [e _ (by omega) (by omega)]; exact g9
  · rw [e _ (by omega) (by omega)]; exact g10
  · rw [e _ (by omega) (by omega)]; exact g11
theorem tk_f {z : ZS} {m : Nat → Int32} {kn n0 q : Nat} {v1 v2 : Int32} (hk : kn < 8) (hq : q ∉ zP z) (hR : RA z 2 m) (e0 : zI z 2 6 = nI n0) (hn0 : n0 < 8) (h1 : 0 ≤ v1.toInt ∧ v1.toInt ≤ 9) (h2 : 0 ≤ v2.toInt ∧ v2.toInt ≤ 20) : RA (wI (wQ (wP z q kn (fdK kn (nI n0) v1 v2)) 2 n0 (some q)) 2 6 (nI n0 + 1)) 2 (upd (upd (upd (upd m (25 + 3 * n0) (nI kn)) (26 + 3 * n0) v1) (27 + 3 * n0) v2) 3 (m 3 + 1)) := by
  obtain ⟨⟨a0, a1, a2, a3, a4⟩, g2, ⟨n, g3, g4, g5⟩, ⟨n2, g6, g7, g8⟩, g9, g10, g11⟩ := hR
  have en : n = n0 := (nI_eq (by omega) (by omega)).mp (g4.symm.trans e0)
  subst en
  have e : ∀ k, k ≠ 25 + 3 * n → k ≠ 26 + 3 * n → k ≠ 27 + 3 * n → k ≠ 3 → upd (upd (upd (upd m (25 + 3 * n) (nI kn)) (26 + 3 * n) v1) (27 + 3 * n) v2) 3 (m 3 + 1) k = m k := fun k h1 h2 h3 h4 => by rw [upd_ne h4, upd_ne h3, upd_ne h2, upd_ne h1]
  have z6 : zI (wI (wQ (wP z q kn (fdK kn (nI n) v1 v2)) 2 n (some q)) 2 6 (nI n + 1)) 2 6 = nI n + 1 := rfl
  have FAn : FA (wP z q kn (fdK kn (nI n) v1 v2)) q (nI kn) v1 v2 := FA_new hk h1 h2
  refine ⟨⟨?_, ?_, ?_, ?_, ?_⟩, fun l hl => ?_, ⟨n + 1, by omega, by rw [z6, nI_1], fun f hf => ?_⟩, ⟨n2, g6, g7, fun b hb k hk => ?_⟩, ?_, ?_, ?_⟩
  · rw [e _ (by omega) (by omega) (by omega) (by omega)]; exact a0
  · rw [e _ (by omega) (by omega) (by omega) (by omega)]; exact a1
  · rw [e _ (by omega) (by omega) (by omega) (by omega)]; exact a2
  · rw [upd_at, z6, a3, e0]
  · rw [e _ (by omega) (by omega) (by omega) (by omega)]; exact a4
  · rw [e _ (by omega) (by omega) (by omega) (by omega), e _ (by omega) (by omega) (by omega) (by omega)]; exact g2 l hl
  · have q2 : zQ (wI (wQ (wP z q kn (fdK kn (nI n) v1 v2)) 2 n (some q)) 2 6 (nI n + 1)) 2 f = va_up (zQ z 2) n (some q) f := rfl
    rw [q2]
    by_cases c : f = n
    · subst c
      refine ⟨q, va_up_self _ _ _, ?_, ?_⟩
      · show zF (wP z q kn (fdK kn (nI f) v1 v2)) q 0 = nI f
        rw [zF_wP]
        exact (fd_same hk (nI f) v1 v2).1
      · rw [upd_ne (by omega), upd_ne (by omega), upd_ne (by omega), upd_at, upd_ne (by omega), upd_ne (by omega), upd_at, upd_ne (by omega), upd_at]
        exact FAn.eqv (z1 := wI (wQ (wP z q kn (fdK kn (nI f) v1 v2)) 2 f (some q)) 2 6 (nI f + 1)) rfl rfl rfl
    · obtain ⟨a, b1, b2, b3⟩ := g5 f (by omega)
      rw [e _ (by omega) (by omega) (by omega) (by omega), e _ (by omega) (by omega) (by omega) (by omega), e _ (by omega) (by omega) (by omega) (by omega)]
      have ha : a ≠ q := fun r => hq (r ▸ b3.1)
      have kp : Kp z (wP z q kn (fdK kn (nI n) v1 v2)) := (Kp.rf z).P q kn _ hq
      refine ⟨a, by rw [va_up_ne _ _ c]; exact b1, ?_, (b3.kp kp).eqv (z1 := wI (wQ (wP z q kn (fdK kn (nI n) v1 v2)) 2 n (some q)) 2 6 (nI n + 1)) rfl rfl rfl⟩
      show zF (wP z q kn (fdK kn (nI n) v1 v2)) a 0 = nI f
      rw [(kp.2.2.2.2 a b3.1).2.2]
      exact b2
  · rw [e _ (by omega) (by omega) (by omega) (by omega)]; exact g8 b hb k hk
  · rw [e _ (by omega) (by omega) (by omega) (by omega)]; exact g9
  · rw [e _ (by omega) (by omega) (by omega) (by omega)]; exact g10
  · rw [e _ (by omega) (by omega) (by omega) (by omega)]; exact g11
theorem tk_b {z : ZS} {m : Nat → Int32} {n0 : Nat} {w0 w1 w2 w3 : Int32} (hR : RA z 2 m) (e0 : zI z 2 8 = nI n0) (hn0 : n0 < 6) : RA (wI (wR (wR (wR (wR z 2 7 (4 * n0) w0) 2 7 (4 * n0 + 1) w1) 2 7 (4 * n0 + 2) w2) 2 7 (4 * n0 + 3) w3) 2 8 (nI n0 + 1)) 2 (upd (upd (upd (upd (upd m (49 + 4 * n0) w0) (51 + 4 * n0) w2) (50 + 4 * n0) w1) (52 + 4 * n0) w3) 4 (m 4 + 1)) := by
  obtain ⟨⟨a0, a1, a2, a3, a4⟩, g2, ⟨n, g3, g4, g5⟩, ⟨n2, g6, g7, g8⟩, g9, g10, g11⟩ := hR
  have en : n2 = n0 := (nI_eq (by omega) (by omega)).mp (g7.symm.trans e0)
  subst en
  have e : ∀ k, ¬ (49 + 4 * n2 ≤ k ∧ k ≤ 52 + 4 * n2) → k ≠ 4 → upd (upd (upd (upd (upd m (49 + 4 * n2) w0) (51 + 4 * n2) w2) (50 + 4 * n2) w1) (52 + 4 * n2) w3) 4 (m 4 + 1) k = m k := fun k h1 h2 => by rw [upd_ne h2, upd_ne (by omega), upd_ne (by omega), upd_ne (by omega), upd_ne (by omega)]
  have z8 : zI (wI (wR (wR (wR (wR z 2 7 (4 * n2) w0) 2 7 (4 * n2 + 1) w1) 2 7 (4 * n2 + 2) w2) 2 7 (4 * n2 + 3) w3) 2 8 (nI n2 + 1)) 2 8 = nI n2 + 1 := rfl
  have r7 : ∀ j, zR (wI (wR (wR (wR (wR z 2 7 (4 * n2) w0) 2 7 (4 * n2 + 1) w1) 2 7 (4 * n2 + 2) w2) 2 7 (4 * n2 + 3) w3) 2 8 (nI n2 + 1)) 2 7 j = if j = 4 * n2 + 3 then w3 else if j = 4 * n2 + 2 then w2 else if j = 4 * n2 + 1 then w1 else if j = 4 * n2 then w0 else zR z 2 7 j := fun j => by
    have s : zR (wI (wR (wR (wR (wR z 2 7 (4 * n2) w0) 2 7 (4 * n2 + 1) w1) 2 7 (4 * n2 + 2) w2) 2 7 (4 * n2 + 3) w3) 2 8 (nI n2 + 1)) 2 7 j = zR (wR (wR (wR (wR z 2 7 (4 * n2) w0) 2 7 (4 * n2 + 1) w1) 2 7 (4 * n2 + 2) w2) 2 7 (4 * n2 + 3) w3) 2 7 j := rfl
    rw [s, zR_wR, zR_wR, zR_wR, zR_wR]
  refine ⟨⟨?_, ?_, ?_, ?_, ?_⟩, fun l hl => ?_, ⟨n, g3, g4, fun f hf => ?_⟩, ⟨n2 + 1, by omega, by rw [z8, nI_1], fun b hb k hk => ?_⟩, ?_, ?_, ?_⟩
  · rw [e _ (by omega) (by omega)]; exact a0
  · rw [e _ (by omega) (by omega)]; exact a1
  · rw [e _ (by omega) (by omega)]; exact a2
  · rw [e _ (by omega) (by omega)]; exact a3
  · rw [upd_at, z8, a4, e0]
  · rw [e _ (by omega) (by omega), e _ (by omega) (by omega)]; exact g2 l hl
  · rw [e _ (by omega) (by omega), e _ (by omega) (by omega), e _ (by omega) (by omega)]; exact g5 f hf
  · rw [r7]
    by_cases c : b = n2
    · subst c
      rcases (show k = 0 ∨ k = 1 ∨ k = 2 ∨ k = 3 by omega) with rfl | rfl | rfl | rfl
      · rw [if_neg (by omega), if_neg (by omega), if_neg (by omega), if_pos (Nat.add_zero _), upd_ne (by omega), upd_ne (by omega), upd_ne (by omega), upd_ne (by omega)]; exact upd_at m (49 + 4 * b) w0
      · rw [if_neg (by omega), if_neg (by omega), if_pos rfl, upd_ne (by omega), upd_ne (by omega), show 49 + 4 * b + 1 = 50 + 4 * b by omega, upd_at]
      · rw [if_neg (by omega), if_pos rfl, upd_ne (by omega), upd_ne (by omega), upd_ne (by omega), show 49 + 4 * b + 2 = 51 + 4 * b by omega, upd_at]
      · rw [if_pos rfl, upd_ne (by omega), show 49 + 4 * b + 3 = 52 + 4 * b by omega, upd_at]
    · rw [if_neg (by omega), if_neg (by omega), if_neg (by omega), if_neg (by omega), e _ (by omega) (by omega)]
      exact g8 b (by omega) k hk
  · rw [e _ (by omega) (by omega)]; exact g9
  · rw [e _ (by omega) (by omega)]; exact g10
  · rw [e _ (by omega) (by omega)]; exact g11
theorem c_take {z : ZS} {c : Int32} {tl m m1 : Nat → Int32} (hR : RA z 2 m) (hq : WQ z) (hl : isLt c) (ht : tlOK c tl) (h9 : ∀ j, j < nN (fL c) → zR z 2 9 j = tl j) (e : cmF c tl m = some m1) {post : ZS → Prop} (kk : ∀ z1, DF z z1 → WQ z1 → RA z1 2 m1 → post z1) : V_X0_takeUp z 2 c post := by
  unfold V_X0_takeUp
  unfold cmF at e
  have a3 : m 3 = zI z 2 6 := hR.1.2.2.2.1
  have a4 : m 4 = zI z 2 8 := hR.1.2.2.2.2
  obtain ⟨n3, hn3, e3, -⟩ := hR.2.2.1
  obtain ⟨n4, hn4, e4, -⟩ := hR.2.2.2.1
  refine ⟨fun q => ?_, fun q1 => ⟨fun q => ?_, fun q2 => ⟨fun q => ?_, fun q3 => ⟨fun q => ?_, fun q4 => ?_⟩⟩⟩⟩
  · subst q
    rw [if_pos rfl] at e
    split at e
    · rename_i h
      cases e
      intro z18 e18 z19 e19
      have t1 : zR z18 2 9 1 = tl 1 := by rw [e18]; exact h9 1 (by decide)
      rw [h9 0 (by decide)] at e18
      rw [t1, e18] at e19
      subst e19
      exact kk _ (((DF.rf z).I 3 _).I 4 _) hq (tk_a hR h.1 h.2)
    · cases e
  · subst q
    rw [if_neg (by decide), if_pos rfl] at e
    split at e
    · rename_i h
      cases e
      have hb := ht.2 rfl
      obtain ⟨kn, ek, ek2, -⟩ := nat_of hb.1.1
      have hn8 : n3 < 8 := by
        apply Nat.lt_of_not_le
        intro r
        have : n3 = 8 := by omega
        exact h.2.2 (by rw [a3, e3, this]; rfl)
      rw [h9 0 (by decide), h9 1 (by decide), h9 2 (by decide), ek, e3, nI_clamp (show n3 < 2 ^ 31 by omega)]
      refine c_ofKind (by omega) (fun a ha => ⟨vin hn8 (by decide), fun v hv => ?_, fun z16 e16 z17 e17 => ?_⟩)
      · cases hv; exact List.mem_append_right _ (List.mem_singleton.mpr rfl)
      · have i6 : zI z16 2 6 = nI n3 := by rw [e16]; exact e3
        rw [i6, e16] at e17
        subst e17
        have em : (m 3).toNatClampNeg = n3 := by rw [a3, e3, nI_clamp (by omega)]
        have hr := tk_f (v1 := tl 1) (v2 := tl 2) (show kn < 8 by omega) ha hR e3 hn8 hb.2.1 ⟨hb.2.2, h.2.1⟩
        rw [em, ek] at kk
        refine kk _ ?_ ?_ hr
        · have kp : Kp z (wP z a kn (fdK kn (nI n3) (tl 1) (tl 2))) := (Kp.rf z).P a kn _ ha
          exact ⟨fun b k hb => if_neg (fun r => hb r.1), fun _ _ _ => rfl, rfl, fun b hb => if_neg hb, kp.2.2.2.2⟩
        · intro o k b hb
          have hP : zP (wI (wQ (wP z a kn (fdK kn (nI n3) (tl 1) (tl 2))) 2 n3 (some a)) 2 6 (nI n3 + 1)) = zP z ++ [a] := rfl
          rw [hP]
          have hz : zQ (wI (wQ (wP z a kn (fdK kn (nI n3) (tl 1) (tl 2))) 2 n3 (some a)) 2 6 (nI n3 + 1)) o = if o = 2 then va_up (zQ z 2) n3 (some a) else zQ z o := rfl
          rw [hz] at hb
          by_cases c : o = 2
          · rw [if_pos c] at hb
            by_cases c2 : k = n3
            · rw [c2, va_up_self] at hb
              cases hb
              exact List.mem_append_right _ (List.mem_singleton.mpr rfl)
            · rw [va_up_ne _ _ c2] at hb
              exact List.mem_append_left _ (hq _ _ _ hb)
          · rw [if_neg c] at hb
            exact List.mem_append_left _ (hq _ _ _ hb)
    · cases e
  · subst q
    rw [if_neg (by decide), if_neg (by decide), if_pos rfl] at e
    split at e
    · rename_i h
      cases e
      intro z13 e13
      rw [h9 0 (by decide)] at e13
      subst e13
      exact kk _ ((DF.rf z).I 2 _) hq (tk_g hR h)
    · cases e
  · subst q
    rw [if_neg (by decide), if_neg (by decide), if_neg (by decide), if_pos rfl] at e
    split at e
    · rename_i h
      cases e
      have hb := ht.1 rfl
      obtain ⟨l0, el, el2, -⟩ := nat_of hb.1
      have hl0 : l0 < 10 := by omega
      rw [h9 0 (by decide), h9 1 (by decide), el, nI_clamp (show l0 < 2 ^ 31 by omega)]
      refine ⟨vin hl0 (by decide), fun z11 e11 => ?_⟩
      have t0 : zR z11 2 9 0 = nI l0 := by rw [e11, ← el]; exact h9 0 (by decide)
      have t2 : zR z11 2 9 2 = tl 2 := by rw [e11]; exact h9 2 (by decide)
      rw [t0, t2, nI_clamp (show l0 < 2 ^ 31 by omega)]
      refine ⟨vin hl0 (by decide), fun z12 e12 => ?_⟩
      rw [e11] at e12
      subst e12
      rw [el, nI_clamp (show l0 < 2 ^ 31 by omega)] at kk
      exact kk _ (((DF.rf z).R 0 _ _).R 1 _ _) hq (tk_l hl0 hR h.1 h.2)
    · cases e
  · have q : c = 98 := hl.elim (fun h => absurd h q1) (fun h => h.elim id (fun h => h.elim (fun h => absurd h q2) (fun h => h.elim (fun h => absurd h q3) (fun h => absurd h q4))))
    subst q
    rw [if_neg (by decide), if_neg (by decide), if_neg (by decide), if_neg (by decide)] at e
    split at e
    · rename_i h
      cases e
      have hn6 : n4 < 6 := by
        apply Nat.lt_of_not_le
        intro r
        exact h.1 (by rw [a4, e4]; exact nI_le (a := 6) r (by omega))
      have i0 : (4 : Int32) * nI n4 = nI (4 * n4) := ix_40 n4
      have i1 : (4 : Int32) * nI n4 + (1 : Int32) = nI (4 * n4 + 1) := ix_4 n4 1
      have i2 : (4 : Int32) * nI n4 + (2 : Int32) = nI (4 * n4 + 2) := ix_4 n4 2
      have i3 : (4 : Int32) * nI n4 + (3 : Int32) = nI (4 * n4 + 3) := ix_4 n4 3
      have s0 := h9 0 (by decide)
      have s1 := h9 1 (by decide)
      have s2 := h9 2 (by decide)
      have s3 := h9 3 (by decide)
      rw [e4, i0, nI_clamp (show 4 * n4 < 2 ^ 31 by omega), s0, s2, box_lo h.2.1 h.2.2.2.1]
      refine ⟨vin (by omega) (by decide), fun z1 e1 => ?_⟩
      have b8 : zI z1 2 8 = nI n4 := by rw [e1]; exact e4
      have u1 : zR z1 2 9 1 = tl 1 := by rw [e1]; exact s1
      have u3 : zR z1 2 9 3 = tl 3 := by rw [e1]; exact s3
      rw [b8, i1, nI_clamp (show 4 * n4 + 1 < 2 ^ 31 by omega), u1, u3, box_lo h.2.2.1 h.2.2.2.2]
      refine ⟨vin (by omega) (by decide), fun z2 e2 => ?_⟩
      have c8 : zI z2 2 8 = nI n4 := by rw [e2]; exact b8
      have v0 : zR z2 2 9 0 = tl 0 := by rw [e2, e1]; exact s0
      have v2 : zR z2 2 9 2 = tl 2 := by rw [e2, e1]; exact s2
      rw [c8, i2, nI_clamp (show 4 * n4 + 2 < 2 ^ 31 by omega), v0, v2, box_hi h.2.1 h.2.2.2.1]
      refine ⟨vin (by omega) (by decide), fun z3 ez3 => ?_⟩
      have d8 : zI z3 2 8 = nI n4 := by rw [ez3]; exact c8
      have x1 : zR z3 2 9 1 = tl 1 := by rw [ez3, e2, e1]; exact s1
      have x3 : zR z3 2 9 3 = tl 3 := by rw [ez3, e2, e1]; exact s3
      rw [d8, i3, nI_clamp (show 4 * n4 + 3 < 2 ^ 31 by omega), x1, x3, box_hi h.2.2.1 h.2.2.2.2]
      refine ⟨vin (by omega) (by decide), fun z4 ez4 z5 ez5 => ?_⟩
      have f8 : zI z4 2 8 = nI n4 := by rw [ez4]; exact d8
      rw [f8, ez4, ez3, e2, e1] at ez5
      subst ez5
      have em : (m 4).toNatClampNeg = n4 := by rw [a4, e4, nI_clamp (by omega)]
      rw [em] at kk
      exact kk _ (((((DF.rf z).R 7 _ _).R 7 _ _).R 7 _ _).R 7 _ _ |>.I 8 _) hq (tk_b hR e4 hn6)
    · cases e
