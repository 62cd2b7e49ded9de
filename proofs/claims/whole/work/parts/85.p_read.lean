/-! PURE, part 36: air: a whole text read; the class -/
abbrev ST1 : Type := Nat × (Nat → Int32)
def prs (tc : Nat → Int32) (n : Nat) : Nat → Nat → Nat × Option (List ST1)
  | 0, p => (p, none)
  | (f + 1), p => match stS tc p with
    | (q, none) => (q, none)
    | (q, some tl) => if q < n then (match prs tc n f q with
      | (q2, none) => (q2, none)
      | (q2, some L) => (q2, some ((p, tl) :: L))) else (q, some [(p, tl)])
theorem prs_0 {tc : Nat → Int32} {n f p q : Nat} (h : stS tc p = (q, none)) : prs tc n (f + 1) p = (q, none) := by
  unfold prs
  rw [h]
theorem prs_e {tc : Nat → Int32} {n f p q : Nat} {tl : Nat → Int32} (h : stS tc p = (q, some tl)) (hq : ¬ q < n) : prs tc n (f + 1) p = (q, some [(p, tl)]) := by
  unfold prs
  rw [h]
  exact if_neg hq
theorem prs_n {tc : Nat → Int32} {n f p q q2 : Nat} {tl : Nat → Int32} (h : stS tc p = (q, some tl)) (hq : q < n) (h2 : prs tc n f q = (q2, none)) : prs tc n (f + 1) p = (q2, none) := by
  unfold prs
  rw [h]
  show (if q < n then _ else _) = _
  rw [if_pos hq, h2]
theorem prs_s {tc : Nat → Int32} {n f p q q2 : Nat} {tl : Nat → Int32} {L : List ST1} (h : stS tc p = (q, some tl)) (hq : q < n) (h2 : prs tc n f q = (q2, some L)) : prs tc n (f + 1) p = (q2, some ((p, tl) :: L)) := by
  unfold prs
  rw [h]
  show (if q < n then _ else _) = _
  rw [if_pos hq, h2]
def apA (tc : Nat → Int32) : List ST1 → (Nat → Int32) → Sum Nat (Nat → Int32)
  | [], m => .inr m
  | (s :: L), m => match cmF (tc s.1) s.2 m with
    | none => .inl s.1
    | some m1 => apA tc L m1
theorem apA_0 {tc : Nat → Int32} {s : ST1} {L : List ST1} {m : Nat → Int32} (h : cmF (tc s.1) s.2 m = none) : apA tc (s :: L) m = .inl s.1 := by
  unfold apA
  rw [h]
theorem apA_1 {tc : Nat → Int32} {s : ST1} {L : List ST1} {m m1 : Nat → Int32} (h : cmF (tc s.1) s.2 m = some m1) : apA tc (s :: L) m = apA tc L m1 := by
  have e : apA tc (s :: L) m = match cmF (tc s.1) s.2 m with
    | none => .inl s.1
    | some m1 => apA tc L m1 := rfl
  rw [e, h]
theorem inv_all : ∀ q, q < 101 → ¬ (0 : Int32) ≤ nI q ^^^ (-1 : Int32) ∧ (nI q ^^^ (-1 : Int32)) ^^^ (-1 : Int32) = nI q := by decide +kernel
theorem st_lt {tc : Nat → Int32} {p q : Nat} {tl : Nat → Int32} (h : stS tc p = (q, some tl)) : isLt (tc p) := by
  unfold stS at h
  split at h
  · rename_i q; exact q
  · exact absurd (congrArg Prod.snd h) (fun h => by cases h)
theorem st_ok {tc : Nat → Int32} {p q n : Nat} {tl : Nat → Int32} (hE : ∀ q, n ≤ q → ¬ isDg (tc q)) (h : stS tc p = (q, some tl)) : tlOK (tc p) tl := ⟨fun c => st_l c h, fun c => st_f hE c h⟩
theorem nI_lt100 {s : Nat} (h : s < 100) : ¬ (100 : Int32) ≤ nI s := fun q => by
  rw [Int32.le_iff_toInt_le, nI_toInt (by omega), show (100 : Int32).toInt = 100 by decide] at q
  omega
/-- the step behind a STATEMENT: the end, or the next -/
theorem c_nextV {z : ZS} {d n k s q : Nat} {wv : Int32} (w : RW z d n) (hk : k + s = 100) (hs : 1 ≤ s) (hq : q ≤ n) (hsq : s ≤ q) {post : Int32 → ZS → Prop} (he : ¬ q < n → V_X0_readFrom_93 2 (6 + d) post z (nI s) wv) (hn : q < n → V_X0_readFrom_7 2 (6 + d) post (k + 1) z (nI s) (nI q) wv) : V_X0_readFrom_7 2 (6 + d) post (k + 1) z (nI s) (nI q) wv := by
  by_cases c : q < n
  · exact hn c
  · have h9 := he c
    have hn1 := w.2.2.2.2.2.1
    unfold V_X0_readFrom_7
    rw [w.2.2.2.2.2.2.1]
    exact ⟨fun _ => h9, fun _ => ⟨fun r => absurd r (nI_ne0 (by omega) (by omega)), fun _ => ⟨fun _ => h9, fun r => absurd (nI_le (by omega) (by omega)) r⟩⟩⟩
theorem c_active {z : ZS} {d n k s p : Nat} {wv : Int32} (w : RW z d n) (hs : s < 100) (hp : p ≤ n) (ha : s = 0 ∨ p < n) {post : Int32 → ZS → Prop} (h : V_X0_readFrom_25 2 (6 + d) post (V_X0_readFrom_7 2 (6 + d) post k) z (nI s) (nI p) wv) : V_X0_readFrom_7 2 (6 + d) post (k + 1) z (nI s) (nI p) wv := by
  have hn1 := w.2.2.2.2.2.1
  unfold V_X0_readFrom_7
  rw [w.2.2.2.2.2.2.1]
  refine ⟨fun q => absurd q (nI_lt100 hs), fun _ => ⟨fun _ => h, fun q => ⟨fun r => ?_, fun _ => h⟩⟩⟩
  have h0 : s ≠ 0 := fun e => q (by rw [e]; rfl)
  have := (nI_leI (by omega) (by omega)).mp r
  omega
theorem c_readW {z0 : ZS} {d n w' : Nat} (hd : d < 8) (w0 : RW z0 d n) (hw : w' < 1000) {post : Int32 → ZS → Prop} : ∀ (fu k s p : Nat) (z : ZS), n + 1 ≤ p + fu → k + s = 100 → 1 ≤ s → s ≤ p → p < n → DF z0 z → WQ z → (∀ q, prs (tcZ z0 d n) n fu p = (q, none) → ∀ z1, DF z0 z1 → WQ z1 → post (-1000 - nI q) z1) → (∀ q L, prs (tcZ z0 d n) n fu p = (q, some L) → ∀ z1, DF z0 z1 → WQ z1 → post (-2000 - nI w') z1) → V_X0_readFrom_7 2 (6 + d) post (k + 1) z (nI s) (nI p) (nI w') := by
  have hn := w0.2.2.2.2.2.1
  intro fu
  induction fu with
  | zero => intro k s p z h1; omega
  | succ fu ih =>
    intro k s p z h1 hk hs hsp hp df wq K0 K1
    have wz := w0.df df
    have etc : tcZ z d n = tcZ z0 d n := tcZ_df df d n
    refine c_active wz (by omega) (by omega) (Or.inr hp) ?_
    unfold V_X0_readFrom_25
    refine c_scan hd wz (by omega) (fun q e hq z1 s1 => ?_) (fun q tl e hpq hq z1 s1 h9 => ?_)
    · rw [etc] at e
      obtain ⟨i1, i2⟩ := inv_all q (by omega)
      refine ⟨fun r => absurd r i1, fun _ => ?_⟩
      rw [i2]
      exact K0 q (prs_0 e) z1 (df.tr s1.df) (s1.wq wq)
    · rw [etc] at e
      have w0' : (0 : Int32) ≤ nI w' := nI_pos' (by omega)
      refine ⟨fun _ => ⟨fun _ => ?_, fun r => absurd w0' r⟩, fun r => absurd (nI_pos' (by omega)) r⟩
      unfold V_X0_readFrom_76 V_X0_readFrom_84
      refine ⟨fun _ t9 e9 => ?_, fun r => absurd w0' r⟩
      obtain ⟨k', rfl⟩ : ∃ k', k = k' + 1 := ⟨k - 1, by omega⟩
      have df1 := df.tr s1.df
      rw [e9, nI_1]
      refine c_nextV (w0.df df1) (by omega) (by omega) hq (by omega) (fun c => ?_) (fun c => ?_)
      · unfold V_X0_readFrom_93
        exact ⟨fun _ => K1 q _ (prs_e e c) z1 df1 (s1.wq wq), fun r => absurd w0' r⟩
      · exact ih k' (s + 1) q z1 (by omega) (by omega) (by omega) (by omega) c df1 (s1.wq wq) (fun q2 e2 => K0 q2 (prs_n e c e2)) (fun q2 L e2 => K1 q2 _ (prs_s e c e2))
theorem c_readN {z0 : ZS} {d n : Nat} (hd : d < 8) (w0 : RW z0 d n) {post : Int32 → ZS → Prop} : ∀ (fu k s p : Nat) (z : ZS) (m : Nat → Int32), n + 1 ≤ p + fu → k + s = 100 → s ≤ p → p ≤ n → (s = 0 ∨ p < n) → DF z0 z → WQ z → RA z 2 m → (∀ q, prs (tcZ z0 d n) n fu p = (q, none) → ∀ z1, DF z0 z1 → WQ z1 → post (-1000 - nI q) z1) → (∀ q L b, prs (tcZ z0 d n) n fu p = (q, some L) → apA (tcZ z0 d n) L m = .inl b → ∀ z1, DF z0 z1 → WQ z1 → post (-2000 - nI b) z1) → (∀ q L m1, prs (tcZ z0 d n) n fu p = (q, some L) → apA (tcZ z0 d n) L m = .inr m1 → ∀ z1, DF z0 z1 → WQ z1 → RA z1 2 m1 → post (nI (s + L.length)) z1) → V_X0_readFrom_7 2 (6 + d) post (k + 1) z (nI s) (nI p) (-1) := by
  have hn := w0.2.2.2.2.2.1
  intro fu
  induction fu with
  | zero => intro k s p z m h1; omega
  | succ fu ih =>
    intro k s p z m h1 hk hsp hp ha df wq ra K0 K1 K2
    have wz := w0.df df
    have etc : tcZ z d n = tcZ z0 d n := tcZ_df df d n
    refine c_active wz (by omega) hp ha ?_
    unfold V_X0_readFrom_25
    have m1 : ¬ (0 : Int32) ≤ -1 := by decide
    refine c_scan hd wz hp (fun q e hq z1 s1 => ?_) (fun q tl e hpq hq z1 s1 h9 => ?_)
    · rw [etc] at e
      obtain ⟨i1, i2⟩ := inv_all q (by omega)
      refine ⟨fun r => absurd r i1, fun _ => ?_⟩
      rw [i2]
      exact K0 q (prs_0 e) z1 (df.tr s1.df) (s1.wq wq)
    · rw [etc] at e h9
      have df1 := df.tr s1.df
      have wz1 := w0.df df1
      have etc1 : tcZ z1 d n = tcZ z0 d n := tcZ_df df1 d n
      have hl := st_lt e
      have hok := st_ok (tcZ_E z0 d n) e
      obtain ⟨k', rfl⟩ : ∃ k', k = k' + 1 := ⟨k - 1, by omega⟩
      refine ⟨fun _ => ⟨fun r => absurd r m1, fun _ => c_val wz1 (by omega) ?_⟩, fun r => absurd (nI_pos' (by omega)) r⟩
      rw [etc1]
      refine c_told (ra.s9 s1) hl hok h9 (fun ec => no0 ?_) (fun m2 ec => no1 (c_val wz1 (by omega) ?_))
      · unfold V_X0_readFrom_76 V_X0_readFrom_84
        refine ⟨fun r => absurd r m1, fun _ t9 e9 => ?_⟩
        rw [e9, nI_1]
        refine c_nextV wz1 (by omega) (by omega) hq (by omega) (fun c => ?_) (fun c => ?_)
        · unfold V_X0_readFrom_93
          exact ⟨fun _ => K1 q _ p (prs_e e c) (apA_0 ec) z1 df1 (s1.wq wq), fun r => absurd (nI_pos' (by omega)) r⟩
        · exact c_readW hd w0 (by omega) fu k' (s + 1) q z1 (by omega) (by omega) (by omega) (by omega) c df1 (s1.wq wq) (fun q2 e2 => K0 q2 (prs_n e c e2)) (fun q2 L e2 => K1 q2 _ p (prs_s e c e2) (apA_0 ec))
      · rw [etc1]
        refine c_take (ra.s9 s1) (s1.wq wq) hl hok h9 ec (fun z2 df2 wq2 ra2 => ?_)
        have df02 := df1.tr df2
        unfold V_X0_readFrom_84
        intro t9 e9
        rw [e9, nI_1]
        refine c_nextV (w0.df df02) (by omega) (by omega) hq (by omega) (fun c => ?_) (fun c => ?_)
        · unfold V_X0_readFrom_93
          exact ⟨fun r => absurd r m1, fun _ => K2 q _ m2 (prs_e e c) (apA_1 ec) z2 df02 wq2 ra2⟩
        · refine ih k' (s + 1) q z2 m2 (by omega) (by omega) (by omega) hq (Or.inr c) df02 wq2 ra2 (fun q2 e2 => K0 q2 (prs_n e c e2)) (fun q2 L b e2 ea => K1 q2 _ b (prs_s e c e2) ((apA_1 ec).trans ea)) (fun q2 L m3 e2 ea z3 df3 wq3 ra3 => ?_)
          have h := K2 q2 _ m3 (prs_s e c e2) ((apA_1 ec).trans ea) z3 df3 wq3 ra3
          rw [List.length_cons] at h
          rw [show s + 1 + L.length = s + (L.length + 1) by omega]
          exact h
theorem c_read {z : ZS} {d n : Nat} {m : Nat → Int32} (hd : d < 8) (w : RW z d n) (wq : WQ z) (ra : RA z 2 m) {post : Int32 → ZS → Prop} (K0 : ∀ q, prs (tcZ z d n) n (n + 1) 0 = (q, none) → ∀ z1, DF z z1 → WQ z1 → post (-1000 - nI q) z1) (K1 : ∀ q L b, prs (tcZ z d n) n (n + 1) 0 = (q, some L) → apA (tcZ z d n) L m = .inl b → ∀ z1, DF z z1 → WQ z1 → post (-2000 - nI b) z1) (K2 : ∀ q L m1, prs (tcZ z d n) n (n + 1) 0 = (q, some L) → apA (tcZ z d n) L m = .inr m1 → ∀ z1, DF z z1 → WQ z1 → RA z1 2 m1 → post (nI L.length) z1) : V_X0_readFrom z 2 (6 + d) post := by
  have h := c_readN hd w (post := post) (n + 1) 100 0 0 z m (by omega) rfl (by omega) (by omega) (Or.inl rfl) (DF.rf z) wq ra K0 K1 (fun q L m1 e ea z1 df wq1 ra1 => by rw [Nat.zero_add]; exact K2 q L m1 e ea z1 df wq1 ra1)
  exact ⟨100 + 1, by decide, h⟩
