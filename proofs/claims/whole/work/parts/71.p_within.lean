/-! PURE, part 22: within, stop -/
theorem CF.g {z : ZS} {o : Nat} {P : FP} {t : FS} (h : CF z o P t) (v : Int32) : CF (wI z o 6 v) o ((P.1.1, v, P.1.2.2), P.2) t := by
  obtain ⟨h1, ⟨a, op, g1, g2⟩, h3, h4, h5, h6, h7, h8, h9, h10, h11, h12, h13⟩ := h
  rcases h1 with rfl | rfl
  · exact ⟨Or.inl rfl, ⟨a, op, g1, g2⟩, h3, h4, rfl, h6, h7, h8, h9, h10, h11, h12, h13⟩
  · exact ⟨Or.inr rfl, ⟨a, op, g1, g2⟩, h3, h4, rfl, h6, h7, h8, h9, h10, h11, h12, h13⟩
noncomputable def wiO (z : ZS) (k f op g x y sd : Int32) (i : Nat) : Int32 := offT (fin (aP z k f op g none) (aF z x y (sd + nI i)))
def wiS (o : Nat → Int32) (m : Int32) (i : Nat) (a : Int32) : Int32 := if m < o i then a else a + 1
/-- how many land within -/
noncomputable def wiN (z : ZS) (k f op g x y sd m : Int32) (n : Nat) : Int32 := fo (wiS (wiO z k f op g x y sd) m) n 0 0
theorem c_good_lp {z0 : ZS} {a : Nat} {k f op x y m sd gu : Int32} {n : Nat} (hn : n ≤ 20) (hR : Rel z0) (g : FA z0 a k f op) (hx : EG x) (hy : EG y) (hg : 0 ≤ gu.toInt ∧ gu.toInt ≤ 30) {post : Int32 → ZS → Prop} : ∀ (r i : Nat) (z : ZS) (c : Int32), r + i = n → OF 4 z0 z → (∀ z1, OF 4 z0 z1 → post (fo (wiS (wiO z0 k f op gu x y sd) m) r i c) z1) → V_X11_goodBySeeds_6 post (r + 1) z a x y m (nI n) sd gu c (nI i) := by
  intro r
  induction r with
  | zero =>
    intro i z c e o kk
    unfold V_X11_goodBySeeds_6
    exact ⟨fun _ => kk z o, fun q => absurd (nI_le (by omega) (by omega)) q⟩
  | succ r ih =>
    intro i z c e o kk
    unfold V_X11_goodBySeeds_6 V_X11_goodBySeeds_59
    rw [fo_s] at kk
    have hRz := o.rel hR
    have gz := g.kp o.k4
    refine ⟨fun q => absurd q (nI_ge (by omega) (by omega)), fun _ => c_begin (Or.inl rfl) gz (fun z1 o1 k1 z2 e2 => ?_)⟩
    have k2 := k1.g gu
    have o2 := o1.I 6 gu
    rw [← e2] at k2 o2
    refine c_land (aP_I (g := gu) (w := none) hRz gz hg) k2 (aF_I hRz hx hy _) (fun z3 o3 k3 => c_off k3 ?_)
    have eo : offT (fin (aP z k f op gu none) (aF z x y (sd + nI i))) = wiO z0 k f op gu x y sd i := by
      unfold wiO
      rw [aP_kp o.k4, aF_kp o.k4]
    refine ⟨fun q t15 e15 => ?_, fun q t23 e23 t15 e15 => ?_⟩
    · have q : m < offT (fin (aP z k f op gu none) (aF z x y (sd + nI i))) := q
      rw [eo] at q
      have e3 : wiS (wiO z0 k f op gu x y sd) m i c = c := if_pos q
      rw [e3] at kk
      rw [e15, nI_1]
      exact ih (i + 1) z3 c (by omega) (o.tr (o2.tr o3)) kk
    · have q : ¬ m < offT (fin (aP z k f op gu none) (aF z x y (sd + nI i))) := q
      rw [eo] at q
      have e3 : wiS (wiO z0 k f op gu x y sd) m i c = c + 1 := if_neg q
      rw [e3] at kk
      rw [e15, e23, nI_1]
      exact ih (i + 1) z3 (c + 1) (by omega) (o.tr (o2.tr o3)) kk
theorem c_good {z0 z : ZS} {a : Nat} {k f op x y m sd gu : Int32} {n : Nat} (hn : n ≤ 20) (hR : Rel z0) (g : FA z0 a k f op) (hx : EG x) (hy : EG y) (hg : 0 ≤ gu.toInt ∧ gu.toInt ≤ 30) (o : OF 4 z0 z) {post : Int32 → ZS → Prop} (kk : ∀ z1, OF 4 z0 z1 → post (wiN z0 k f op gu x y sd m n) z1) : V_X11_goodBySeeds z a x y m (nI n) sd gu post := ⟨n + 1, c_good_lp hn hR g hx hy hg n 0 z 0 (by omega) o kk⟩
/-- as z0, but for the reference's gust and its ints of a fall -/
def RG (z0 : ZS) (g : Int32) (z : ZS) : Prop := (∀ a k, ¬ (a = 14 ∧ 16 ≤ k ∧ k ≤ 29) → zI z a k = zI z0 a k) ∧ (∀ a k, ¬ (a = 14 ∧ k = 0) → zR z a k = zR z0 a k) ∧ zR z 14 0 = upd (zR z0 14 0) 0 g ∧ zG z = zG z0 ∧ zQ z = zQ z0 ∧ zP z = zP z0 ∧ zK z = zK z0 ∧ zF z = zF z0
theorem RG.om {z0 z z1 : ZS} {g : Int32} (h : RG z0 g z) (o : OM z z1) : RG z0 g z1 := ⟨fun a k q => (o.1 a k q).trans (h.1 a k q), fun a k q => by rw [o.2.1]; exact h.2.1 a k q, by rw [o.2.1]; exact h.2.2.1, o.2.2.1.trans h.2.2.2.1, o.2.2.2.1.trans h.2.2.2.2.1, o.2.2.2.2.1.trans h.2.2.2.2.2.1, o.2.2.2.2.2.1.trans h.2.2.2.2.2.2.1, o.2.2.2.2.2.2.trans h.2.2.2.2.2.2.2⟩
theorem upd_at (f : Nat → Int32) (k : Nat) (v : Int32) : upd f k v k = v := if_pos rfl
theorem upd_ne {f : Nat → Int32} {k j : Nat} {v : Int32} (h : j ≠ k) : upd f k v j = f j := if_neg h
theorem upd_upd (f : Nat → Int32) (k : Nat) (v w : Int32) : upd (upd f k v) k w = upd f k w := by
  funext j
  unfold upd
  by_cases h : j = k
  · rw [if_pos h, if_pos h]
  · rw [if_neg h, if_neg h, if_neg h]
theorem upd_id (f : Nat → Int32) (k : Nat) : upd f k (f k) = f := by
  funext j
  unfold upd
  by_cases h : j = k
  · rw [if_pos h, h]
  · rw [if_neg h]
theorem RG.w {z0 z : ZS} {g : Int32} (h : RG z0 g z) (v : Int32) : RG z0 v (wR z 14 0 0 v) := by
  obtain ⟨h1, h2, h3, h4⟩ := h
  refine ⟨h1, fun a k q => (if_neg q).trans (h2 a k q), ?_, h4⟩
  show (if 14 = 14 ∧ 0 = 0 then upd (zR z 14 0) 0 v else zR z 14 0) = _
  rw [if_pos ⟨rfl, rfl⟩, h3, upd_upd]
theorem RG.kp {z0 z : ZS} (h : RG z0 (zR z0 14 0 0) z) : Kp z0 z := by
  obtain ⟨h1, h2, h3, h4, h5, h6, h7, h8⟩ := h
  refine ⟨fun a k q => h1 a k (by unfold keepI at q; omega), fun a k _ => ?_, fun a _ => by rw [h4], h5, fun a q => ⟨by rw [h6]; exact q, by rw [h7], by rw [h8]⟩⟩
  by_cases c : a = 14 ∧ k = 0
  · rw [c.1, c.2, h3, upd_id]
  · exact h2 a k c
theorem RG.rf (z0 : ZS) : RG z0 (zR z0 14 0 0) z0 := ⟨fun _ _ _ => rfl, fun _ _ _ => rfl, (upd_id _ _).symm, rfl, rfl, rfl, rfl, rfl⟩
theorem m_fallsG {z0 z : ZS} {f a : Nat} {p x y sd gu : Int32} (hR : Rel z0) (g : FO z0 p f a) (hx : EG x) (hy : EG y) (hg : 0 ≤ gu.toInt ∧ gu.toInt ≤ 30) (h : RG z0 gu z) {post : ZS → Prop} (kk : ∀ z1 u, RG z0 gu z1 → MF z1 (aP z0 (kO z0 f) (fO z0 f) (oO z0 f) gu none) (fin (aP z0 (kO z0 f) (fO z0 f) (oO z0 f) gu none) (aF z0 x y sd)) u → post z1) : V_X12_falls z p x y sd post := by
  obtain ⟨rfl, hf, -, -, -, g5⟩ := g
  unfold V_X12_falls V_X12_leavesOne
  rw [e_of0 hf, e_of1 hf, e_of2 hf]
  have ne : ∀ j, j ≠ 0 → zR z 14 0 j = zR z0 14 0 j := fun j hj => by rw [h.2.2.1, upd_ne hj]
  rw [ne (25 + 3 * f) (by omega), ne (26 + 3 * f) (by omega), ne (27 + 3 * f) (by omega)]
  refine m_leaves (P := aP z0 (kO z0 f) (fO z0 f) (oO z0 f) gu none) rfl ?_ (fun z1 o1 c1 => ?_)
  · refine ⟨by rw [h.2.2.1, upd_at]; rfl, by rw [ne 1 (by decide)]; exact hR.1.1.2.1, fun l hl => ⟨?_, ?_⟩⟩
    · rw [ne (5 + 2 * l) (by omega)]; exact (hR.1.2.1 l hl).1
    · rw [ne (6 + 2 * l) (by omega)]; exact (hR.1.2.1 l hl).2.1
  · have e : zR z 14 0 2 = zI z0 1 4 := (ne 2 (by decide)).trans hR.1.1.2.2.1
    rw [e] at c1
    exact m_lands (aP_I hR g5 hg) c1 (aF_I hR hx hy sd) (fun z2 o2 c2 => kk z2 _ (h.om (o1.tr o2)) c2)
theorem m_good_lp {z0 : ZS} {a f : Nat} {p x y m sd gu : Int32} {n : Nat} (hn : n ≤ 20) (hR : Rel z0) (g : FO z0 p f a) (hx : EG x) (hy : EG y) (hg : 0 ≤ gu.toInt ∧ gu.toInt ≤ 30) {post : Int32 → ZS → Prop} : ∀ (r i : Nat) (z : ZS) (c : Int32), r + i = n → RG z0 gu z → (∀ z1, RG z0 gu z1 → post (fo (wiS (wiO z0 (kO z0 f) (fO z0 f) (oO z0 f) gu x y sd) m) r i c) z1) → V_X12_withinOf_6 post (r + 1) z p x y m (nI n) sd c (nI i) := by
  intro r
  induction r with
  | zero =>
    intro i z c e o kk
    unfold V_X12_withinOf_6
    exact ⟨fun _ => kk z o, fun q => absurd (nI_le (by omega) (by omega)) q⟩
  | succ r ih =>
    intro i z c e o kk
    unfold V_X12_withinOf_6 V_X12_withinOf_41
    rw [fo_s] at kk
    refine ⟨fun q => absurd q (nI_ge (by omega) (by omega)), fun _ => m_fallsG hR g hx hy hg o (fun z3 u o3 k3 => m_off k3 ?_)⟩
    have fin2 : ∀ s1 : Int32, wiS (wiO z0 (kO z0 f) (fO z0 f) (oO z0 f) gu x y sd) m i c = c + s1 → (∀ t7 : Int32, t7 = c + s1 → (∀ t8 : Int32, t8 = nI i + (1 : Int32) → V_X12_withinOf_6 post (r + 1) z3 p x y m (nI n) sd t7 t8)) := fun s1 e3 t25 e25 t26 e26 => by
      rw [e3] at kk
      rw [e26, e25, nI_1]
      exact ih (i + 1) z3 (c + s1) (by omega) o3 kk
    refine ⟨fun q => fin2 0 ?_, fun q => fin2 1 ?_⟩
    · rw [Int32.add_zero]
      exact if_pos q
    · exact if_neg q
theorem m_good {z0 z : ZS} {a f : Nat} {p x y m sd gu : Int32} {n : Nat} (hn : n ≤ 20) (hR : Rel z0) (g : FO z0 p f a) (hx : EG x) (hy : EG y) (hg : 0 ≤ gu.toInt ∧ gu.toInt ≤ 30) (o : RG z0 gu z) {post : Int32 → ZS → Prop} (kk : ∀ z1, RG z0 gu z1 → post (wiN z0 (kO z0 f) (fO z0 f) (oO z0 f) gu x y sd m n) z1) : V_X12_withinOf z p x y m (nI n) sd post := ⟨n + 1, m_good_lp hn hR g hx hy hg n 0 z 0 (by omega) o kk⟩
theorem wiN_kp {z z1 : ZS} (h : Kp z z1) (f : Nat) (g x y sd m : Int32) (n : Nat) : wiN z1 (kO z1 f) (fO z1 f) (oO z1 f) g x y sd m n = wiN z (kO z f) (fO z f) (oO z f) g x y sd m n := by
  have e : wiO z1 (kO z1 f) (fO z1 f) (oO z1 f) g x y sd = wiO z (kO z f) (fO z f) (oO z f) g x y sd := by
    funext i
    unfold wiO
    rw [aP_kp h, aF_kp h, (kO_kp h f).1, (kO_kp h f).2.1, (kO_kp h f).2.2]
  unfold wiN
  rw [e]
theorem m_isWithin {z : ZS} {f a : Nat} {p x y m n : Int32} (hR : Rel z) (g : FO z p f a) {post : Int32 → ZS → Prop} (h0 : ¬ (EG x ∧ EG y ∧ (0 ≤ m.toInt ∧ m.toInt ≤ 60000) ∧ 1 ≤ n.toInt ∧ n.toInt ≤ 20) → post 0 z) (h1 : (EG x ∧ EG y ∧ (0 ≤ m.toInt ∧ m.toInt ≤ 60000) ∧ 1 ≤ n.toInt ∧ n.toInt ≤ 20) → post 1 z) : V_X12_isWithin z p x y m n post := by
  unfold V_X12_isWithin
  exact m_fO hR g (no1 (ge_edge (fun c1 => no1 (ge_edge (fun c2 => no1 (ge_in 0 60000 rfl rfl (fun c3 => no1 (ge_in 1 20 rfl rfl (fun c4 => no1 (h1 ⟨c1, c2, c3, c4⟩)) (fun c => no0 (h0 (fun q => c q.2.2.2))))) (fun c => no0 (h0 (fun q => c q.2.2.1))))) (fun c => no0 (h0 (fun q => c q.2.1))))) (fun c => no0 (h0 (fun q => c q.1)))))
theorem m_isWithinB {z : ZS} {p x y m n : Int32} (hR : Rel z) (g : FB z p) {post : Int32 → ZS → Prop} (h0 : post 0 z) : V_X12_isWithin z p x y m n post := by
  unfold V_X12_isWithin
  exact m_fB hR g (no0 h0)
theorem sk_19 : SK_19 Rel := by
  intro z p1 p2 p3 p4 p5 p6 hR
  unfold V_X11_within
  rcases fcase hR p1 with hb | ⟨f, a, g⟩
  · exact c_fB hb ⟨fun _ => (by unfold V_X12_within; exact m_isWithinB hR hb (no0 ⟨rfl, hR⟩)), fun a q => by cases q⟩
  refine c_fO g ⟨fun q => (by cases q), fun a' q => ?_⟩
  cases q
  have g5 := g.2.2.2.2.2
  have bad : ¬ (EG p2 ∧ EG p3 ∧ (0 ≤ p4.toInt ∧ p4.toInt ≤ 60000) ∧ 1 ≤ p5.toInt ∧ p5.toInt ≤ 20) → V_X12_within z p1 p2 p3 p4 p5 p6 (fun r2 z2 => r2 = -1 ∧ Rel z2) := fun q => by
    unfold V_X12_within
    exact m_isWithin hR g (fun _ => no0 ⟨rfl, hR⟩) (fun c => absurd c q)
  refine ge_place (fun c1 c2 => no1 (ge_from 0 60000 rfl rfl (fun c3 => no1 (ge_from 1 20 rfl rfl (fun c4 => on1 ?_) (fun c => on0 (bad (fun q => c q.2.2.2))))) (fun c => no0 (bad (fun q => c q.2.2.1))))) (fun c => no0 (bad (fun q => c ⟨q.1, q.2.1⟩)))
  obtain ⟨n, en, en2, -⟩ := nat_of (p := p5) (by omega)
  subst en
  refine c_good (by omega) hR (k := kO z f) (f := fO z f) (op := oO z f) g5 c1 c2 hR.gust (OF.rf 4 z) (fun z1 o1 => ?_)
  have hR1 := o1.rel hR
  have g1 := g.kp o1.k4
  unfold V_X12_within
  refine m_isWithin hR1 g1 (fun q => absurd ⟨c1, c2, c3, c4⟩ q) (fun _ => no1 ?_)
  have eg : zR z1 14 0 0 = zI z1 1 2 := hR1.1.1.1
  refine m_good (gu := zR z1 14 0 0) (by omega) hR1 g1 c1 c2 (by rw [eg]; exact hR1.gust) (RG.rf z1) (fun z2 o2 => ⟨?_, hR1.kp o2.kp⟩)
  rw [wiN_kp o1.k4, eg, (g_kp o1.k4).1]
-- stop
noncomputable def stL (z : ZS) (k f op x y sd m n : Int32) (nn : Nat) : Nat → Nat → Int32
  | 0, _ => -4
  | (r + 1), i => if n ≤ 2 * wiN z k f op (nI i) x y sd m nn then stL z k f op x y sd m n nn r (i + 1) else nI i
theorem c_stop_lp {z0 : ZS} {a : Nat} {k f op x y m sd : Int32} {n : Nat} (hn : n ≤ 20) (hR : Rel z0) (g : FA z0 a k f op) (hx : EG x) (hy : EG y) {post : Int32 → ZS → Prop} : ∀ (r i : Nat) (z : ZS), r + i = 31 → OF 4 z0 z → (∀ z1, OF 4 z0 z1 → post (stL z0 k f op x y sd m (nI n) n r i) z1) → V_X11_stop_50 post (r + 1) z x y m (nI n) sd a (nI i) := by
  intro r
  induction r with
  | zero =>
    intro i z e o kk
    unfold V_X11_stop_50
    have hi : i = 31 := by omega
    subst hi
    exact ⟨fun _ => kk z o, fun q => absurd (by decide : (30 : Int32) < nI 31) q⟩
  | succ r ih =>
    intro i z e o kk
    unfold V_X11_stop_50
    have hi : (nI i).toInt = i := nI_toInt (by omega)
    have hi8 : ¬ (30 : Int32) < nI i := fun q => by
      rw [Int32.lt_iff_toInt_lt, hi, show (30 : Int32).toInt = 30 by decide] at q
      omega
    refine ⟨fun q => absurd q hi8, fun _ => c_good hn hR g hx hy (by rw [hi]; omega) o (fun z1 o1 => ⟨fun q t17 e17 => ?_, fun q => ?_⟩)⟩
    · rw [e17, nI_1]
      refine ih (i + 1) z1 (by omega) o1 (fun z2 o2 => ?_)
      have h := kk z2 o2
      unfold stL at h
      rw [if_pos q] at h
      exact h
    · have h := kk z1 o1
      unfold stL at h
      rw [if_neg q] at h
      exact h
theorem m_stop_lp {z0 : ZS} {a f : Nat} {p x y m sd : Int32} {n : Nat} (hn : n ≤ 20) (hR : Rel z0) (g : FO z0 p f a) (hx : EG x) (hy : EG y) {post : Int32 → ZS → Prop} : ∀ (r i : Nat) (z : ZS) (gu : Int32), r + i = 31 → RG z0 gu z → (∀ z1, Kp z0 z1 → post (stL z0 (kO z0 f) (fO z0 f) (oO z0 f) x y sd m (nI n) n r i) z1) → V_X12_stop_31 post (r + 1) z p x y m (nI n) sd (zR z0 14 0 0) (-4) (nI i) := by
  intro r
  induction r with
  | zero =>
    intro i z gu e o kk
    unfold V_X12_stop_31 V_X12_stop_86
    have hi : i = 31 := by omega
    subst hi
    refine ⟨fun _ z6 e6 => ?_, fun q => absurd (by decide : (30 : Int32) < nI 31) q⟩
    rw [e6]
    exact kk _ (o.w _).kp
  | succ r ih =>
    intro i z gu e o kk
    unfold V_X12_stop_31
    have hi : (nI i).toInt = i := nI_toInt (by omega)
    have hi8 : ¬ (30 : Int32) < nI i := fun q => by
      rw [Int32.lt_iff_toInt_lt, hi, show (30 : Int32).toInt = 30 by decide] at q
      omega
    refine ⟨fun q => absurd q hi8, fun _ => ⟨fun q => absurd q (by decide), fun _ z8 e8 => ?_⟩⟩
    have o8 := o.w (nI i)
    rw [← e8] at o8
    refine m_good hn hR g hx hy (by rw [hi]; omega) o8 (fun z1 o1 => ⟨fun q => ?_, fun q => ?_⟩)
    · unfold V_X12_stop_78
      intro t12 e12
      rw [e12, nI_1]
      refine ih (i + 1) z1 _ (by omega) o1 (fun z2 o2 => ?_)
      have h := kk z2 o2
      unfold stL at h
      rw [if_pos q] at h
      exact h
    · unfold V_X12_stop_78 V_X12_stop_31 V_X12_stop_86
      intro t12 e12
      have kk2 : ∀ z1, Kp z0 z1 → post (nI i) z1 := fun z1 k1 => by
        have h := kk z1 k1
        unfold stL at h
        rw [if_neg q] at h
        exact h
      have i0 : 0 ≤ nI i := by rw [Int32.le_iff_toInt_le, i_0, hi]; omega
      refine ⟨fun _ z6 e6 => ?_, fun _ => ⟨fun _ z6 e6 => ?_, fun q => absurd i0 q⟩⟩
      · rw [e6]; exact kk2 _ (o1.w _).kp
      · rw [e6]; exact kk2 _ (o1.w _).kp
theorem stL_kp {z z1 : ZS} (h : Kp z z1) (f : Nat) (x y sd m n : Int32) (nn : Nat) : ∀ r i, stL z1 (kO z1 f) (fO z1 f) (oO z1 f) x y sd m n nn r i = stL z (kO z f) (fO z f) (oO z f) x y sd m n nn r i := by
  intro r
  induction r with
  | zero => intro i; rfl
  | succ r ih =>
    intro i
    unfold stL
    rw [wiN_kp h, ih]
theorem sk_20 : SK_20 Rel := by
  intro z p1 p2 p3 p4 p5 p6 hR
  unfold V_X11_stop
  rcases fcase hR p1 with hb | ⟨f, a, g⟩
  · exact c_fB hb ⟨fun _ => (by unfold V_X12_stop; exact m_isWithinB hR hb (on0 ⟨rfl, hR⟩)), fun a q => by cases q⟩
  refine c_fO g ⟨fun q => (by cases q), fun a' q => ?_⟩
  cases q
  have g5 := g.2.2.2.2.2
  have bad : ¬ (EG p2 ∧ EG p3 ∧ (0 ≤ p4.toInt ∧ p4.toInt ≤ 60000) ∧ 1 ≤ p5.toInt ∧ p5.toInt ≤ 20) → V_X12_stop z p1 p2 p3 p4 p5 p6 (fun r2 z2 => r2 = -1 ∧ Rel z2) := fun q => by
    unfold V_X12_stop
    exact m_isWithin hR g (fun _ => on0 ⟨rfl, hR⟩) (fun c => absurd c q)
  refine ge_place (fun c1 c2 => no1 (ge_from 0 60000 rfl rfl (fun c3 => no1 (ge_from 1 20 rfl rfl (fun c4 => on1 ?_) (fun c => on0 (bad (fun q => c q.2.2.2))))) (fun c => no0 (bad (fun q => c q.2.2.1))))) (fun c => no0 (bad (fun q => c ⟨q.1, q.2.1⟩)))
  obtain ⟨n, en, en2, -⟩ := nat_of (p := p5) (by omega)
  subst en
  obtain ⟨A, hA⟩ : ∃ A, stL z (kO z f) (fO z f) (oO z f) p2 p3 p6 p4 (nI n) n 31 0 = A := ⟨_, rfl⟩
  have hc := c_stop_lp (n := n) (by omega) hR (k := kO z f) (f := fO z f) (op := oO z f) g5 c1 c2 (m := p4) (sd := p6) (post := fun r z1 => V_X12_stop z1 p1 p2 p3 p4 (nI n) p6 (fun r2 z2 => r2 = r ∧ Rel z2)) 31 0 z rfl (OF.rf 4 z) (by
    rw [hA]
    intro z1 o1
    have hR1 := o1.rel hR
    have g1 := g.kp o1.k4
    unfold V_X12_stop
    refine m_isWithin hR1 g1 (fun q => absurd ⟨c1, c2, c3, c4⟩ q) (fun _ => on1 (fun t4 e4 => ?_))
    rw [e4]
    have hm := m_stop_lp (n := n) (by omega) hR1 g1 c1 c2 (m := p4) (sd := p6) (post := fun r2 z2 => r2 = A ∧ Rel z2) 31 0 z1 _ rfl (RG.rf z1) (by
      rw [stL_kp o1.k4, hA]
      exact fun z2 k2 => ⟨rfl, hR1.kp k2⟩)
    exact ⟨31 + 1, hm⟩)
  exact ⟨31 + 1, hc⟩
