/-! PURE, part 26: a new Faller; habits, crates -/
def fdK (kn : Nat) (p1 p2 p3 : Int32) : Nat → Int32 := match kn with
  | 1 => fdat_1 p1 p2 p3 | 2 => fdat_2 p1 p2 p3 | 3 => fdat_3 p1 p2 p3 | 4 => fdat_4 p1 p2 p3 | 5 => fdat_5 p1 p2 p3 | 6 => fdat_6 p1 p2 p3 | 7 => fdat_7 p1 p2 p3 | _ => fdat_0 p1 p2 p3
theorem fd_all : ∀ kn, kn < 8 → ∀ f, f < 10 → ∀ o, o < 21 → fdK kn 0 (nI f) (nI o) 3 = nI kn ∧ fdK kn 0 (nI f) (nI o) 4 = fallsB (nI kn) ∧ fdK kn 0 (nI f) (nI o) 5 = sinksB (nI kn) (nI f) ∧ fdK kn 0 (nI f) (nI o) 6 = paceB (nI kn) (nI f) ∧ fdK kn 0 (nI f) (nI o) 7 = careB (nI kn) (nI f) (nI o) := by decide +kernel
theorem fd_same {kn : Nat} (h : kn < 8) (p1 p2 p3 : Int32) : fdK kn p1 p2 p3 0 = p1 ∧ fdK kn p1 p2 p3 1 = p2 ∧ fdK kn p1 p2 p3 2 = p3 ∧ fdK kn p1 p2 p3 3 = fdK kn 0 p2 p3 3 ∧ fdK kn p1 p2 p3 4 = fdK kn 0 p2 p3 4 ∧ fdK kn p1 p2 p3 5 = fdK kn 0 p2 p3 5 ∧ fdK kn p1 p2 p3 6 = fdK kn 0 p2 p3 6 ∧ fdK kn p1 p2 p3 7 = fdK kn 0 p2 p3 7 := by
  rcases kcase h with rfl | rfl | rfl | rfl | rfl | rfl | rfl | rfl <;> exact ⟨rfl, rfl, rfl, rfl, rfl, rfl, rfl, rfl⟩
theorem zP_wP (z : ZS) (q k : Nat) (f : Nat → Int32) : zP (wP z q k f) = zP z ++ [q] := rfl
theorem zK_wP (z : ZS) (q k : Nat) (f : Nat → Int32) : zK (wP z q k f) q = k := va_up_self _ _ _
theorem zF_wP (z : ZS) (q k : Nat) (f : Nat → Int32) : zF (wP z q k f) q = f := va_up_self _ _ _
theorem FA_new {z : ZS} {q kn : Nat} (hk : kn < 8) {p1 p2 p3 : Int32} (h2 : 0 ≤ p2.toInt ∧ p2.toInt ≤ 9) (h3 : 0 ≤ p3.toInt ∧ p3.toInt ≤ 20) : FA (wP z q kn (fdK kn p1 p2 p3)) q (nI kn) p2 p3 := by
  obtain ⟨f, e2, e2', -⟩ := nat_of h2.1
  obtain ⟨o, e3, e3', -⟩ := nat_of h3.1
  obtain ⟨a0, a1, a2, a3, a4, a5, a6, a7⟩ := fd_same hk p1 p2 p3
  obtain ⟨b3, b4, b5, b6, b7⟩ := fd_all kn hk f (by omega) o (by omega)
  rw [← e2, ← e3] at b3 b4 b5 b6 b7
  unfold FA
  rw [zP_wP, zK_wP, zF_wP]
  exact ⟨List.mem_append_right _ (List.mem_singleton.mpr rfl), hk, rfl, a1, a2, a3.trans b3, a4.trans b4, a5.trans b5, a6.trans b6, a7.trans b7, h2, h3⟩
theorem c_ofKind {z : ZS} {kn : Nat} (hk : kn < 8) {p1 p2 p3 : Int32} {post : Nat → ZS → Prop} (kk : ∀ q, q ∉ zP z → post q (wP z q kn (fdK kn p1 p2 p3))) : V_X4_ofKind z (nI kn) p1 p2 p3 post := by
  unfold V_X4_ofKind
  rcases kcase hk with rfl | rfl | rfl | rfl | rfl | rfl | rfl | rfl
  · refine ⟨fun q => absurd q (by decide), fun _ => ⟨fun q => absurd q (by decide), fun _ => ⟨fun q => absurd q (by decide), fun _ => ⟨fun q => absurd q (by decide), fun _ => ⟨fun q => absurd q (by decide), fun _ => ⟨fun q => absurd q (by decide), fun _ => ⟨fun q => absurd q (by decide), fun _ q hq z1 e1 => ?_⟩⟩⟩⟩⟩⟩⟩
    subst e1; exact kk q hq
  · refine ⟨fun _ q hq z1 e1 => ?_, fun q => absurd rfl q⟩
    subst e1; exact kk q hq
  · refine ⟨fun q => absurd q (by decide), fun _ => ⟨fun _ q hq z1 e1 => ?_, fun q => absurd rfl q⟩⟩
    subst e1; exact kk q hq
  · refine ⟨fun q => absurd q (by decide), fun _ => ⟨fun q => absurd q (by decide), fun _ => ⟨fun _ q hq z1 e1 => ?_, fun q => absurd rfl q⟩⟩⟩
    subst e1; exact kk q hq
  · refine ⟨fun q => absurd q (by decide), fun _ => ⟨fun q => absurd q (by decide), fun _ => ⟨fun q => absurd q (by decide), fun _ => ⟨fun _ q hq z1 e1 => ?_, fun q => absurd rfl q⟩⟩⟩⟩
    subst e1; exact kk q hq
  · refine ⟨fun q => absurd q (by decide), fun _ => ⟨fun q => absurd q (by decide), fun _ => ⟨fun q => absurd q (by decide), fun _ => ⟨fun q => absurd q (by decide), fun _ => ⟨fun _ q hq z1 e1 => ?_, fun q => absurd rfl q⟩⟩⟩⟩⟩
    subst e1; exact kk q hq
  · refine ⟨fun q => absurd q (by decide), fun _ => ⟨fun q => absurd q (by decide), fun _ => ⟨fun q => absurd q (by decide), fun _ => ⟨fun q => absurd q (by decide), fun _ => ⟨fun q => absurd q (by decide), fun _ => ⟨fun _ q hq z1 e1 => ?_, fun q => absurd rfl q⟩⟩⟩⟩⟩⟩
    subst e1; exact kk q hq
  · refine ⟨fun q => absurd q (by decide), fun _ => ⟨fun q => absurd q (by decide), fun _ => ⟨fun q => absurd q (by decide), fun _ => ⟨fun q => absurd q (by decide), fun _ => ⟨fun q => absurd q (by decide), fun _ => ⟨fun q => absurd q (by decide), fun _ => ⟨fun _ q hq z1 e1 => ?_, fun q => absurd rfl q⟩⟩⟩⟩⟩⟩⟩
    subst e1; exact kk q hq
-- habits
noncomputable def hbT (z : ZS) (fi op x y : Int32) (i : Nat) : FS := LA z (nI i) fi op x y 1
noncomputable def hbS (t : Nat → FS) (x y m : Int32) (i : Nat) (a : Int32) : Int32 := if m < am ((t i).1 - x) then a else if m < am ((t i).2.1 - y) then a else a ||| ((1 : Int32) <<< (nI i &&& 31))
theorem c_hab_lp {z0 : ZS} {fi op fx fy x y m : Int32} (hR : Rel z0) (hf : 0 ≤ fi.toInt ∧ fi.toInt ≤ 9) (hop : 0 ≤ op.toInt ∧ op.toInt ≤ 20) (hx : EG fx) (hy : EG fy) {post : Int32 → ZS → Prop} : ∀ (r i : Nat) (z : ZS) (c : Int32), r + i = 8 → Kp z0 z → (∀ z1, Kp z0 z1 → post (fo (hbS (hbT z0 fi op fx fy) x y m) r i c) z1) → V_X11_habits_70 post (r + 1) z fx fy x y m fi op c (nI i) := by
  intro r
  induction r with
  | zero =>
    intro i z c e o kk
    unfold V_X11_habits_70
    have hi : i = 8 := by omega
    subst hi
    exact ⟨fun _ => kk z o, fun q => absurd (by decide : (8 : Int32) ≤ nI 8) q⟩
  | succ r ih =>
    intro i z c e o kk
    unfold V_X11_habits_70 V_X11_habits_142
    have hi8 : ¬ (8 : Int32) ≤ nI i := fun q => by
      rw [Int32.le_iff_toInt_le, nI_toInt (by omega), show (8 : Int32).toInt = 8 by decide] at q
      omega
    rw [fo_s] at kk
    refine ⟨fun q => absurd q hi8, fun _ => c_ofKind (by omega) (fun a ha => ?_)⟩
    have k1 := (Kp.rf z).P a i (fdK i 0 fi op) ha
    have k01 := o.tr k1
    refine c_offFrom (hR.kp k01) (FA_new (by omega) hf hop) hx hy (fun z1 o1 c1 => ?_)
    have k02 := k01.tr o1.k4
    rw [c1.at.1, c1.at.2.1, LA_kp k01]
    have keep : hbS (hbT z0 fi op fx fy) x y m i c = c → ∀ t21 : Int32, t21 = nI i + 1 → V_X11_habits_70 post (r + 1) z1 fx fy x y m fi op c t21 := fun e3 t7 e7 => by
      rw [e3] at kk
      rw [e7, nI_1]
      exact ih (i + 1) z1 c (by omega) k02 kk
    refine ⟨fun q => keep (if_pos q), fun q => ⟨fun q2 => keep ((if_neg q).trans (if_pos q2)), fun q2 t23 e23 t21 e21 => ?_⟩⟩
    have e3 : hbS (hbT z0 fi op fx fy) x y m i c = c ||| ((1 : Int32) <<< (nI i &&& 31)) := (if_neg q).trans (if_neg q2)
    rw [e3] at kk
    rw [e21, e23, nI_1]
    exact ih (i + 1) z1 _ (by omega) k02 kk
theorem aP_Ik {z : ZS} {kn : Nat} (hk : kn < 8) {fi op g : Int32} {w : Option (Int32 × Int32)} (hR : Rel z) (hf : 0 ≤ fi.toInt ∧ fi.toInt ≤ 9) (hg : 0 ≤ g.toInt ∧ g.toInt ≤ 30) : PI (aP z (nI kn) fi op g w) :=
  ⟨hg, fun l hl => ⟨(hR.1.2.1 l hl).2.2.1, (hR.1.2.1 l hl).2.2.2⟩, ⟨kn, hk, rfl⟩, hf⟩
theorem m_leavesK {z : ZS} {kn : Nat} (hk : kn < 8) {fi op x y sd : Int32} (hR : Rel z) (hf : 0 ≤ fi.toInt ∧ fi.toInt ≤ 9) (hx : EG x) (hy : EG y) {post : ZS → Prop} (kk : ∀ z1 u, OM z z1 → MF z1 (aP z (nI kn) fi op (zI z 1 2) none) (LA z (nI kn) fi op x y sd) u → post z1) : V_X12_leaves z (nI kn) fi op x y sd (fun z6 => V_X12_lands z6 post) := by
  refine m_leaves (P := aP z (nI kn) fi op (zI z 1 2) none) rfl (aP_AM hR _ _ _ _) (fun z1 o1 c1 => ?_)
  have e : zR z 14 0 2 = zI z 1 4 := hR.1.1.2.2.1
  rw [e] at c1
  exact m_lands (aP_Ik hk hR hf hR.gust) c1 (aF_I hR hx hy sd) (fun z2 o2 c2 => kk z2 _ (o1.tr o2) c2)
theorem or_0 (a : Int32) : a ||| 0 = a := by
  apply Int32.toBitVec_inj.mp
  rw [Int32.toBitVec_or]
  exact BitVec.or_zero
theorem m_hab_lp {z0 : ZS} {fo0 fx fy x y m : Int32} (hR : Rel z0) (hf : 0 ≤ (fo0 / 100).toInt ∧ (fo0 / 100).toInt ≤ 9) (hx : EG fx) (hy : EG fy) {post : Int32 → ZS → Prop} : ∀ (r i : Nat) (z : ZS) (c : Int32), r + i = 8 → OM z0 z → (∀ z1, OM z0 z1 → post (fo (hbS (hbT z0 (fo0 / 100) (fo0 - fo0 / 100 * 100) fx fy) x y m) r i c) z1) → V_X12_habits_84 post (r + 1) z fo0 fx fy x y m c (nI i) := by
  intro r
  induction r with
  | zero =>
    intro i z c e o kk
    unfold V_X12_habits_84
    have hi : i = 8 := by omega
    subst hi
    exact ⟨fun _ => kk z o, fun q => absurd (by decide : (8 : Int32) ≤ nI 8) q⟩
  | succ r ih =>
    intro i z c e o kk
    unfold V_X12_habits_84 V_X12_habits_151 V_X12_habits_152
    have hi8 : ¬ (8 : Int32) ≤ nI i := fun q => by
      rw [Int32.le_iff_toInt_le, nI_toInt (by omega), show (8 : Int32).toInt = 8 by decide] at q
      omega
    rw [fo_s] at kk
    refine ⟨fun q => absurd q hi8, fun _ => m_leavesK (by omega) (hR.kp o.kp) hf hx hy (fun z1 u o1 k1 => ?_)⟩
    have o01 := o.tr o1
    rw [LA_kp o.kp] at k1
    have fin2 : ∀ s1 : Int32, hbS (hbT z0 (fo0 / 100) (fo0 - fo0 / 100 * 100) fx fy) x y m i c = c ||| s1 → (∀ t13 : Int32, t13 = c ||| s1 → (∀ t14 : Int32, t14 = nI i + (1 : Int32) → V_X12_habits_84 post (r + 1) z1 fo0 fx fy x y m t13 t14)) := fun s1 e3 t13 e13 t14 e14 => by
      rw [e3] at kk
      rw [e13, e14, nI_1]
      exact ih (i + 1) z1 _ (by omega) o01 kk
    rw [k1.at.1]
    refine m_amount ⟨fun q => fin2 0 ?_, fun q => ?_⟩
    · rw [or_0]; exact if_pos q
    · rw [k1.at.2.1]
      refine m_amount ⟨fun q2 => fin2 0 ?_, fun q2 => fin2 _ ?_⟩
      · rw [or_0]; exact (if_neg q).trans (if_pos q2)
      · exact (if_neg q).trans (if_neg q2)
theorem hbT_kp {z z1 : ZS} (h : Kp z z1) (fi op x y : Int32) : hbT z1 fi op x y = hbT z fi op x y := by
  funext i
  unfold hbT
  rw [LA_kp h]
theorem hab_n {p : Int32} (h : 0 ≤ p.toInt) : ∃ P : Nat, P < 2 ^ 31 ∧ p.toInt = P ∧ p / 100 = nI (P / 100) ∧ (p / 100).toInt = ((P / 100 : Nat) : Int) := by
  obtain ⟨P, e, e2, e3⟩ := nat_of h
  have e4 : p / 100 = nI (P / 100) := by rw [e, show (100 : Int32) = nI 100 from rfl, nI_div e3 (by decide) (by decide)]
  exact ⟨P, e3, e2, e4, by rw [e4, nI_toInt (by omega)]⟩
theorem hab_r {p : Int32} (h : 0 ≤ p.toInt ∧ p.toInt ≤ 999) : (p - p / 100 * 100).toInt = p.toInt - p.toInt / 100 * 100 ∧ (p / 100).toInt = p.toInt / 100 := by
  obtain ⟨P, e3, e2, e4, e5⟩ := hab_n h.1
  have e6 : p / 100 * 100 = nI (P / 100 * 100) := by rw [e4, show (100 : Int32) = nI 100 from rfl]; exact (Int32.ofNat_mul _ _).symm
  refine ⟨?_, by rw [e5]; omega⟩
  rw [e6, Int32.toInt_sub, nI_toInt (by omega), Int.bmod_def]
  split <;> omega
theorem sk_23 : SK_23 Rel := by
  intro z p1 p2 p3 p4 p5 p6 hR
  unfold V_X11_habits
  intro t1 e1 t2 e2
  subst e1
  subst e2
  have b69 : ∀ (z1 : ZS) (post : Int32 → ZS → Prop), post (-1) z1 → V_X12_habits_68 post z1 p1 p2 p3 p4 p5 p6 := fun z1 post h => by
    unfold V_X12_habits_68 V_X12_habits_69
    exact on0 h
  have mm : ∀ (z1 : ZS) (post : Int32 → ZS → Prop), (¬ ((0 ≤ p1.toInt ∧ p1.toInt ≤ 999) ∧ ¬ (20 : Int32) < (p1 - p1 / (100 : Int32) * (100 : Int32)) ∧ (EG p2 ∧ EG p3) ∧ (EG p4 ∧ EG p5) ∧ (0 ≤ p6.toInt ∧ p6.toInt ≤ 9999)) → post (-1) z1) → (((0 ≤ p1.toInt ∧ p1.toInt ≤ 999) ∧ ¬ (20 : Int32) < (p1 - p1 / (100 : Int32) * (100 : Int32)) ∧ (EG p2 ∧ EG p3) ∧ (EG p4 ∧ EG p5) ∧ (0 ≤ p6.toInt ∧ p6.toInt ≤ 9999)) → (∃ n18 : Nat, V_X12_habits_84 post n18 z1 p1 p2 p3 p4 p5 p6 (0 : Int32) (0 : Int32))) → V_X12_habits z1 p1 p2 p3 p4 p5 p6 post := fun z1 post h0 h1 => by
    unfold V_X12_habits
    refine ge_in 0 999 rfl rfl (fun c1 => no1 ⟨fun c2 => b69 z1 post (h0 (fun q => q.2.1 c2)), fun c2 => ge_edge (fun c3 => no1 (ge_edge (fun c4 => no1 (ge_edge (fun c5 => no1 (ge_edge (fun c6 => no1 (ge_in 0 9999 rfl rfl (fun c7 => no1 ?_) (fun c => no0 (b69 z1 post (h0 (fun q => c q.2.2.2.2)))))) (fun c => no0 (b69 z1 post (h0 (fun q => c q.2.2.2.1.2)))))) (fun c => no0 (b69 z1 post (h0 (fun q => c q.2.2.2.1.1)))))) (fun c => no0 (b69 z1 post (h0 (fun q => c q.2.2.1.2)))))) (fun c => no0 (b69 z1 post (h0 (fun q => c q.2.2.1.1))))⟩) (fun c => no0 (b69 z1 post (h0 (fun q => c q.1))))
    unfold V_X12_habits_69
    exact on1 (h1 ⟨c1, c2, ⟨c3, c4⟩, ⟨c5, c6⟩, c7⟩)
  have bad : ¬ ((0 ≤ p1.toInt ∧ p1.toInt ≤ 999) ∧ ¬ (20 : Int32) < (p1 - p1 / (100 : Int32) * (100 : Int32)) ∧ (EG p2 ∧ EG p3) ∧ (EG p4 ∧ EG p5) ∧ (0 ≤ p6.toInt ∧ p6.toInt ≤ 9999)) → V_X12_habits z p1 p2 p3 p4 p5 p6 (fun r2 z2 => r2 = -1 ∧ Rel z2) := fun q => mm z _ (fun _ => ⟨rfl, hR⟩) (fun c => absurd c q)
  have i9 : (9 : Int32).toInt = 9 := by decide
  have i20 : (20 : Int32).toInt = 20 := by decide
  refine ⟨fun s0 => bad (fun q => ?_), fun s0 => ⟨fun s1 => bad (fun q => ?_), fun s1 => ⟨fun s2 => ?_, fun s2 => bad (fun q => ?_)⟩⟩⟩
  · rw [Int32.lt_iff_toInt_lt, i_0] at s0
    omega
  · rw [Int32.lt_iff_toInt_lt, i9, (hab_r q.1).2] at s1
    omega
  · have c1 : 0 ≤ p1.toInt ∧ p1.toInt ≤ 999 := by
      rw [Int32.lt_iff_toInt_lt, i_0] at s0
      obtain ⟨P, e3, e2, e4, e5⟩ := hab_n (p := p1) (by omega)
      rw [Int32.lt_iff_toInt_lt, i9, e5] at s1
      omega
    have c2 : ¬ (20 : Int32) < (p1 - p1 / (100 : Int32) * (100 : Int32)) := fun q => by
      rw [Int32.lt_iff_toInt_lt] at q
      rw [Int32.le_iff_toInt_le] at s2
      omega
    refine ge_place (fun c3 c4 => no1 (ge_place (fun c5 c6 => no1 (ge_from 0 9999 rfl rfl (fun c7 => on1 ?_) (fun c => on0 (bad (fun q => c q.2.2.2.2))))) (fun c => no0 (bad (fun q => c q.2.2.2.1))))) (fun c => no0 (bad (fun q => c q.2.2.1)))
    have hr := hab_r c1
    have hf : 0 ≤ (p1 / 100).toInt ∧ (p1 / 100).toInt ≤ 9 := by rw [hr.2]; omega
    have ho : 0 ≤ (p1 - p1 / 100 * 100).toInt ∧ (p1 - p1 / 100 * 100).toInt ≤ 20 := by
      rw [Int32.le_iff_toInt_le, i20] at s2
      rw [hr.1] at s2 ⊢
      omega
    obtain ⟨A, hA⟩ : ∃ A, fo (hbS (hbT z (p1 / 100) (p1 - p1 / 100 * 100) p2 p3) p4 p5 p6) 8 0 0 = A := ⟨_, rfl⟩
    have hc := c_hab_lp hR hf ho c3 c4 (x := p4) (y := p5) (m := p6) (post := fun r z1 => V_X12_habits z1 p1 p2 p3 p4 p5 p6 (fun r2 z2 => r2 = r ∧ Rel z2)) 8 0 z 0 rfl (Kp.rf z) (by
      rw [hA]
      intro z1 o1
      have hR1 := hR.kp o1
      refine mm z1 _ (fun q => absurd ⟨c1, c2, ⟨c3, c4⟩, ⟨c5, c6⟩, c7⟩ q) (fun _ => ?_)
      have hm := m_hab_lp hR1 hf c3 c4 (x := p4) (y := p5) (m := p6) (post := fun r2 z2 => r2 = A ∧ Rel z2) 8 0 z1 0 rfl (OM.rf z1) (by
        rw [hbT_kp o1, hA]
        exact fun z2 o2 => ⟨rfl, hR1.kp o2.kp⟩)
      exact ⟨8 + 1, hm⟩)
    exact ⟨8 + 1, by decide, hc⟩
  · rw [Int32.le_iff_toInt_le] at s2
    have s3 := q.2.1
    rw [Int32.lt_iff_toInt_lt] at s3
    omega
