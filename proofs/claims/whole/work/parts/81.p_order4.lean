/-! PURE, part 32: the reference's lines; order -/
theorem bit_all : ∀ m, m < 32 → ∀ k, k < 5 → (((nI m >>> (nI k &&& 31)) &&& (1 : Int32)) = 1 ↔ m.testBit k = true) ∧ (nI m ||| ((1 : Int32) <<< (nI k &&& 31))) = nI (m ||| 2 ^ k) ∧ m ||| 2 ^ k < 32 := by decide +kernel
theorem gD_lt {p : List Nat} {k t : Nat} (h : t < p.length) : gD (p ++ [k]) t = gD p t := by
  unfold gD
  rw [List.getD_eq_getElem?_getD, List.getD_eq_getElem?_getD, List.getElem?_append_left h]
theorem gD_eq {p : List Nat} {k : Nat} : gD (p ++ [k]) p.length = k := by
  unfold gD
  rw [List.getD_eq_getElem?_getD, List.getElem?_append_right (Nat.le_refl _), Nat.sub_self]
  rfl
theorem sumA_congr {O : Nat → Nat → Int32} {f g : Nat → Nat} : ∀ (r i : Nat) (s : Int32), (∀ t, i ≤ t → t < i + r → f t = g t) → sumA O f r i s = sumA O g r i s := by
  intro r
  induction r with
  | zero => intro i s _; rfl
  | succ r ih =>
    intro i s h
    unfold sumA
    rw [h i (by omega) (by omega)]
    exact ih (i + 1) _ (fun t h1 h2 => h t (by omega) (by omega))
theorem sumA_last {O : Nat → Nat → Int32} {f : Nat → Nat} : ∀ (r i : Nat) (s : Int32), sumA O f (r + 1) i s = sumA O f r i s + O (f (i + r)) (i + r) := by
  intro r
  induction r with
  | zero => intro i s; rfl
  | succ r ih =>
    intro i s
    have h := ih (i + 1) (s + O (f i) i)
    rw [show i + 1 + r = i + (r + 1) by omega] at h
    exact h
def stM (O : Nat → Nat → Int32) (n : Nat) (a : T2) (p : List Nat) : T2 := if a.1 < 0 then (sumA O (gD p) n 0 0, digB (gD p) n 0) else if sumA O (gD p) n 0 0 < a.1 then (sumA O (gD p) n 0 0, digB (gD p) n 0) else a
def LI (z0 z : ZS) (n : Nat) (O : Nat → Nat → Int32) : Prop := Kp z0 z ∧ ∀ k t, k < n → t < n → zR z 14 30 (5 * k + t) = O k t
def PX (z : ZS) (pre : List Nat) : Prop := ∀ t, t < pre.length → zR z 14 31 t = nI (gD pre t)
def aZ (z : ZS) : T2 := (zI z 14 33, zI z 14 32)
theorem m_dig38 {self : ZS → Int32 → Int32 → Int32 → Int32 → (ZS → Prop) → Prop} {post : ZS → Prop} {f : Nat → Nat} : ∀ (k : Nat) (z : ZS), k ≤ 5 → (∀ t, t < k → zR z 14 31 t = nI (f t)) → (∀ z1, Kp z z1 → zR z1 = zR z → zI z1 14 33 = zI z 14 33 → zI z1 14 32 = digB f k (zI z 14 32) → post z1) → V_X12_lines_38 self post (k + 1) z (nI k - 1) := by
  intro k
  induction k with
  | zero =>
    intro z hk h kk
    unfold V_X12_lines_38
    have e : nI 0 - 1 = (-1 : Int32) := by decide
    rw [e]
    exact ⟨fun _ => kk z (Kp.rf z) rfl rfl rfl, fun q => absurd (by decide) q⟩
  | succ k ih =>
    intro z hk h kk
    unfold V_X12_lines_38
    rw [nI_pred, nI_clamp (show k < 2 ^ 31 by omega), h k (by omega)]
    refine ⟨fun q => absurd q (nI_pos (by omega)), fun _ => ⟨vin (by omega) (by decide), fun z14 e14 t15 e15 => ?_⟩⟩
    rw [e15, add_m1]
    have k14 : Kp z z14 := by rw [e14]; exact (Kp.rf z).I 14 32 _ (by unfold keepI; omega)
    have r14 : zR z14 = zR z := by rw [e14]; rfl
    have i33 : zI z14 14 33 = zI z 14 33 := by rw [e14]; rfl
    have i32 : zI z14 14 32 = 10 * zI z 14 32 + nI (f k) := by rw [e14]; rfl
    refine ih z14 (by omega) (fun t ht => by rw [r14]; exact h t (by omega)) (fun z1 k1 r1 a1 b1 => kk z1 (k14.tr k1) (r1.trans r14) (a1.trans i33) ?_)
    rw [b1, i32]
    rfl
theorem m_lines {z0 : ZS} {n : Nat} {O : Nat → Nat → Int32} (hn : n ≤ 5) : ∀ (d e i m : Nat) (pre : List Nat) (z : ZS) (s : Int32) (post : ZS → Prop), d ≤ e → d + i = n → pre.length = i → m < 32 → LI z0 z n O → PX z pre → s = sumA O (gD pre) i 0 0 → (∀ z1, LI z0 z1 n O → PX z1 pre → aZ z1 = (dfs n d m pre).foldl (stM O n) (aZ z) → post z1) → V_X12_lines (e + 1) z (nI n) (nI i) (nI m) s post := by
  intro d
  induction d with
  | zero =>
    intro e i m pre z s post he hi hl hm li px es kk
    have hin : i = n := by omega
    subst hin
    unfold V_X12_lines
    have take : aZ z = aZ z → stM O i (aZ z) pre = (s, digB (gD pre) i 0) → V_X12_lines_22 (V_X12_lines e) post z (nI i) s := fun _ est => by
      unfold V_X12_lines_22
      intro z10 e10 z11 e11 t12 e12
      have k11 : Kp z z11 := by rw [e11, e10]; exact ((Kp.rf z).I 14 33 _ (by unfold keepI; omega)).I 14 32 _ (by unfold keepI; omega)
      have r11 : zR z11 = zR z := by rw [e11, e10]; rfl
      have i33 : zI z11 14 33 = s := by rw [e11, e10]; rfl
      have i32 : zI z11 14 32 = 0 := by rw [e11]; rfl
      rw [e12]
      refine ⟨i + 1, m_dig38 i z11 hn (fun t ht => by rw [r11]; exact px t (by omega)) (fun z1 k1 r1 a1 b1 => kk z1 ⟨li.1.tr (k11.tr k1), fun k t hk ht => by rw [r1, r11]; exact li.2 k t hk ht⟩ (fun t ht => by rw [r1, r11]; exact px t ht) ?_)⟩
      have e2 : (dfs i 0 m pre).foldl (stM O i) (aZ z) = stM O i (aZ z) pre := rfl
      rw [e2, est]
      unfold aZ
      rw [a1, i33, b1, i32]
    refine ⟨fun q => absurd rfl q, fun _ => ⟨fun q => take rfl ?_, fun q => ⟨fun q2 => take rfl ?_, fun q2 => kk z li px ?_⟩⟩⟩
    · unfold stM
      rw [if_pos (show (aZ z).1 < 0 from q), es]
    · unfold stM
      rw [if_neg (show ¬ (aZ z).1 < 0 from q), if_pos (show sumA O (gD pre) i 0 0 < (aZ z).1 by rw [← es]; exact q2), es]
    · have e2 : (dfs i 0 m pre).foldl (stM O i) (aZ z) = stM O i (aZ z) pre := rfl
      rw [e2]
      unfold stM
      rw [if_neg (show ¬ (aZ z).1 < 0 from q), if_neg (show ¬ sumA O (gD pre) i 0 0 < (aZ z).1 by rw [← es]; exact q2)]
  | succ d ih =>
    intro e i m pre z s post he hi hl hm li px es kk
    obtain ⟨e', rfl⟩ : ∃ e', e = e' + 1 := ⟨e - 1, by omega⟩
    have inner : ∀ (r k : Nat) (z : ZS), r + k = n → LI z0 z n O → PX z pre → (∀ z1, LI z0 z1 n O → PX z1 pre → aZ z1 = (dfl (fun k => if m.testBit k then [] else dfs n d (m ||| 2 ^ k) (pre ++ [k])) r k).foldl (stM O n) (aZ z) → post z1) → V_X12_lines_72 (V_X12_lines (e' + 1)) post (r + 1) z (nI n) (nI i) (nI m) s (nI k) := by
      intro r
      induction r with
      | zero =>
        intro k z hk li px kk
        unfold V_X12_lines_72
        exact ⟨fun _ => kk z li px rfl, fun q => absurd (nI_le (by omega) (by omega)) q⟩
      | succ r ihr =>
        intro k z hk li px kk
        unfold V_X12_lines_72 V_X12_lines_127
        obtain ⟨b1, b2, b3⟩ := bit_all m hm k (by omega)
        unfold dfl at kk
        refine ⟨fun q => absurd q (nI_ge (by omega) (by omega)), fun _ => ⟨fun q => ?_, fun q t7 e7 => ?_⟩⟩
        · have nb : ¬ m.testBit k = true := fun c => q (b1.mpr c)
          rw [if_neg nb] at kk
          have e5 : (5 : Int32) * nI k + nI i = nI (5 * k + i) := by
            rw [show (5 : Int32) * nI k = nI (5 * k) from (Int32.ofNat_mul 5 k).symm, nI_add]
          rw [nI_clamp (show i < 2 ^ 31 by omega), e5, nI_clamp (show 5 * k + i < 2 ^ 31 by omega), b2, nI_1]
          refine ⟨vin (by omega) (by decide), fun z4 e4 => ⟨vin (by omega) (by decide), ?_⟩⟩
          have o4 : zR z4 14 30 = zR z 14 30 := by rw [e4]; rfl
          have li4 : LI z0 z4 n O := ⟨by rw [e4]; exact li.1.R 14 31 _ _ (by unfold keepR; omega), fun a b ha hb => by rw [o4]; exact li.2 a b ha hb⟩
          have px4 : PX z4 (pre ++ [k]) := fun t ht => by
            rw [List.length_append, List.length_singleton] at ht
            rw [e4, zR_wR]
            by_cases c : t = i
            · rw [if_pos c, c, ← hl, gD_eq]
            · rw [if_neg c, gD_lt (by omega)]
              exact px t (by omega)
          have hl4 : (pre ++ [k]).length = i + 1 := by rw [List.length_append, List.length_singleton, hl]
          have a4 : aZ z4 = aZ z := by rw [e4]; rfl
          refine ih e' (i + 1) (m ||| 2 ^ k) (pre ++ [k]) z4 _ _ (by omega) (by omega) hl4 b3 li4 px4 ?_ (fun z5 li5 px5 a5 t7 e7 => ?_)
          · rw [o4, li.2 k i (by omega) (by omega), sumA_last, Nat.zero_add, es]
            have eg : gD (pre ++ [k]) i = k := by rw [← hl]; exact gD_eq
            rw [eg]
            congr 1
            exact sumA_congr i 0 0 (fun t _ ht => (gD_lt (by omega)).symm)
          · rw [e7, nI_1]
            refine ihr (k + 1) z5 (by omega) li5 (fun t ht => ?_) (fun z6 li6 px6 a6 => kk z6 li6 px6 ?_)
            · have h := px5 t (by omega)
              rw [gD_lt ht] at h
              exact h
            · rw [a6, a5, a4, List.foldl_append]
        · rw [if_pos (b1.mp q)] at kk
          rw [e7, nI_1]
          exact ihr (k + 1) z (by omega) li px (fun z6 li6 px6 a6 => kk z6 li6 px6 (by rw [a6, List.nil_append]))
    unfold V_X12_lines
    refine ⟨fun _ => ⟨n + 1, inner n 0 z (by omega) li px kk⟩, fun q => ?_⟩
    have := (nI_eq (by omega) (by omega)).mp q
    omega
def orR (a b : T2) : Prop := (a.1 = 2147483647 ∧ b.1 = -4) ∨ (a = b ∧ 0 ≤ b.1.toInt ∧ b.1.toInt ≤ 300000)
theorem sumA_bd {O : Nat → Nat → Int32} {n : Nat} (hn : n ≤ 5) (hO : ∀ k t, k < n → t < n → 0 ≤ (O k t).toInt ∧ (O k t).toInt ≤ 60000) {f : Nat → Nat} (hf : ∀ t, t < n → f t < n) : ∀ (r i : Nat) (s : Int32), r + i = n → (0 ≤ s.toInt ∧ s.toInt ≤ 60000 * i) → 0 ≤ (sumA O f r i s).toInt ∧ (sumA O f r i s).toInt ≤ 300000 := by
  intro r
  induction r with
  | zero => intro i s h hs; show 0 ≤ s.toInt ∧ s.toInt ≤ 300000; omega
  | succ r ih =>
    intro i s h hs
    unfold sumA
    have ho := hO (f i) i (hf i (by omega)) (by omega)
    refine ih (i + 1) _ (by omega) ?_
    rw [Int32.toInt_add, Int.bmod_def]
    split <;> omega
theorem or_st {O : Nat → Nat → Int32} {n : Nat} (hn : n ≤ 5) (hO : ∀ k t, k < n → t < n → 0 ≤ (O k t).toInt ∧ (O k t).toInt ≤ 60000) {p : List Nat} (hp : okP n p = true) {a b : T2} (h : orR a b) : stC O n a p = stM O n b p ∧ 0 ≤ (stM O n b p).1.toInt ∧ (stM O n b p).1.toInt ≤ 300000 := by
  have hv := okP_v hp
  have hb := sumA_bd hn hO hv.1 n 0 0 (by omega) (by rw [i_0]; omega)
  unfold stC stM
  rw [hv.2]
  rcases h with ⟨e1, e2⟩ | ⟨e1, e2, e3⟩
  · have n1 : ¬ a.1 ≤ sumA O (gD p) n 0 0 := fun q => by rw [e1, Int32.le_iff_toInt_le, show (2147483647 : Int32).toInt = 2147483647 by decide] at q; omega
    rw [if_neg n1, if_pos (by rw [e2]; decide)]
    exact ⟨rfl, hb⟩
  · subst e1
    have n1 : ¬ a.1 < 0 := fun q => by rw [Int32.lt_iff_toInt_lt, i_0] at q; omega
    rw [if_neg n1]
    by_cases c : a.1 ≤ sumA O (gD p) n 0 0
    · have n2 : ¬ sumA O (gD p) n 0 0 < a.1 := fun q => by rw [Int32.lt_iff_toInt_lt] at q; rw [Int32.le_iff_toInt_le] at c; omega
      rw [if_pos c, if_neg n2]
      exact ⟨rfl, e2, e3⟩
    · have n2 : sumA O (gD p) n 0 0 < a.1 := by rw [Int32.le_iff_toInt_le] at c; rw [Int32.lt_iff_toInt_lt]; omega
      rw [if_neg c, if_pos n2]
      exact ⟨rfl, hb⟩
theorem or_fold {O : Nat → Nat → Int32} {n : Nat} (hn : n ≤ 5) (hO : ∀ k t, k < n → t < n → 0 ≤ (O k t).toInt ∧ (O k t).toInt ≤ 60000) : ∀ (L : List (List Nat)) (p : List Nat) (a b : T2), (p :: L).all (okP n) = true → orR a b → (p :: L).foldl (stC O n) a = (p :: L).foldl (stM O n) b := by
  intro L
  induction L with
  | nil =>
    intro p a b hok h
    exact (or_st hn hO (List.all_eq_true.mp hok p List.mem_cons_self) h).1
  | cons q L ih =>
    intro p a b hok h
    have s := or_st hn hO (List.all_eq_true.mp hok p List.mem_cons_self) h
    rw [List.all_cons, Bool.and_eq_true] at hok
    rw [List.foldl_cons, List.foldl_cons]
    exact ih q _ _ hok.2 (Or.inr ⟨s.1, s.2⟩)
theorem sk_14 : SK_14 Rel := by
  intro z p1 p2 p3 p4 p5 hR
  unfold V_X11_order
  rcases scase p1 with sb | ⟨d, hd, rfl⟩
  · refine c_sB sb ⟨fun _ => ?_, fun a q => by cases q⟩
    unfold V_X12_order
    exact m_sB sb (no0 ⟨rfl, hR⟩)
  refine c_sO hd ⟨fun q => (by cases q), fun a q => ?_⟩
  cases q
  refine ⟨isS_of hd, ?_⟩
  have mm : ∀ (z1 : ZS) (post : Int32 → ZS → Prop), (¬ (EG p2 ∧ EG p3 ∧ (1 ≤ p4.toInt ∧ p4.toInt ≤ 20) ∧ 0 ≤ p5.toInt ∧ p5.toInt ≤ 1) → post (-1) z1) → (EG p2 → EG p3 → (1 ≤ p4.toInt ∧ p4.toInt ≤ 20) → (0 ≤ p5.toInt ∧ p5.toInt ≤ 1) → V_X12_wrongLoad z1 (nI d) (fun r17 z16 => ((r17 = 0 → (∃ n36 : Nat, V_X12_order_68 post n36 z16 (nI d) p3 p4 p5 p2 (0 : Int32))) ∧ (¬ r17 = 0 → post r17 z16)))) → V_X12_order z1 (nI d) p2 p3 p4 p5 post := fun z1 post h0 h1 => by
    unfold V_X12_order
    exact m_sO hd (no1 (ge_edge (fun c1 => no1 (ge_edge (fun c2 => no1 (ge_in 1 20 rfl rfl (fun c3 => no1 (ge_in 0 1 rfl rfl (fun c4 => on1 (h1 c1 c2 c3 c4)) (fun c => on0 (h0 (fun q => c q.2.2.2))))) (fun c => no0 (h0 (fun q => c q.2.2.1))))) (fun c => no0 (h0 (fun q => c q.2.1))))) (fun c => no0 (h0 (fun q => c q.1)))))
  have bad : ¬ (EG p2 ∧ EG p3 ∧ (1 ≤ p4.toInt ∧ p4.toInt ≤ 20) ∧ 0 ≤ p5.toInt ∧ p5.toInt ≤ 1) → V_X12_order z (nI d) p2 p3 p4 p5 (fun r2 z2 => r2 = -1 ∧ Rel z2) := fun q => mm z _ (fun _ => ⟨rfl, hR⟩) (fun c1 c2 c3 c4 => absurd ⟨c1, c2, c3, c4⟩ q)
  refine ge_place (fun c1 c2 => no1 (ge_gap (fun c3 => no1 (ge_from 0 1 rfl rfl (fun c4 => on1 ?_) (fun c => on0 (bad (fun q => c q.2.2.2))))) (fun c => no0 (bad (fun q => c q.2.2.1))))) (fun c => no0 (bad (fun q => c ⟨q.1, q.2.1⟩)))
  rcases lcase hR hd with ⟨r, r0, hc, hm⟩ | ⟨n, g, hc, -⟩
  · exact hc _ ⟨fun q => absurd q r0, fun _ => mm z _ (fun q => absurd ⟨c1, c2, c3, c4⟩ q) (fun _ _ _ _ => hm _ ⟨fun q => absurd q r0, fun _ => ⟨rfl, hR⟩⟩)⟩
  have hn := g.2.1
  have hn5 : 1 ≤ n ∧ n ≤ 5 := ⟨hn.1, hn.2.1⟩
  have inn : (nI n).toInt = n := nI_toInt (by omega)
  have min5 : ∀ z1, Kp z z1 → (if (5 : Int32) < (zI z1 (6 + d) 3) then (5 : Int32) else (zI z1 (6 + d) 3)) = nI n := fun z1 k1 => by
    rw [(g.kp k1 hd).1.2.2.2.2.2.2.1]
    exact if_neg (fun q => by rw [Int32.lt_iff_toInt_lt, inn, show (5 : Int32).toInt = 5 by decide] at q; omega)
  obtain ⟨h1, h2, h3, h4⟩ := pl_all n (by omega) hn.1
  obtain ⟨PL, hPL⟩ : ∃ PL, dfs n n 0 [] = PL := ⟨_, rfl⟩
  rw [hPL] at h1 h2 h3 h4
  cases PL with
  | nil => cases h3
  | cons p L =>
    have hp : p = List.range n := Option.some.inj h3
    refine hc _ ⟨fun _ => ?_, fun q => absurd rfl q⟩
    unfold V_X11_tellOffs
    intro t1 e1
    rw [min5 z (Kp.rf z)] at e1
    subst e1
    have hO : ∀ k t, k < n → t < n → 0 ≤ (orO z d p2 p3 p4 k t).toInt ∧ (orO z d p2 p3 p4 k t).toInt ≤ 60000 := fun k t hk ht => by
      obtain ⟨f, a, gf⟩ := g.2.2 k hk
      unfold orO
      rw [eF_of gf]
      exact off_bd (LA_I hR gf.2.2.2.2.2 (hB_bd _) c2 1)
    refine ⟨n + 1, c_tell13 hd hR g c2 (fun z1 k1 o1 => ?_) n 0 z (by omega) (Kp.rf z) (fun k t hk ht hk0 => by omega)⟩
    intro t18 e18
    rw [min5 z1 k1] at e18
    subst e18
    refine ⟨5 + 1, c_or80 5 0 z1 rfl (fun t ht => by omega) (fun z2 w2 pl2 => ?_)⟩
    have k2 := k1.tr w2.1
    refine ⟨L.length + 2, c_or114 (z0 := z) (O := orO z d p2 p3 p4) hn5 L p 0 z2 (2147483647, 0) h1 h4 (by rw [List.length_cons] at h2; omega) k2 (fun k t hk ht => by rw [w2.2]; exact o1 k t hk ht) (fun t ht => ?_) (fun z3 k3 => ?_)⟩
    · rw [hp, range_all n (by omega) t ht]
      exact pl2 t (by omega)
    · have hR3 := hR.kp k3
      have g3 := g.kp k3 hd
      obtain ⟨A, hA⟩ : ∃ A, (p :: L).foldl (stC (orO z d p2 p3 p4) n) (2147483647, 0) = A := ⟨_, rfl⟩
      rw [hA]
      have go : ∀ post : Int32 → ZS → Prop, (∀ z5, Kp z3 z5 → aZ z5 = A → ((¬ p5 = 0 → post (zI z5 14 33) z5) ∧ (p5 = 0 → post (zI z5 14 32) z5))) → V_X12_order z3 (nI d) p2 p3 p4 p5 post := fun post k => by
        refine mm z3 post (fun q => absurd ⟨c1, c2, c3, c4⟩ q) (fun _ _ _ _ => g3.m hR3 hd ⟨fun _ => ?_, fun q => absurd rfl q⟩)
        have h := m_or68 hd hR3 g3 c1 c2 c3 (w := p5) (post := post) (fun z4 k4 o4 z20 e20 => by
          have k20 : Kp z3 z20 := by rw [e20]; exact k4.I 14 33 _ (by unfold keepI; omega)
          have r20 : zR z20 = zR z4 := by rw [e20]; rfl
          have a20 : aZ z20 = (-4, zI z20 14 32) := by unfold aZ; rw [e20]; rfl
          refine m_lines (z0 := z3) (O := orO z d p2 p3 p4) hn5.2 n 5 0 0 [] z20 0 _ (by omega) rfl rfl (by decide) ⟨k20, fun k t hk ht => ?_⟩ (fun t ht => absurd ht (Nat.not_lt_zero t)) rfl (fun z5 li5 px5 a5 => k z5 li5.1 ?_)
          · rw [r20, o4 k t hk ht, orO_kp k3]
          · rw [a5, hPL, a20, ← hA]
            exact (or_fold hn5.2 hO L p (2147483647, 0) (-4, zI z20 14 32) h4 (Or.inl ⟨rfl, rfl⟩)).symm) n 0 z3 (by omega) (Kp.rf z3) (fun k t hk ht h0 => by omega)
        rw [show 0 - 1 = 0 from rfl, xG_0 c1] at h
        exact ⟨n + 1, h⟩
      unfold V_X11_order_167
      exact ⟨fun w0 => go _ (fun z5 k5 a5 => ⟨fun _ => ⟨congrArg Prod.fst a5, hR3.kp k5⟩, fun q => absurd q w0⟩), fun w0 => go _ (fun z5 k5 a5 => ⟨fun q => absurd w0 q, fun _ => ⟨congrArg Prod.snd a5, hR3.kp k5⟩⟩)⟩
