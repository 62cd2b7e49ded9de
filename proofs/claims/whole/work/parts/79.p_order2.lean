/-! PURE, part 30: order of the class -/
def PLC (z : ZS) (n : Nat) (f : Nat → Nat) : Prop := ∀ t, t < n → zR z 0 8 t = nI (f t)
def OFS (z : ZS) (n : Nat) (O : Nat → Nat → Int32) : Prop := ∀ k t, k < n → t < n → zR z 0 7 (5 * k + t) = O k t
/-- but for places (and what Rel doesn't speak of) nothing has changed -/
def W8 (z z1 : ZS) : Prop := Kp z z1 ∧ zR z1 0 7 = zR z 0 7
theorem W8.rf (z : ZS) : W8 z z := ⟨Kp.rf z, rfl⟩
theorem W8.tr {z z1 z2 : ZS} (h : W8 z z1) (g : W8 z1 z2) : W8 z z2 := ⟨h.1.tr g.1, g.2.trans h.2⟩
theorem c_swap {z : ZS} {n i j : Nat} {f : Nat → Nat} (hn : n ≤ 5) (hi : i < n) (hj : j < n) (h : PLC z n f) {post : ZS → Prop} (kk : ∀ z1, W8 z z1 → PLC z1 n (swF f i j) → post z1) : V_X11_swapPlaces z (nI i) (nI j) post := by
  unfold V_X11_swapPlaces
  rw [nI_clamp (show i < 2 ^ 31 by omega), nI_clamp (show j < 2 ^ 31 by omega)]
  refine ⟨vin (by omega) (by decide), fun t1 e1 => ⟨vin (by omega) (by decide), vin (by omega) (by decide), fun z2 e2 => ⟨vin (by omega) (by decide), fun z3 e3 => ?_⟩⟩⟩
  refine kk z3 ⟨?_, ?_⟩ ?_
  · rw [e3, e2]
    exact ((Kp.rf z).R 0 8 _ _ (by unfold keepR; omega)).R 0 8 _ _ (by unfold keepR; omega)
  · rw [e3, e2]; rfl
  · intro t ht
    rw [e3, zR_wR, e2, zR_wR, e1]
    unfold swF
    by_cases c : t = j
    · rw [if_pos c, if_pos c]; exact h i hi
    · rw [if_neg c, if_neg c]
      by_cases c2 : t = i
      · rw [if_pos c2, if_pos c2]; exact h j hj
      · rw [if_neg c2, if_neg c2]; exact h t ht
theorem add_m1 (a : Int32) : a + (-1 : Int32) = a - 1 := (Int32.sub_eq_add_neg a 1).symm
theorem c_rev {n : Nat} (hn : n ≤ 5) {post : Int32 → ZS → Prop} : ∀ (r a b : Nat) (z : ZS) (f : Nat → Nat), b ≤ a + r → a < 10 → b < n → PLC z n f → (∀ z1, W8 z z1 → PLC z1 n (revF r a b f) → post 1 z1) → V_X11_nextOrder_93 post (r + 1) z (nI a) (nI b) := by
  intro r
  induction r with
  | zero =>
    intro a b z f h ha hb hp kk
    unfold V_X11_nextOrder_93
    exact ⟨fun _ => kk z (W8.rf z) hp, fun q => absurd (nI_le (by omega) (by omega)) q⟩
  | succ r ih =>
    intro a b z f h ha hb hp kk
    unfold V_X11_nextOrder_93
    unfold revF at kk
    refine ⟨fun q => ?_, fun q => ?_⟩
    · have c : b ≤ a := (nI_leI (by omega) (by omega)).mp q
      rw [if_pos c] at kk
      exact kk z (W8.rf z) hp
    · have c : ¬ b ≤ a := fun r => q (nI_le r (by omega))
      rw [if_neg c] at kk
      refine c_swap hn (by omega) hb hp (fun z1 w1 p1 t14 e14 t15 e15 => ?_)
      have e15 : t15 = nI (b - 1) := by
        rw [e15, add_m1]
        obtain ⟨b', rfl⟩ : ∃ b', b = b' + 1 := ⟨b - 1, by omega⟩
        rw [nI_pred]
        rfl
      rw [e14, e15, nI_1]
      exact ih (a + 1) (b - 1) z1 _ (by omega) (by omega) (by omega) p1 (fun z2 w2 p2 => kk z2 (w1.tr w2) p2)
theorem c_par {n : Nat} (hn : n ≤ 5) {z : ZS} {f : Nat → Nat} {pv : Nat} (hpv : pv + 1 < n) (hp : PLC z n f) (hv : ∀ t, t < n → f t < n) {post : Int32 → ZS → Prop} : ∀ (r i par : Nat), r + i = n → par < n → (∀ z1, W8 z z1 → PLC z1 n (revF n (pv + 1) (n - 1) (swF f pv (parF f pv r i par))) → post 1 z1) → V_X11_nextOrder_46 post (r + 1) z (nI n) (nI pv) (nI par) (nI i) := by
  intro r
  induction r with
  | zero =>
    intro i par e hpar kk
    unfold V_X11_nextOrder_46
    refine ⟨fun _ => c_swap hn (by omega) hpar hp (fun z1 w1 p1 t9 e9 t10 e10 => ?_), fun q => absurd (nI_le (by omega) (by omega)) q⟩
    obtain ⟨n', rfl⟩ : ∃ n', n = n' + 1 := ⟨n - 1, by omega⟩
    rw [nI_pred] at e10
    rw [e9, e10, nI_1]
    exact ⟨n' + 1 + 1, c_rev hn (n' + 1) (pv + 1) n' z1 _ (by omega) (by omega) (by omega) p1 (fun z2 w2 p2 => kk z2 (w1.tr w2) p2)⟩
  | succ r ih =>
    intro i par e hpar kk
    unfold V_X11_nextOrder_46 V_X11_nextOrder_71
    rw [nI_clamp (show i < 2 ^ 31 by omega), nI_clamp (show pv < 2 ^ 31 by omega), hp i (by omega), hp pv (by omega)]
    have v1 := hv i (by omega)
    have v2 := hv pv (by omega)
    unfold parF at kk
    refine ⟨fun q => absurd q (nI_ge (by omega) (by omega)), fun _ => ⟨vin (by omega) (by decide), vin (by omega) (by decide), fun q t18 e18 => ?_, fun q t18 e18 => ?_⟩⟩
    · rw [if_pos ((nI_leI (by omega) (by omega)).mp q)] at kk
      rw [e18, nI_1]
      exact ih (i + 1) par (by omega) hpar kk
    · rw [if_neg (fun c => q (nI_le c (by omega)))] at kk
      rw [e18, nI_1]
      exact ih (i + 1) i (by omega) (by omega) kk
theorem c_piv {n : Nat} (hn : n ≤ 5) {z : ZS} {f : Nat → Nat} (hp : PLC z n f) (hv : ∀ t, t < n → f t < n) {post : Int32 → ZS → Prop} : ∀ (k : Nat), k < n → (pivF f k = none → post 0 z) → (∀ pv, pivF f k = some pv → pv < k → V_X11_nextOrder_31 post z (nI n) (nI pv)) → V_X11_nextOrder_4 post (k + 1) z (nI n) (nI k - 1) := by
  intro k
  induction k with
  | zero =>
    intro hk h0 h1
    unfold V_X11_nextOrder_4
    have e : nI 0 - 1 = (-1 : Int32) := by decide
    rw [e]
    refine ⟨fun _ => ?_, fun q => absurd (by decide) q⟩
    unfold V_X11_nextOrder_31
    exact ⟨fun q => absurd q (by decide), fun _ => h0 rfl⟩
  | succ k ih =>
    intro hk h0 h1
    unfold V_X11_nextOrder_4
    rw [nI_pred]
    have v1 := hv k (by omega)
    have v2 := hv (k + 1) (by omega)
    rw [nI_1, nI_clamp (show k < 2 ^ 31 by omega), nI_clamp (show k + 1 < 2 ^ 31 by omega), hp k (by omega), hp (k + 1) (by omega)]
    unfold pivF at h0 h1
    refine ⟨fun q => absurd q (nI_pos (by omega)), fun _ => ⟨vin (by omega) (by decide), vin (by omega) (by decide), fun q => ?_, fun q t21 e21 => ?_⟩⟩
    · have c : f k ≤ f (k + 1) := (nI_leI (by omega) (by omega)).mp q
      exact h1 k (by rw [if_pos c]) (by omega)
    · have c : ¬ f k ≤ f (k + 1) := fun c => q (nI_le c (by omega))
      rw [if_neg c] at h0
      rw [e21, add_m1]
      exact ih (by omega) h0 (fun pv e hlt => h1 pv (by rw [if_neg c]; exact e) (by omega))
theorem c_next {n : Nat} (hn : 1 ≤ n ∧ n ≤ 5) {z : ZS} {f : Nat → Nat} (hp : PLC z n f) (hv : ∀ t, t < n → f t < n) {post : Int32 → ZS → Prop} (h0 : nxF n f = none → post 0 z) (h1 : ∀ g, nxF n f = some g → ∀ z1, W8 z z1 → PLC z1 n g → post 1 z1) : V_X11_nextOrder z (nI n) post := by
  unfold V_X11_nextOrder
  intro t1 e1
  obtain ⟨k, rfl⟩ : ∃ k, n = k + 1 := ⟨n - 1, by omega⟩
  have ek : ∀ k, k < 5 → nI (k + 1) - 2 = nI k - 1 := by decide +kernel
  rw [ek k (by omega)] at e1
  rw [e1]
  refine ⟨k + 1, c_piv hn.2 hp hv k (by omega) (fun q => h0 ?_) (fun pv q hlt => ?_)⟩
  · unfold nxF
    rw [show k + 1 - 1 = k from rfl, q]
  · unfold V_X11_nextOrder_31
    refine ⟨fun _ t4 e4 t5 e5 => ?_, fun q2 => absurd (nI_pos' (by omega)) q2⟩
    have e5 : t5 = nI (pv + 2) := by rw [e5]; exact nI_add pv 2
    rw [e4, e5, nI_1]
    refine ⟨k + 1 - (pv + 2) + 1, c_par hn.2 (by omega) hp hv (k + 1 - (pv + 2)) (pv + 2) (pv + 1) (by omega) (by omega) (fun z1 w1 p1 => h1 _ ?_ z1 w1 p1)⟩
    unfold nxF
    rw [show k + 1 - 1 = k from rfl, q]
theorem c_sum {n : Nat} (hn : n ≤ 5) {z : ZS} {f : Nat → Nat} {O : Nat → Nat → Int32} (hp : PLC z n f) (ho : OFS z n O) (hv : ∀ t, t < n → f t < n) {post : Int32 → ZS → Prop} : ∀ (r i : Nat) (s : Int32), r + i = n → post (sumA O f r i s) z → V_X11_sumOfOrder_4 post (r + 1) z (nI n) s (nI i) := by
  intro r
  induction r with
  | zero =>
    intro i s e kk
    unfold V_X11_sumOfOrder_4
    exact ⟨fun _ => kk, fun q => absurd (nI_le (by omega) (by omega)) q⟩
  | succ r ih =>
    intro i s e kk
    unfold V_X11_sumOfOrder_4
    have v := hv i (by omega)
    have ei : nI (f i) * (5 : Int32) + nI i = nI (5 * f i + i) := by
      rw [show nI (f i) * (5 : Int32) = nI (f i * 5) from (Int32.ofNat_mul (f i) 5).symm, nI_add, Nat.mul_comm]
    rw [nI_clamp (show i < 2 ^ 31 by omega), hp i (by omega), ei, nI_clamp (show 5 * f i + i < 2 ^ 31 by omega), ho (f i) i v (by omega)]
    refine ⟨fun q => absurd q (nI_ge (by omega) (by omega)), fun _ => ⟨vin (by omega) (by decide), vin (by omega) (by decide), fun t2 e2 t3 e3 => ?_⟩⟩
    rw [e2, e3, nI_1]
    exact ih (i + 1) _ (by omega) kk
theorem c_dig {n : Nat} (hn : n ≤ 5) {z : ZS} {f : Nat → Nat} (hp : PLC z n f) {post : Int32 → ZS → Prop} : ∀ (r i : Nat) (s w : Int32), r + i = n → post (digA f r i s w) z → V_X11_digitsOfOrder_7 post (r + 1) z (nI n) s w (nI i) := by
  intro r
  induction r with
  | zero =>
    intro i s w e kk
    unfold V_X11_digitsOfOrder_7
    exact ⟨fun _ => kk, fun q => absurd (nI_le (by omega) (by omega)) q⟩
  | succ r ih =>
    intro i s w e kk
    unfold V_X11_digitsOfOrder_7
    rw [nI_clamp (show i < 2 ^ 31 by omega), hp i (by omega)]
    refine ⟨fun q => absurd q (nI_ge (by omega) (by omega)), fun _ => ⟨vin (by omega) (by decide), fun t2 e2 t3 e3 t4 e4 => ?_⟩⟩
    rw [e2, e3, e4, nI_1]
    exact ih (i + 1) _ _ (by omega) kk
def stC (O : Nat → Nat → Int32) (n : Nat) (a : T2) (p : List Nat) : T2 := if a.1 ≤ sumA O (gD p) n 0 0 then a else (sumA O (gD p) n 0 0, digA (gD p) n 0 0 1)
theorem okP_v {n : Nat} {p : List Nat} (h : okP n p = true) : (∀ t, t < n → gD p t < n) ∧ digA (gD p) n 0 0 1 = digB (gD p) n 0 := by
  unfold okP at h
  rw [Bool.and_eq_true] at h
  refine ⟨fun t ht => ?_, eq_of_beq h.2⟩
  have := List.all_eq_true.mp h.1 t (List.mem_range.mpr ht)
  exact of_decide_eq_true this
theorem c_or114 {z0 : ZS} {n : Nat} (hn : 1 ≤ n ∧ n ≤ 5) {O : Nat → Nat → Int32} {w : Int32} {post : Int32 → ZS → Prop} : ∀ (L : List (List Nat)) (p : List Nat) (k : Nat) (z : ZS) (c : T2), chB n (p :: L) = true → (p :: L).all (okP n) = true → k + L.length + 1 ≤ 120 → Kp z0 z → OFS z n O → PLC z n (gD p) → (∀ z1, Kp z0 z1 → V_X11_order_167 post z1 w ((p :: L).foldl (stC O n) c).1 ((p :: L).foldl (stC O n) c).2) → V_X11_order_114 post (L.length + 2) z w (nI n) c.1 c.2 1 (nI k) := by
  intro L
  induction L with
  | nil =>
    intro p k z c hch hok hk o ho hp kk
    unfold V_X11_order_114 V_X11_order_153
    have hv := okP_v (List.all_eq_true.mp hok p List.mem_cons_self)
    have hi : ¬ (120 : Int32) ≤ nI k := fun q => by
      rw [Int32.le_iff_toInt_le, nI_toInt (by simp at hk; omega), show (120 : Int32).toInt = 120 by decide] at q
      simp at hk
      omega
    have enx : nxF n (gD p) = none := by
      unfold chB at hch
      rw [Bool.and_eq_true] at hch
      have h := hch.1
      unfold isNx at h
      cases hx : nxF n (gD p) with
      | none => rfl
      | some g => rw [hx] at h; simp at h
    have next : ∀ a b : Int32, stC O n c p = (a, b) → ∀ z1 : ZS, Kp z0 z1 → OFS z1 n O → PLC z1 n (gD p) → V_X11_nextOrder z1 (nI n) (fun r27 z26 => (∀ t28 : Int32, t28 = nI k + (1 : Int32) → V_X11_order_114 post 1 z26 w (nI n) a b r27 t28)) := fun a b e z1 o1 ho1 hp1 => by
      refine c_next hn hp1 hv.1 (fun _ t28 e28 => ?_) (fun g q => absurd q (by rw [enx]; exact fun q => by cases q))
      have h := kk z1 o1
      have e2 : [p].foldl (stC O n) c = (a, b) := e
      rw [e2] at h
      unfold V_X11_order_114
      exact ⟨fun _ => h, fun _ => ⟨fun _ => h, fun q => absurd rfl q⟩⟩
    refine ⟨fun q => absurd q hi, fun _ => ⟨fun q => absurd q one_ne, fun _ => ⟨n + 1, c_sum hn.2 hp ho hv.1 n 0 0 (by omega) ⟨fun q => ?_, fun q => ⟨n + 1, c_dig hn.2 hp n 0 0 1 (by omega) ?_⟩⟩⟩⟩⟩
    · exact next c.1 c.2 (if_pos q) z o ho hp
    · exact next _ _ (if_neg q) z o ho hp
  | cons q L ih =>
    intro p k z c hch hok hk o ho hp kk
    unfold V_X11_order_114 V_X11_order_153
    have hv := okP_v (List.all_eq_true.mp hok p List.mem_cons_self)
    have hk2 : k + (L.length + 1) + 1 ≤ 120 := hk
    have hi : ¬ (120 : Int32) ≤ nI k := fun q => by
      rw [Int32.le_iff_toInt_le, nI_toInt (by omega), show (120 : Int32).toInt = 120 by decide] at q
      omega
    have hch2 : isNx n p (some q) = true ∧ chB n (q :: L) = true := by
      unfold chB at hch
      rw [Bool.and_eq_true] at hch
      exact hch
    have hok2 : (q :: L).all (okP n) = true := by
      rw [List.all_cons, Bool.and_eq_true] at hok
      exact hok.2
    obtain ⟨g, enx, hg⟩ : ∃ g, nxF n (gD p) = some g ∧ ∀ t, t < n → g t = gD q t := by
      have h := hch2.1
      unfold isNx at h
      cases hx : nxF n (gD p) with
      | none => rw [hx] at h; simp at h
      | some g =>
        rw [hx] at h
        refine ⟨g, rfl, fun t ht => ?_⟩
        exact eq_of_beq (List.all_eq_true.mp h t (List.mem_range.mpr ht))
    have next : ∀ c' : T2, stC O n c p = c' → ∀ z1 : ZS, Kp z0 z1 → OFS z1 n O → PLC z1 n (gD p) → V_X11_nextOrder z1 (nI n) (fun r27 z26 => (∀ t28 : Int32, t28 = nI k + (1 : Int32) → V_X11_order_114 post (L.length + 2) z26 w (nI n) c'.1 c'.2 r27 t28)) := fun c' e z1 o1 ho1 hp1 => by
      refine c_next hn hp1 hv.1 (fun q => absurd q (by rw [enx]; exact fun q => by cases q)) (fun g' eg z2 w2 p2 t28 e28 => ?_)
      rw [enx] at eg
      cases eg
      rw [e28, nI_1]
      refine ih q (k + 1) z2 c' hch2.2 hok2 (by omega) (o1.tr w2.1) (fun a b ha hb => by rw [w2.2]; exact ho1 a b ha hb) (fun t ht => by rw [p2 t ht, hg t ht]) (fun z3 o3 => ?_)
      have h := kk z3 o3
      have e2 : (p :: q :: L).foldl (stC O n) c = (q :: L).foldl (stC O n) c' := by rw [List.foldl_cons, e]
      rw [e2] at h
      exact h
    refine ⟨fun q => absurd q hi, fun _ => ⟨fun q => absurd q one_ne, fun _ => ⟨n + 1, c_sum hn.2 hp ho hv.1 n 0 0 (by omega) ⟨fun q => ?_, fun q => ⟨n + 1, c_dig hn.2 hp n 0 0 1 (by omega) ?_⟩⟩⟩⟩⟩
    · exact next c (if_pos q) z o ho hp
    · exact next (sumA O (gD p) n 0 0, digA (gD p) n 0 0 1) (if_neg q) z o ho hp
theorem range_all : ∀ n, n < 6 → ∀ t, t < n → gD (List.range n) t = t := by decide +kernel
theorem c_or80 {n : Nat} {w : Int32} {post : Int32 → ZS → Prop} : ∀ (r i : Nat) (z : ZS), r + i = 5 → (∀ t, t < i → zR z 0 8 t = nI t) → (∀ z1, W8 z z1 → (∀ t, t < 5 → zR z1 0 8 t = nI t) → ∃ n31 : Nat, V_X11_order_114 post n31 z1 w (nI n) (2147483647 : Int32) (0 : Int32) (1 : Int32) (0 : Int32)) → V_X11_order_80 post (r + 1) z w (nI n) (nI i) := by
  intro r
  induction r with
  | zero =>
    intro i z e h kk
    unfold V_X11_order_80
    have hi : i = 5 := by omega
    subst hi
    exact ⟨fun _ => kk z (W8.rf z) h, fun q => absurd (by decide : (5 : Int32) ≤ nI 5) q⟩
  | succ r ih =>
    intro i z e h kk
    unfold V_X11_order_80
    have hi : ¬ (5 : Int32) ≤ nI i := fun q => by
      rw [Int32.le_iff_toInt_le, nI_toInt (by omega), show (5 : Int32).toInt = 5 by decide] at q
      omega
    refine ⟨fun q => absurd q hi, fun _ => ⟨vin (by omega) (by decide), fun z32 e32 t33 e33 => ?_⟩⟩
    rw [nI_clamp (show i < 2 ^ 31 by omega)] at e32
    have w32 : W8 z z32 := by
      rw [e32]
      exact ⟨(Kp.rf z).R 0 8 _ _ (by unfold keepR; omega), rfl⟩
    rw [e33, nI_1]
    refine ih (i + 1) z32 (by omega) (fun t ht => ?_) (fun z1 w1 h1 => kk z1 (w32.tr w1) h1)
    rw [e32, zR_wR]
    by_cases c : t = i
    · rw [if_pos c, c]
    · rw [if_neg c]; exact h t (by omega)
