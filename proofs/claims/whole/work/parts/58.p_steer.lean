/-! PURE, part 9: steering, one function for both -/
def am (v : Int32) : Int32 := if 0 ≤ v then v else 0 - v
theorem m_amount {z : ZS} {v : Int32} {post : Int32 → ZS → Prop} (h : post (am v) z) : V_X12_amount z v post := by
  unfold V_X12_amount
  unfold am at h
  refine ⟨fun c => ?_, fun c => ?_⟩
  · rw [if_pos c] at h; exact h
  · rw [if_neg c, Int32.zero_sub] at h; exact h
def lsr (a b : Int32) : Int32 := if b < a then b else a
theorem m_lesser {z : ZS} {a b : Int32} {post : Int32 → ZS → Prop} (h : post (lsr a b) z) : V_X12_lesser z a b post := by
  unfold V_X12_lesser
  unfold lsr at h
  refine ⟨fun c => ?_, fun c => ?_⟩
  · by_cases q : b < a
    · rw [if_pos q] at h; exact h
    · rw [if_neg q] at h
      have e : a = b := by
        apply Int32.toInt_inj.mp
        rw [Int32.lt_iff_toInt_lt] at q
        rw [Int32.le_iff_toInt_le] at c
        omega
      rw [e] at h; exact h
  · rw [if_neg (fun q => c (by rw [Int32.lt_iff_toInt_lt] at q; rw [Int32.le_iff_toInt_le]; omega))] at h; exact h
/-- a step toward the line -/
def stepB (pace v : Int32) : Int32 := if v ≤ 0 then lsr pace (am v) else - lsr pace (am v)
/-- the sign -/
def sgn (w : Int32) : Int32 := if 0 < w then 1 else if w < 0 then -1 else 0
def isT (k f x y : Int32) : Prop := ¬ k = 1 ∧ ¬ k = 7 ∧ (k = 4 ∨ k = 5 → (100 * f < am x ∨ 100 * f < am y))
def alX (k x y e n : Int32) : Prop := if k = 5 then am e < am n else if k = 6 then ¬ am e < am n else ¬ am x < am y
def stp (k f v w : Int32) : Int32 := if k = 6 then sgn w * paceB k f else stepB (paceB k f) v
noncomputable def stE (k f x y e n : Int32) : Int32 := by
  classical
  exact if isT k f x y ∧ alX k x y e n then stp k f x e else 0
noncomputable def stN (k f x y e n : Int32) : Int32 := by
  classical
  exact if isT k f x y ∧ ¬ alX k x y e n then stp k f y n else 0
theorem stE_pos {k f x y e n : Int32} (h1 : isT k f x y) (h2 : alX k x y e n) : stE k f x y e n = stp k f x e := if_pos ⟨h1, h2⟩
theorem stE_neg {k f x y e n : Int32} (h : ¬ (isT k f x y ∧ alX k x y e n)) : stE k f x y e n = 0 := if_neg h
theorem stN_pos {k f x y e n : Int32} (h1 : isT k f x y) (h2 : ¬ alX k x y e n) : stN k f x y e n = stp k f y n := if_pos ⟨h1, h2⟩
theorem stN_neg {k f x y e n : Int32} (h : ¬ (isT k f x y ∧ ¬ alX k x y e n)) : stN k f x y e n = 0 := if_neg h
-- the class
theorem c_isT {z : ZS} {a : Nat} {k f o x y : Int32} (g : FA z a k f o) {post : Int32 → ZS → Prop} (h1 : isT k f x y → post 1 z) (h0 : ¬ isT k f x y → post 0 z) : Vd_isToSteer z a x y post := by
  obtain ⟨hP, hk, e, hf, -⟩ := g
  subst e
  unfold Vd_isToSteer
  have four : zK z a = 4 ∨ zK z a = 5 → V_X6_isToSteer z a x y post := fun q => by
    unfold V_X6_isToSteer V_X6_isToSteer_28
    rw [hf]
    have n1 : ¬ nI (zK z a) = 1 := by rcases q with q | q <;> rw [q] <;> decide
    have n7 : ¬ nI (zK z a) = 7 := by rcases q with q | q <;> rw [q] <;> decide
    have k45 : nI (zK z a) = 4 ∨ nI (zK z a) = 5 := by rcases q with q | q <;> rw [q] <;> decide
    refine ⟨hP, fun c => h1 ⟨n1, n7, fun _ => Or.inl c⟩, fun c => ⟨hP, fun c2 => h0 (fun r => ?_), fun c2 => h1 ⟨n1, n7, fun _ => Or.inr ?_⟩⟩⟩
    · rcases r.2.2 k45 with r | r
      · exact c r
      · rw [Int32.lt_iff_toInt_lt] at r
        rw [Int32.le_iff_toInt_le] at c2
        unfold am at r
        omega
    · rw [Int32.lt_iff_toInt_lt]
      rw [Int32.le_iff_toInt_le] at c2
      unfold am
      omega
  rcases kcase hk with q | q | q | q | q | q | q | q
  · rw [q] at h1 ⊢; exact h1 ⟨by decide, by decide, fun r => absurd r (by decide)⟩
  · rw [q] at h0 ⊢; exact h0 (fun r => r.1 rfl)
  · rw [q] at h1 ⊢; exact h1 ⟨by decide, by decide, fun r => absurd r (by decide)⟩
  · rw [q] at h1 ⊢; exact h1 ⟨by decide, by decide, fun r => absurd r (by decide)⟩
  · have := four (Or.inl q); rw [q]; exact this
  · have := four (Or.inr q); rw [q]; exact this
  · rw [q] at h1 ⊢; exact h1 ⟨by decide, by decide, fun r => absurd r (by decide)⟩
  · rw [q] at h0 ⊢; exact h0 (fun r => r.2.1 rfl)
theorem c_alX {z : ZS} {a : Nat} {k f o x y e n : Int32} (g : FA z a k f o) {post : Int32 → ZS → Prop} (h1 : alX k x y e n → post 1 z) (h0 : ¬ alX k x y e n → post 0 z) : Vd_steersAlongX z a x y e n post := by
  obtain ⟨hP, hk, ek, -⟩ := g
  subst ek
  unfold Vd_steersAlongX
  have base : ¬ nI (zK z a) = 5 → ¬ nI (zK z a) = 6 → V_X4_steersAlongX z a x y e n post := fun c5 c6 => by
    unfold V_X4_steersAlongX
    refine ⟨fun c => h0 (fun q => ?_), fun c => h1 ?_⟩
    · unfold alX at q
      rw [if_neg c5, if_neg c6] at q
      exact q c
    · unfold alX
      rw [if_neg c5, if_neg c6]
      exact c
  rcases kcase hk with q | q | q | q | q | q | q | q
  · have := base (by rw [q]; decide) (by rw [q]; decide); rw [q]; exact this
  · have := base (by rw [q]; decide) (by rw [q]; decide); rw [q]; exact this
  · have := base (by rw [q]; decide) (by rw [q]; decide); rw [q]; exact this
  · have := base (by rw [q]; decide) (by rw [q]; decide); rw [q]; exact this
  · have := base (by rw [q]; decide) (by rw [q]; decide); rw [q]; exact this
  · rw [q] at h1 h0 ⊢
    show V_X1_steersAlongX z a x y e n post
    unfold V_X1_steersAlongX
    refine ⟨fun c => h0 (fun r => ?_), fun c => h1 ?_⟩
    · have r : am e < am n := r
      rw [Int32.lt_iff_toInt_lt] at r
      rw [Int32.le_iff_toInt_le] at c
      unfold am at r
      omega
    · show am e < am n
      rw [Int32.lt_iff_toInt_lt]
      rw [Int32.le_iff_toInt_le] at c
      unfold am
      omega
  · rw [q] at h1 h0 ⊢
    show V_X2_steersAlongX z a x y e n post
    unfold V_X2_steersAlongX
    exact ⟨fun c => h0 (fun r => (show ¬ am e < am n from r) c), fun c => h1 (show ¬ am e < am n from c)⟩
  · have := base (by rw [q]; decide) (by rw [q]; decide); rw [q]; exact this
theorem sgn_tab : ∀ i : Nat, i < 2001 → ((Int32.ofInt ((i : Int) - 1000)) >>> ((31 : Int32) &&& 31)) ||| (UInt32.toInt32 (Int32.toUInt32 (-(Int32.ofInt ((i : Int) - 1000))) >>> (Int32.toUInt32 (31 : Int32) &&& Int32.toUInt32 31))) = sgn (Int32.ofInt ((i : Int) - 1000)) := by decide +kernel
theorem sgn_eq {w : Int32} (h : -1000 ≤ w.toInt ∧ w.toInt ≤ 1000) : (w >>> ((31 : Int32) &&& 31)) ||| (UInt32.toInt32 (Int32.toUInt32 (-w) >>> (Int32.toUInt32 (31 : Int32) &&& Int32.toUInt32 31))) = sgn w := by
  have e := sgn_tab (w.toInt + 1000).toNat (by omega)
  have e2 : Int32.ofInt (((w.toInt + 1000).toNat : Int) - 1000) = w := by
    rw [show (((w.toInt + 1000).toNat : Int) - 1000) = w.toInt by omega]
    exact Int32.ofInt_toInt w
  rw [e2] at e
  exact e
theorem c_stp {z : ZS} {a : Nat} {k f o v w : Int32} (g : FA z a k f o) (hw : -1000 ≤ w.toInt ∧ w.toInt ≤ 1000) {post : Int32 → ZS → Prop} (h : post (stp k f v w) z) : Vd_stepAlong z a v w post := by
  obtain ⟨hP, hk, ek, -, -, -, -, -, hpa, -⟩ := g
  unfold Vd_stepAlong
  have base : ¬ k = 6 → V_X4_stepAlong z a v w post := fun c6 => by
    unfold V_X4_stepAlong
    unfold stp stepB at h
    rw [if_neg c6] at h
    rw [hpa]
    refine ⟨hP, fun t et => ?_⟩
    have et : t = lsr (paceB k f) (am v) := et
    subst et
    refine ⟨fun c => ?_, fun c => ?_⟩
    · rw [if_pos c] at h; exact h
    · rw [if_neg c] at h; exact h
  rcases kcase hk with q | q | q | q | q | q | q | q
  · have := base (by rw [ek, q]; decide); rw [q]; exact this
  · have := base (by rw [ek, q]; decide); rw [q]; exact this
  · have := base (by rw [ek, q]; decide); rw [q]; exact this
  · have := base (by rw [ek, q]; decide); rw [q]; exact this
  · have := base (by rw [ek, q]; decide); rw [q]; exact this
  · have := base (by rw [ek, q]; decide); rw [q]; exact this
  · rw [q]
    show V_X2_stepAlong z a v w post
    unfold V_X2_stepAlong V_J6_signum_0f7a4
    rw [sgn_eq hw]
    show a ∈ zP z ∧ post (sgn w * zF z a 6) z
    rw [hpa]
    unfold stp at h
    rw [if_pos (by rw [ek, q]; rfl)] at h
    exact ⟨hP, h⟩
  · have := base (by rw [ek, q]; decide); rw [q]; exact this
theorem c_stE {z : ZS} {a : Nat} {k f o x y e n : Int32} (g : FA z a k f o) (he : -1000 ≤ e.toInt ∧ e.toInt ≤ 1000) {post : Int32 → ZS → Prop} (h : post (stE k f x y e n) z) : Vd_steerEast z a x y e n post := by
  unfold Vd_steerEast V_X4_steerEast
  refine ⟨g.1, c_isT g (fun t => ⟨fun q => absurd q one_ne, fun _ => ⟨g.1, c_alX g (fun c => ⟨fun q => absurd q one_ne, fun _ => ⟨g.1, c_stp g he ?_⟩⟩) (fun c => ⟨fun _ => ?_, fun q => absurd rfl q⟩)⟩⟩) (fun t => ⟨fun _ => ?_, fun q => absurd rfl q⟩)⟩
  · rw [stE_pos t c] at h; exact h
  · rw [stE_neg (fun q => c q.2)] at h; exact h
  · rw [stE_neg (fun q => t q.1)] at h; exact h
theorem c_stN {z : ZS} {a : Nat} {k f o x y e n : Int32} (g : FA z a k f o) (hn : -1000 ≤ n.toInt ∧ n.toInt ≤ 1000) {post : Int32 → ZS → Prop} (h : post (stN k f x y e n) z) : Vd_steerNorth z a x y e n post := by
  unfold Vd_steerNorth V_X4_steerNorth
  refine ⟨g.1, c_isT g (fun t => ⟨fun q => absurd q one_ne, fun _ => ⟨g.1, c_alX g (fun c => ⟨fun _ => ?_, fun q => absurd q one_ne⟩) (fun c => ⟨fun q => absurd rfl q, fun _ => ⟨g.1, c_stp g hn ?_⟩⟩)⟩⟩) (fun t => ⟨fun _ => ?_, fun q => absurd rfl q⟩)⟩
  · rw [stN_neg (fun q => q.2 c)] at h; exact h
  · rw [stN_pos t c] at h; exact h
  · rw [stN_neg (fun q => t q.1)] at h; exact h
-- the reference
theorem m_toward1 {z : ZS} {x y p : Int32} {post : ZS → Prop} (h : post (wI z 14 16 (stepB p x))) : V_X12_toward z (1 : Int32) x y p post := by
  unfold V_X12_toward V_X12_toward_9 V_X12_toward_36
  unfold stepB at h
  refine ⟨fun q => absurd q one_ne, fun _ => m_amount (m_lesser ⟨fun c => ⟨fun q => absurd q one_ne, fun _ z9 e9 => ?_⟩, fun c => ⟨fun q => absurd q one_ne, fun _ z9 e9 => ?_⟩⟩)⟩
  · subst e9; rw [if_pos c] at h; exact h
  · subst e9; rw [if_neg c] at h; exact h
theorem m_toward0 {z : ZS} {x y p : Int32} {post : ZS → Prop} (h : post (wI z 14 17 (stepB p y))) : V_X12_toward z (0 : Int32) x y p post := by
  unfold V_X12_toward V_X12_toward_9 V_X12_toward_36
  unfold stepB at h
  refine ⟨fun _ => m_amount (m_lesser ⟨fun c => ⟨fun _ z9 e9 => ?_, fun q => absurd rfl q⟩, fun c => ⟨fun _ z9 e9 => ?_, fun q => absurd rfl q⟩⟩), fun q => absurd rfl q⟩
  · subst e9; rw [if_pos c] at h; exact h
  · subst e9; rw [if_neg c] at h; exact h
/-- both steers are told -/
def ST (z : ZS) (a b : Int32) : ZS := wI (wI z 14 16 a) 14 17 b
theorem ST_1 (z : ZS) (v : Int32) : wI (wI (wI z 14 16 0) 14 17 0) 14 16 v = ST z v 0 := by
  unfold ST wI
  congr 1
  funext a b
  show (if a = 14 ∧ b = 16 then v else if a = 14 ∧ b = 17 then 0 else if a = 14 ∧ b = 16 then 0 else zI z a b) = (if a = 14 ∧ b = 17 then 0 else if a = 14 ∧ b = 16 then v else zI z a b)
  by_cases h : a = 14 ∧ b = 16
  · rw [if_pos h, if_neg (by omega), if_pos h]
  · rw [if_neg h, if_neg h, if_neg h]
theorem ST_2 (z : ZS) (v : Int32) : wI (wI (wI z 14 16 0) 14 17 0) 14 17 v = ST z 0 v := by
  unfold ST wI
  congr 1
  funext a b
  show (if a = 14 ∧ b = 17 then v else if a = 14 ∧ b = 17 then 0 else if a = 14 ∧ b = 16 then 0 else zI z a b) = (if a = 14 ∧ b = 17 then v else if a = 14 ∧ b = 16 then 0 else zI z a b)
  by_cases h : a = 14 ∧ b = 17
  · rw [if_pos h, if_pos h]
  · rw [if_neg h, if_neg h, if_neg h]
