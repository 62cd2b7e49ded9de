-- a class by its number: name, table, how many fields, types
def cC (c : Nat) : String := match c with
  | 0 => RX0 | 3 => RX3 | 9 => RX9 | 11 => RX11 | _ => RX12
def cT (c : Nat) : u_T := match c with
  | 0 => TX0 | 3 => TX3 | 9 => TX9 | 11 => TX11 | _ => TX12
def cN (c : Nat) : Nat := match c with
  | 0 => 10 | 3 => 12 | 9 => 5 | 11 => 11 | _ => 36
def cY (c : Nat) : Nat → FieldType := match c with
  | 0 => tyX0 | 3 => tyX3 | 9 => tyX9 | 11 => tyX11 | _ => tyX12
/-- c is one of the classes whose objects are numbered -/
def cOK (c : Nat) : Prop := c = 0 ∨ c = 3 ∨ c = 9 ∨ c = 11 ∨ c = 12
theorem cls_at {c : Nat} (h : cOK c) : cls[c]? = some (cC c, cT c, cN c) := by
  rcases h with rfl | rfl | rfl | rfl | rfl <;> rfl
theorem cin_at {c : Nat} (h : cOK c) : ∀ w ∈ u_ws (cC c) (cT c) (cN c), w ∈ W0 := by
  rcases h with rfl | rfl | rfl | rfl | rfl
  · exact in_0
  · exact in_3
  · exact in_9
  · exact in_11
  · exact in_12
theorem cty_at {c : Nat} (h : cOK c) : ∀ k, k < cN c → parseFieldDescriptor (cT c k).2.2.1 = some (cY c k) := by
  rcases h with rfl | rfl | rfl | rfl | rfl
  · exact tyX0_ok
  · exact tyX3_ok
  · exact tyX9_ok
  · exact tyX11_ok
  · exact tyX12_ok
theorem cnm_at {c : Nat} (h : cOK c) : ∀ a, a < cN c → ∀ b, b < cN c → a ≠ b → (cT c a).2.1 ≠ (cT c b).2.1 := by
  rcases h with rfl | rfl | rfl | rfl | rfl
  · exact nmX0
  · exact nmX3
  · exact nmX9
  · exact nmX11
  · exact nmX12
-- the class of an object by its number
def ci (o : Nat) : Nat := if o = 0 then 11 else if o < 4 then 0 else if o < 6 then 3 else if o < 14 then 9 else 12
theorem ci_ok (o : Nat) : cOK (ci o) := by
  unfold ci cOK
  split
  · simp
  · split
    · simp
    · split
      · simp
      · split <;> simp
-- kinds of fields: 0 an int, 1 a reference that stays, 2 a reference that may change
def fk (c k : Nat) : Nat := match c with
  | 0 => if k = 2 ∨ k = 3 ∨ k = 4 ∨ k = 6 ∨ k = 8 then 0 else 1
  | 3 => if k = 0 then 1 else if k = 1 then 2 else 0
  | 9 => if k = 0 then 2 else if k = 4 then 1 else 0
  | 11 => if k = 3 then 0 else 1
  | _ => if k < 9 ∨ k = 15 ∨ k = 30 ∨ k = 31 ∨ k = 34 ∨ k = 35 then 1 else 0
-- what a reference that stays leads to: the key
def rf (c o k : Nat) : Nat × Nat := match c with
  | 3 => (1, 100)
  | 11 => if k < 3 then (k + 1, 100) else if k = 4 then (4, 100) else if k = 5 then (5, 100) else (o, k)
  | _ => (o, k)
-- arrays of ints: how long
def al (c k : Nat) : Nat := match c with
  | 0 => if k < 2 then 10 else if k = 7 then 24 else 4
  | 9 => 100
  | 11 => if k = 7 then 25 else 5
  | _ => if k < 3 then 73 else if k = 6 then 800 else if k < 9 then 8 else if k = 15 then 4 else if k = 30 then 25 else 5
-- the state: ints of objects; arrays of ints; references that change; arrays of Fallers; the pool: addresses, kinds, fields; the law's long
abbrev ZS : Type := (Nat → Nat → Int32) × (Nat → Nat → Nat → Int32) × (Nat → Nat → Option Nat) × (Nat → Nat → Option Nat) × List Nat × (Nat → Nat) × (Nat → Nat → Int32) × Int64
def zI (z : ZS) : Nat → Nat → Int32 := z.1
def zR (z : ZS) : Nat → Nat → Nat → Int32 := z.2.1
def zG (z : ZS) : Nat → Nat → Option Nat := z.2.2.1
def zQ (z : ZS) : Nat → Nat → Option Nat := z.2.2.2.1
def zP (z : ZS) : List Nat := z.2.2.2.2.1
def zK (z : ZS) : Nat → Nat := z.2.2.2.2.2.1
def zF (z : ZS) : Nat → Nat → Int32 := z.2.2.2.2.2.2.1
def zO (z : ZS) : Int64 := z.2.2.2.2.2.2.2
def wI (z : ZS) (o k : Nat) (v : Int32) : ZS := (fun a b => if a = o ∧ b = k then v else zI z a b, z.2)
def wA (z : ZS) (o k : Nat) (f : Nat → Int32) : ZS := (z.1, fun a b => if a = o ∧ b = k then f else zR z a b, z.2.2)
def wR (z : ZS) (o k i : Nat) (v : Int32) : ZS := wA z o k (upd (zR z o k) i v)
def wG (z : ZS) (o k : Nat) (r : Option Nat) : ZS := (z.1, z.2.1, fun a b => if a = o ∧ b = k then r else zG z a b, z.2.2.2)
def wB (z : ZS) (o : Nat) (f : Nat → Option Nat) : ZS := (z.1, z.2.1, z.2.2.1, fun a => if a = o then f else zQ z a, z.2.2.2.2)
def wQ (z : ZS) (o i : Nat) (r : Option Nat) : ZS := wB z o (va_up (zQ z o) i r)
def wP (z : ZS) (q k : Nat) (f : Nat → Int32) : ZS := (z.1, z.2.1, z.2.2.1, z.2.2.2.1, zP z ++ [q], va_up (zK z) q k, va_up (zF z) q f, z.2.2.2.2.2.2.2)
def wO (z : ZS) (x : Int64) : ZS := (z.1, z.2.1, z.2.2.1, z.2.2.2.1, z.2.2.2.2.1, z.2.2.2.2.2.1, z.2.2.2.2.2.2.1, x)
-- the cells
def fv (ad : Nat → Nat → Nat) (z : ZS) (o k : Nat) : Value := match fk (ci o) k with
  | 0 => .int (zI z o k)
  | 1 => .ref (ad (rf (ci o) o k).1 (rf (ci o) o k).2)
  | _ => va_rf (zG z o k)
def fl (ad : Nat → Nat → Nat) (z : ZS) (o : Nat) : List Value := (List.range (cN (ci o))).map (fv ad z o)
-- kinds of arrays: 0 ints, 1 shelves, 2 Fallers, 3 the law's long
def ak (q : Nat × Nat) : Nat := if q.1 = 15 then 3 else if q = (0, 6) then 1 else if ci q.1 = 0 ∧ q.2 = 5 then 2 else 0
def ae (ad : Nat → Nat → Nat) (cs : Nat → ClassId) (z : ZS) (q : Nat × Nat) : va_E := match ak q with
  | 0 => .inl (cs 0, al (ci q.1) q.2, .inl (zR z q.1 q.2))
  | 1 => .inl (cs 1, 8, .inr (.inr (.inr (.inr (fun i => if i < 8 then some (ad (6 + i) 100) else none)))))
  | 2 => .inl (cs 2, 8, .inr (.inr (.inr (.inr (zQ z q.1)))))
  | _ => .inl (cs 3, 1, .inr (.inl (fun _ => zO z)))
def ce (ad : Nat → Nat → Nat) (cs : Nat → ClassId) (z : ZS) (q : Nat × Nat) : va_E := if q.2 = 100 then .inr (ci q.1, fl ad z q.1) else ae ad cs z q
def KY : List (Nat × Nat) := [(0, 100), (1, 100), (2, 100), (3, 100), (4, 100), (5, 100), (6, 100), (7, 100), (8, 100), (9, 100), (10, 100), (11, 100), (12, 100), (13, 100), (14, 100), (0, 6), (0, 7), (0, 8), (0, 9), (0, 10), (1, 0), (1, 1), (1, 5), (1, 7), (1, 9), (2, 0), (2, 1), (2, 5), (2, 7), (2, 9), (3, 0), (3, 1), (3, 5), (3, 7), (3, 9), (6, 4), (7, 4), (8, 4), (9, 4), (10, 4), (11, 4), (12, 4), (13, 4), (14, 0), (14, 1), (14, 2), (14, 3), (14, 4), (14, 5), (14, 6), (14, 7), (14, 8), (14, 15), (14, 30), (14, 31), (14, 34), (14, 35), (15, 0)]
theorem KY_nd : KY.Nodup := by decide +kernel
-- the class of a Faller by its kind's number
def fc (k : Nat) : Nat := match k with
  | 1 => 8 | 2 => 7 | 3 => 5 | 4 => 6 | 5 => 1 | 6 => 2 | 7 => 10 | _ => 4
def fe (k : Nat) (f : Nat → Int32) : va_E := .inr (fc k, [.int (f 0), .int (f 1), .int (f 2), .int (f 3), .int (f 4), .int (f 5), .int (f 6), .int (f 7)])
def sw (ad : Nat → Nat → Nat) (cs : Nat → ClassId) (z : ZS) : va_W := KY.map (fun q => (ad q.1 q.2, ce ad cs z q))
def wd (ad : Nat → Nat → Nat) (cs : Nat → ClassId) (z : ZS) : va_W := sw ad cs z ++ va_pl (zP z) (fun a => fe (zK z a) (zF z a))
-- finding and changing a cell
theorem wd_at (ad : Nat → Nat → Nat) (cs : Nat → ClassId) (z : ZS) {q : Nat × Nat} (h : q ∈ KY) : ∃ j : Nat, KY[j]? = some q ∧ (wd ad cs z)[j]? = some (ad q.1 q.2, ce ad cs z q) := by
  obtain ⟨j, hj⟩ := List.getElem?_of_mem h
  refine ⟨j, hj, ?_⟩
  have hl : j < KY.length := (List.getElem?_eq_some_iff.mp hj).1
  unfold wd sw
  rw [List.getElem?_append_left (by rw [List.length_map]; exact hl), List.getElem?_map, hj]
  rfl
theorem map_set_nd {α β : Type} (f : α → β) (l : List α) (hn : l.Nodup) (j : Nat) (q : α) (hj : l[j]? = some q) (e : β) (g : α → β) (hg : ∀ x ∈ l, x ≠ q → g x = f x) (hq : g q = e) : (l.map f).set j e = l.map g := by
  apply List.ext_getElem?
  intro i
  have hl : j < l.length := (List.getElem?_eq_some_iff.mp hj).1
  rw [List.getElem?_set]
  by_cases hij : j = i
  · subst hij
    rw [if_pos rfl, if_pos (by rw [List.length_map]; exact hl), List.getElem?_map, hj]
    simp [hq]
  · rw [if_neg hij, List.getElem?_map, List.getElem?_map]
    cases hi : l[i]? with
    | none => rfl
    | some x =>
      have hx : x ∈ l := List.mem_of_getElem? hi
      have hne : x ≠ q := fun hxq => hij ((List.getElem?_inj hl hn).mp (by rw [hj, hi, hxq]))
      simp [hg x hx hne]
theorem wd_set (ad : Nat → Nat → Nat) (cs : Nat → ClassId) {z z1 : ZS} {q : Nat × Nat} {j : Nat} (hj : KY[j]? = some q) (e : va_E) (hp : zP z1 = zP z ∧ zK z1 = zK z ∧ zF z1 = zF z) (hq : ce ad cs z1 q = e) (hg : ∀ x ∈ KY, x ≠ q → ce ad cs z1 x = ce ad cs z x) : (wd ad cs z).set j (ad q.1 q.2, e) = wd ad cs z1 := by
  have hl : j < KY.length := (List.getElem?_eq_some_iff.mp hj).1
  unfold wd
  rw [List.set_append_left (h := by unfold sw; rw [List.length_map]; exact hl), hp.1, hp.2.1, hp.2.2]
  congr 1
  unfold sw
  exact map_set_nd _ KY KY_nd j q hj _ _ (fun x hx hne => by show (ad x.1 x.2, ce ad cs z1 x) = (ad x.1 x.2, ce ad cs z x); rw [hg x hx hne]) (by show (ad q.1 q.2, ce ad cs z1 q) = _; rw [hq])
theorem fl_at (ad : Nat → Nat → Nat) (z : ZS) (o : Nat) {k : Nat} (h : k < cN (ci o)) : (fl ad z o)[k]? = some (fv ad z o k) := by
  unfold fl
  rw [List.getElem?_map, List.getElem?_range h]
  rfl
theorem fl_len (ad : Nat → Nat → Nat) (z : ZS) (o : Nat) : (fl ad z o).length = cN (ci o) := by unfold fl; rw [List.length_map, List.length_range]
theorem fl_set (ad : Nat → Nat → Nat) {z z1 : ZS} {o k : Nat} {v : Value} (h : k < cN (ci o)) (hv : fv ad z1 o k = v) (hg : ∀ j, j ≠ k → fv ad z1 o j = fv ad z o j) : (fl ad z o).set k v = fl ad z1 o := by
  unfold fl
  exact map_set_nd _ _ List.nodup_range k k (List.getElem?_range h) v _ (fun x _ hx => hg x hx) hv
theorem ce_obj (ad : Nat → Nat → Nat) (cs : Nat → ClassId) (z : ZS) (o : Nat) : ce ad cs z (o, 100) = .inr (ci o, fl ad z o) := if_pos rfl
theorem ce_arr (ad : Nat → Nat → Nat) (cs : Nat → ClassId) (z : ZS) {o k : Nat} (hk : k ≠ 100) (ha : ak (o, k) = 0) : ce ad cs z (o, k) = .inl (cs 0, al (ci o) k, .inl (zR z o k)) := by
  unfold ce
  rw [if_neg hk]
  unfold ae
  rw [ha]
  rfl
theorem ce_sh (ad : Nat → Nat → Nat) (cs : Nat → ClassId) (z : ZS) : ce ad cs z (0, 6) = .inl (cs 1, 8, .inr (.inr (.inr (.inr (fun i => if i < 8 then some (ad (6 + i) 100) else none))))) := rfl
theorem ce_fa (ad : Nat → Nat → Nat) (cs : Nat → ClassId) (z : ZS) {o : Nat} (h : ci o = 0) (h5 : o ≠ 15) (h0 : o ≠ 0) : ce ad cs z (o, 5) = .inl (cs 2, 8, .inr (.inr (.inr (.inr (zQ z o))))) := by
  unfold ce
  rw [if_neg (show ¬ (5 : Nat) = 100 by decide)]
  unfold ae
  have e : ak (o, 5) = 2 := by
    unfold ak
    rw [if_neg h5, if_neg (fun q => h0 (congrArg Prod.fst q)), if_pos ⟨h, rfl⟩]
  rw [e]
  rfl
-- an int field gets a value
theorem fv_wI (ad : Nat → Nat → Nat) (z : ZS) (o k : Nat) (v : Int32) (o' k' : Nat) (h : ¬ (o' = o ∧ k' = k)) : fv ad (wI z o k v) o' k' = fv ad z o' k' := by
  unfold fv
  have e : zI (wI z o k v) o' k' = zI z o' k' := if_neg h
  rw [e]
  rfl
theorem fv_wI_self (ad : Nat → Nat → Nat) (z : ZS) (o k : Nat) (v : Int32) (h : fk (ci o) k = 0) : fv ad (wI z o k v) o k = .int v := by
  unfold fv
  rw [h]
  have e : zI (wI z o k v) o k = v := if_pos ⟨rfl, rfl⟩
  rw [e]
  rfl
theorem fl_ne {ad : Nat → Nat → Nat} {z z1 : ZS} {o : Nat} (h : ∀ k, fv ad z1 o k = fv ad z o k) : fl ad z1 o = fl ad z o := by
  unfold fl
  exact List.map_congr_left (fun k _ => h k)
theorem set_wI (ad : Nat → Nat → Nat) (cs : Nat → ClassId) (z : ZS) {o k j : Nat} (v : Int32) (hj : KY[j]? = some (o, 100)) (hk : k < cN (ci o)) (hf : fk (ci o) k = 0) : (wd ad cs z).set j (ad o 100, .inr (ci o, (fl ad z o).set k (.int v))) = wd ad cs (wI z o k v) := by
  refine wd_set ad cs (q := (o, 100)) hj _ ⟨rfl, rfl, rfl⟩ ?_ ?_
  · rw [ce_obj, fl_set ad hk (fv_wI_self ad z o k v hf) (fun i hi => fv_wI ad z o k v o i (fun q => hi q.2))]
  · intro x _ hx
    unfold ce
    by_cases h : x.2 = 100
    · rw [if_pos h, if_pos h, fl_ne (fun i => fv_wI ad z o k v x.1 i (fun q => hx (Prod.ext q.1 h)))]
    · rw [if_neg h, if_neg h]; rfl
-- a reference field gets a value
theorem fv_wG (ad : Nat → Nat → Nat) (z : ZS) (o k : Nat) (r : Option Nat) (o' k' : Nat) (h : ¬ (o' = o ∧ k' = k)) : fv ad (wG z o k r) o' k' = fv ad z o' k' := by
  unfold fv
  have e : zG (wG z o k r) o' k' = zG z o' k' := if_neg h
  rw [e]
  rfl
theorem fv_wG_self (ad : Nat → Nat → Nat) (z : ZS) (o k : Nat) (r : Option Nat) (h : fk (ci o) k = 2) : fv ad (wG z o k r) o k = va_rf r := by
  unfold fv
  rw [h]
  have e : zG (wG z o k r) o k = r := if_pos ⟨rfl, rfl⟩
  rw [e]
  rfl
theorem set_wG (ad : Nat → Nat → Nat) (cs : Nat → ClassId) (z : ZS) {o k j : Nat} (r : Option Nat) (hj : KY[j]? = some (o, 100)) (hk : k < cN (ci o)) (hf : fk (ci o) k = 2) : (wd ad cs z).set j (ad o 100, .inr (ci o, (fl ad z o).set k (va_rf r))) = wd ad cs (wG z o k r) := by
  refine wd_set ad cs (q := (o, 100)) hj _ ⟨rfl, rfl, rfl⟩ ?_ ?_
  · rw [ce_obj, fl_set ad hk (fv_wG_self ad z o k r hf) (fun i hi => fv_wG ad z o k r o i (fun q => hi q.2))]
  · intro x _ hx
    unfold ce
    by_cases h : x.2 = 100
    · rw [if_pos h, if_pos h, fl_ne (fun i => fv_wG ad z o k r x.1 i (fun q => hx (Prod.ext q.1 h)))]
    · rw [if_neg h, if_neg h]; rfl
-- an array of ints
theorem fv_wA (ad : Nat → Nat → Nat) (z : ZS) (o k : Nat) (f : Nat → Int32) (o' k' : Nat) : fv ad (wA z o k f) o' k' = fv ad z o' k' := rfl
theorem set_wA (ad : Nat → Nat → Nat) (cs : Nat → ClassId) (z : ZS) {o k j : Nat} (f : Nat → Int32) (hj : KY[j]? = some (o, k)) (hk : k ≠ 100) (ha : ak (o, k) = 0) : (wd ad cs z).set j (ad o k, .inl (cs 0, al (ci o) k, .inl f)) = wd ad cs (wA z o k f) := by
  refine wd_set ad cs (q := (o, k)) hj _ ⟨rfl, rfl, rfl⟩ ?_ ?_
  · rw [ce_arr ad cs _ hk ha]
    have e : zR (wA z o k f) o k = f := if_pos ⟨rfl, rfl⟩
    rw [e]
  · intro x _ hx
    unfold ce
    by_cases h : x.2 = 100
    · rw [if_pos h, if_pos h]; rfl
    · rw [if_neg h, if_neg h]
      unfold ae
      have e : zR (wA z o k f) x.1 x.2 = zR z x.1 x.2 := if_neg (fun q => hx (Prod.ext q.1 q.2))
      rw [e]
      rfl
-- an array of Fallers
theorem set_wB (ad : Nat → Nat → Nat) (cs : Nat → ClassId) (z : ZS) {o j : Nat} (f : Nat → Option Nat) (hj : KY[j]? = some (o, 5)) (h : ci o = 0) (h5 : o ≠ 15) (h0 : o ≠ 0) : (wd ad cs z).set j (ad o 5, .inl (cs 2, 8, .inr (.inr (.inr (.inr f))))) = wd ad cs (wB z o f) := by
  refine wd_set ad cs (q := (o, 5)) hj _ ⟨rfl, rfl, rfl⟩ ?_ ?_
  · rw [ce_fa ad cs _ h h5 h0]
    have e : zQ (wB z o f) o = f := if_pos rfl
    rw [e]
  · intro x _ hx
    unfold ce
    by_cases h1 : x.2 = 100
    · rw [if_pos h1, if_pos h1]; rfl
    · rw [if_neg h1, if_neg h1]
      unfold ae
      by_cases h2 : x.1 = o
      · have hk : ak x ≠ 2 := fun q => by
          unfold ak at q
          split at q
          · cases q
          · split at q
            · cases q
            · split at q
              · rename_i q2; exact hx (Prod.ext h2 q2.2)
              · cases q
        generalize ak x = kx at hk
        match kx, hk with
        | 0, _ => rfl
        | 1, _ => rfl
        | 2, hk => exact absurd rfl hk
        | (n + 3), _ => rfl
      · have e : zQ (wB z o f) x.1 = zQ z x.1 := if_neg h2
        rw [e]
        rfl
