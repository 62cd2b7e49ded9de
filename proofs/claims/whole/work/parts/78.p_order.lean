/-! PURE, part 29: order, the lists of orders and the class -/
def gD (p : List Nat) (t : Nat) : Nat := p.getD t 0
def sumA (O : Nat → Nat → Int32) (f : Nat → Nat) : Nat → Nat → Int32 → Int32
  | 0, _, s => s
  | (r + 1), i, s => sumA O f r (i + 1) (s + O (f i) i)
def digA (f : Nat → Nat) : Nat → Nat → Int32 → Int32 → Int32
  | 0, _, d, _ => d
  | (r + 1), i, d, w => digA f r (i + 1) (d + nI (f i) * w) (w * 10)
def digB (f : Nat → Nat) : Nat → Int32 → Int32
  | 0, b => b
  | (k + 1), b => digB f k (10 * b + nI (f k))
def pivF (f : Nat → Nat) : Nat → Option Nat
  | 0 => none
  | (k + 1) => if f k ≤ f (k + 1) then some k else pivF f k
def parF (f : Nat → Nat) (pv : Nat) : Nat → Nat → Nat → Nat
  | 0, _, par => par
  | (r + 1), i, par => parF f pv r (i + 1) (if f i ≤ f pv then par else i)
def swF (f : Nat → Nat) (i j : Nat) : Nat → Nat := fun t => if t = j then f i else if t = i then f j else f t
def revF : Nat → Nat → Nat → (Nat → Nat) → (Nat → Nat)
  | 0, _, _, f => f
  | (r + 1), a, b, f => if b ≤ a then f else revF r (a + 1) (b - 1) (swF f a b)
def nxF (n : Nat) (f : Nat → Nat) : Option (Nat → Nat) := match pivF f (n - 1) with
  | none => none
  | some pv => some (revF n (pv + 1) (n - 1) (swF f pv (parF f pv (n - (pv + 2)) (pv + 2) (pv + 1))))
def dfl (F : Nat → List (List Nat)) : Nat → Nat → List (List Nat)
  | 0, _ => []
  | (r + 1), k => F k ++ dfl F r (k + 1)
def dfs (n : Nat) : Nat → Nat → List Nat → List (List Nat)
  | 0, _, pre => [pre]
  | (d + 1), m, pre => dfl (fun k => if m.testBit k then [] else dfs n d (m ||| 2 ^ k) (pre ++ [k])) n 0
def isNx (n : Nat) (p : List Nat) (q : Option (List Nat)) : Bool := match nxF n (gD p), q with
  | none, none => true
  | some g, some q => (List.range n).all (fun t => g t == gD q t)
  | _, _ => false
def chB (n : Nat) : List (List Nat) → Bool
  | [] => true
  | p :: r => isNx n p r.head? && chB n r
def okP (n : Nat) (p : List Nat) : Bool := (List.range n).all (fun t => decide (gD p t < n)) && (digA (gD p) n 0 0 1 == digB (gD p) n 0)
theorem pl_all : ∀ n, n < 6 → 1 ≤ n → chB n (dfs n n 0 []) = true ∧ (dfs n n 0 []).length ≤ 120 ∧ (dfs n n 0 []).head? = some (List.range n) ∧ (dfs n n 0 []).all (okP n) = true := by decide +kernel
