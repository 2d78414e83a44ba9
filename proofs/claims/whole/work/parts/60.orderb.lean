/-! PURE 31: order, second part: the rows of pages, one after another. -/
def flatF (g : Nat → List (List Nat)) : Nat → Nat → List (List Nat)
  | _, 0 => []
  | p, m + 1 => g p ++ flatF g (p + 1) m
def enumR (F : Nat → Bool) : Nat → List Nat → List (List Nat)
  | 0, pre => [pre]
  | k + 1, pre => flatF (fun p => if F p && !(pre.contains p) then enumR F k (pre ++ [p]) else []) 0 4
def dig (n c t : Nat) : Nat := c / 4 ^ (n - 1 - t) % 4
def okc (n c : Nat) : Nat → Nat → Nat → Bool
  | 0, _, _ => true
  | m + 1, t, mask => if n ≤ dig n c t then false else if mask.testBit (dig n c t) then false else okc n c m (t + 1) (mask ||| 2 ^ dig n c t)
def fF (b0 b1 b2 b3 : Bool) : Nat → Bool := fun p => if p = 0 then b0 else if p = 1 then b1 else if p = 2 then b2 else if p = 3 then b3 else false
def flL (F : Nat → Bool) : List Nat := (List.range 4).filter F
def rowC (F : Nat → Bool) (n c : Nat) : List Nat := (List.range n).map fun t => (flL F).getD (dig n c t) 0
theorem enum_all : ∀ b0 b1 b2 b3 : Bool, enumR (fF b0 b1 b2 b3) (flL (fF b0 b1 b2 b3)).length [] = (((List.range (4 ^ (flL (fF b0 b1 b2 b3)).length)).filter fun c => okc (flL (fF b0 b1 b2 b3)).length c (flL (fF b0 b1 b2 b3)).length 0 0).map fun c => rowC (fF b0 b1 b2 b3) (flL (fF b0 b1 b2 b3)).length c) := by decide +kernel
theorem bit_or : ∀ k : Fin 16, ∀ d : Fin 4, ((nI k.val &&& ((1 : Int32) <<< (nI d.val &&& 31)) = 0) ↔ k.val.testBit d.val = false) ∧ (nI k.val ||| ((1 : Int32) <<< (nI d.val &&& 31))) = nI (k.val ||| 2 ^ d.val) ∧ k.val ||| 2 ^ d.val < 16 := by decide +kernel
theorem dig_all : ∀ c : Fin 256, ∀ k : Fin 4, (nI c.val >>> (((2 : Int32) * nI k.val) &&& 31)) &&& 3 = nI (c.val / 4 ^ k.val % 4) := by decide +kernel
theorem pow_all : ∀ n : Fin 5, (1 : Int32) <<< (((2 : Int32) * nI n.val) &&& 31) = nI (4 ^ n.val) ∧ 4 ^ n.val ≤ 256 := by decide +kernel
theorem cap_all : aN layC (147 + 1) = 4 ∧ aN layC (149 + 1) = 16 ∧ aN layC (151 + 1) = 4 := by decide
