/-! the reference: tile, hint -/
def anyN (f : Nat → Bool) : Nat → Bool
  | 0 => false
  | n + 1 => anyN f n || f n
def allN (f : Nat → Bool) : Nat → Bool
  | 0 => true
  | n + 1 => allN f n && f n
theorem anyN_t {f : Nat → Bool} {j : Nat} (h : f j = true) : ∀ {n}, j < n → anyN f n = true
  | 0, hj => absurd hj (Nat.not_lt_zero _)
  | n + 1, hj => by
    show (anyN f n || f n) = true
    by_cases e : j = n
    · rw [← e, h, Bool.or_true]
    · rw [anyN_t h (n := n) (by omega), Bool.true_or]
def sideEq (F : Nat → Nat) (p q s : Nat) : Bool := col F p s false == col F q s false && col F p s true == col F q s true
def lks (F : Nat → Nat) (p q : Nat) : Bool := allN (sideEq F p q) 4
def lk8 (F : Nat → Nat) (x o : Nat) : Bool := anyN (fun k => lks F (8 * x + k) (8 * o)) 8
def fstF (f : Nat → Bool) : Nat → Nat → Nat
  | 0, k => k
  | d + 1, k => if f k = true then k else fstF f d (k + 1)
def lowA (S : AS) (t : Nat) : Nat := fstF (fun k => lk8 S.F k t) t 0
def tileV (S : AS) (t w : Nat) : Int32 := if w < 2 then nI (S.F (2 * t + w)) else if w = 2 then enc (cellOf S t) else nI (lowA S t)
