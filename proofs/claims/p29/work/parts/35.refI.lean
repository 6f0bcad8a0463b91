/-! the reference: what count tells -/
def sm (f : Nat → Nat) : Nat → Nat
  | 0 => 0
  | n + 1 => sm f n + f n
theorem sm_le {f : Nat → Nat} {c : Nat} (h : ∀ k, f k ≤ c) : ∀ n, sm f n ≤ c * n
  | 0 => Nat.le_refl 0
  | n + 1 => by
    have h1 := sm_le h n
    have h2 := h n
    show sm f n + f n ≤ c * (n + 1)
    rw [Nat.mul_succ]
    omega
def isPair (S : AS) (k s : Nat) : Bool := (S.P k).isSome && (shown S k s false).isSome
def isLike (S : AS) (b : Bool) (k s : Nat) : Bool := match S.P k with
  | none => false
  | some p => match shown S k s b with
    | none => false
    | some x => x == col S.F p s b
def isMis (S : AS) (k : Nat) : Bool := match S.P k with
  | none => false
  | some p => decide (0 < misfit S k p)
def pairsA (S : AS) : Nat := sm (fun k => (isPair S k 1).toNat + (isPair S k 2).toNat) S.n
def likeA (S : AS) (b : Bool) : Nat := sm (fun k => (isLike S b k 1).toNat + (isLike S b k 2).toNat) S.n
def misA (S : AS) : Nat := sm (fun k => (isMis S k).toNat) S.n
def fixA (S : AS) : Nat := sm (fun k => (S.X k).toNat) S.n
theorem pairsA_le {S : AS} (hI : Inv S) : pairsA S ≤ 24 := by
  have h := sm_le (f := fun k => (isPair S k 1).toNat + (isPair S k 2).toNat) (c := 2) (fun k => by
    have h1 := Bool.toNat_le (isPair S k 1)
    have h2 := Bool.toNat_le (isPair S k 2)
    show (isPair S k 1).toNat + (isPair S k 2).toNat ≤ 2
    omega) S.n
  have h2 := hI.n12
  unfold pairsA
  omega
def cntV (S : AS) (h w : Nat) : Nat := match w with
  | 0 => S.r
  | 1 => S.c
  | 2 => S.t
  | 3 => empties S
  | 4 => fixA S
  | 5 => S.ru
  | 6 => likeA S false
  | 7 => likeA S true
  | 8 => misA S
  | _ => h
