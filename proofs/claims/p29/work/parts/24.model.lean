/-! THE PUZZLE, as numbers: rows, columns, rule, tiles; the faces; what lies in each cell; which cells are fixed -/
abbrev AS : Type := Nat × Nat × Nat × Nat × (Nat → Nat) × (Nat → Option Nat) × (Nat → Bool)
abbrev AS.r (S : AS) : Nat := S.1
abbrev AS.c (S : AS) : Nat := S.2.1
abbrev AS.ru (S : AS) : Nat := S.2.2.1
abbrev AS.t (S : AS) : Nat := S.2.2.2.1
abbrev AS.F (S : AS) : Nat → Nat := S.2.2.2.2.1
abbrev AS.P (S : AS) : Nat → Option Nat := S.2.2.2.2.2.1
abbrev AS.X (S : AS) : Nat → Bool := S.2.2.2.2.2.2
def AS.n (S : AS) : Nat := S.r * S.c
/-- the cell at a side -/
def nb (r c k s : Nat) : Option Nat :=
  if s = 0 then (if k < c then none else some (k - c))
  else if s = 1 then (if k % c + 1 < c then some (k + 1) else none)
  else if s = 2 then (if k + c < r * c then some (k + c) else none)
  else (if k % c = 0 then none else some (k - 1))
def dig (f k : Nat) : Nat := if k = 0 then f / 1000 else if k = 1 then f / 100 % 10 else if k = 2 then f / 10 % 10 else f % 10
def col (F : Nat → Nat) (p s : Nat) (b : Bool) : Nat :=
  if b then dig (F (2 * (p / 8) + (1 - p / 4 % 2))) (((4 - s) % 4 + p % 4) % 4)
  else dig (F (2 * (p / 8) + p / 4 % 2)) ((s + 4 - p % 4) % 4)
/-- what the neighbor at a side shows -/
def shown (S : AS) (k s : Nat) (b : Bool) : Option Nat :=
  match nb S.r S.c k s with
  | none => none
  | some j => match S.P j with
    | none => none
    | some q => some (col S.F q ((s + 2) % 4) b)
def badRim (S : AS) (k p s : Nat) : Bool := decide (0 < S.ru) && ((nb S.r S.c k s).isNone && (col S.F p s false != 0 || (S.ru == 2 && col S.F p s true != 0)))
def unlike (S : AS) (k p : Nat) (b : Bool) (s : Nat) : Bool := match shown S k s b with
  | none => false
  | some x => x != col S.F p s b
def badZero (S : AS) (k p s : Nat) : Bool := decide (0 < S.ru) && ((shown S k s false).isSome && (col S.F p s false == 0 || (S.ru == 2 && col S.F p s true == 0)))
def any4 (f : Nat → Bool) : Bool := f 0 || (f 1 || (f 2 || f 3))
def misfit (S : AS) (k p : Nat) : Nat :=
  if any4 (badRim S k p) then 3 else if any4 (unlike S k p false) then 4 else if any4 (unlike S k p true) then 5 else if any4 (badZero S k p) then 6 else 0
def cellOfN (S : AS) (t : Nat) : Nat → Option Nat
  | 0 => none
  | n + 1 => match S.P n with
    | some p => if p / 8 = t then some n else cellOfN S t n
    | none => cellOfN S t n
def cellOf (S : AS) (t : Nat) : Option Nat := cellOfN S t S.n
def why (S : AS) (k p : Nat) : Nat := if (S.P k).isSome then 1 else if (cellOf S (p / 8)).isSome then 2 else misfit S k p
/-- the first possible placing from p on, n of them looked at -/
def pfN (S : AS) (k : Nat) : Nat → Nat → Option Nat
  | 0, _ => none
  | n + 1, p => if why S k p = 0 then some p else pfN S k n (p + 1)
def pf (S : AS) (k p : Nat) : Option Nat := pfN S k (8 * S.t - p) p
def cnt (f : Nat → Bool) : Nat → Nat
  | 0 => 0
  | n + 1 => cnt f n + (f n).toNat
def pm (S : AS) (k : Nat) : Nat := cnt (fun p => why S k p == 0) (8 * S.t)
def empties (S : AS) : Nat := cnt (fun k => (S.P k).isNone) S.n
/-- what always holds -/
def Inv (S : AS) : Prop :=
  (1 ≤ S.r ∧ S.r ≤ 3) ∧ (1 ≤ S.c ∧ S.c ≤ 4) ∧ S.ru ≤ 2 ∧ S.t ≤ 12 ∧ (∀ i, i < 24 → S.F i ≤ 9999) ∧ (∀ k p, S.P k = some p → k < S.n ∧ p < 8 * S.t) ∧
  (∀ k k' p p', S.P k = some p → S.P k' = some p' → p / 8 = p' / 8 → k = k') ∧ (∀ k, S.X k = true → k < S.n)
theorem Inv.n12 {S : AS} (h : Inv S) : S.n ≤ 12 := by
  obtain ⟨⟨-, h1⟩, ⟨-, h2⟩, -⟩ := h
  have := Nat.mul_le_mul h1 h2
  exact this
theorem Inv.p96 {S : AS} (h : Inv S) {k p : Nat} (e : S.P k = some p) : k < 12 ∧ p < 96 := by
  have h1 := h.2.2.2.2.2.1 k p e
  have h2 := h.n12
  have h3 := h.2.2.2.1
  omega
theorem dig_lt {f : Nat} (h : f ≤ 9999) (k : Nat) : dig f k < 10 := by
  unfold dig
  split
  · omega
  · split
    · omega
    · split <;> omega
theorem col_lt {F : Nat → Nat} (h : ∀ i, i < 24 → F i ≤ 9999) {p : Nat} (hp : p < 96) (s : Nat) (b : Bool) : col F p s b < 10 := by
  unfold col
  split
  · exact dig_lt (h _ (by omega)) _
  · exact dig_lt (h _ (by omega)) _
theorem nb_lt {r c k s j : Nat} (hk : k < r * c) (h : nb r c k s = some j) : j < r * c := by
  unfold nb at h
  split at h
  · split at h
    · cases h
    · cases h; omega
  · split at h
    · split at h
      · next h1 =>
        cases h
        have h2 := Nat.div_add_mod k c
        have h3 : k / c < r := Nat.div_lt_of_lt_mul (by rw [Nat.mul_comm]; exact hk)
        have h4 : c * (k / c) + c ≤ r * c := by
          have := Nat.mul_le_mul_left c (Nat.succ_le_of_lt h3)
          rw [Nat.mul_succ] at this
          rw [Nat.mul_comm r c]
          exact this
        omega
      · cases h
    · split at h
      · split at h
        · cases h; omega
        · cases h
      · split at h
        · cases h
        · cases h; omega
