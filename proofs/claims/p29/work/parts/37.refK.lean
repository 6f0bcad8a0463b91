/-! the reference: hint -/
def manyA (S : AS) (k : Nat) : Nat := if (S.P k).isNone = true then pm S k else 0
def bst (S : AS) : Nat → Option Nat × Nat
  | 0 => (none, 0)
  | n + 1 => if 0 < manyA S n ∧ ((bst S n).1 = none ∨ manyA S n < (bst S n).2) then (some n, manyA S n) else bst S n
def hintV (S : AS) : Int32 := match (bst S S.n).1 with
  | none => -1
  | some k => 100 * nI k + enc (pf S k 0)
theorem manyA_le {S : AS} (hI : Inv S) (k : Nat) : manyA S k ≤ 96 := by
  have ht := hI.2.2.2.1
  have := cnt_le (fun p => why S k p == 0) (8 * S.t)
  unfold manyA
  split
  · show cnt _ _ ≤ 96
    omega
  · omega
theorem bst_lt {S : AS} (hI : Inv S) : ∀ n, (∀ k, (bst S n).1 = some k → k < n) ∧ (bst S n).2 ≤ 96
  | 0 => ⟨fun k h => (nomatch h), Nat.zero_le _⟩
  | n + 1 => by
    obtain ⟨h1, h2⟩ := bst_lt hI n
    unfold bst
    split
    · exact ⟨fun k h => by cases h; omega, manyA_le hI n⟩
    · exact ⟨fun k h => by have := h1 k h; omega, h2⟩
