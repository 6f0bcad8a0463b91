/-! the reference's search as a whole -/
def opensN (S : AS) (n : Nat) : List Nat := (List.range n).filter (fun k => (S.P k).isNone)
def opens (S : AS) : List Nat := opensN S S.n
theorem opensN_mem {S : AS} {n j : Nat} : j ∈ opensN S n ↔ j < n ∧ S.P j = none := by
  unfold opensN
  rw [List.mem_filter, List.mem_range, Option.isNone_iff_eq_none]
def srch (S : AS) (most : Nat) : SR := fillA most (opens S) S 0 0
theorem srch_b (S : AS) (most : Nat) : (srch S most).1 ≤ 601 ∧ (srch S most).2.1 ≤ 600 := by
  unfold srch
  cases opens S with
  | nil => exact ⟨by show 0 + 1 ≤ 601; omega, Nat.zero_le _⟩
  | cons k ks =>
    have := tryA_b (rec := fillA most ks) (k := k) (fillA_b ks) (n := 8 * S.t) (p := 0) (S := S) (f := 0) (st := 0) (by omega) (by omega)
    exact ⟨by show (tryA (fillA most ks) k (8 * S.t) 0 S 0 0).1 ≤ 601; omega, this.2⟩
