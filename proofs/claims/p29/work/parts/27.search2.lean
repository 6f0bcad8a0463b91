/-! the reference's search as a whole -/
def opensN (S : AS) (n : Nat) : List Nat := (List.range n).filter (fun k => (S.P k).isNone)
def opens (S : AS) : List Nat := opensN S S.n
theorem opensN_mem {S : AS} {n j : Nat} : j ∈ opensN S n ↔ j < n ∧ S.P j = none := by
  unfold opensN
  rw [List.mem_filter, List.mem_range, Option.isNone_iff_eq_none]
def srch (S : AS) (most : Nat) : SR := fillA most (opens S) S 0 0
