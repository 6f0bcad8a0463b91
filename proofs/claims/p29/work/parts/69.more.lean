/-! rows of lists: the open cells -/
theorem drop_getD {ks : List Nat} {d k : Nat} {suf : List Nat} (h : ks.drop d = k :: suf) : ks.getD d 0 = k := by
  have h1 : (ks.drop d)[0]? = some k := by rw [h]; rfl
  rw [List.getElem?_drop] at h1
  rw [List.getD_eq_getElem?_getD, show d = d + 0 by omega, h1]
  rfl
theorem opensN_len (S : AS) (n : Nat) : (opensN S n).length ≤ n := by
  have := List.length_filter_le (fun k => (S.P k).isNone) (List.range n)
  rw [List.length_range] at this
  exact this
theorem opensN_nodup (S : AS) (n : Nat) : (opensN S n).Nodup := List.Pairwise.filter _ List.nodup_range
theorem opensN_1 {S : AS} {n : Nat} (h : S.P n = none) : opensN S (n + 1) = opensN S n ++ [n] := by
  unfold opensN
  rw [List.range_succ, List.filter_append]
  simp [h]
theorem opensN_0 {S : AS} {n p : Nat} (h : S.P n = some p) : opensN S (n + 1) = opensN S n := by
  unfold opensN
  rw [List.range_succ, List.filter_append]
  simp [h]
theorem Inv.n1 {S : AS} (h : Inv S) : 1 ≤ S.n := by
  obtain ⟨⟨h1, -⟩, ⟨h2, -⟩, -⟩ := h
  exact Nat.mul_le_mul h1 h2
