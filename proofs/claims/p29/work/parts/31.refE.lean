theorem Inv.addF {S : AS} (h : Inv S) (ht : S.t ≤ 11) {f o : Nat} (hf : f ≤ 9999) (ho : o ≤ 9999) : Inv (addF S f o) := by
  obtain ⟨i1, i2, i3, i4, i5, i6, i7, i8⟩ := h
  refine ⟨i1, i2, i3, by show S.t + 1 ≤ 12; omega, fun i hi => ?_, fun k p e => ⟨(i6 k p e).1, ?_⟩, i7, i8⟩
  · show (if i = 2 * S.t then f else if i = 2 * S.t + 1 then o else S.F i) ≤ 9999
    split
    · exact hf
    · split
      · exact ho
      · exact i5 i hi
  · have := (i6 k p e).2
    show p < 8 * (S.t + 1)
    omega
