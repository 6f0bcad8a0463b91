/-! the reference: addTile, lay, take, fix -/
theorem RZ.addF {z : Nat → Int32} {S : AS} (h : RZ z S) (ht : S.t ≤ 11) (f o : Nat) : RZ (upd (upd (upd z (4 + 2 * S.t) (nI f)) (4 + 2 * S.t + 1) (nI o)) 3 (nI (S.t + 1))) (addF S f o) := by
  obtain ⟨h0, h1, h2, h3, h4, h5, h6⟩ := h
  refine ⟨?_, ?_, ?_, ?_, fun i hi => ?_, fun j hj => ?_, fun j hj => ?_⟩
  · rw [pk_un (by omega), pk_un (by omega), pk_un (by omega)]; exact h0
  · rw [pk_un (by omega), pk_un (by omega), pk_un (by omega)]; exact h1
  · rw [pk_un (by omega), pk_un (by omega), pk_un (by omega)]; exact h2
  · rw [pk_us]; rfl
  · rw [pk_un (by omega)]
    show _ = nI (if i = 2 * S.t then f else if i = 2 * S.t + 1 then o else S.F i)
    by_cases e1 : i = 2 * S.t
    · rw [if_pos e1, e1, pk_un (by omega), pk_us]
    · rw [if_neg e1]
      by_cases e2 : i = 2 * S.t + 1
      · rw [if_pos e2, e2, show 4 + (2 * S.t + 1) = 4 + 2 * S.t + 1 by omega, pk_us]
      · rw [if_neg e2, pk_un (by omega), pk_un (by omega)]; exact h4 i hi
  · rw [pk_un (by omega), pk_un (by omega), pk_un (by omega)]; exact h5 j hj
  · rw [pk_un (by omega), pk_un (by omega), pk_un (by omega)]; exact h6 j hj
theorem Inv.addF {S : AS} (h : Inv S) (ht : S.t ≤ 11) {f o : Nat} (hf : f ≤ 9999) (ho : o ≤ 9999) : Inv (addF S f o) := by
  obtain ⟨i1, i2, i3, i4, i5, i6, i7, i8⟩ := h
  refine ⟨i1, i2, i3, by show S.t + 1 ≤ 12; omega, fun i hi => ?_, fun k p e => ⟨(i6 k p e).1, ?_⟩, i7, i8⟩
  · show (if i = 2 * S.t then f else if i = 2 * S.t + 1 then o else S.F i) ≤ 9999
    split
    · exact hf
    · split
      · exact ho
      · exact i5 i hi
  · have := (i6 k p e).2
    show p < 8 * (S.t + 1)
    omega
