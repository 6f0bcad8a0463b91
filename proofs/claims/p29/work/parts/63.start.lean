/-! the start: both begin with the same puzzle -/
def S0 : AS := (2, 2, 0, 0, fun _ => 0, fun _ => none, fun _ => false)
theorem S0_inv : Inv S0 := ⟨⟨by decide, by decide⟩, ⟨by decide, by decide⟩, Nat.zero_le _, Nat.zero_le _, fun i _ => Nat.zero_le _, fun k p e => (nomatch e), fun k k' p p' e => (nomatch e), fun k e => (nomatch e)⟩
def v0X : XV := (((emB ((1, 1, 0, 0, 0, (fun _ => 0), (fun _ => 0), (fun _ => 0)) : BV) 2 2), (((fun _ => ((1, 1, 0, 0, 0, (fun _ => 0), (fun _ => 0), (fun _ => 0)) : BV)), 0, 0) : HV), (((fun _ => 0), 0) : TV), ((0, 0, 0, 0) : NV), ((((1, 1, 0, 0, 0, (fun _ => 0), (fun _ => 0), (fun _ => 0)) : BV), 0, (fun _ => ((0, 0, 0, 0) : NV)), 0, 0, 0, 0) : SV), ((1, 1, 1) : DV)) : XV)
theorem S0_RB : RB (XV.board v0X) S0 := by
  have hc : ∀ t n : Nat, cellOfN S0 t n = none := by
    intro t n
    induction n with
    | zero => rfl
    | succ n ih => exact ih
  refine ⟨⟨rfl, rfl, rfl, rfl⟩, ⟨0, by omega, rfl, fun k _ => ?_⟩, fun k hk => ?_, fun t ht => ?_, fun p hp => absurd hp (Nat.not_lt_zero p)⟩
  · unfold bitN
    rw [Nat.zero_div]
    rfl
  · show fillm (fun _ => 0) 12 (-1) k = _
    unfold fillm
    rw [if_pos hk]
    rfl
  · show fillm (fun _ => 0) 12 (-1) t = _
    unfold fillm
    rw [if_pos ht]
    have e : cellOf S0 t = none := hc t _
    rw [e]
    rfl
