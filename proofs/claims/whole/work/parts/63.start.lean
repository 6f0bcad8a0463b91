/-! the start: both begin with the same puzzle -/
def S0 : AS := (2, 2, 0, 0, fun _ => 0, fun _ => none, fun _ => false)
theorem S0_inv : Inv S0 := ⟨⟨by decide, by decide⟩, ⟨by decide, by decide⟩, Nat.zero_le _, Nat.zero_le _, fun i _ => Nat.zero_le _, fun k p e => (nomatch e), fun k k' p p' e => (nomatch e), fun k e => (nomatch e)⟩
theorem S0_RB : RB (XV.board v0X) S0 := by
  have hc : ∀ t n : Nat, cellOfN S0 t n = none := by
    intro t n
    induction n with
    | zero => rfl
    | succ n ih => exact ih
  refine ⟨⟨rfl, rfl, rfl, rfl⟩, ⟨0, by omega, rfl, fun k _ => ?_⟩, fun k hk => ?_, fun t ht => ?_, fun p hp => absurd hp (Nat.not_lt_zero p)⟩
  · unfold bitN
    rw [Nat.zero_div]
    rfl
  · show fillm (fun _ => 0) 12 (-1) k = _
    unfold fillm
    rw [if_pos hk]
    rfl
  · show fillm (fun _ => 0) 12 (-1) t = _
    unfold fillm
    rw [if_pos ht]
    have e : cellOf S0 t = none := hc t _
    rw [e]
    rfl
theorem S0_RZ : RZ (MV.z v0M) S0 := by
  have h : RZ (fun _ => 0) ((0, 0, 0, 0, fun _ => 0, fun _ => some 0, fun _ => false) : AS) := ⟨rfl, rfl, rfl, rfl, fun i _ => rfl, fun k _ => rfl, fun k _ => rfl⟩
  exact h.emp 2 2
theorem inv_0 : INV v0X v0M (fun _ => 0) := ⟨S0, [], [], ⟨S0_RB, S0_inv, ⟨rfl, Nat.zero_le _, 0, by omega, rfl, fun i T h => (nomatch h)⟩, fun T h => (nomatch h), ⟨rfl, Nat.zero_le _, fun i c h => (nomatch h), fun c h => (nomatch h)⟩⟩, ⟨S0_RZ, S0_inv, ⟨rfl, Nat.zero_le _, fun i T h => (nomatch h)⟩, fun T h => (nomatch h), ⟨rfl, Nat.zero_le _, fun i c h => (nomatch h)⟩⟩⟩
theorem whole_start {p : Program} {e : Env} {s : State} {m : MethodId} {below : List Frame} {meth : Method} {c : Code} (l : Launch) (hflags : l.flags = flags0) {b L : Nat} {xs : Nat → Int32} (hL : L ≤ 2048) (C0 : lw_At p s m meth c b L xs) : W p l e room_1 s m #[Value.ref b] below meth c s.heap [] 0 0 (lw_Z below #[Value.ref b] s) (entryFrame m ([Value.ref b] : List Value).toArray 9) :=
  whole_walk l hflags hL C0 INV inv_0 (fun i vX vM vO _ h => by
    obtain ⟨S, L, B, hX, hM⟩ := h
    exact law_step (fun _ _ _ h => h) hX hM)
