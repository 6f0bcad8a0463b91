/-! the reference: clear, firstError, load -/
def clrS (S : AS) (k : Nat) : AS := (S.r, S.c, S.ru, S.t, S.F, fun j => if j < k ∧ S.X j = false then none else S.P j, S.X)
def clrB (S : AS) (j : Nat) : Bool := (S.P j).isSome && !S.X j
theorem Inv.clr {S : AS} (h : Inv S) (k : Nat) : Inv (clrS S k) := by
  obtain ⟨h1, h2, h3, h4, h5, h6, h7, h8⟩ := h
  have g : ∀ j p, (clrS S k).P j = some p → S.P j = some p := fun j p e => by
    have e : (if j < k ∧ S.X j = false then none else S.P j) = some p := e
    split at e
    · cases e
    · exact e
  exact ⟨h1, h2, h3, h4, h5, fun j p e => h6 j p (g j p e), fun j j' p p' e e' => h7 j j' p p' (g j p e) (g j' p' e'), h8⟩
