/-! THE SEARCH: the model, and the reference's loop -/
theorem AS.ext' {S T : AS} (h1 : S.r = T.r) (h2 : S.c = T.c) (h3 : S.ru = T.ru) (h4 : S.t = T.t) (h5 : S.F = T.F) (h6 : ∀ j, S.P j = T.P j) (h7 : S.X = T.X) : S = T := Prod.ext h1 (Prod.ext h2 (Prod.ext h3 (Prod.ext h4 (Prod.ext h5 (Prod.ext (funext h6) h7)))))
/-- a cell gets a placing, or none -/
def AS.put (S : AS) (k : Nat) (o : Option Nat) : AS := (S.r, S.c, S.ru, S.t, S.F, fun j => if j = k then o else S.P j, S.X)
theorem put_at (S : AS) (k : Nat) (o : Option Nat) : (S.put k o).P k = o := if_pos rfl
theorem put_ne (S : AS) {k j : Nat} (o : Option Nat) (h : j ≠ k) : (S.put k o).P j = S.P j := if_neg h
theorem put_self {S : AS} {k : Nat} (o : Option Nat) (h : S.P k = none) : (S.put k o).put k none = S := AS.ext' rfl rfl rfl rfl rfl (fun j => by
  by_cases e : j = k
  · rw [e, put_at, h]
  · rw [put_ne _ _ e, put_ne _ _ e]) rfl
theorem cellOfN_none {S : AS} {t : Nat} : ∀ {n : Nat}, cellOfN S t n = none → ∀ k p, k < n → S.P k = some p → p / 8 ≠ t
  | 0, _, k, p, hk, _ => absurd hk (Nat.not_lt_zero k)
  | n + 1, h, k, p, hk, hp => by
    unfold cellOfN at h
    by_cases e : k = n
    · subst e
      intro e2
      simp only [hp] at h
      rw [if_pos e2] at h
      cases h
    · refine cellOfN_none (n := n) ?_ k p (by omega) hp
      split at h
      · split at h
        · cases h
        · exact h
      · exact h
theorem why_0 {S : AS} {k p : Nat} (h : why S k p = 0) : S.P k = none ∧ cellOf S (p / 8) = none ∧ misfit S k p = 0 := by
  unfold why at h
  split at h
  · omega
  · next h1 =>
    split at h
    · omega
    · next h2 =>
      refine ⟨?_, ?_, h⟩
      · cases e : S.P k with
        | none => rfl
        | some q => exact absurd (by rw [e]; rfl) h1
      · cases e : cellOf S (p / 8) with
        | none => rfl
        | some q => exact absurd (by rw [e]; rfl) h2
theorem Inv.put {S : AS} (h : Inv S) {k p : Nat} (hk : k < S.n) (hp : p < 8 * S.t) (hw : why S k p = 0) : Inv (S.put k (some p)) := by
  obtain ⟨h1, h2, h3, h4, h5, h6, h7, h8⟩ := h
  obtain ⟨-, w2, -⟩ := why_0 hw
  refine ⟨h1, h2, h3, h4, h5, fun j q hj => ?_, fun j j' q q' hj hj' e => ?_, h8⟩
  · by_cases e : j = k
    · subst e
      rw [put_at] at hj
      cases hj
      exact ⟨hk, hp⟩
    · rw [put_ne _ _ e] at hj
      exact h6 j q hj
  · by_cases e1 : j = k
    · by_cases e2 : j' = k
      · rw [e1, e2]
      · subst e1
        rw [put_at] at hj
        cases hj
        rw [put_ne _ _ e2] at hj'
        exact absurd e.symm (cellOfN_none w2 j' q' (h6 j' q' hj').1 hj')
    · rw [put_ne _ _ e1] at hj
      by_cases e2 : j' = k
      · subst e2
        rw [put_at] at hj'
        cases hj'
        exact absurd e (cellOfN_none w2 j q (h6 j q hj).1 hj)
      · rw [put_ne _ _ e2] at hj'
        exact h7 j j' q q' hj hj' e
theorem Inv.off {S : AS} (h : Inv S) (k : Nat) : Inv (S.put k none) := by
  obtain ⟨h1, h2, h3, h4, h5, h6, h7, h8⟩ := h
  have g : ∀ j q, (S.put k none).P j = some q → S.P j = some q := fun j q hj => by
    by_cases e : j = k
    · rw [e, put_at] at hj; cases hj
    · rw [put_ne _ _ e] at hj; exact hj
  exact ⟨h1, h2, h3, h4, h5, fun j q hj => h6 j q (g j q hj), fun j j' q q' hj hj' e => h7 j j' q q' (g j q hj) (g j' q' hj') e, h8⟩
/-- what a search tells: found, steps, cut, over, the board -/
abbrev SR : Type := Nat × Nat × Bool × Bool × AS
def tryA (rec : AS → Nat → Nat → SR) (k : Nat) : Nat → Nat → AS → Nat → Nat → SR
  | 0, _, S, f, st => (f, st, false, false, S)
  | n + 1, p, S, f, st =>
    if why S k p = 0 then
      if st = 600 then (f, st, true, true, S)
      else if (rec (S.put k (some p)) f (st + 1)).2.2.2.1 = true then rec (S.put k (some p)) f (st + 1)
      else tryA rec k n (p + 1) S (rec (S.put k (some p)) f (st + 1)).1 (rec (S.put k (some p)) f (st + 1)).2.1
    else tryA rec k n (p + 1) S f st
theorem tryA_s (rec : AS → Nat → Nat → SR) (k n p : Nat) (S : AS) (f st : Nat) : tryA rec k (n + 1) p S f st = if why S k p = 0 then
      if st = 600 then (f, st, true, true, S)
      else if (rec (S.put k (some p)) f (st + 1)).2.2.2.1 = true then rec (S.put k (some p)) f (st + 1)
      else tryA rec k n (p + 1) S (rec (S.put k (some p)) f (st + 1)).1 (rec (S.put k (some p)) f (st + 1)).2.1
    else tryA rec k n (p + 1) S f st := rfl
theorem pfN_s (S : AS) (k n p : Nat) : pfN S k (n + 1) p = if why S k p = 0 then some p else pfN S k n (p + 1) := rfl
def fillA (most : Nat) : List Nat → AS → Nat → Nat → SR
  | [], S, f, st => (f + 1, st, false, decide (most ≤ f + 1), S)
  | k :: ks, S, f, st => tryA (fillA most ks) k (8 * S.t) 0 S f st
/-- not over: the board is as it was, nothing was cut -/
theorem tryA_same {rec : AS → Nat → Nat → SR} {k : Nat} : ∀ {n p : Nat} {S : AS} {f st : Nat}, (tryA rec k n p S f st).2.2.2.1 = false → (tryA rec k n p S f st).2.2.2.2 = S ∧ (tryA rec k n p S f st).2.2.1 = false
  | 0, p, S, f, st, _ => ⟨rfl, rfl⟩
  | n + 1, p, S, f, st, h => by
    unfold tryA at h ⊢
    split at h
    · next e =>
      rw [if_pos e]
      split at h
      · cases h
      · next e2 =>
        rw [if_neg e2]
        split at h
        · next e3 => rw [e3] at h; cases h
        · next e3 =>
          rw [if_neg e3]
          exact tryA_same h
    · next e =>
      rw [if_neg e]
      exact tryA_same h
theorem fillA_same {most : Nat} {ks : List Nat} {S : AS} {f st : Nat} (h : (fillA most ks S f st).2.2.2.1 = false) : (fillA most ks S f st).2.2.2.2 = S ∧ (fillA most ks S f st).2.2.1 = false := by
  cases ks with
  | nil => exact ⟨rfl, rfl⟩
  | cons k ks => exact tryA_same h
/-- the numbers stay small -/
theorem tryA_b {rec : AS → Nat → Nat → SR} {k : Nat} (hr : ∀ S f st, f + 1 ≤ st → st ≤ 600 → (rec S f st).1 ≤ (rec S f st).2.1 ∧ (rec S f st).2.1 ≤ 600) : ∀ {n p : Nat} {S : AS} {f st : Nat}, f ≤ st → st ≤ 600 → (tryA rec k n p S f st).1 ≤ (tryA rec k n p S f st).2.1 ∧ (tryA rec k n p S f st).2.1 ≤ 600
  | 0, p, S, f, st, h1, h2 => ⟨h1, h2⟩
  | n + 1, p, S, f, st, h1, h2 => by
    unfold tryA
    split
    · split
      · exact ⟨h1, h2⟩
      · have h3 := hr (S.put k (some p)) f (st + 1) (by omega) (by omega)
        split
        · exact h3
        · exact tryA_b hr h3.1 h3.2
    · exact tryA_b hr h1 h2
theorem fillA_b {most : Nat} : ∀ (ks : List Nat) (S : AS) (f st : Nat), f + 1 ≤ st → st ≤ 600 → (fillA most ks S f st).1 ≤ (fillA most ks S f st).2.1 ∧ (fillA most ks S f st).2.1 ≤ 600
  | [], S, f, st, h1, h2 => ⟨h1, h2⟩
  | k :: ks, S, f, st, h1, h2 => tryA_b (fillA_b ks) (by omega) h2
/-- only the open cells change; what always holds stays -/
def Only (ks : List Nat) (S T : AS) : Prop := T.r = S.r ∧ T.c = S.c ∧ T.ru = S.ru ∧ T.t = S.t ∧ T.F = S.F ∧ T.X = S.X ∧ ∀ j, j ∉ ks → T.P j = S.P j
theorem Only.rf {ks : List Nat} {S : AS} : Only ks S S := ⟨rfl, rfl, rfl, rfl, rfl, rfl, fun _ _ => rfl⟩
theorem tryA_only {rec : AS → Nat → Nat → SR} {k : Nat} {ks : List Nat} (hr : ∀ S f st, Inv S → (∀ j ∈ ks, j < S.n) → Only ks S (rec S f st).2.2.2.2 ∧ Inv (rec S f st).2.2.2.2) : ∀ {n p : Nat} {S : AS} {f st : Nat}, n + p = 8 * S.t → Inv S → (∀ j ∈ k :: ks, j < S.n) → Only (k :: ks) S (tryA rec k n p S f st).2.2.2.2 ∧ Inv (tryA rec k n p S f st).2.2.2.2
  | 0, p, S, f, st, _, hI, _ => ⟨Only.rf, hI⟩
  | n + 1, p, S, f, st, hn, hI, hk => by
    unfold tryA
    split
    · next e =>
      split
      · exact ⟨Only.rf, hI⟩
      · split
        · obtain ⟨⟨g1, g2, g3, g4, g5, g6, g7⟩, g8⟩ := hr (S.put k (some p)) f (st + 1) (hI.put (hk k (List.mem_cons_self)) (by omega) e) (fun j hj => hk j (List.mem_cons_of_mem _ hj))
          exact ⟨⟨g1, g2, g3, g4, g5, g6, fun j hj => (g7 j (fun z => hj (List.mem_cons_of_mem _ z))).trans (put_ne _ _ (fun z => hj (by rw [z]; exact List.mem_cons_self)))⟩, g8⟩
        · exact tryA_only hr (by omega) hI hk
    · exact tryA_only hr (by omega) hI hk
theorem fillA_only {most : Nat} : ∀ (ks : List Nat) (S : AS) (f st : Nat), Inv S → (∀ j ∈ ks, j < S.n) → Only ks S (fillA most ks S f st).2.2.2.2 ∧ Inv (fillA most ks S f st).2.2.2.2
  | [], S, f, st, hI, _ => ⟨Only.rf, hI⟩
  | k :: ks, S, f, st, hI, hk => tryA_only (fillA_only ks) (by omega) hI hk
