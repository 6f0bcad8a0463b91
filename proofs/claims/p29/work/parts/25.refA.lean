theorem any4_t {f : Nat → Bool} (h : any4 f = true) : f 0 = true ∨ f 1 = true ∨ f 2 = true ∨ f 3 = true := by
  unfold any4 at h
  simpa using h
theorem any4_f {f : Nat → Bool} (h : ¬ any4 f = true) : f 0 = false ∧ f 1 = false ∧ f 2 = false ∧ f 3 = false := by
  unfold any4 at h
  simpa using h
theorem cellOfN_lt {S : AS} {t : Nat} : ∀ {n k : Nat}, cellOfN S t n = some k → k < n
  | 0, k, h => by cases h
  | n + 1, k, h => by
    unfold cellOfN at h
    split at h
    · split at h
      · cases h; omega
      · have := cellOfN_lt h; omega
    · have := cellOfN_lt h; omega
theorem misfit_le (S : AS) (k p : Nat) : misfit S k p ≤ 6 := by
  unfold misfit
  repeat' split
  all_goals omega
theorem why_le (S : AS) (k p : Nat) : why S k p ≤ 6 := by
  have := misfit_le S k p
  unfold why
  repeat' split
  all_goals omega
theorem cnt_le (f : Nat → Bool) : ∀ n, cnt f n ≤ n
  | 0 => Nat.le_refl 0
  | n + 1 => by
    have := cnt_le f n
    have h2 : (f n).toNat ≤ 1 := Bool.toNat_le _
    show cnt f n + (f n).toNat ≤ n + 1
    omega
