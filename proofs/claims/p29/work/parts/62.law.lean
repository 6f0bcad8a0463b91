theorem rng_of {x : Int32} {n lo hi : Nat} (e : x = nI n) (h1 : lo ≤ n) (h2 : n ≤ hi) (hb : hi < 2 ^ 31) : nI lo ≤ x ∧ x ≤ nI hi := by
  rw [e]
  exact ⟨(nI_leI (by omega) (by omega)).mpr h1, (nI_leI (by omega) hb).mpr h2⟩
