theorem pushS_inv {L : List AS} {S : AS} (hL : ∀ T ∈ L, Inv T) (hS : Inv S) : ∀ T ∈ pushS L S, Inv T := by
  intro T hT
  unfold pushS at hT
  rcases List.mem_append.mp hT with h | h
  · split at h
    · exact hL T (List.mem_of_mem_drop h)
    · exact hL T h
  · rw [List.mem_singleton.mp h]; exact hS
theorem nI_rng {x : Int32} {a b : Nat} (ha : a < 2 ^ 31) (hb : b < 2 ^ 31) (h : nI a ≤ x ∧ x ≤ nI b) : ∃ n, a ≤ n ∧ n ≤ b ∧ x = nI n := by
  have h1 := Int32.le_iff_toInt_le.mp h.1
  have h3 := Int32.le_iff_toInt_le.mp h.2
  rw [nI_toInt ha] at h1
  rw [nI_toInt hb] at h3
  have h0 : ¬ x < 0 := fun z => by
    have h2 := Int32.lt_iff_toInt_lt.mp z
    have h4 : (0 : Int32).toInt = 0 := by decide
    rw [h4] at h2
    omega
  obtain ⟨n, hn, rfl⟩ := nI_of h0
  rw [nI_toInt hn] at h1 h3
  exact ⟨n, by omega, by omega, rfl⟩
theorem Inv.emp {S : AS} (h : Inv S) {r c : Nat} (hr : 1 ≤ r ∧ r ≤ 3) (hc : 1 ≤ c ∧ c ≤ 4) : Inv ((r, c, S.ru, S.t, S.F, fun _ => none, fun _ => false) : AS) := by
  obtain ⟨h1, h2, h3, h4, h5, h6, h7⟩ := h
  exact ⟨hr, hc, h3, h4, h5, fun k p e => (nomatch e), fun k k' p p' e => (nomatch e), fun k e => (nomatch e)⟩
