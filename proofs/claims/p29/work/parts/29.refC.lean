theorem pushS_inv {L : List AS} {S : AS} (hL : ∀ T ∈ L, Inv T) (hS : Inv S) : ∀ T ∈ pushS L S, Inv T := by
  intro T hT
  unfold pushS at hT
  rcases List.mem_append.mp hT with h | h
  · split at h
    · exact hL T (List.mem_of_mem_drop h)
    · exact hL T h
  · rw [List.mem_singleton.mp h]; exact hS
theorem nI_rng {x : Int32} {a b : Nat} (ha : a < 2 ^ 31) (hb : b < 2 ^ 31) (h : nI a ≤ x ∧ x ≤ nI b) : ∃ n, a ≤ n ∧ n ≤ b ∧ x = nI n := by
  have h1 := Int32.le_iff_toInt_le.mp h.1
  have h3 := Int32.le_iff_toInt_le.mp h.2
  rw [nI_toInt ha] at h1
  rw [nI_toInt hb] at h3
  have h0 : ¬ x < 0 := fun z => by
    have h2 := Int32.lt_iff_toInt_lt.mp z
    have h4 : (0 : Int32).toInt = 0 := by decide
    rw [h4] at h2
    omega
  obtain ⟨n, hn, rfl⟩ := nI_of h0
  rw [nI_toInt hn] at h1 h3
  exact ⟨n, by omega, by omega, rfl⟩
theorem RZ.emp {z : Nat → Int32} {S : AS} (h : RZ z S) (r c : Nat) : RZ (emz (upd (upd z 0 (nI r)) 1 (nI c)) 12) ((r, c, S.ru, S.t, S.F, fun _ => none, fun _ => false) : AS) := by
  obtain ⟨h0, h1, h2, h3, h4, h5, h6⟩ := h
  have e : ∀ k, k < 28 → emz (upd (upd z 0 (nI r)) 1 (nI c)) 12 k = upd (upd z 0 (nI r)) 1 (nI c) k := fun k hk => by
    unfold emz
    rw [if_neg (by omega), if_neg (by omega)]
  refine ⟨?_, ?_, ?_, ?_, fun i hi => ?_, fun k hk => ?_, fun k hk => ?_⟩
  · rw [e _ (by omega), pk_un (by omega), pk_us]
  · rw [e _ (by omega), pk_us]
  · rw [e _ (by omega), pk_un (by omega), pk_un (by omega)]; exact h2
  · rw [e _ (by omega), pk_un (by omega), pk_un (by omega)]; exact h3
  · rw [e _ (by omega), pk_un (by omega), pk_un (by omega)]; exact h4 i hi
  · unfold emz
    rw [if_pos (by omega)]
    rfl
  · unfold emz
    rw [if_neg (by omega), if_pos (by omega)]
    rfl
theorem Inv.emp {S : AS} (h : Inv S) {r c : Nat} (hr : 1 ≤ r ∧ r ≤ 3) (hc : 1 ≤ c ∧ c ≤ 4) : Inv ((r, c, S.ru, S.t, S.F, fun _ => none, fun _ => false) : AS) := by
  obtain ⟨h1, h2, h3, h4, h5, h6, h7⟩ := h
  exact ⟨hr, hc, h3, h4, h5, fun k p e => (nomatch e), fun k k' p p' e => (nomatch e), fun k e => (nomatch e)⟩
