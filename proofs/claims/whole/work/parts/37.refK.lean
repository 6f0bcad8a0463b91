/-! the reference: hint -/
def manyA (S : AS) (k : Nat) : Nat := if (S.P k).isNone = true then pm S k else 0
def bst (S : AS) : Nat → Option Nat × Nat
  | 0 => (none, 0)
  | n + 1 => if 0 < manyA S n ∧ ((bst S n).1 = none ∨ manyA S n < (bst S n).2) then (some n, manyA S n) else bst S n
def hintV (S : AS) : Int32 := match (bst S S.n).1 with
  | none => -1
  | some k => 100 * nI k + enc (pf S k 0)
theorem manyA_le {S : AS} (hI : Inv S) (k : Nat) : manyA S k ≤ 96 := by
  have ht := hI.2.2.2.1
  have := cnt_le (fun p => why S k p == 0) (8 * S.t)
  unfold manyA
  split
  · show cnt _ _ ≤ 96
    omega
  · omega
theorem bst_lt {S : AS} (hI : Inv S) : ∀ n, (∀ k, (bst S n).1 = some k → k < n) ∧ (bst S n).2 ≤ 96
  | 0 => ⟨fun k h => (nomatch h), Nat.zero_le _⟩
  | n + 1 => by
    obtain ⟨h1, h2⟩ := bst_lt hI n
    unfold bst
    split
    · exact ⟨fun k h => by cases h; omega, manyA_le hI n⟩
    · exact ⟨fun k h => by have := h1 k h; omega, h2⟩
theorem sp_X7_hintNow {M : MV} {S : AS} (hz : RZ (MV.z M) S) (hI : Inv S) {Q : Int32 → MV → Prop} (h : Q (hintV S) M) : wp_X7_hintNow M Q := by
  have hn := hI.n12
  unfold wp_X7_hintNow
  intro P hP
  have key : ∀ d k : Nat, k + d = S.n → P M (enc (bst S k).1) (nI (bst S k).2) (nI k) := by
    intro d
    induction d with
    | zero =>
      intro k hk
      apply hP
      unfold bd_X7_hintNow_6
      refine sp_X7_cells hz ?_
      obtain rfl : k = S.n := by omega
      have hb := (bst_lt hI S.n).1
      refine bq_t ((nI_leI (by omega) (by omega)).mpr (by omega)) ?_
      unfold hintV at h
      cases e : (bst S S.n).1 with
      | none =>
        simp only [e] at h
        exact bn_t rfl h
      | some k =>
        simp only [e] at h
        have := hb k e
        exact bn_f (nn_ne_m1 (by omega)) (sp_X7_possibleFrom (p := 0) hz hI (by omega) (by omega) h)
    | succ d ih =>
      intro k hk
      have hnx := ih (k + 1) (by omega)
      obtain ⟨hb, hb2⟩ := bst_lt hI k
      have hm := manyA_le hI k
      have go : ∀ m : Nat, m = manyA S k → wp_X7_hintNow_36 P (fun (vM_12 : MV) (x1_13 : Int32) => (¬ x1_13 = (-1) → wp_X7_possibleFrom vM_12 x1_13 0 (fun (r_15 : Int32) (vM_14 : MV) => Q ((100 * x1_13) + r_15) vM_14)) ∧ (x1_13 = (-1) → Q (-1) vM_12)) Q M (enc (bst S k).1) (nI (bst S k).2) (nI k) (nI m) := by
        intro m hmm
        subst hmm
        have keep : ¬ (0 < manyA S k ∧ ((bst S k).1 = none ∨ manyA S k < (bst S k).2)) → ∀ y : Int32, y = nI k + 1 → P M (enc (bst S k).1) (nI (bst S k).2) y := by
          intro e y hy
          rw [nI_1] at hy
          subst hy
          unfold bst at hnx
          rw [if_neg e] at hnx
          exact hnx
        have take : (0 < manyA S k ∧ ((bst S k).1 = none ∨ manyA S k < (bst S k).2)) → ∀ y : Int32, y = nI k + 1 → P M (nI k) (nI (manyA S k)) y := by
          intro e y hy
          rw [nI_1] at hy
          subst hy
          unfold bst at hnx
          rw [if_pos e] at hnx
          exact hnx
        unfold wp_X7_hintNow_36
        rw [nn_lit 0]
        refine ek_if (nI_leI (by omega) (by omega)) (fun e => keep (by omega)) (fun e => ?_)
        cases e2 : (bst S k).1 with
        | none => exact bq_t rfl (take ⟨by omega, Or.inl e2⟩)
        | some q =>
          have := hb q e2
          rw [e2] at keep
          refine bq_f (nn_ne_m1 (by omega)) (ek_if (nI_leI (by omega) (by omega)) (fun e3 => keep (fun z => ?_)) (fun e3 => take ⟨by omega, Or.inr (by omega)⟩))
          rcases z.2 with z | z
          · cases z
          · omega
      apply hP
      unfold bd_X7_hintNow_6
      refine sp_X7_cells hz ?_
      rw [nn_lit 28, nI_add, nI_clamp (by omega), hz.2.2.2.2.2.1 k (by omega)]
      refine bq_f (fun z => by rw [nI_leI (by omega) (by omega)] at z; omega) ⟨vp_in_nI (by omega) (by omega), ?_⟩
      cases hp : S.P k with
      | none => exact bn_t rfl (sp_X7_possibleMany hz hI (by omega) (go _ (by unfold manyA; rw [hp]; rfl)))
      | some p =>
        have := hI.p96 hp
        exact bn_f (nn_ne_m1 (by omega)) (go 0 (by unfold manyA; rw [hp]; rfl))
  exact key S.n 0 (by omega)
theorem sp_X7_hint {M : MV} {S : AS} {L : List AS} {B : List Nat} (hM : RM M S L B) {Q : Int32 → MV → Prop} (h : ∀ M', RM M' S L B → MV.thrown M' = 0 → Q (hintV S) M') : wp_X7_hint M Q :=
  sp_X7_hintNow (M := MV.s_thrown M 0) hM.1 hM.2.1 (h _ (hM.thrown 0) rfl)
