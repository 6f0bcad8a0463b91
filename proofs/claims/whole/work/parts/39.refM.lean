/-! the reference: starts, to its end -/
theorem bitsA_le (m : Nat) : bitsA m ≤ 12 := by
  have h := sm_le (f := bitN m) (c := 1) (fun k => by
    have : bitN m k < 2 := Nat.mod_lt _ (by omega)
    omega) 12
  exact h
theorem sp_X7_startsNow_9 {M0 : MV} {S : AS} {L : List AS} {B : List Nat} {many : Nat} (hmany : many < 3) {K : MV → Int32 → Prop} {Q : Int32 → MV → Prop} {M : MV} (hM : RM M S L B) (ht : MV.thrown M = MV.thrown M0)
    (h1 : ∀ q, stM S many (2 ^ S.n) 0 = some q → ∀ M', RM M' S L B → MV.thrown M' = MV.thrown M0 → Q (nI q) M')
    (h0 : stM S many (2 ^ S.n) 0 = none → ∀ M', RM M' S L B → MV.thrown M' = MV.thrown M0 → K M' (nI many)) : wp_X7_startsNow_9 Q K M (nI many) 0 := by
  intro P hP
  have hn := hM.2.1.n12
  have hp : 2 ^ S.n ≤ 2 ^ 12 := Nat.pow_le_pow_right (by omega) hn
  have key : ∀ d m : Nat, m + d = 2 ^ S.n → ∀ M1 : MV, RM M1 S L B → MV.thrown M1 = MV.thrown M0 → stM S many (2 ^ S.n) 0 = stM S many d m → P M1 (nI many) (nI m) := by
    intro d
    induction d with
    | zero =>
      intro m hm M1 k1 k2 k3
      apply hP
      unfold bd_X7_startsNow_9
      refine sp_X7_cells k1.1 ?_
      rw [nn_lit 1, nn_shl (by omega) (by omega), Nat.one_mul]
      exact bq_t ((nI_leI (by omega) (by omega)).mpr (by omega)) (h0 k3 M1 k1 k2)
    | succ d ih =>
      intro m hm M1 k1 k2 k3
      have hb := bitsA_le m
      have k4 : stM S many (d + 1) m = if bitsA m = many ∧ sureA S m = true then some m else stM S many d (m + 1) := rfl
      apply hP
      unfold bd_X7_startsNow_9
      refine sp_X7_cells k1.1 ?_
      rw [nn_lit 1, nn_shl (by omega) (by omega), Nat.one_mul]
      refine bq_f (fun z => by rw [nI_leI (by omega) (by omega)] at z; omega) (sp_X7_bits (by omega) ?_)
      have go : ¬ (bitsA m = many ∧ sureA S m = true) → ∀ M2 : MV, RM M2 S L B → MV.thrown M2 = MV.thrown M0 → wp_X7_startsNow_37 P K Q M2 (nI many) (nI m) := by
        intro e M2 g1 g2 y hy
        rw [nI_1] at hy
        subst hy
        rw [if_neg e] at k4
        exact ih (m + 1) (by omega) M2 g1 g2 (k3.trans k4)
      refine bn_if (nI_eq (by omega) (by omega)) (fun e => ?_) (fun e => go (fun z => e z.1) M1 k1 k2)
      refine sp_X7_isSure k1 (by omega) (fun M2 g1 g2 => ?_)
      cases hs : sureA S m with
      | false => exact bq_t rfl (go (fun z => by rw [hs] at z; exact Bool.false_ne_true z.2) M2 g1 (g2.trans k2))
      | true =>
        rw [if_pos ⟨e, hs⟩] at k4
        exact bq_f (by decide) (h1 m (k3.trans k4) M2 g1 (g2.trans k2))
  exact key (2 ^ S.n) 0 (by omega) M hM ht rfl
theorem sp_X7_startsNow {M : MV} {S : AS} {L : List AS} {B : List Nat} (hM : RM M S L B) {Q : Int32 → MV → Prop} (h : ∀ M', RM M' S L B → MV.thrown M' = MV.thrown M → Q (enc (stA S 3 0)) M') : wp_X7_startsNow M Q := by
  unfold wp_X7_startsNow
  intro P hP
  have key : ∀ d many : Nat, many + d = 3 → ∀ M1 : MV, RM M1 S L B → MV.thrown M1 = MV.thrown M → stA S 3 0 = stA S d many → P M1 (nI many) := by
    intro d
    induction d with
    | zero =>
      intro many hm M1 k1 k2 k3
      obtain rfl : many = 3 := by omega
      have g := h M1 k1 k2
      rw [k3] at g
      exact hP _ _ (bq_t (by decide) g)
    | succ d ih =>
      intro many hm M1 k1 k2 k3
      apply hP
      unfold bd_X7_startsNow_2
      refine bq_f (fun z => by rw [nn_lit 3, nI_leI (by omega) (by omega)] at z; omega) ?_
      have k4 : stA S (d + 1) many = match stM S many (2 ^ S.n) 0 with
        | some m => some m
        | none => stA S d (many + 1) := rfl
      refine sp_X7_startsNow_9 (M0 := M) (by omega) k1 k2 (fun q e M' g1 g2 => ?_) (fun e M' g1 g2 y hy => ?_)
      · simp only [e] at k4
        have g := h M' g1 g2
        rw [k3, k4] at g
        exact g
      · simp only [e] at k4
        rw [nI_1] at hy
        subst hy
        exact ih (many + 1) (by omega) M' g1 g2 (k3.trans k4)
  exact key 3 0 rfl M hM rfl rfl
theorem empties_le {S : AS} (hI : Inv S) : empties S ≤ 12 := Nat.le_trans (cnt_le _ _) hI.n12
theorem sp_X7_starts {M : MV} {S : AS} {L : List AS} {B : List Nat} (hM : RM M S L B) {Q : Int32 → MV → Prop} (h : ∀ M', RM M' S L B → MV.thrown M' = 0 → Q (startsV S) M') : wp_X7_starts M Q := by
  have he := empties_le hM.2.1
  unfold wp_X7_starts
  refine sp_X7_empties (M := MV.s_thrown M 0) hM.1 hM.2.1 ?_
  unfold startsV at h
  rw [nn_lit 0]
  refine ek_if (nI_leI (by omega) (by omega)) (fun e => ?_) (fun e => ?_)
  · refine sp_X7_startsNow (hM.thrown 0) (fun M' g1 g2 => ?_)
    have g := h M' g1 g2
    rw [if_neg (by omega)] at g
    exact g
  · have g := h _ (hM.thrown 0) rfl
    rw [if_pos (by omega)] at g
    exact g
