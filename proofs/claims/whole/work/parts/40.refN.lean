/-! the reference: clear, firstError, load -/
def clrS (S : AS) (k : Nat) : AS := (S.r, S.c, S.ru, S.t, S.F, fun j => if j < k ∧ S.X j = false then none else S.P j, S.X)
def clrB (S : AS) (j : Nat) : Bool := (S.P j).isSome && !S.X j
theorem clrS_keep {S : AS} {k : Nat} (h : S.P k = none ∨ S.X k = true) : clrS S (k + 1) = clrS S k := AS.ext' rfl rfl rfl rfl rfl (fun j => by
  show (if j < k + 1 ∧ S.X j = false then none else S.P j) = (if j < k ∧ S.X j = false then none else S.P j)
  by_cases e : j = k
  · subst e
    rw [if_neg (c := j < j ∧ S.X j = false) (fun z => Nat.lt_irrefl j z.1)]
    rcases h with h | h
    · rw [h, ite_self]
    · rw [if_neg (fun z => by rw [h] at z; exact absurd z.2 (by decide))]
  · by_cases hb : j < k ∧ S.X j = false
    · rw [if_pos hb, if_pos ⟨by omega, hb.2⟩]
    · rw [if_neg hb, if_neg (fun z => hb ⟨by omega, z.2⟩)]) rfl
theorem clrS_take {S : AS} {k : Nat} (h : S.X k = false) : (clrS S k).put k none = clrS S (k + 1) := AS.ext' rfl rfl rfl rfl rfl (fun j => by
  by_cases e : j = k
  · subst e
    rw [put_at]
    exact (if_pos ⟨by omega, h⟩).symm
  · rw [put_ne _ _ e]
    show (if j < k ∧ S.X j = false then none else S.P j) = (if j < k + 1 ∧ S.X j = false then none else S.P j)
    by_cases hb : j < k ∧ S.X j = false
    · rw [if_pos hb, if_pos ⟨by omega, hb.2⟩]
    · rw [if_neg hb, if_neg (fun z => hb ⟨by omega, z.2⟩)]) rfl
theorem Inv.clr {S : AS} (h : Inv S) (k : Nat) : Inv (clrS S k) := by
  obtain ⟨h1, h2, h3, h4, h5, h6, h7, h8⟩ := h
  have g : ∀ j p, (clrS S k).P j = some p → S.P j = some p := fun j p e => by
    have e : (if j < k ∧ S.X j = false then none else S.P j) = some p := e
    split at e
    · cases e
    · exact e
  exact ⟨h1, h2, h3, h4, h5, fun j p e => h6 j p (g j p e), fun j j' p p' e e' => h7 j j' p p' (g j p e) (g j' p' e'), h8⟩
theorem sp_X7_clear {M : MV} {S : AS} {L : List AS} {B : List Nat} (hM : RM M S L B) {Q : Int32 → MV → Prop} (h : ∀ M', RM M' (clrS S S.n) (pushS L S) B → MV.thrown M' = 0 → Q (nI (sm (fun j => (clrB S j).toNat) S.n)) M') : wp_X7_clear M Q := by
  have gI := hM.2.1
  have hn := gI.n12
  refine rm_save (hM.thrown 0) (fun M1 hM1 hth => ?_)
  obtain ⟨z1, -, g3, g4, g5⟩ := hM1
  intro P hP
  have key : ∀ d k : Nat, k + d = S.n → ∀ z : Nat → Int32, RZ z (clrS S k) → P (MV.s_z M1 z) (nI (sm (fun j => (clrB S j).toNat) k)) (nI k) := by
    intro d
    induction d with
    | zero =>
      intro k hk z hz
      obtain rfl : k = S.n := by omega
      apply hP
      unfold bd_X7_clear_13
      exact sp_X7_cells (M := MV.s_z M1 z) hz (bq_t ((nI_leI (a := S.n) (b := S.n) (by omega) (by omega)).mpr (Nat.le_refl _)) (h _ ⟨hz, gI.clr _, g3, g4, g5⟩ hth))
    | succ d ih =>
      intro k hk z hz
      have hsm := sm_le (f := fun j => (clrB S j).toNat) (c := 1) (fun j => Bool.toNat_le _) k
      apply hP
      unfold bd_X7_clear_13
      refine sp_X7_cells (M := MV.s_z M1 z) hz ?_
      refine bq_f (fun y => by
        have y : nI S.n ≤ nI k := y
        rw [nI_leI (by omega) (by omega)] at y; omega) ?_
      have eP : z (28 + k) = enc (S.P k) := (hz.2.2.2.2.2.1 k (by omega)).trans (by rw [show (clrS S k).P k = S.P k from if_neg (fun y => Nat.lt_irrefl k y.1)])
      have eX : z (40 + k) = nI (S.X k).toNat := hz.2.2.2.2.2.2 k (by omega)
      show vp_in (28 + nI k) 52 ∧ (z (Int32.toNatClampNeg (28 + nI k)) = -1 → _) ∧ (¬ z (Int32.toNatClampNeg (28 + nI k)) = -1 → vp_in (40 + nI k) 52 ∧ (¬ z (Int32.toNatClampNeg (40 + nI k)) = 0 → _) ∧ (z (Int32.toNatClampNeg (40 + nI k)) = 0 → vp_in (28 + nI k) 52 ∧ ∀ z8 : Nat → Int32, z8 = upd z (Int32.toNatClampNeg (28 + nI k)) (-1) → ∀ y : Int32, y = nI (sm (fun j => (clrB S j).toNat) k) + 1 → _))
      rw [nn_lit 28, nI_add, nn_lit 40, nI_add, nI_clamp (by omega), nI_clamp (by omega), eP, eX]
      have keep : (S.P k = none ∨ S.X k = true) → clrB S k = false → wp_X7_clear_59 P Q (MV.s_z M1 z) (nI (sm (fun j => (clrB S j).toNat) k)) (nI k) := by
        intro e e2 y hy
        rw [nI_1] at hy
        subst hy
        have hnx := ih (k + 1) (by omega) z (by rw [clrS_keep e]; exact hz)
        have es : sm (fun j => (clrB S j).toNat) (k + 1) = sm (fun j => (clrB S j).toNat) k := by
          show _ + (clrB S k).toNat = _
          rw [e2]; rfl
        rw [es] at hnx
        exact hnx
      refine ⟨vp_in_nI (by omega) (by omega), ?_⟩
      cases hp : S.P k with
      | none => exact bq_t rfl (keep (Or.inl hp) (by unfold clrB; rw [hp]; rfl))
      | some p =>
        have hp9 := gI.p96 hp
        refine bq_f (nn_ne_m1 (by omega)) ⟨vp_in_nI (by omega) (by omega), ?_⟩
        cases hx : S.X k with
        | true => exact bn_f (by decide) (keep (Or.inr hx) (by unfold clrB; rw [hx, hp]; rfl))
        | false =>
          refine bn_t rfl ⟨vp_in_nI (by omega) (by omega), fun z8 hz8 x1 hx1 y hy => ?_⟩
          rw [nI_1] at hx1 hy
          subst hx1 hy
          have hz9 : RZ z8 (clrS S (k + 1)) := by
            rw [hz8, ← clrS_take hx]
            exact hz.put (by omega) none
          have hnx := ih (k + 1) (by omega) z8 hz9
          have es : sm (fun j => (clrB S j).toNat) (k + 1) = sm (fun j => (clrB S j).toNat) k + 1 := by
            show _ + (clrB S k).toNat = _
            rw [show clrB S k = true by unfold clrB; rw [hx, hp]; rfl]; rfl
          rw [es] at hnx
          exact hnx
  have e0 : clrS S 0 = S := AS.ext' rfl rfl rfl rfl rfl (fun j => by
    show (if j < 0 ∧ S.X j = false then none else S.P j) = S.P j
    exact if_neg (fun y => Nat.not_lt_zero j y.1)) rfl
  exact key S.n 0 (by omega) (MV.z M1) (by rw [e0]; exact z1)
theorem sp_X7_firstError {M : MV} {S : AS} {L : List AS} {B : List Nat} (hM : RM M S L B) (h33 : ∀ c ∈ B, 33 ≤ c ∧ c ≤ 126) {Q : Int32 → MV → Prop} (h : ∀ M', RM M' S L B → MV.thrown M' = 0 → Q (nI (fwB B)) M') : wp_X7_firstError M Q := by
  refine sp_X7_readText (M := MV.s_thrown M 0) hM.2.2.2.2 h33 (fun x f _ => ?_)
  exact h _ (hM.thrown 0) rfl
