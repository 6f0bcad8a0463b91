/-! the reference: starts -/
def bitN (m k : Nat) : Nat := m / 2 ^ k % 2
def maskS (S : AS) (m : Nat) : AS := (S.r, S.c, S.ru, S.t, S.F, fun k => if bitN m k = 1 then S.P k else none, S.X)
def sureA (S : AS) (m : Nat) : Bool := decide ((srch (maskS S m) 2).1 = 1) && !(srch (maskS S m) 2).2.2.1
def bitsA (m : Nat) : Nat := sm (bitN m) 12
/-- the first mask from m on, d of them looked at -/
def stM (S : AS) (many : Nat) : Nat → Nat → Option Nat
  | 0, _ => none
  | d + 1, m => if bitsA m = many ∧ sureA S m = true then some m else stM S many d (m + 1)
def stA (S : AS) : Nat → Nat → Option Nat
  | 0, _ => none
  | d + 1, many => match stM S many (2 ^ S.n) 0 with
    | some m => some m
    | none => stA S d (many + 1)
def startsV (S : AS) : Int32 := if 0 < empties S then -1 else enc (stA S 3 0)
theorem bit_row {m k : Nat} (hm : m < 2 ^ 31) (hk : k < 32) : (jshr (nI m) (nI k)) &&& 1 = nI (bitN m k) := by
  rw [nn_shr hk hm, nn_lit 1, nn_and, Nat.and_one_is_mod]
  rfl
theorem Inv.mask {S : AS} (h : Inv S) (m : Nat) : Inv (maskS S m) := by
  obtain ⟨h1, h2, h3, h4, h5, h6, h7, h8⟩ := h
  have g : ∀ k p, (maskS S m).P k = some p → S.P k = some p := fun k p e => by
    have e : (if bitN m k = 1 then S.P k else none) = some p := e
    split at e
    · exact e
    · cases e
  exact ⟨h1, h2, h3, h4, h5, fun k p e => h6 k p (g k p e), fun k k' p p' e e' => h7 k k' p p' (g k p e) (g k' p' e'), h8⟩
theorem sp_X7_bits {m : Nat} (hm : m < 2 ^ 31) {Q : Int32 → Prop} (h : Q (nI (bitsA m))) : wp_X7_bits (nI m) Q := by
  unfold wp_X7_bits
  intro P hP
  have key : ∀ d k : Nat, k + d = 12 → P (nI m) (nI (sm (bitN m) k)) (nI k) := by
    intro d
    induction d with
    | zero =>
      intro k hk
      obtain rfl : k = 12 := by omega
      exact hP _ _ _ (bq_t (by decide) h)
    | succ d ih =>
      intro k hk
      have hnx := ih (k + 1) (by omega)
      apply hP
      unfold bd_X7_bits_4
      rw [bit_row hm (by omega)]
      refine bq_f (fun z => by rw [nn_lit 12, nI_leI (by omega) (by omega)] at z; omega) (fun y hy y2 hy2 => ?_)
      rw [nI_add] at hy
      rw [nI_1] at hy2
      subst hy hy2
      exact hnx
  exact key 12 0 rfl
/-- what isSure leaves alone -/
def KL (M M' : MV) : Prop := MV.thrown M' = MV.thrown M ∧ MV.saves M' = MV.saves M ∧ MV.saved M' = MV.saved M ∧ MV.length M' = MV.length M ∧ MV.text M' = MV.text M
theorem KL.km {M M1 M2 : MV} (h : KL M M1) (k : KM M1 M2) : KL M M2 := ⟨k.1.trans h.1, k.2.1.trans h.2.1, k.2.2.1.trans h.2.2.1, k.2.2.2.1.trans h.2.2.2.1, k.2.2.2.2.1.trans h.2.2.2.2⟩
theorem RM.kl {M M' : MV} {S T : AS} {L : List AS} {B : List Nat} (h : RM M S L B) (hk : KL M M') (hz : RZ (MV.z M') T) (hI : Inv T) : RM M' T L B := by
  obtain ⟨-, -, ⟨g1, g2, g3⟩, g4, ⟨t1, t2, t3⟩⟩ := h
  obtain ⟨-, k2, k3, k4, k5⟩ := hk
  refine ⟨hz, hI, ⟨k2.trans g1, g2, fun i T' hi => ?_⟩, g4, ⟨k4.trans t1, t2, fun i c hi => ?_⟩⟩
  · rw [k3]; exact g3 i T' hi
  · rw [k5]; exact t3 i c hi
def mkS (S : AS) (m k : Nat) : AS := (S.r, S.c, S.ru, S.t, S.F, fun j => if j < k ∧ ¬ bitN m j = 1 then none else S.P j, S.X)
def rsS (S : AS) (m k : Nat) : AS := (S.r, S.c, S.ru, S.t, S.F, fun j => if j < k then S.P j else (maskS S m).P j, S.X)
theorem mkS_step (S : AS) (m k : Nat) : (mkS S m k).put k (if bitN m k = 1 then S.P k else none) = mkS S m (k + 1) := AS.ext' rfl rfl rfl rfl rfl (fun j => by
  by_cases e : j = k
  · subst e
    rw [put_at]
    show _ = (if j < j + 1 ∧ ¬ bitN m j = 1 then none else S.P j)
    by_cases hb : bitN m j = 1
    · rw [if_pos hb, if_neg (by omega)]
    · rw [if_neg hb, if_pos ⟨by omega, hb⟩]
  · rw [put_ne _ _ e]
    show (if j < k ∧ ¬ bitN m j = 1 then none else S.P j) = (if j < k + 1 ∧ ¬ bitN m j = 1 then none else S.P j)
    by_cases hb : j < k ∧ ¬ bitN m j = 1
    · rw [if_pos hb, if_pos ⟨by omega, hb.2⟩]
    · rw [if_neg hb, if_neg (fun z => hb ⟨by omega, z.2⟩)]) rfl
theorem rsS_step (S : AS) (m k : Nat) : (rsS S m k).put k (S.P k) = rsS S m (k + 1) := AS.ext' rfl rfl rfl rfl rfl (fun j => by
  by_cases e : j = k
  · subst e
    rw [put_at]
    exact (if_pos (by omega)).symm
  · rw [put_ne _ _ e]
    show (if j < k then S.P j else (maskS S m).P j) = (if j < k + 1 then S.P j else (maskS S m).P j)
    by_cases hb : j < k
    · rw [if_pos hb, if_pos (by omega)]
    · rw [if_neg hb, if_neg (by omega)]) rfl
theorem out_none {S : AS} (hI : Inv S) {j : Nat} (h : ¬ j < S.n) : S.P j = none := by
  cases e : S.P j with
  | none => rfl
  | some p => exact absurd (hI.2.2.2.2.2.1 j p e).1 h
theorem mkS_n {S : AS} (hI : Inv S) (m : Nat) : mkS S m S.n = maskS S m := AS.ext' rfl rfl rfl rfl rfl (fun j => by
  show (if j < S.n ∧ ¬ bitN m j = 1 then none else S.P j) = (if bitN m j = 1 then S.P j else none)
  by_cases hj : j < S.n
  · by_cases hb : bitN m j = 1
    · rw [if_pos hb, if_neg (fun z => z.2 hb)]
    · rw [if_neg hb, if_pos ⟨hj, hb⟩]
  · rw [out_none hI hj, ite_self, ite_self]) rfl
theorem rsS_n {S : AS} (hI : Inv S) (m : Nat) : rsS S m S.n = S := AS.ext' rfl rfl rfl rfl rfl (fun j => by
  show (if j < S.n then S.P j else (if bitN m j = 1 then S.P j else none)) = S.P j
  by_cases hj : j < S.n
  · rw [if_pos hj]
  · rw [if_neg hj, out_none hI hj, ite_self]) rfl
theorem sp_X7_isSure {M : MV} {S : AS} {L : List AS} {B : List Nat} (hM : RM M S L B) {m : Nat} (hm : m < 2 ^ 31) {Q : Int32 → MV → Prop} (h : ∀ M', RM M' S L B → MV.thrown M' = MV.thrown M → Q (nI (sureA S m).toNat) M') : wp_X7_isSure M (nI m) Q := by
  obtain ⟨gz, gI, -, -, -⟩ := id hM
  have hn := gI.n12
  -- behind the search: the board comes back
  have back : ∀ M1 : MV, KL M M1 → RZ (MV.z M1) (maskS S m) → (∀ j, j < S.n → MV.laid M1 j = enc (S.P j)) → MV.found M1 = nI (srch (maskS S m) 2).1 → MV.isCut M1 = nI (srch (maskS S m) 2).2.2.1.toNat → wp_X7_isSure_67 Q (fun (vM_23 : MV) => (¬ (MV.found vM_23) = 1 → Q 0 vM_23) ∧ ((MV.found vM_23) = 1 → (¬ (MV.isCut vM_23) = 0 → Q 0 vM_23) ∧ ((MV.isCut vM_23) = 0 → Q 1 vM_23))) M1 0 := by
    intro M1 hk hz hl hf hc P hP
    have hb := srch_b (maskS S m) 2
    have key : ∀ d k : Nat, k + d = S.n → ∀ M2 : MV, KL M M2 → RZ (MV.z M2) (rsS S m k) → MV.laid M2 = MV.laid M1 → MV.found M2 = MV.found M1 → MV.isCut M2 = MV.isCut M1 → P M2 (nI k) := by
      intro d
      induction d with
      | zero =>
        intro k hk0 M2 k1 k2 k3 k4 k5
        obtain rfl : k = S.n := by omega
        rw [rsS_n gI] at k2
        apply hP
        unfold bd_X7_isSure_67
        refine sp_X7_cells k2 (bq_t ((nI_leI (by omega) (by omega)).mpr (by omega)) ?_)
        have g := h M2 (hM.kl k1 k2 gI) k1.1
        dsimp only
        rw [k4, k5, hf, hc]
        unfold sureA at g
        refine bn_if (nI_eq (b := 1) (by omega) (by omega)) (fun e => ?_) (fun e => ?_)
        · rw [decide_eq_true e] at g
          cases hx : (srch (maskS S m) 2).2.2.1 with
          | false => rw [hx] at g; exact bn_t rfl g
          | true => rw [hx] at g; exact bn_f (by decide) g
        · rw [decide_eq_false e] at g
          exact g
      | succ d ih =>
        intro k hk0 M2 k1 k2 k3 k4 k5
        apply hP
        unfold bd_X7_isSure_67
        refine sp_X7_cells k2 (bq_f (fun z => by
          have z : nI S.n ≤ nI k := z
          rw [nI_leI (by omega) (by omega)] at z; omega) ⟨vp_in_nI (by omega) (by omega), ?_⟩)
        rw [k3, nI_clamp (by omega), hl k (by omega), nn_lit 28, nI_add, nI_clamp (by omega)]
        intro f hf9
        refine ⟨vp_in_nI (by omega) (by omega), fun z20 hz20 y hy => ?_⟩
        rw [nI_1] at hy
        subst hy hf9
        have hz9 : RZ z20 (rsS S m (k + 1)) := by
          rw [hz20, ← rsS_step]
          exact k2.put (by omega) _
        exact ih (k + 1) (by omega) (MV.s_z M2 z20) k1 hz9 k3 k4 k5
    have e0 : rsS S m 0 = maskS S m := AS.ext' rfl rfl rfl rfl rfl (fun j => by
      show (if j < 0 then S.P j else (maskS S m).P j) = (maskS S m).P j
      exact if_neg (Nat.not_lt_zero j)) rfl
    exact key S.n 0 (by omega) M1 hk (by rw [e0]; exact hz) rfl rfl rfl
  unfold wp_X7_isSure
  intro P hP
  have key : ∀ d k : Nat, k + d = S.n → ∀ M2 : MV, KL M M2 → RZ (MV.z M2) (mkS S m k) → (∀ j, j < k → MV.laid M2 j = enc (S.P j)) → P M2 (nI m) (nI k) := by
    intro d
    induction d with
    | zero =>
      intro k hk0 M2 k1 k2 k3
      obtain rfl : k = S.n := by omega
      rw [mkS_n gI] at k2
      apply hP
      unfold bd_X7_isSure_2
      refine sp_X7_cells k2 (bq_t ((nI_leI (a := S.n) (b := S.n) (by omega) (by omega)).mpr (Nat.le_refl _)) ?_)
      refine sp_X7_search (most := 2) k2 (gI.mask m) (by omega) (by omega) false (fun M3 hk3 hz3 hf hs hc => ?_)
      have hz3 : RZ (MV.z M3) (maskS S m) := hz3
      exact back M3 (k1.km hk3) hz3 (fun j hj => by rw [hk3.2.2.2.2.2.1]; exact k3 j hj) hf hc
    | succ d ih =>
      intro k hk0 M2 k1 k2 k3
      apply hP
      unfold bd_X7_isSure_2
      refine sp_X7_cells k2 (bq_f (fun z => by
        have z : nI S.n ≤ nI k := z
        rw [nI_leI (by omega) (by omega)] at z; omega) ?_)
      rw [nn_lit 28, nI_add, nI_clamp (by omega), nI_clamp (by omega), bit_row hm (by omega), k2.2.2.2.2.2.1 k (by omega), show (mkS S m k).P k = S.P k from if_neg (fun z => Nat.lt_irrefl k z.1)]
      refine ⟨vp_in_nI (by omega) (by omega), fun f hf => ⟨vp_in_nI (by omega) (by omega), fun l hl => ?_⟩⟩
      subst hf
      have hl2 : ∀ j, j < k + 1 → l j = enc (S.P j) := fun j hj => by
        rw [hl]
        by_cases e : j = k
        · rw [e, pk_us]
        · rw [pk_un e]; exact k3 j (by omega)
      have fin : ∀ o : Option Nat, o = (if bitN m k = 1 then S.P k else none) → wp_X7_isSure_52 P (fun (vM_13 : MV) => wp_X7_search vM_13 2 0 (fun (vM_14 : MV) => wp_X7_isSure_67 Q (fun (vM_23 : MV) => (¬ (MV.found vM_23) = 1 → Q 0 vM_23) ∧ ((MV.found vM_23) = 1 → (¬ (MV.isCut vM_23) = 0 → Q 0 vM_23) ∧ ((MV.isCut vM_23) = 0 → Q 1 vM_23))) vM_14 0)) Q (MV.s_laid M2 l) (nI m) (nI k) (nI (28 + k)) (enc o) := by
        intro o ho
        refine ⟨vp_in_nI (by omega) (by omega), ?_⟩
        rw [nI_clamp (by omega)]
        intro z8 hz8 y hy
        rw [nI_1] at hy
        subst hy
        have hz9 : RZ z8 (mkS S m (k + 1)) := by
          rw [hz8, ← mkS_step, ← ho]
          exact k2.put (by omega) o
        exact ih (k + 1) (by omega) (MV.s_z (MV.s_laid M2 l) z8) k1 hz9 hl2
      have hb : bitN m k < 2 := Nat.mod_lt _ (by omega)
      refine bn_if (nI_eq (b := 1) (by omega) (by omega)) (fun e => ⟨vp_in_nI (by omega) (by omega), ?_⟩) (fun e => fin none (by rw [if_neg e]))
      rw [hl2 k (by omega)]
      exact fin (S.P k) (by rw [if_pos e])
  exact key S.n 0 (by omega) M ⟨rfl, rfl, rfl, rfl, rfl⟩ (by
    have e0 : mkS S m 0 = S := AS.ext' rfl rfl rfl rfl rfl (fun j => by
      show (if j < 0 ∧ ¬ bitN m j = 1 then none else S.P j) = S.P j
      exact if_neg (fun z => Nat.not_lt_zero j z.1)) rfl
    rw [e0]; exact gz) (fun j hj => absurd hj (Nat.not_lt_zero j))
