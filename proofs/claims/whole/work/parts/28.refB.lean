/-! the reference: empties, its saved rows -/
theorem sp_X7_empties {M : MV} {S : AS} (hz : RZ (MV.z M) S) (hI : Inv S) {Q : Int32 → MV → Prop} (h : Q (nI (empties S)) M) : wp_X7_empties M Q := by
  have hn := hI.n12
  unfold wp_X7_empties
  intro P hP
  have key : ∀ d k : Nat, k + d = S.n → P M (nI (cnt (fun k => (S.P k).isNone) k)) (nI k) := by
    intro d
    induction d with
    | zero =>
      intro k hk
      apply hP
      unfold bd_X7_empties_4
      refine sp_X7_cells hz ?_
      obtain rfl : k = S.n := by omega
      exact bq_t ((nI_leI (by omega) (by omega)).mpr (by omega)) h
    | succ d ih =>
      intro k hk
      have hnx := ih (k + 1) (by omega)
      apply hP
      unfold bd_X7_empties_4
      refine sp_X7_cells hz ?_
      refine bq_f (fun z => by rw [nI_leI (by omega) (by omega)] at z; omega) ?_
      rw [nn_lit 28, nI_add, nI_clamp (by omega), hz.2.2.2.2.2.1 k (by omega)]
      refine ⟨vp_in_nI (by omega) (by omega), ?_⟩
      have step : ∀ b : Bool, b = (S.P k).isNone → wp_X7_empties_31 P Q M (nI k) (nI (cnt (fun k => (S.P k).isNone) k)) (nI b.toNat) := by
        intro b hb x hx y hy
        rw [nI_add] at hx
        rw [nI_1] at hy
        subst hx hy hb
        exact hnx
      cases hp : S.P k with
      | none => exact bn_t rfl (step true (by rw [hp]; rfl))
      | some p =>
        have := hI.p96 hp
        exact bn_f (nn_ne_m1 (by omega)) (step false (by rw [hp]; rfl))
  exact key S.n 0 (by omega)
theorem RZ.congr {z z' : Nat → Int32} {S : AS} (h : RZ z S) (e : ∀ k, k < 52 → z' k = z k) : RZ z' S := by
  obtain ⟨h0, h1, h2, h3, h4, h5, h6⟩ := h
  exact ⟨(e 0 (by omega)).trans h0, (e 1 (by omega)).trans h1, (e 2 (by omega)).trans h2, (e 3 (by omega)).trans h3, fun i hi => (e _ (by omega)).trans (h4 i hi), fun i hi => (e _ (by omega)).trans (h5 i hi), fun i hi => (e _ (by omega)).trans (h6 i hi)⟩
def cp2 (f z : Nat → Int32) (b i : Nat) : Nat → Int32 := fun j => if b ≤ j ∧ j < b + i then z (j - b) else f j
theorem cp2_step (f z : Nat → Int32) (b i : Nat) : upd (cp2 f z b i) (b + i) (z i) = cp2 f z b (i + 1) := by
  funext j
  by_cases e : j = b + i
  · rw [e, pk_us]
    unfold cp2
    rw [if_pos (by omega), show b + i - b = i by omega]
  · rw [pk_un e]
    unfold cp2
    by_cases h : b ≤ j ∧ j < b + i
    · rw [if_pos h, if_pos (by omega)]
    · rw [if_neg h, if_neg (by omega)]
theorem cp2_0 (f z : Nat → Int32) (b : Nat) : cp2 f z b 0 = f := by
  funext j
  unfold cp2
  rw [if_neg (by omega)]
def shf (f : Nat → Int32) (i : Nat) : Nat → Int32 := fun j => if j < i then f (j + 52) else f j
theorem shf_step (f : Nat → Int32) (i : Nat) : upd (shf f i) i (f (i + 52)) = shf f (i + 1) := by
  funext j
  by_cases e : j = i
  · rw [e, pk_us]
    unfold shf
    rw [if_pos (by omega)]
  · rw [pk_un e]
    unfold shf
    by_cases h : j < i
    · rw [if_pos h, if_pos (by omega)]
    · rw [if_neg h, if_neg (by omega)]
theorem shf_0 (f : Nat → Int32) : shf f 0 = f := by
  funext j
  unfold shf
  rw [if_neg (by omega)]
theorem sp_X7_save_50 {M : MV} {n : Nat} (hs : MV.saves M = nI n) (hn : n ≤ 7) {Q : MV → Prop} (h : Q (MV.s_saves (MV.s_saved M (cp2 (MV.saved M) (MV.z M) (52 * n) 52)) (nI (n + 1)))) : wp_X7_save_50 Q M := by
  intro P hP
  have key : ∀ d i : Nat, i + d = 52 → P (MV.s_saved M (cp2 (MV.saved M) (MV.z M) (52 * n) i)) (nI i) := by
    intro d
    induction d with
    | zero =>
      intro i hi
      obtain rfl : i = 52 := by omega
      apply hP
      unfold bd_X7_save_52
      refine bq_t (by decide) (fun f hf => ?_)
      have hf : f = MV.saves M + 1 := hf
      rw [hs, nI_1] at hf
      subst hf
      exact h
    | succ d ih =>
      intro i hi
      have hnx := ih (i + 1) (by omega)
      apply hP
      unfold bd_X7_save_52
      refine bq_f (fun z => by rw [nn_lit 52, nI_leI (by omega) (by omega)] at z; omega) ⟨vp_in_nI (by omega) (by omega), fun f2 hf2 => ?_⟩
      have e : 52 * MV.saves M + nI i = nI (52 * n + i) := by rw [hs, nn_lit 52, pk_mul, nI_add]
      have hf2 : f2 = MV.z M (Int32.toNatClampNeg (nI i)) := hf2
      rw [nI_clamp (by omega)] at hf2
      show vp_in (52 * MV.saves M + nI i) 416 ∧ (∀ s4 : Nat → Int32, s4 = upd (cp2 (MV.saved M) (MV.z M) (52 * n) i) (Int32.toNatClampNeg (52 * MV.saves M + nI i)) f2 → ∀ y : Int32, y = nI i + 1 → P (MV.s_saved M s4) y)
      rw [e]
      refine ⟨vp_in_nI (by omega) (by omega), fun s4 hs4 y hy => ?_⟩
      rw [nI_clamp (by omega), hf2, cp2_step] at hs4
      rw [nI_1] at hy
      subst hs4 hy
      exact hnx
  have := key 52 0 (by omega)
  rw [cp2_0] at this
  exact this
/-- the saved rows -/
def RH (M : MV) (L : List AS) : Prop := MV.saves M = nI L.length ∧ L.length ≤ 8 ∧ ∀ (i : Nat) (T : AS), L[i]? = some T → RZ (fun k => MV.saved M (52 * i + k)) T
def pushS (L : List AS) (S : AS) : List AS := (if L.length = 8 then L.drop 1 else L) ++ [S]
theorem rh_push {sv z : Nat → Int32} {L : List AS} {S : AS} (hz : RZ z S) (h : ∀ (i : Nat) (T : AS), L[i]? = some T → RZ (fun k => sv (52 * i + k)) T) : ∀ (i : Nat) (T : AS), (L ++ [S])[i]? = some T → RZ (fun k => cp2 sv z (52 * L.length) 52 (52 * i + k)) T := by
  intro i T hi
  by_cases e : i < L.length
  · rw [List.getElem?_append_left e] at hi
    refine (h i T hi).congr (fun k hk => ?_)
    show cp2 sv z (52 * L.length) 52 (52 * i + k) = _
    unfold cp2
    rw [if_neg (by omega)]
  · have e2 : i = L.length := by
      have h9 := (List.getElem?_eq_some_iff.mp hi).1
      rw [List.length_append, List.length_singleton] at h9
      omega
    subst e2
    rw [List.getElem?_append_right (Nat.le_refl _), Nat.sub_self] at hi
    cases hi
    refine hz.congr (fun k hk => ?_)
    show cp2 sv z (52 * L.length) 52 (52 * L.length + k) = _
    unfold cp2
    rw [if_pos (by omega), show 52 * L.length + k - 52 * L.length = k by omega]
theorem sp_X7_save {M : MV} {S : AS} {L : List AS} (hz : RZ (MV.z M) S) (hh : RH M L) {Q : MV → Prop} (h : ∀ (f : Nat → Int32) (x : Int32), RH (MV.s_saves (MV.s_saved M f) x) (pushS L S) → Q (MV.s_saves (MV.s_saved M f) x)) : wp_X7_save M Q := by
  obtain ⟨h1, h2, h3⟩ := hh
  unfold wp_X7_save
  rw [h1]
  refine bn_if (nI_eq (b := 8) (by omega) (by omega)) (fun e => ?_) (fun e => ?_)
  · intro P hP
    have key : ∀ d i : Nat, i + d = 364 → P (MV.s_saved M (shf (MV.saved M) i)) (nI (i + 52)) := by
      intro d
      induction d with
      | zero =>
        intro i hi
        obtain rfl : i = 364 := by omega
        apply hP
        unfold bd_X7_save_12
        refine bq_t (by decide) (fun f hf => ?_)
        have hf : f = MV.saves M - 1 := hf
        rw [h1, e] at hf
        have hf : f = nI 7 := hf.trans (by decide)
        subst hf
        refine sp_X7_save_50 (n := 7) rfl (by omega) (h _ _ ?_)
        unfold pushS
        rw [if_pos e]
        have hl : (L.drop 1).length = 7 := by rw [List.length_drop]; omega
        refine ⟨by rw [List.length_append, hl]; rfl, Nat.le_of_eq (by rw [List.length_append, hl]; rfl), ?_⟩
        have := rh_push (L := L.drop 1) (sv := shf (MV.saved M) 364) (z := MV.z M) hz (fun i T hi => ?_)
        · rw [hl] at this
          exact this
        · rw [List.getElem?_drop] at hi
          have h9 := (List.getElem?_eq_some_iff.mp hi).1
          refine (h3 (1 + i) T hi).congr (fun k hk => ?_)
          show shf (MV.saved M) 364 (52 * i + k) = MV.saved M (52 * (1 + i) + k)
          unfold shf
          rw [if_pos (by omega), show 52 * i + k + 52 = 52 * (1 + i) + k by omega]
      | succ d ih =>
        intro i hi
        have hnx := ih (i + 1) (by omega)
        apply hP
        unfold bd_X7_save_12
        refine bq_f (fun z => by rw [nn_lit 416, nI_leI (by omega) (by omega)] at z; omega) ⟨vp_in_nI (by omega) (by omega), fun f2 hf2 => ?_⟩
        have hf2 : f2 = shf (MV.saved M) i (Int32.toNatClampNeg (nI (i + 52))) := hf2
        rw [nI_clamp (by omega)] at hf2
        have hf2 : f2 = MV.saved M (i + 52) := by
          rw [hf2]
          unfold shf
          rw [if_neg (by omega)]
        have e9 : nI (i + 52) - 52 = nI i := by
          rw [← nI_add]
          show nI i + 52 - 52 = nI i
          rw [Int32.add_sub_cancel]
        rw [e9]
        refine ⟨vp_in_nI (by omega) (by omega), fun s4 hs4 y hy => ?_⟩
        have hs4 : s4 = upd (shf (MV.saved M) i) (Int32.toNatClampNeg (nI i)) f2 := hs4
        rw [nI_clamp (by omega), hf2, shf_step] at hs4
        rw [nI_1, show i + 52 + 1 = i + 1 + 52 by omega] at hy
        subst hs4 hy
        exact hnx
    have := key 364 0 (by omega)
    rw [shf_0] at this
    exact this
  · refine sp_X7_save_50 h1 (by omega) (h _ _ ?_)
    unfold pushS
    rw [if_neg e]
    refine ⟨by rw [List.length_append]; rfl, by rw [List.length_append, List.length_singleton]; omega, rh_push hz h3⟩
