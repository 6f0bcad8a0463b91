/-! THE LAW'S QUESTIONS: what the class tells of a state, beside the law's own board -/
theorem cnt_mono {f : Nat → Bool} {a : Nat} : ∀ {b : Nat}, a ≤ b → cnt f a ≤ cnt f b
  | 0, h => by rw [show a = 0 by omega]; exact Nat.le_refl _
  | b + 1, h => by
    by_cases e : a = b + 1
    · rw [e]; exact Nat.le_refl _
    · have := cnt_mono (f := f) (a := a) (b := b) (by omega)
      show cnt f a ≤ cnt f b + (f b).toNat
      omega
theorem why_laid {S : AS} {k q : Nat} (h : S.P k = some q) (p : Nat) : why S k p = 1 := by
  unfold why
  rw [h, if_pos (show (some q).isSome = true from rfl)]
theorem pm_laid {S : AS} {k q : Nat} (h : S.P k = some q) : pm S k = 0 := by
  have : ∀ n, cnt (fun p => why S k p == 0) n = 0 := by
    intro n
    induction n with
    | zero => rfl
    | succ n ih =>
      show cnt _ n + (why S k n == 0).toNat = 0
      rw [ih, why_laid h]
      rfl
  exact this _
theorem pf_laid {S : AS} {k q : Nat} (h : S.P k = some q) : pf S k 0 = none := by
  have : ∀ n p, pfN S k n p = none := by
    intro n
    induction n with
    | zero => intro p; rfl
    | succ n ih =>
      intro p
      rw [pfN_s, why_laid h, if_neg (by decide)]
      exact ih (p + 1)
  exact this _ _
theorem cellV_2 (S : AS) (k : Nat) : cellV S k 2 = nI (pm S k) := by
  unfold cellV
  rw [if_neg (by decide), if_neg (by decide), if_pos rfl]
  cases h : S.P k with
  | none => rfl
  | some q => rw [pm_laid h]; rfl
theorem cellV_3 (S : AS) (k : Nat) : cellV S k 3 = enc (pf S k 0) := by
  unfold cellV
  rw [if_neg (by decide), if_neg (by decide), if_neg (by decide)]
  cases h : S.P k with
  | none => rfl
  | some q => rw [pf_laid h]; rfl
theorem manyA_pm (S : AS) (k : Nat) : manyA S k = pm S k := by
  unfold manyA
  cases h : S.P k with
  | none => rfl
  | some q => rw [pm_laid h]; rfl
section T74
variable {v : XV} {b ti se : IV} {S : AS} {x1 x5 x6 x7 x8 x9 x10 x11 x12 x13 x15 : Int32} {Q : Int32 → XV → IV → IV → Prop}
theorem td_74 {K : XV → IV → IV → IV → Int32 → Int32 → Int32 → Int32 → Int32 → Int32 → Int32 → Int32 → Int32 → Int32 → Int32 → Int32 → Int32 → Int32 → Prop} (h : lbB b ti S) (hI : Inv S) (hs : lbS S) {k : Nat} (hk : k < S.n) (hK : K v b ti se x1 x5 x6 x7 x8 x9 x10 x11 x12 x13 (nI k) x15 (nI (pm S k)) (enc (pf S k 0))) : wp_L_told_74 Q K v b ti se x1 x5 x6 x7 x8 x9 x10 x11 x12 x13 (nI k) x15 0 (-1) (nI (8 * S.t) - 1) := by
  intro P hP
  have ht := hs.2.2
  have key : ∀ m : Nat, m ≤ 8 * S.t → P v b ti se x1 x5 x6 x7 x8 x9 x10 x11 x12 x13 (nI k) x15 (nI (cnt (fun p => why S k p == 0) (8 * S.t) - cnt (fun p => why S k p == 0) m)) (enc (pfN S k (8 * S.t - m) m)) (nI m - 1) := by
    intro m
    induction m with
    | zero =>
      intro _
      apply hP
      unfold bd_L_told_74
      exact bq_t (by decide) hK
    | succ m ih =>
      intro hm
      have nx := ih (by omega)
      have hmono := cnt_mono (f := fun p => why S k p == 0) hm
      have e1 : cnt (fun p => why S k p == 0) (m + 1) = cnt (fun p => why S k p == 0) m + (why S k m == 0).toNat := rfl
      have e2 : pfN S k (8 * S.t - m) m = if why S k m = 0 then some m else pfN S k (8 * S.t - (m + 1)) (m + 1) := by
        rw [show 8 * S.t - m = (8 * S.t - (m + 1)) + 1 by omega]
        exact pfN_s S k _ m
      rw [e2, Int32.sub_eq_add_neg] at nx
      have hw := why_le S k m
      apply hP
      unfold bd_L_told_74
      rw [nI_pred]
      refine bq_f (nI_pos (by omega)) (sp_L_why h hI hs hk (by omega) ?_)
      refine ek_if (nI_leI (b := 0) (by omega) (by omega)) (fun e => ?_) (fun e => ?_)
      · have w : why S k m = 0 := by omega
        rw [if_pos w] at nx
        have e3 : (why S k m == 0).toNat = 1 := by rw [w]; rfl
        intro x16 hx16 x18 hx18
        rw [nI_1, show cnt (fun p => why S k p == 0) (8 * S.t) - cnt (fun p => why S k p == 0) (m + 1) + 1 = cnt (fun p => why S k p == 0) (8 * S.t) - cnt (fun p => why S k p == 0) m by omega] at hx16
        subst hx16 hx18
        exact nx
      · have w : ¬ why S k m = 0 := by omega
        rw [if_neg w] at nx
        have e3 : (why S k m == 0).toNat = 0 := by
          rw [beq_eq_false_iff_ne.mpr w]; rfl
        intro x18 hx18
        subst hx18
        rw [show cnt (fun p => why S k p == 0) (8 * S.t) - cnt (fun p => why S k p == 0) (m + 1) = cnt (fun p => why S k p == 0) (8 * S.t) - cnt (fun p => why S k p == 0) m by omega]
        exact nx
  have g := key (8 * S.t) (Nat.le_refl _)
  rw [Nat.sub_self, Nat.sub_self] at g
  exact g
end T74
/-! the sides of a cell -/
def prS (S : AS) (k s : Nat) : Nat := (if 1 < s then (isPair S k 1).toNat else 0) + (if 2 < s then (isPair S k 2).toNat else 0)
def lkS (S : AS) (bl : Bool) (k s : Nat) : Nat := (if 1 < s then (isLike S bl k 1).toNat else 0) + (if 2 < s then (isLike S bl k 2).toNat else 0)
/-- what one side adds -/
def prD (S : AS) (k s : Nat) : Nat := if s = 1 ∨ s = 2 then (isPair S k s).toNat else 0
def lkD (S : AS) (bl : Bool) (k s : Nat) : Nat := if s = 1 ∨ s = 2 then (isLike S bl k s).toNat else 0
theorem prS_s (S : AS) (k : Nat) {s : Nat} (hs : s < 4) : prS S k (s + 1) = prS S k s + prD S k s := by
  unfold prS prD
  obtain rfl | rfl | rfl | rfl : s = 0 ∨ s = 1 ∨ s = 2 ∨ s = 3 := by omega
  all_goals simp
theorem lkS_s (S : AS) (bl : Bool) (k : Nat) {s : Nat} (hs : s < 4) : lkS S bl k (s + 1) = lkS S bl k s + lkD S bl k s := by
  unfold lkS lkD
  obtain rfl | rfl | rfl | rfl : s = 0 ∨ s = 1 ∨ s = 2 ∨ s = 3 := by omega
  all_goals simp
theorem nb_low {r c k s j : Nat} (hc : 1 ≤ c) (hs : s < 4) (h : nb r c k s = some j) : k < j ↔ (s = 1 ∨ s = 2) := by
  unfold nb at h
  obtain rfl | rfl | rfl | rfl : s = 0 ∨ s = 1 ∨ s = 2 ∨ s = 3 := by omega
  · rw [if_pos rfl] at h
    split at h
    · cases h
    · cases h; omega
  · rw [if_neg (by decide), if_pos rfl] at h
    split at h
    · cases h; omega
    · cases h
  · rw [if_neg (by decide), if_neg (by decide), if_pos rfl] at h
    split at h
    · cases h; omega
    · cases h
  · rw [if_neg (by decide), if_neg (by decide), if_neg (by decide)] at h
    split at h
    · cases h
    · next h9 => cases h; have := Nat.mod_le k c; omega
theorem and3 {s : Nat} (hs : s < 4) : (nI s + 2 : Int32) &&& 3 = nI ((s + 2) % 4) := by
  obtain rfl | rfl | rfl | rfl : s = 0 ∨ s = 1 ∨ s = 2 ∨ s = 3 := by omega
  all_goals decide
section T245
variable {v : XV} {b ti se : IV} {S : AS} {L : List AS} {B : List Nat} {x1 x5 x6 x7 x11 x12 x13 : Int32} {Q : Int32 → XV → IV → IV → Prop}
variable {P : XV → IV → IV → IV → Int32 → Int32 → Int32 → Int32 → Int32 → Int32 → Int32 → Int32 → Int32 → Int32 → Int32 → Int32 → Int32 → Prop} {K : XV → IV → IV → IV → Int32 → Int32 → Int32 → Int32 → Int32 → Int32 → Int32 → Int32 → Int32 → Int32 → Int32 → Prop}
theorem td_428 {x8 x9 x10 x14 x15 : Int32} {s : Nat} (h : P v b ti se x1 x5 x6 x7 x8 x9 x10 x11 x12 x13 x14 x15 (nI (s + 1))) : wp_L_told_428 P K Q v b ti se x1 x5 x6 x7 x8 x9 x10 x11 x12 x13 x14 x15 (nI s) := by
  intro x hx
  rw [nI_1] at hx
  subst hx
  exact h
theorem td_side (hX : RX v S L B) (h : lbB b ti S) (hs : lbS S) {k s a8 a9 a10 : Nat} (hk : k < S.n) (hs4 : s < 4)
    (hP : ∀ v', RX v' S L B → P v' b ti se x1 x5 x6 x7 (nI (a8 + prD S k s)) (nI (a9 + lkD S false k s)) (nI (a10 + lkD S true k s)) x11 x12 x13 (nI k) (enc (S.P k)) (nI (s + 1))) :
    bd_L_told_245 Q P K v b ti se x1 x5 x6 x7 (nI a8) (nI a9) (nI a10) x11 x12 x13 (nI k) (enc (S.P k)) (nI s) := by
  have hI := hX.2.1
  have hn6 := hs.n6
  have ht6 := hs.2.2
  have hc1 := hI.2.1.1
  unfold bd_L_told_245
  refine bq_f (fun z => by rw [nn_lit 4, nI_leI (by omega) (by omega)] at z; omega) ?_
  refine sp_L_beyond h hI hk hs4 (us_color hX hk hs4 false (fun v1 hX1 => ?_))
  -- what is told of the sides, first
  have nopair : (S.P k = none ∨ nb S.r S.c k s = none ∨ ¬ (s = 1 ∨ s = 2) ∨ ∃ j, nb S.r S.c k s = some j ∧ S.P j = none) → prD S k s = 0 ∧ lkD S false k s = 0 ∧ lkD S true k s = 0 := by
    intro hh
    have sh : (S.P k = none ∨ nb S.r S.c k s = none ∨ ∃ j, nb S.r S.c k s = some j ∧ S.P j = none) → isPair S k s = false ∧ ∀ bl, isLike S bl k s = false := by
      intro h2
      cases hp : S.P k with
      | none => exact ⟨by unfold isPair; rw [hp]; rfl, fun bl => by unfold isLike; rw [hp]⟩
      | some p =>
        have hsh : ∀ bl, shown S k s bl = none := fun bl => by
          unfold shown
          rcases h2 with h2 | h2 | ⟨j, h2, h3⟩
          · rw [hp] at h2; cases h2
          · rw [h2]
          · rw [h2]; simp only [h3]
        exact ⟨by unfold isPair; rw [hsh, hp]; rfl, fun bl => by unfold isLike; rw [hp]; simp only [hsh]⟩
    unfold prD lkD
    by_cases e : s = 1 ∨ s = 2
    · rw [if_pos e, if_pos e, if_pos e]
      have h3 := sh (hh.elim Or.inl (fun z => z.elim (fun z => Or.inr (Or.inl z)) (fun z => z.elim (fun z => absurd e z) (fun z => Or.inr (Or.inr z)))))
      rw [h3.1, h3.2 false, h3.2 true]
      exact ⟨rfl, rfl, rfl⟩
    · rw [if_neg e, if_neg e, if_neg e]
      exact ⟨rfl, rfl, rfl⟩
  cases hp : S.P k with
  | none =>
    obtain ⟨n1, n2, n3⟩ := nopair (Or.inl hp)
    rw [n1, n2, n3, hp] at hP
    have cv : ∀ bl, colV S k s bl = -1 := fun bl => by unfold colV; rw [hp]
    rw [cv]
    refine bq_f (by decide) ?_
    unfold wp_L_told_288
    refine bn_t rfl (us_color hX1 hk hs4 true (fun v2 hX2 => bq_f (by decide) ?_))
    rw [cv]
    exact bq_t rfl (bq_t (by decide) (td_428 (hP v2 hX2)))
  | some p =>
    have hp8 := (hI.2.2.2.2.2.1 k p hp).2
    have cv : ∀ bl, colV S k s bl = nI (col S.F p s bl) := fun bl => by unfold colV; rw [hp]
    rw [cv, enc_some]
    rw [hp, enc_some] at hP
    refine bq_t (nI_pos' (by omega)) (sp_L_color h ht6 hp8 hs4 false ?_)
    unfold wp_L_told_288
    refine bn_t rfl (us_color hX1 hk hs4 true (fun v2 hX2 => bq_t (nI_pos' (by omega)) (sp_L_color h ht6 hp8 hs4 true ?_)))
    rw [cv]
    unfold wp_L_told_318
    refine bq_t rfl (bq_f (nI_pos (by omega)) ?_)
    have hP2 := hP v2 hX2
    cases hj : nb S.r S.c k s with
    | none =>
      obtain ⟨n1, n2, n3⟩ := nopair (Or.inr (Or.inl hj))
      rw [n1, n2, n3] at hP2
      exact bq_t (Int32.le_of_lt (by have := nI_pos' (n := k) (by omega); exact Int32.lt_of_lt_of_le (by decide) this)) (td_428 hP2)
    | some j =>
      have hj2 : j < S.n := nb_lt hk hj
      have hlow := nb_low hc1 hs4 hj
      rw [enc_some]
      refine ek_if (nI_leI (by omega) (by omega)) (fun e => ?_) (fun e => ?_)
      · obtain ⟨n1, n2, n3⟩ := nopair (Or.inr (Or.inr (Or.inl (fun z => by have := hlow.mpr z; omega))))
        rw [n1, n2, n3] at hP2
        exact td_428 hP2
      · have hs12 := hlow.mp (by omega)
        rw [nn_lit 4, nI_add, nI_clamp (n := 4 + j) (by omega), h.2.2.2.2.1 j (by omega)]
        refine ⟨vp_in_nI (by omega) (by omega), ?_⟩
        cases hq : S.P j with
        | none =>
          obtain ⟨n1, n2, n3⟩ := nopair (Or.inr (Or.inr (Or.inr ⟨j, hj, hq⟩)))
          rw [n1, n2, n3] at hP2
          exact bq_f (by decide) (td_428 hP2)
        | some q =>
          have hq8 := (hI.2.2.2.2.2.1 j q hq).2
          have hsh : ∀ bl, shown S k s bl = some (col S.F q ((s + 2) % 4) bl) := fun bl => by unfold shown; rw [hj]; simp only [hq]
          have e1 : prD S k s = 1 := by unfold prD isPair; rw [if_pos hs12, hsh, hp]; rfl
          have e2 : ∀ bl, lkD S bl k s = (col S.F q ((s + 2) % 4) bl == col S.F p s bl).toNat := fun bl => by unfold lkD isLike; rw [if_pos hs12, hp]; simp only [hsh]
          rw [e1, e2, e2] at hP2
          have hu := col_lt hI.2.2.2.2.1 (p := p) (by omega) s false
          have hd := col_lt hI.2.2.2.2.1 (p := p) (by omega) s true
          have hu2 := col_lt hI.2.2.2.2.1 (p := q) (by omega) ((s + 2) % 4) false
          have hd2 := col_lt hI.2.2.2.2.1 (p := q) (by omega) ((s + 2) % 4) true
          refine bq_t (nI_pos' (by omega)) (fun x8 hx8 => ?_)
          rw [nI_1] at hx8
          subst hx8
          rw [and3 hs4]
          -- the back
          have back : ∀ {t0 t1 : Int32}, t0 + t1 = nI (a9 + (col S.F q ((s + 2) % 4) false == col S.F p s false).toNat) → wp_L_told_386 P K Q v2 b ti se x1 x5 x6 x7 (nI (a8 + 1)) (nI a10) x11 x12 x13 (nI k) (nI p) (nI s) (nI j) t0 t1 := by
            intro t0 t1 et x9 hx9
            rw [et] at hx9
            subst hx9
            rw [and3 hs4, nn_lit 4, nI_add, nI_clamp (n := 4 + j) (by omega), h.2.2.2.2.1 j (by omega), hq, enc_some]
            refine sp_L_color h ht6 hp8 hs4 true ⟨vp_in_nI (by omega) (by omega), sp_L_color h ht6 hq8 (by omega) true ?_⟩
            refine bn_if (nI_eq (by omega) (by omega)) (fun e9 => ?_) (fun e9 => ?_)
            · intro x10 hx10
              rw [nI_1] at hx10
              subst hx10
              rw [beq_iff_eq.mpr e9.symm] at hP2
              exact td_428 hP2
            · intro x10 hx10
              rw [Int32.add_zero] at hx10
              subst hx10
              rw [beq_eq_false_iff_ne.mpr (fun z => e9 z.symm)] at hP2
              exact td_428 hP2
          refine sp_L_color h ht6 hp8 hs4 false ⟨vp_in_nI (by omega) (by omega), ?_⟩
          rw [enc_some]
          refine sp_L_color h ht6 hq8 (by omega) false ?_
          refine bn_if (nI_eq (by omega) (by omega)) (fun e9 => ?_) (fun e9 => ?_)
          · refine back ?_
            rw [beq_iff_eq.mpr e9.symm]
            exact nI_1 _
          · refine back ?_
            rw [beq_eq_false_iff_ne.mpr (fun z => e9 z.symm)]
            exact Int32.add_zero _
end T245
