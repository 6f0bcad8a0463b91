/-! THE SEARCH: the model, and the reference's loop -/
theorem AS.ext' {S T : AS} (h1 : S.r = T.r) (h2 : S.c = T.c) (h3 : S.ru = T.ru) (h4 : S.t = T.t) (h5 : S.F = T.F) (h6 : ∀ j, S.P j = T.P j) (h7 : S.X = T.X) : S = T := Prod.ext h1 (Prod.ext h2 (Prod.ext h3 (Prod.ext h4 (Prod.ext h5 (Prod.ext (funext h6) h7)))))
/-- a cell gets a placing, or none -/
def AS.put (S : AS) (k : Nat) (o : Option Nat) : AS := (S.r, S.c, S.ru, S.t, S.F, fun j => if j = k then o else S.P j, S.X)
theorem put_P (S : AS) (k : Nat) (o : Option Nat) (j : Nat) : (S.put k o).P j = if j = k then o else S.P j := rfl
theorem put_at (S : AS) (k : Nat) (o : Option Nat) : (S.put k o).P k = o := if_pos rfl
theorem put_ne (S : AS) {k j : Nat} (o : Option Nat) (h : j ≠ k) : (S.put k o).P j = S.P j := if_neg h
theorem put_self {S : AS} {k : Nat} (o : Option Nat) (h : S.P k = none) : (S.put k o).put k none = S := AS.ext' rfl rfl rfl rfl rfl (fun j => by
  by_cases e : j = k
  · rw [e, put_at, h]
  · rw [put_ne _ _ e, put_ne _ _ e]) rfl
theorem RZ.put {z : Nat → Int32} {S : AS} (h : RZ z S) {k : Nat} (hk : k < 12) (o : Option Nat) : RZ (upd z (28 + k) (enc o)) (S.put k o) := by
  obtain ⟨h0, h1, h2, h3, h4, h5, h6⟩ := h
  refine ⟨?_, ?_, ?_, ?_, fun i hi => ?_, fun j hj => ?_, fun j hj => ?_⟩
  · rw [pk_un (by omega)]; exact h0
  · rw [pk_un (by omega)]; exact h1
  · rw [pk_un (by omega)]; exact h2
  · rw [pk_un (by omega)]; exact h3
  · rw [pk_un (by omega)]; exact h4 i hi
  · by_cases e : j = k
    · rw [e, pk_us, put_at]
    · rw [put_ne _ _ e, pk_un (by omega)]; exact h5 j hj
  · rw [pk_un (by omega)]; exact h6 j hj
theorem cellOfN_none {S : AS} {t : Nat} : ∀ {n : Nat}, cellOfN S t n = none → ∀ k p, k < n → S.P k = some p → p / 8 ≠ t
  | 0, _, k, p, hk, _ => absurd hk (Nat.not_lt_zero k)
  | n + 1, h, k, p, hk, hp => by
    unfold cellOfN at h
    by_cases e : k = n
    · subst e
      intro e2
      simp only [hp] at h
      rw [if_pos e2] at h
      cases h
    · refine cellOfN_none (n := n) ?_ k p (by omega) hp
      split at h
      · split at h
        · cases h
        · exact h
      · exact h
theorem why_0 {S : AS} {k p : Nat} (h : why S k p = 0) : S.P k = none ∧ cellOf S (p / 8) = none ∧ misfit S k p = 0 := by
  unfold why at h
  split at h
  · omega
  · next h1 =>
    split at h
    · omega
    · next h2 =>
      refine ⟨?_, ?_, h⟩
      · cases e : S.P k with
        | none => rfl
        | some q => exact absurd (by rw [e]; rfl) h1
      · cases e : cellOf S (p / 8) with
        | none => rfl
        | some q => exact absurd (by rw [e]; rfl) h2
theorem Inv.put {S : AS} (h : Inv S) {k p : Nat} (hk : k < S.n) (hp : p < 8 * S.t) (hw : why S k p = 0) : Inv (S.put k (some p)) := by
  obtain ⟨h1, h2, h3, h4, h5, h6, h7, h8⟩ := h
  obtain ⟨-, w2, -⟩ := why_0 hw
  refine ⟨h1, h2, h3, h4, h5, fun j q hj => ?_, fun j j' q q' hj hj' e => ?_, h8⟩
  · by_cases e : j = k
    · subst e
      rw [put_at] at hj
      cases hj
      exact ⟨hk, hp⟩
    · rw [put_ne _ _ e] at hj
      exact h6 j q hj
  · by_cases e1 : j = k
    · by_cases e2 : j' = k
      · rw [e1, e2]
      · subst e1
        rw [put_at] at hj
        cases hj
        rw [put_ne _ _ e2] at hj'
        exact absurd e.symm (cellOfN_none w2 j' q' (h6 j' q' hj').1 hj')
    · rw [put_ne _ _ e1] at hj
      by_cases e2 : j' = k
      · subst e2
        rw [put_at] at hj'
        cases hj'
        exact absurd e (cellOfN_none w2 j q (h6 j q hj).1 hj)
      · rw [put_ne _ _ e2] at hj'
        exact h7 j j' q q' hj hj' e
theorem Inv.off {S : AS} (h : Inv S) (k : Nat) : Inv (S.put k none) := by
  obtain ⟨h1, h2, h3, h4, h5, h6, h7, h8⟩ := h
  have g : ∀ j q, (S.put k none).P j = some q → S.P j = some q := fun j q hj => by
    by_cases e : j = k
    · rw [e, put_at] at hj; cases hj
    · rw [put_ne _ _ e] at hj; exact hj
  exact ⟨h1, h2, h3, h4, h5, fun j q hj => h6 j q (g j q hj), fun j j' q q' hj hj' e => h7 j j' q q' (g j q hj) (g j' q' hj') e, h8⟩
/-- what a search tells: found, steps, cut, over, the board -/
abbrev SR : Type := Nat × Nat × Bool × Bool × AS
def tryA (rec : AS → Nat → Nat → SR) (k : Nat) : Nat → Nat → AS → Nat → Nat → SR
  | 0, _, S, f, st => (f, st, false, false, S)
  | n + 1, p, S, f, st =>
    if why S k p = 0 then
      if st = 600 then (f, st, true, true, S)
      else if (rec (S.put k (some p)) f (st + 1)).2.2.2.1 = true then rec (S.put k (some p)) f (st + 1)
      else tryA rec k n (p + 1) S (rec (S.put k (some p)) f (st + 1)).1 (rec (S.put k (some p)) f (st + 1)).2.1
    else tryA rec k n (p + 1) S f st
theorem tryA_s (rec : AS → Nat → Nat → SR) (k n p : Nat) (S : AS) (f st : Nat) : tryA rec k (n + 1) p S f st = if why S k p = 0 then
      if st = 600 then (f, st, true, true, S)
      else if (rec (S.put k (some p)) f (st + 1)).2.2.2.1 = true then rec (S.put k (some p)) f (st + 1)
      else tryA rec k n (p + 1) S (rec (S.put k (some p)) f (st + 1)).1 (rec (S.put k (some p)) f (st + 1)).2.1
    else tryA rec k n (p + 1) S f st := rfl
theorem pfN_s (S : AS) (k n p : Nat) : pfN S k (n + 1) p = if why S k p = 0 then some p else pfN S k n (p + 1) := rfl
def fillA (most : Nat) : List Nat → AS → Nat → Nat → SR
  | [], S, f, st => (f + 1, st, false, decide (most ≤ f + 1), S)
  | k :: ks, S, f, st => tryA (fillA most ks) k (8 * S.t) 0 S f st
/-- from one possible placing to the next -/
theorem tryA_pf (rec : AS → Nat → Nat → SR) (k : Nat) (S : AS) (f st : Nat) : ∀ n p : Nat, tryA rec k n p S f st = match pfN S k n p with
    | none => (f, st, false, false, S)
    | some q => if st = 600 then (f, st, true, true, S) else if (rec (S.put k (some q)) f (st + 1)).2.2.2.1 = true then rec (S.put k (some q)) f (st + 1) else tryA rec k (n + p - (q + 1)) (q + 1) S (rec (S.put k (some q)) f (st + 1)).1 (rec (S.put k (some q)) f (st + 1)).2.1
  | 0, p => rfl
  | n + 1, p => by
    rw [tryA_s, pfN_s]
    by_cases e : why S k p = 0
    · rw [if_pos e, if_pos e]
      simp only [show n + 1 + p - (p + 1) = n by omega]
    · rw [if_neg e, if_neg e, tryA_pf rec k S f st n (p + 1)]
      rw [show n + (p + 1) = n + 1 + p by omega]
/-- not over: the board is as it was, nothing was cut -/
theorem tryA_same {rec : AS → Nat → Nat → SR} {k : Nat} : ∀ {n p : Nat} {S : AS} {f st : Nat}, (tryA rec k n p S f st).2.2.2.1 = false → (tryA rec k n p S f st).2.2.2.2 = S ∧ (tryA rec k n p S f st).2.2.1 = false
  | 0, p, S, f, st, _ => ⟨rfl, rfl⟩
  | n + 1, p, S, f, st, h => by
    unfold tryA at h ⊢
    split at h
    · next e =>
      rw [if_pos e]
      split at h
      · cases h
      · next e2 =>
        rw [if_neg e2]
        split at h
        · next e3 => rw [e3] at h; cases h
        · next e3 =>
          rw [if_neg e3]
          exact tryA_same h
    · next e =>
      rw [if_neg e]
      exact tryA_same h
theorem fillA_same {most : Nat} {ks : List Nat} {S : AS} {f st : Nat} (h : (fillA most ks S f st).2.2.2.1 = false) : (fillA most ks S f st).2.2.2.2 = S ∧ (fillA most ks S f st).2.2.1 = false := by
  cases ks with
  | nil => exact ⟨rfl, rfl⟩
  | cons k ks => exact tryA_same h
/-- the numbers stay small -/
theorem tryA_b {rec : AS → Nat → Nat → SR} {k : Nat} (hr : ∀ S f st, f + 1 ≤ st → st ≤ 600 → (rec S f st).1 ≤ (rec S f st).2.1 ∧ (rec S f st).2.1 ≤ 600) : ∀ {n p : Nat} {S : AS} {f st : Nat}, f ≤ st → st ≤ 600 → (tryA rec k n p S f st).1 ≤ (tryA rec k n p S f st).2.1 ∧ (tryA rec k n p S f st).2.1 ≤ 600
  | 0, p, S, f, st, h1, h2 => ⟨h1, h2⟩
  | n + 1, p, S, f, st, h1, h2 => by
    unfold tryA
    split
    · split
      · exact ⟨h1, h2⟩
      · have h3 := hr (S.put k (some p)) f (st + 1) (by omega) (by omega)
        split
        · exact h3
        · exact tryA_b hr h3.1 h3.2
    · exact tryA_b hr h1 h2
theorem fillA_b {most : Nat} : ∀ (ks : List Nat) (S : AS) (f st : Nat), f + 1 ≤ st → st ≤ 600 → (fillA most ks S f st).1 ≤ (fillA most ks S f st).2.1 ∧ (fillA most ks S f st).2.1 ≤ 600
  | [], S, f, st, h1, h2 => ⟨h1, h2⟩
  | k :: ks, S, f, st, h1, h2 => tryA_b (fillA_b ks) (by omega) h2
/-- only the open cells change; what always holds stays -/
def Only (ks : List Nat) (S T : AS) : Prop := T.r = S.r ∧ T.c = S.c ∧ T.ru = S.ru ∧ T.t = S.t ∧ T.F = S.F ∧ T.X = S.X ∧ ∀ j, j ∉ ks → T.P j = S.P j
theorem Only.rf {ks : List Nat} {S : AS} : Only ks S S := ⟨rfl, rfl, rfl, rfl, rfl, rfl, fun _ _ => rfl⟩
theorem tryA_only {rec : AS → Nat → Nat → SR} {k : Nat} {ks : List Nat} (hr : ∀ S f st, Inv S → (∀ j ∈ ks, j < S.n) → Only ks S (rec S f st).2.2.2.2 ∧ Inv (rec S f st).2.2.2.2) : ∀ {n p : Nat} {S : AS} {f st : Nat}, n + p = 8 * S.t → Inv S → (∀ j ∈ k :: ks, j < S.n) → Only (k :: ks) S (tryA rec k n p S f st).2.2.2.2 ∧ Inv (tryA rec k n p S f st).2.2.2.2
  | 0, p, S, f, st, _, hI, _ => ⟨Only.rf, hI⟩
  | n + 1, p, S, f, st, hn, hI, hk => by
    unfold tryA
    split
    · next e =>
      split
      · exact ⟨Only.rf, hI⟩
      · split
        · obtain ⟨⟨g1, g2, g3, g4, g5, g6, g7⟩, g8⟩ := hr (S.put k (some p)) f (st + 1) (hI.put (hk k (List.mem_cons_self)) (by omega) e) (fun j hj => hk j (List.mem_cons_of_mem _ hj))
          exact ⟨⟨g1, g2, g3, g4, g5, g6, fun j hj => (g7 j (fun z => hj (List.mem_cons_of_mem _ z))).trans (put_ne _ _ (fun z => hj (by rw [z]; exact List.mem_cons_self)))⟩, g8⟩
        · exact tryA_only hr (by omega) hI hk
    · exact tryA_only hr (by omega) hI hk
theorem fillA_only {most : Nat} : ∀ (ks : List Nat) (S : AS) (f st : Nat), Inv S → (∀ j ∈ ks, j < S.n) → Only ks S (fillA most ks S f st).2.2.2.2 ∧ Inv (fillA most ks S f st).2.2.2.2
  | [], S, f, st, hI, _ => ⟨Only.rf, hI⟩
  | k :: ks, S, f, st, hI, hk => tryA_only (fillA_only ks) (by omega) hI hk
/-- what a search of the reference leaves alone -/
def KM (M M' : MV) : Prop := MV.thrown M' = MV.thrown M ∧ MV.saves M' = MV.saves M ∧ MV.saved M' = MV.saved M ∧ MV.length M' = MV.length M ∧ MV.text M' = MV.text M ∧ MV.laid M' = MV.laid M ∧ MV.h M' = MV.h M
theorem KM.rf {M : MV} : KM M M := ⟨rfl, rfl, rfl, rfl, rfl, rfl, rfl⟩
/-- a state within its loop -/
def SLS (M0 : MV) (ks : List Nat) (S : AS) (f st : Nat) (cut : Bool) (M : MV) : Prop := KM M0 M ∧ RZ (MV.z M) S ∧ (∀ i, i < ks.length → MV.opn M i = nI (ks.getD i 0)) ∧ MV.found M = nI f ∧ MV.steps M = nI st ∧ MV.isCut M = nI cut.toNat
theorem nn_dec (n : Nat) : nI (n + 1) + (-1) = nI n := by
  rw [nI_succ, Int32.add_assoc, show (1 : Int32) + (-1) = 0 by decide, Int32.add_zero]
theorem drop_getD {ks : List Nat} {d k : Nat} {suf : List Nat} (h : ks.drop d = k :: suf) : ks.getD d 0 = k := by
  have h1 : (ks.drop d)[0]? = some k := by rw [h]; rfl
  rw [List.getElem?_drop] at h1
  rw [List.getD_eq_getElem?_getD, show d = d + 0 by omega, h1]
  rfl
section KEY
variable {Q : MV → Prop} {P : MV → Int32 → Int32 → Int32 → Int32 → Int32 → Int32 → Prop} {K : MV → Int32 → Int32 → Int32 → Prop} {M0 : MV} {ks : List Nat} {most n0 : Nat} {x2 : Int32}
theorem sr_step (hP : ∀ (vM : MV) (x1 x2 x3 x4 x5 x6 : Int32), bd_X7_search_85 Q P K vM x1 x2 x3 x4 x5 x6 → P vM x1 x2 x3 x4 x5 x6) (hm : ks.length ≤ 12) (h12 : n0 ≤ 12) {d k : Nat} {suf : List Nat} (hd : d < ks.length) (hkd : ks.getD d 0 = k) (hk0 : k < n0)
    (child : ∀ (S : AS) (f st q : Nat) (M1 : MV), Inv S → S.n = n0 → why S k q = 0 → q < 8 * S.t → (∀ j ∈ k :: suf, S.P j = none) → f ≤ st → st < 600 → SLS M0 ks (S.put k (some q)) f (st + 1) false M1 →
      ((fillA most suf (S.put k (some q)) f (st + 1)).2.2.2.1 = true → ∀ M', SLS M0 ks (fillA most suf (S.put k (some q)) f (st + 1)).2.2.2.2 (fillA most suf (S.put k (some q)) f (st + 1)).1 (fillA most suf (S.put k (some q)) f (st + 1)).2.1 (fillA most suf (S.put k (some q)) f (st + 1)).2.2.1 M' → K M' (nI most) x2 (nI ks.length)) →
      ((fillA most suf (S.put k (some q)) f (st + 1)).2.2.2.1 = false → ∀ M', SLS M0 ks S (fillA most suf (S.put k (some q)) f (st + 1)).1 (fillA most suf (S.put k (some q)) f (st + 1)).2.1 false M' → P M' (nI most) x2 (nI ks.length) (nI d) (nI (q + 1)) 1) →
      ∀ x4 : Int32, x4 = nI d + 1 → (¬ x4 = nI ks.length → P M1 (nI most) x2 (nI ks.length) x4 0 1) ∧ (x4 = nI ks.length → ∀ f22 : Int32, f22 = MV.found M1 + 1 → (nI most ≤ f22 → wp_X7_search_252 P K Q (MV.s_found M1 f22) (nI most) x2 (nI ks.length) x4 0 (nI q) 0) ∧ (¬ nI most ≤ f22 → wp_X7_search_252 P K Q (MV.s_found M1 f22) (nI most) x2 (nI ks.length) x4 0 (nI q) 1))) :
    ∀ (N p : Nat) (S : AS) (f st : Nat) (M : MV), 8 * S.t - p ≤ N → p ≤ 8 * S.t → Inv S → S.n = n0 → SLS M0 ks S f st false M → f ≤ st → st ≤ 600 → (∀ j ∈ k :: suf, S.P j = none) →
      ((tryA (fillA most suf) k (8 * S.t - p) p S f st).2.2.2.1 = true → ∀ M', SLS M0 ks (tryA (fillA most suf) k (8 * S.t - p) p S f st).2.2.2.2 (tryA (fillA most suf) k (8 * S.t - p) p S f st).1 (tryA (fillA most suf) k (8 * S.t - p) p S f st).2.1 (tryA (fillA most suf) k (8 * S.t - p) p S f st).2.2.1 M' → K M' (nI most) x2 (nI ks.length)) →
      ((tryA (fillA most suf) k (8 * S.t - p) p S f st).2.2.2.1 = false → ∀ (M' : MV) (x5 : Int32), SLS M0 ks S (tryA (fillA most suf) k (8 * S.t - p) p S f st).1 (tryA (fillA most suf) k (8 * S.t - p) p S f st).2.1 false M' → ∀ x4 : Int32, x4 = nI d + (-1) → (x4 < 0 → wp_X7_search_124 P K Q M' (nI most) x2 (nI ks.length) x4 x5 0) ∧ (¬ x4 < 0 → wp_X7_search_124 P K Q M' (nI most) x2 (nI ks.length) x4 x5 1)) →
      P M (nI most) x2 (nI ks.length) (nI d) (nI p) 1 := by
  intro N
  induction N with
  | zero =>
    intro p S f st M hN hp hI hn hL hf hst hno hE hX
    have ht := hI.2.2.2.1
    obtain ⟨k1, k2, k3, k4, k5, k6⟩ := hL
    apply hP
    unfold bd_X7_search_85
    refine bq_f (by decide) ⟨vp_in_nI (by omega) (by omega), ?_⟩
    rw [nI_clamp (by omega), k3 d hd, hkd]
    refine sp_X7_possibleFrom k2 hI (by omega) (by omega) ?_
    have e0 : 8 * S.t - p = 0 := by omega
    have e : pf S k p = none := by unfold pf; rw [e0]; rfl
    rw [e]
    rw [e0] at hX
    exact bn_t rfl (hX rfl M (nI p) ⟨k1, k2, k3, k4, k5, k6⟩)
  | succ N ih =>
    intro p S f st M hN hp hI hn hL hf hst hno hE hX
    have ht := hI.2.2.2.1
    have hL0 := hL
    obtain ⟨k1, k2, k3, k4, k5, k6⟩ := hL
    apply hP
    unfold bd_X7_search_85
    refine bq_f (by decide) ⟨vp_in_nI (by omega) (by omega), ?_⟩
    rw [nI_clamp (by omega), k3 d hd, hkd]
    refine sp_X7_possibleFrom k2 hI (by omega) (by omega) ?_
    rw [tryA_pf] at hE hX
    cases e : pf S k p with
    | none =>
      have e' : pfN S k (8 * S.t - p) p = none := e
      simp only [e'] at hX
      exact bn_t rfl (hX trivial M (nI p) hL0)
    | some q =>
      have e' : pfN S k (8 * S.t - p) p = some q := e
      obtain ⟨q1, q2, q3⟩ := pf_lt e
      simp only [e'] at hE hX
      refine bn_f (nn_ne_m1 (by omega)) ?_
      rw [k5]
      refine bn_if (nI_eq (b := 600) (by omega) (by omega)) (fun e6 => ?_) (fun e6 => ?_)
      · rw [if_pos e6] at hE
        show P _ _ _ _ _ _ _
        exact hP _ _ _ _ _ _ _ (bq_t rfl (hE rfl _ ⟨k1, k2, k3, k4, k5, rfl⟩))
      · rw [if_neg e6] at hE hX
        intro f17 hf17
        rw [nI_1] at hf17
        subst hf17
        refine ⟨vp_in_nI (by omega) (by omega), ?_⟩
        rw [k3 d hd, hkd, nn_lit 28, nI_add]
        refine ⟨vp_in_nI (by omega) (by omega), ?_⟩
        rw [nI_clamp (by omega)]
        intro z20 hz20
        have hz : RZ z20 (S.put k (some q)) := by rw [hz20]; exact k2.put (by omega) (some q)
        intro x4 hx4
        have hb := fillA_b (most := most) suf (S.put k (some q)) f (st + 1) (by omega) (by omega)
        have ch := child S f st q (MV.s_steps (MV.s_z M z20) (nI (st + 1))) hI hn q3 q2 hno hf (by omega) ⟨k1, hz, k3, k4, rfl, k6⟩ (fun ho M' hM' => ?_) (fun ho M' hM' => ?_) x4 hx4
        · exact ch
        · refine hE ?_ M' ?_
          · rw [if_pos ho]; exact ho
          · rw [if_pos ho]; exact hM'
        · have hno2 : ¬ (fillA most suf (S.put k (some q)) f (st + 1)).2.2.2.1 = true := by rw [ho]; exact Bool.false_ne_true
          rw [if_neg hno2] at hE hX
          have e8 : 8 * S.t - p + p - (q + 1) = 8 * S.t - (q + 1) := by omega
          rw [e8] at hE hX
          exact ih (q + 1) S _ _ M' (by omega) (by omega) hI hn hM' hb.1 hb.2 hno hE hX
theorem sr_key (hP : ∀ (vM : MV) (x1 x2 x3 x4 x5 x6 : Int32), bd_X7_search_85 Q P K vM x1 x2 x3 x4 x5 x6 → P vM x1 x2 x3 x4 x5 x6) (hm : ks.length ≤ 12) (h12 : n0 ≤ 12) (hmost : most ≤ 50) : ∀ (suf : List Nat) (d k : Nat), ks.drop d = k :: suf → (∀ j ∈ k :: suf, j < n0) → (k :: suf).Nodup →
    ∀ (N p : Nat) (S : AS) (f st : Nat) (M : MV), 8 * S.t - p ≤ N → p ≤ 8 * S.t → Inv S → S.n = n0 → SLS M0 ks S f st false M → f ≤ st → st ≤ 600 → (∀ j ∈ k :: suf, S.P j = none) →
      ((tryA (fillA most suf) k (8 * S.t - p) p S f st).2.2.2.1 = true → ∀ M', SLS M0 ks (tryA (fillA most suf) k (8 * S.t - p) p S f st).2.2.2.2 (tryA (fillA most suf) k (8 * S.t - p) p S f st).1 (tryA (fillA most suf) k (8 * S.t - p) p S f st).2.1 (tryA (fillA most suf) k (8 * S.t - p) p S f st).2.2.1 M' → K M' (nI most) x2 (nI ks.length)) →
      ((tryA (fillA most suf) k (8 * S.t - p) p S f st).2.2.2.1 = false → ∀ (M' : MV) (x5 : Int32), SLS M0 ks S (tryA (fillA most suf) k (8 * S.t - p) p S f st).1 (tryA (fillA most suf) k (8 * S.t - p) p S f st).2.1 false M' → ∀ x4 : Int32, x4 = nI d + (-1) → (x4 < 0 → wp_X7_search_124 P K Q M' (nI most) x2 (nI ks.length) x4 x5 0) ∧ (¬ x4 < 0 → wp_X7_search_124 P K Q M' (nI most) x2 (nI ks.length) x4 x5 1)) →
      P M (nI most) x2 (nI ks.length) (nI d) (nI p) 1 := by
  intro suf
  induction suf with
  | nil =>
    intro d k hdr hlt hnd
    have hlen : ks.length - d = 1 := by rw [← List.length_drop, hdr]; rfl
    have hkd : ks.getD d 0 = k := drop_getD hdr
    have hk0 : k < n0 := hlt k (List.mem_cons_self)
    refine sr_step hP hm h12 (by omega) hkd hk0 ?_
    intro S f st q M1 hI hn hw hq hno hf hst hL hE hC x4 hx4
    obtain ⟨k1, k2, k3, k4, k5, k6⟩ := hL
    rw [nI_1] at hx4
    subst hx4
    have hl : d + 1 = ks.length := by omega
    refine ⟨fun z => absurd (by rw [hl]) z, fun _ f22 hf22 => ?_⟩
    rw [k4, nI_1] at hf22
    subst hf22
    have hL2 : SLS M0 ks (S.put k (some q)) (f + 1) (st + 1) false (MV.s_found M1 (nI (f + 1))) := ⟨k1, k2, k3, rfl, k5, k6⟩
    refine ⟨fun z => ?_, fun z => ?_⟩
    · rw [nI_leI (by omega) (by omega)] at z
      intro x4 hx4
      refine ⟨fun _ => ?_, fun z2 => absurd rfl z2⟩
      show P _ _ _ _ _ _ _
      exact hP _ _ _ _ _ _ _ (bq_t rfl (hE (decide_eq_true z) _ hL2))
    · rw [nI_leI (by omega) (by omega)] at z
      intro x4 hx4
      rw [nn_dec] at hx4
      subst hx4
      refine ⟨fun z2 => absurd z2 (by decide), fun _ x5 hx5 => ?_⟩
      rw [nI_1] at hx5
      subst hx5
      refine ⟨vp_in_nI (by omega) (by omega), ?_⟩
      rw [nI_clamp (by omega), show MV.opn (MV.s_found M1 (nI (f + 1))) d = nI k from (k3 d (by omega)).trans (by rw [hkd]), nn_lit 28, nI_add]
      refine ⟨vp_in_nI (by omega) (by omega), ?_⟩
      rw [nI_clamp (by omega)]
      intro z27 hz27
      have hz : RZ z27 S := by
        have := k2.put (k := k) (by omega) none
        rw [put_self _ (hno k List.mem_cons_self)] at this
        rw [hz27]
        exact this
      show P _ _ _ _ _ _ _
      exact hC (decide_eq_false z) _ ⟨k1, hz, k3, rfl, k5, k6⟩
  | cons k2' suf ih =>
    intro d k hdr hlt hnd
    have hlen : ks.length - d = suf.length + 2 := by rw [← List.length_drop, hdr]; rfl
    have hkd : ks.getD d 0 = k := drop_getD hdr
    have hk0 : k < n0 := hlt k (List.mem_cons_self)
    have hdr2 : ks.drop (d + 1) = k2' :: suf := by rw [← List.drop_drop, hdr]; rfl
    refine sr_step hP hm h12 (by omega) hkd hk0 ?_
    intro S f st q M1 hI hn hw hq hno hf hst hL hE hC x4 hx4
    rw [nI_1] at hx4
    subst hx4
    refine ⟨fun _ => ?_, fun z => by rw [nI_eq (by omega) (by omega)] at z; omega⟩
    have hnk : ∀ j ∈ k2' :: suf, j ≠ k := fun j hj e => (List.nodup_cons.mp hnd).1 (by rw [← e]; exact hj)
    refine ih (d + 1) k2' hdr2 (fun j hj => hlt j (List.mem_cons_of_mem _ hj)) (List.nodup_cons.mp hnd).2 (8 * S.t) 0 (S.put k (some q)) f (st + 1) M1 (Nat.le_refl _) (Nat.zero_le _) (hI.put (by omega) hq hw) hn hL (by omega) (by omega) (fun j hj => (put_ne _ _ (hnk j hj)).trans (hno j (List.mem_cons_of_mem _ hj))) hE ?_
    intro ho M' x5 hL' x4 hx4
    rw [nn_dec] at hx4
    subst hx4
    obtain ⟨k1, k2, k3, k4, k5, k6⟩ := hL'
    refine ⟨fun z => absurd z (nI_pos (by omega)), fun _ => ⟨fun z => absurd z (by decide), fun _ => ⟨vp_in_nI (by omega) (by omega), ?_⟩⟩⟩
    rw [nI_clamp (by omega), k3 d (by omega), hkd, nn_lit 28, nI_add]
    refine ⟨vp_in_nI (by omega) (by omega), ?_⟩
    rw [nI_clamp (by omega), k2.2.2.2.2.2.1 k (by omega), put_at, enc_some, nI_1]
    intro x5' hx5
    subst hx5
    refine ⟨vp_in_nI (by omega) (by omega), vp_in_nI (by omega) (by omega), fun z38 hz38 => ?_⟩
    have hz : RZ z38 S := by
      have := k2.put (k := k) (by omega) none
      rw [put_self _ (hno k List.mem_cons_self)] at this
      rw [hz38]
      exact this
    show P _ _ _ _ _ _ _
    exact hC ho _ ⟨k1, hz, k3, k4, k5, k6⟩
end KEY
