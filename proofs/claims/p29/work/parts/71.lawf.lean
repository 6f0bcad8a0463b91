/-! why a placing does not fit: the law's way, side by side -/
def ownS (S : AS) (k p s : Nat) : Nat := if badRim S k p s = true then 3 else if unlike S k p false s = true then 4 else if unlike S k p true s = true then 5 else if badZero S k p s = true then 6 else 9
theorem own_e {S : AS} {k p s : Nat} (hj : nb S.r S.c k s = none) : ownS S k p s = if 0 < S.ru ∧ (¬ col S.F p s false = 0 ∨ (S.ru = 2 ∧ ¬ col S.F p s true = 0)) then 3 else 9 := by
  have hsh : ∀ bl, shown S k s bl = none := fun bl => by unfold shown; rw [hj]
  simp [ownS, badRim, unlike, badZero, hsh, hj]
theorem own_n {S : AS} {k p s j : Nat} (hj : nb S.r S.c k s = some j) (hq : S.P j = none) : ownS S k p s = 9 := by
  have hsh : ∀ bl, shown S k s bl = none := fun bl => by unfold shown; rw [hj]; simp only [hq]
  simp [ownS, badRim, unlike, badZero, hsh, hj]
theorem own_q {S : AS} {k p s j q : Nat} (hj : nb S.r S.c k s = some j) (hq : S.P j = some q) : ownS S k p s = if ¬ col S.F q ((s + 2) % 4) false = col S.F p s false then 4 else if ¬ col S.F q ((s + 2) % 4) true = col S.F p s true then 5 else if 0 < S.ru ∧ (col S.F p s false = 0 ∨ (S.ru = 2 ∧ col S.F p s true = 0)) then 6 else 9 := by
  have hsh : ∀ bl, shown S k s bl = some (col S.F q ((s + 2) % 4) bl) := fun bl => by unfold shown; rw [hj]; simp only [hq]
  simp [ownS, badRim, unlike, badZero, hsh, hj]
theorem ownS_le (S : AS) (k p s : Nat) : ownS S k p s ≤ 9 := by
  unfold ownS
  repeat' split
  all_goals omega
def wW (S : AS) (k p : Nat) : Nat → Nat
  | 0 => 9
  | s + 1 => if wW S k p s ≤ ownS S k p s then wW S k p s else ownS S k p s
theorem wW_le (S : AS) (k p : Nat) : ∀ s, wW S k p s ≤ 9
  | 0 => Nat.le_refl 9
  | s + 1 => by
    have h1 := wW_le S k p s
    show (if wW S k p s ≤ ownS S k p s then wW S k p s else ownS S k p s) ≤ 9
    split <;> omega
theorem wW_mis (S : AS) (k p : Nat) : (if wW S k p 4 = 9 then 0 else wW S k p 4) = misfit S k p := by
  have e0 : wW S k p 0 = 9 := rfl
  have a0 : wW S k p 1 = if wW S k p 0 ≤ ownS S k p 0 then wW S k p 0 else ownS S k p 0 := rfl
  have a1 : wW S k p 2 = if wW S k p 1 ≤ ownS S k p 1 then wW S k p 1 else ownS S k p 1 := rfl
  have a2 : wW S k p 3 = if wW S k p 2 ≤ ownS S k p 2 then wW S k p 2 else ownS S k p 2 := rfl
  have a3 : wW S k p 4 = if wW S k p 3 ≤ ownS S k p 3 then wW S k p 3 else ownS S k p 3 := rfl
  have f3 : ∀ s, badRim S k p s = true → ownS S k p s = 3 := fun s h => by unfold ownS; rw [if_pos h]
  have f4 : ∀ s, badRim S k p s = false → unlike S k p false s = true → ownS S k p s = 4 := fun s h h2 => by unfold ownS; rw [if_neg (by rw [h]; decide), if_pos h2]
  have f5 : ∀ s, badRim S k p s = false → unlike S k p false s = false → unlike S k p true s = true → ownS S k p s = 5 := fun s h h2 h3 => by unfold ownS; rw [if_neg (by rw [h]; decide), if_neg (by rw [h2]; decide), if_pos h3]
  have f6 : ∀ s, badRim S k p s = false → unlike S k p false s = false → unlike S k p true s = false → badZero S k p s = true → ownS S k p s = 6 := fun s h h2 h3 h4 => by unfold ownS; rw [if_neg (by rw [h]; decide), if_neg (by rw [h2]; decide), if_neg (by rw [h3]; decide), if_pos h4]
  have f9 : ∀ s, badRim S k p s = false → unlike S k p false s = false → unlike S k p true s = false → badZero S k p s = false → ownS S k p s = 9 := fun s h h2 h3 h4 => by unfold ownS; rw [if_neg (by rw [h]; decide), if_neg (by rw [h2]; decide), if_neg (by rw [h3]; decide), if_neg (by rw [h4]; decide)]
  have g3 : ∀ s, 3 ≤ ownS S k p s := fun s => by unfold ownS; repeat' split
                                                 all_goals omega
  have g4 : ∀ s, badRim S k p s = false → 4 ≤ ownS S k p s := fun s h => by
    unfold ownS
    rw [if_neg (by rw [h]; decide)]
    repeat' split
    all_goals omega
  have g5 : ∀ s, badRim S k p s = false → unlike S k p false s = false → 5 ≤ ownS S k p s := fun s h h2 => by
    unfold ownS
    rw [if_neg (by rw [h]; decide), if_neg (by rw [h2]; decide)]
    repeat' split
    all_goals omega
  have g6 : ∀ s, badRim S k p s = false → unlike S k p false s = false → unlike S k p true s = false → 6 ≤ ownS S k p s := fun s h h2 h3 => by
    unfold ownS
    rw [if_neg (by rw [h]; decide), if_neg (by rw [h2]; decide), if_neg (by rw [h3]; decide)]
    repeat' split
    all_goals omega
  have l0 := ownS_le S k p 0
  have l1 := ownS_le S k p 1
  have l2 := ownS_le S k p 2
  have l3 := ownS_le S k p 3
  have fin : ∀ v, (v = 3 ∨ v = 4 ∨ v = 5 ∨ v = 6 ∨ v = 9) → v ≤ ownS S k p 0 → v ≤ ownS S k p 1 → v ≤ ownS S k p 2 → v ≤ ownS S k p 3 → (ownS S k p 0 = v ∨ ownS S k p 1 = v ∨ ownS S k p 2 = v ∨ ownS S k p 3 = v) → wW S k p 4 = v := by
    intro v hv h0 h1 h2 h3 he
    rw [e0] at a0
    split at a0 <;> split at a1 <;> split at a2 <;> split at a3 <;> omega
  unfold misfit
  by_cases r : any4 (badRim S k p) = true
  · rw [if_pos r]
    have h := any4_t r
    have e := fin 3 (by omega) (g3 0) (g3 1) (g3 2) (g3 3) (h.elim (fun h => Or.inl (f3 _ h)) (fun h => Or.inr (h.elim (fun h => Or.inl (f3 _ h)) (fun h => Or.inr (h.elim (fun h => Or.inl (f3 _ h)) (fun h => Or.inr (f3 _ h)))))))
    rw [e]; rfl
  · rw [if_neg r]
    obtain ⟨r0, r1, r2, r3⟩ := any4_f r
    by_cases u : any4 (unlike S k p false) = true
    · rw [if_pos u]
      have h := any4_t u
      have e := fin 4 (by omega) (g4 0 r0) (g4 1 r1) (g4 2 r2) (g4 3 r3) (h.elim (fun h => Or.inl (f4 _ r0 h)) (fun h => Or.inr (h.elim (fun h => Or.inl (f4 _ r1 h)) (fun h => Or.inr (h.elim (fun h => Or.inl (f4 _ r2 h)) (fun h => Or.inr (f4 _ r3 h)))))))
      rw [e]; rfl
    · rw [if_neg u]
      obtain ⟨u0, u1, u2, u3⟩ := any4_f u
      by_cases w : any4 (unlike S k p true) = true
      · rw [if_pos w]
        have h := any4_t w
        have e := fin 5 (by omega) (g5 0 r0 u0) (g5 1 r1 u1) (g5 2 r2 u2) (g5 3 r3 u3) (h.elim (fun h => Or.inl (f5 _ r0 u0 h)) (fun h => Or.inr (h.elim (fun h => Or.inl (f5 _ r1 u1 h)) (fun h => Or.inr (h.elim (fun h => Or.inl (f5 _ r2 u2 h)) (fun h => Or.inr (f5 _ r3 u3 h)))))))
        rw [e]; rfl
      · rw [if_neg w]
        obtain ⟨w0, w1, w2, w3⟩ := any4_f w
        by_cases z : any4 (badZero S k p) = true
        · rw [if_pos z]
          have h := any4_t z
          have e := fin 6 (by omega) (g6 0 r0 u0 w0) (g6 1 r1 u1 w1) (g6 2 r2 u2 w2) (g6 3 r3 u3 w3) (h.elim (fun h => Or.inl (f6 _ r0 u0 w0 h)) (fun h => Or.inr (h.elim (fun h => Or.inl (f6 _ r1 u1 w1 h)) (fun h => Or.inr (h.elim (fun h => Or.inl (f6 _ r2 u2 w2 h)) (fun h => Or.inr (f6 _ r3 u3 w3 h)))))))
          rw [e]; rfl
        · rw [if_neg z]
          obtain ⟨z0, z1, z2, z3⟩ := any4_f z
          have h0 := f9 0 r0 u0 w0 z0
          have h1 := f9 1 r1 u1 w1 z1
          have h2 := f9 2 r2 u2 w2 z2
          have h3 := f9 3 r3 u3 w3 z3
          have e := fin 9 (by omega) (by omega) (by omega) (by omega) (by omega) (Or.inl h0)
          rw [if_pos e]
section FT
variable {b ti : IV} {S : AS} {k p s w : Nat} {P : IV → IV → Int32 → Int32 → Int32 → Int32 → Prop} {K : IV → IV → Int32 → Prop} {Q : Int32 → IV → IV → Prop}
theorem ft_189 {o : Nat} (hw : w < 100) (ho : o < 100) {x9 : Int32} (e : x9 = nI o) (h : P b ti (nI k) (nI p) (nI (if w ≤ o then w else o)) (nI (s + 1))) : wp_L_fits_189 P K Q b ti (nI k) (nI p) (nI w) (nI s) x9 := by
  subst e
  refine ek_if (nI_leI (by omega) (by omega)) (fun e => ?_) (fun e => ?_)
  · intro x hx
    rw [nI_1] at hx
    subst hx
    rw [if_pos e] at h
    exact h
  · intro x hx
    rw [nI_1] at hx
    subst hx
    rw [if_neg e] at h
    exact h
theorem sp_L_fit1 (h : lbB b ti S) (hI : Inv S) (hs : lbS S) (hk : k < S.n) (hp : p < 8 * S.t) (hs4 : s < 4) (hw : w < 100) (h9 : P b ti (nI k) (nI p) (nI (if w ≤ ownS S k p s then w else ownS S k p s)) (nI (s + 1))) : bd_L_fits_7 Q P K b ti (nI k) (nI p) (nI w) (nI s) := by
  have hb := h
  obtain ⟨b0, b1, b2, b3, b4, b5, b6⟩ := hb
  have hn6 := hs.n6
  have ht6 := hs.2.2
  have hru := hI.2.2.1
  have hu := col_lt hI.2.2.2.2.1 (p := p) (by omega) s false
  have hd := col_lt hI.2.2.2.2.1 (p := p) (by omega) s true
  unfold bd_L_fits_7
  refine bq_f (fun z => by rw [nn_lit 4, nI_leI (by omega) (by omega)] at z; omega) ?_
  refine sp_L_color h ht6 hp hs4 false (sp_L_color h ht6 hp hs4 true (sp_L_beyond h hI hk hs4 ?_))
  generalize hu9 : col S.F p s false = u at *
  generalize hd9 : col S.F p s true = d at *
  rw [b2]
  cases hj : nb S.r S.c k s with
  | none =>
    have e9 := own_e (p := p) hj
    rw [hu9, hd9] at e9
    refine bq_f (by decide) ?_
    have nine : (¬ 0 < S.ru ∨ (u = 0 ∧ (¬ S.ru = 2 ∨ d = 0))) → wp_L_fits_62 P K Q b ti (nI k) (nI p) (nI w) (nI s) (nI d) := by
      intro hc
      have e10 : ownS S k p s = 9 := by rw [e9, if_neg (by omega)]
      rw [e10] at h9
      unfold wp_L_fits_62
      rw [b2]
      refine bn_if (nI_eq (b := 2) (by omega) (by omega)) (fun e2 => ?_) (fun _ => ft_189 (o := 9) hw (by omega) rfl h9)
      refine ek_if (nI_leI (b := 0) (by omega) (by omega)) (fun _ => ft_189 (o := 9) hw (by omega) rfl h9) (fun e3 => ?_)
      omega
    have three : (0 < S.ru ∧ (¬ u = 0 ∨ (S.ru = 2 ∧ ¬ d = 0))) → wp_L_fits_74 P K Q b ti (nI k) (nI p) (nI w) (nI s) := by
      intro hc
      rw [e9, if_pos hc] at h9
      exact ft_189 (o := 3) hw (by omega) rfl h9
    refine ek_if (nI_leI (b := 0) (by omega) (by omega)) (fun e0 => nine (by omega)) (fun e0 => ?_)
    refine ek_if (nI_ltI (a := 0) (by omega) (by omega)) (fun e1 => three (by omega)) (fun e1 => ?_)
    by_cases e2 : S.ru = 2 ∧ ¬ d = 0
    · unfold wp_L_fits_62
      rw [b2]
      refine bn_t (by rw [e2.1]; rfl) (bq_f (fun z => ?_) (three (by omega)))
      rw [nn_lit 0, nI_leI (by omega) (by omega)] at z
      omega
    · exact nine (by omega)
  | some j =>
    have hj2 : j < S.n := nb_lt hk hj
    rw [enc_some]
    refine bq_t (nI_pos' (by omega)) ?_
    rw [nn_lit 4, nI_add, nI_clamp (by omega), b4 j (by omega)]
    refine ⟨vp_in_nI (by omega) (by omega), ?_⟩
    cases hq : S.P j with
    | none =>
      rw [own_n hj hq] at h9
      exact bq_t (by decide) (ft_189 (o := 9) hw (by omega) rfl h9)
    | some q =>
      have hq8 := (hI.2.2.2.2.2.1 j q hq).2
      have e9 := own_q (p := p) hj hq
      rw [hu9, hd9] at e9
      refine bq_f (nI_pos (by omega)) ?_
      have main : wp_L_fits_111 P K Q b ti (nI k) (nI p) (nI w) (nI s) (nI u) (nI d) (nI j) (nI ((s + 2) % 4)) := by
        unfold wp_L_fits_111
        rw [nn_lit 4, nI_add, nI_clamp (by omega), b4 j (by omega), hq]
        refine ⟨vp_in_nI (by omega) (by omega), ?_⟩
        refine sp_L_color h ht6 hq8 (by omega) false ?_
        have hu2 := col_lt hI.2.2.2.2.1 (p := q) (by omega) ((s + 2) % 4) false
        have hd2 := col_lt hI.2.2.2.2.1 (p := q) (by omega) ((s + 2) % 4) true
        refine ek_if (nI_eq (by omega) (by omega)) (fun e1 => ?_) (fun e1 => ?_)
        · refine ⟨vp_in_nI (by omega) (by omega), ?_⟩
          refine sp_L_color h ht6 hq8 (by omega) true ?_
          rw [if_neg (fun z => z e1)] at e9
          refine ek_if (nI_eq (by omega) (by omega)) (fun e2 => ?_) (fun e2 => ?_)
          · rw [if_neg (fun z => z e2)] at e9
            have six : (0 < S.ru ∧ (u = 0 ∨ (S.ru = 2 ∧ d = 0))) → wp_L_fits_180 P K Q b ti (nI k) (nI p) (nI w) (nI s) := by
              intro hc
              rw [e9, if_pos hc] at h9
              exact ft_189 (o := 6) hw (by omega) rfl h9
            have nine : ¬ (0 < S.ru ∧ (u = 0 ∨ (S.ru = 2 ∧ d = 0))) → wp_L_fits_185 P K Q b ti (nI k) (nI p) (nI w) (nI s) := by
              intro hc
              rw [e9, if_neg hc] at h9
              exact ft_189 (o := 9) hw (by omega) rfl h9
            have w168 : ¬ (0 < S.ru ∧ u = 0) → wp_L_fits_168 P K Q b ti (nI k) (nI p) (nI w) (nI s) (nI d) := by
              intro hc
              unfold wp_L_fits_168
              rw [b2]
              refine bn_if (nI_eq (b := 2) (by omega) (by omega)) (fun e3 => ?_) (fun e3 => nine (by omega))
              exact bn_if (nn_eq0 (by omega)) (fun e4 => six (by omega)) (fun e4 => nine (by omega))
            rw [b2]
            refine ek_if (nI_leI (b := 0) (by omega) (by omega)) (fun e3 => w168 (by omega)) (fun e3 => ?_)
            exact ek_if (nn_eq0 (by omega)) (fun e4 => six (by omega)) (fun e4 => w168 (by omega))
          · rw [e9, if_pos e2] at h9
            exact ft_189 (o := 5) hw (by omega) rfl h9
        · rw [e9, if_pos e1] at h9
          exact ft_189 (o := 4) hw (by omega) rfl h9
      refine ek_if (nI_leI (a := 2) (by omega) (by omega)) (fun e => ?_) (fun e => ?_)
      · rw [nn_lit 2, pk_sub e, show s - 2 = (s + 2) % 4 by omega]
        exact main
      · rw [nn_lit 2, nI_add, show s + 2 = (s + 2) % 4 by omega]
        exact main
end FT
theorem sp_L_fits {b ti : IV} {S : AS} (h : lbB b ti S) (hI : Inv S) (hs : lbS S) {k p : Nat} (hk : k < S.n) (hp : p < 8 * S.t) {Q : Int32 → IV → IV → Prop} (hQ : Q (nI (misfit S k p)) b ti) : wp_L_fits b ti (nI k) (nI p) Q := by
  unfold wp_L_fits
  intro P hP
  have key : ∀ d s : Nat, s + d = 4 → P b ti (nI k) (nI p) (nI (wW S k p s)) (nI s) := by
    intro d
    induction d with
    | zero =>
      intro s hs4
      obtain rfl : s = 4 := by omega
      have hl := wW_le S k p 4
      have hm := wW_mis S k p
      apply hP
      unfold bd_L_fits_7
      refine bq_t (by decide) ?_
      refine bn_if (nI_eq (b := 9) (by omega) (by omega)) (fun e => ?_) (fun e => ?_)
      · rw [if_pos e] at hm
        rw [← hm] at hQ
        exact hQ
      · rw [if_neg e] at hm
        rw [← hm] at hQ
        exact hQ
    | succ d ih =>
      intro s hs4
      have hl := wW_le S k p s
      exact hP _ _ _ _ _ _ (sp_L_fit1 h hI hs hk hp (by omega) (by omega) (ih (s + 1) (by omega)))
  exact key 4 0 rfl
theorem sp_L_where {b ti : IV} {S : AS} (h : lbB b ti S) (hI : Inv S) {t : Nat} (ht : t < 1000) {Q : Int32 → IV → Prop} (hQ : Q (enc (cellOf S t)) b) : wp_L_where b (nI t) Q := by
  obtain ⟨b0, b1, b2, b3, b4, b5, b6⟩ := h
  have hn12 := hI.n12
  unfold wp_L_where
  intro P hP
  have key : ∀ d k : Nat, k + d = S.n → (∀ j q, j < k → S.P j = some q → q / 8 ≠ t) → P b (nI t) (nI k) := by
    intro d
    induction d with
    | zero =>
      intro k hk hno
      obtain rfl : k = S.n := by omega
      apply hP
      unfold bd_L_where_2
      rw [b0, b1, pk_mul]
      refine bq_t ((nI_leI (a := S.r * S.c) (b := S.n) (by show S.n < _; omega) (by omega)).mpr (Nat.le_refl _)) ?_
      have e : cellOf S t = none := by
        cases hc : cellOf S t with
        | none => rfl
        | some j =>
          obtain ⟨q, hq1, hq2⟩ := cellOfN_ex hc
          exact absurd hq2 (hno j q (hI.2.2.2.2.2.1 j q hq1).1 hq1)
      rw [e] at hQ
      exact hQ
    | succ d ih =>
      intro k hk hno
      apply hP
      unfold bd_L_where_2
      rw [b0, b1, pk_mul]
      refine bq_f (fun z => by rw [nI_leI (a := S.r * S.c) (by show S.n < _; omega) (by omega)] at z; have z : S.n ≤ k := z; omega) ?_
      rw [nn_lit 4, nI_add, nI_clamp (by omega), b4 k (by omega)]
      refine ⟨vp_in_nI (by omega) (by omega), ?_⟩
      have step : (∀ q, S.P k = some q → q / 8 ≠ t) → wp_L_where_35 P Q b (nI t) (nI k) := by
        intro hq x hx
        rw [nI_1] at hx
        subst hx
        refine ih (k + 1) (by omega) (fun j q hj e => ?_)
        by_cases e2 : j = k
        · subst e2; exact hq q e
        · exact hno j q (by omega) e
      cases hq : S.P k with
      | none => exact bq_t (by decide) (step (fun q e => by rw [hq] at e; cases e))
      | some q =>
        have hq9 := hI.p96 hq
        refine bq_f (nI_pos (by omega)) ⟨vp_in_nI (by omega) (by omega), ?_⟩
        show (¬ nI q / 8 = nI t → _) ∧ (nI q / 8 = nI t → _)
        rw [nn_lit 8, pk_div (by omega) (by omega) (by omega)]
        refine bn_if (nI_eq (by omega) (by omega)) (fun e => ?_) (fun e => step (fun q' e' => by rw [hq] at e'; cases e'; exact e))
        subst e
        rw [cellOf_some hI hq] at hQ
        exact hQ
  exact key S.n 0 (by omega) (fun j q hj => absurd hj (Nat.not_lt_zero j))
theorem sp_L_why {b ti : IV} {S : AS} (h : lbB b ti S) (hI : Inv S) (hs : lbS S) {k p : Nat} (hk : k < S.n) (hp : p < 8 * S.t) {Q : Int32 → IV → IV → Prop} (hQ : Q (nI (why S k p)) b ti) : wp_L_why b ti (nI k) (nI p) Q := by
  have hn12 := hI.n12
  have ht6 := hs.2.2
  unfold wp_L_why
  rw [nn_lit 4, nI_add, nI_clamp (by omega), h.2.2.2.2.1 k (by omega), nn_lit 8, pk_div (by omega) (by omega) (by omega)]
  refine ⟨vp_in_nI (by omega) (by omega), ?_⟩
  unfold why at hQ
  cases hq : S.P k with
  | none =>
    rw [hq, if_neg (by decide)] at hQ
    refine bq_t (by decide) (sp_L_where h hI (by omega) ?_)
    cases hc : cellOf S (p / 8) with
    | none =>
      rw [hc, if_neg (by decide)] at hQ
      exact bq_t (by decide) (sp_L_fits h hI hs hk hp hQ)
    | some c =>
      rw [hc, if_pos (show (some c).isSome = true from rfl)] at hQ
      have hc2 := cellOfN_lt hc
      exact bq_f (nI_pos (by omega)) hQ
  | some q =>
    have hq9 := hI.p96 hq
    rw [hq, if_pos (show (some q).isSome = true from rfl)] at hQ
    exact bq_f (nI_pos (by omega)) hQ
