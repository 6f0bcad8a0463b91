/-! why a look doesn't fit: the class's answer is the puzzle's -/
theorem all8 {f : Nat → Nat} : (∀ j, j < 8 → f j = 0) ↔ ∀ s, s < 4 → (f s = 0 ∧ f (s + 4) = 0) := by
  constructor
  · intro h s hs
    exact ⟨h s (by omega), h (s + 4) (by omega)⟩
  · intro h j hj
    by_cases e : j < 4
    · exact (h j e).1
    · have h2 := (h (j - 4) (by omega)).2
      rw [show j - 4 + 4 = j by omega] at h2
      exact h2
theorem any4_no {g : Nat → Bool} : ¬ any4 g = true ↔ ∀ s, s < 4 → g s = false := by
  constructor
  · intro h s hs
    obtain ⟨a0, a1, a2, a3⟩ := any4_f h
    rcases (show s = 0 ∨ s = 1 ∨ s = 2 ∨ s = 3 by omega) with rfl | rfl | rfl | rfl
    · exact a0
    · exact a1
    · exact a2
    · exact a3
  · intro h e
    rcases any4_t e with e | e | e | e
    · rw [h 0 (by omega)] at e; cases e
    · rw [h 1 (by omega)] at e; cases e
    · rw [h 2 (by omega)] at e; cases e
    · rw [h 3 (by omega)] at e; cases e
theorem rim_iff {S : AS} (hI : Inv S) {k p s : Nat} (hp : p < 96) (hs : s < 4) : badRim S k p s = false ↔ (lk S.F p s &&& mz1 S k s = 0 ∧ lk S.F p (s + 4) &&& mz1 S k (s + 4) = 0) := by
  have hru := hI.2.2.1
  have c1 := col_lt hI.2.2.2.2.1 hp s false
  have c2 := col_lt hI.2.2.2.2.1 hp s true
  have s4 : s % 4 = s := Nat.mod_eq_of_lt hs
  have s8 : (s + 4) % 4 = s := by omega
  rw [lk_low hs, lk_high]
  unfold badRim mz1
  rw [s4, s8, if_pos hs, if_neg (show ¬ s + 4 < 4 by omega)]
  cases e : nb S.r S.c k s with
  | some j =>
    rw [if_neg (fun z => nomatch z), if_neg (fun z => nomatch z), Nat.and_zero, Nat.and_zero]
    simp
  | none =>
    rw [if_pos rfl, if_pos rfl]
    unfold ra rb
    rcases (show S.ru = 0 ∨ S.ru = 1 ∨ S.ru = 2 by omega) with e9 | e9 | e9
    · rw [e9]; simp
    · rw [e9, if_neg (by omega), if_neg (by omega), nb_15 (by omega), Nat.and_zero]; simp
    · rw [e9, if_neg (by omega), if_pos rfl, nb_15 (by omega), nb_15 (by omega)]; simp
theorem unl_iff {S : AS} (hI : Inv S) {k p s : Nat} (hp : p < 96) (hs : s < 4) : (unlike S k p false s = false ↔ ((lk S.F p s ^^^ wt1 S k s) &&& ma1 S k s) = 0) ∧ (unlike S k p true s = false ↔ ((lk S.F p (s + 4) ^^^ wt1 S k (s + 4)) &&& ma1 S k (s + 4)) = 0) := by
  have c1 := col_lt hI.2.2.2.2.1 hp s false
  have c2 := col_lt hI.2.2.2.2.1 hp s true
  have s4 : s % 4 = s := Nat.mod_eq_of_lt hs
  have s8 : (s + 4) % 4 = s := by omega
  rw [lk_low hs, lk_high]
  unfold unlike ma1 wt1
  rw [shown_nq, shown_nq, s4, s8]
  cases e : nq S k s with
  | none =>
    rw [if_pos rfl]
    simp
  | some q =>
    have q9 := nq_96 hI e
    have d1 := col_lt hI.2.2.2.2.1 q9 ((s + 2) % 4) false
    have d2 := col_lt hI.2.2.2.2.1 q9 ((s + 2) % 4) true
    rw [if_neg (fun z => nomatch z)]
    simp only [if_pos hs, if_neg (show ¬ s + 4 < 4 by omega)]
    rw [nb_15 (xor16 (by omega) (by omega)), nb_15 (xor16 (by omega) (by omega)), xor_0, xor_0, bne_eq_false_iff_eq, bne_eq_false_iff_eq]
    exact ⟨⟨fun z => z.symm, fun z => z.symm⟩, ⟨fun z => z.symm, fun z => z.symm⟩⟩
theorem zero_eq {S : AS} {k p s : Nat} (h1 : unlike S k p false s = false) (h2 : unlike S k p true s = false) : bz1 S k s = badZero S k p s := by
  unfold unlike at h1 h2
  unfold bz1 badZero
  rw [shown_nq] at h1 h2
  rw [shown_nq]
  cases e : nq S k s with
  | none => simp
  | some q =>
    simp only [e, bne_eq_false_iff_eq] at h1 h2
    dsimp only
    rw [h1, h2]
    simp
theorem row65535 : (65535 : Int32) = nI (pkN 8 (fun j => if j < 4 then 15 else 0)) := rfl
theorem sp_X3_reasonAgainst {S : AS} (hI : Inv S) {k p : Nat} (hp : p < 96) {Q : Int32 → NV → Prop} (h : Q (nI (misfit S k p)) (nvA S k)) : wp_X3_reasonAgainst (nvA S k) (nI (pkN 8 (lk S.F p))) Q := by
  have hl : ∀ j, j < 8 → lk S.F p j < 16 := fun j _ => lk_lt hI.2.2.2.2.1 hp j
  have hz : ∀ j, j < 8 → mz1 S k j < 16 := fun j _ => mz1_lt S k j
  have ha : ∀ j, j < 8 → ma1 S k j < 16 := fun j _ => ma1_lt S k j
  have hw : ∀ j, j < 8 → wt1 S k j < 16 := fun j _ => wt1_lt hI k j
  have hx : ∀ j, j < 8 → (lk S.F p j ^^^ wt1 S k j) < 16 := fun j hj => xor16 (hl j hj) (hw j hj)
  have hy : ∀ j, j < 8 → ((lk S.F p j ^^^ wt1 S k j) &&& ma1 S k j) < 16 := fun j hj => and16 (ha j hj)
  have h15 : ∀ j, j < 8 → (if j < 4 then 15 else 0) < 16 := fun j _ => by split <;> omega
  have i1 : (nI (pkN 8 (lk S.F p)) &&& nI (pkN 8 (mz1 S k))) = 0 ↔ ¬ any4 (badRim S k p) = true := by
    rw [and_row hl hz, row_eq0 (fun j hj => and16 (hz j hj)), all8, any4_no]
    exact ⟨fun g s hs => (rim_iff hI hp hs).mpr (g s hs), fun g s hs => (rim_iff hI hp hs).mp (g s hs)⟩
  have i2 : (nI (pkN 8 (fun j => (lk S.F p j ^^^ wt1 S k j) &&& ma1 S k j)) &&& 65535) = 0 ↔ ¬ any4 (unlike S k p false) = true := by
    rw [row65535, and_row hy h15, row_eq0 (fun j hj => and16 (h15 j hj)), all8, any4_no]
    refine ⟨fun g s hs => (unl_iff hI hp hs).1.mpr ?_, fun g s hs => ⟨?_, ?_⟩⟩
    · have := (g s hs).1
      rw [if_pos hs, nb_15 (hy s (by omega))] at this
      exact this
    · rw [if_pos hs, nb_15 (hy s (by omega))]
      exact (unl_iff hI hp hs).1.mp (g s hs)
    · rw [if_neg (show ¬ s + 4 < 4 by omega), Nat.and_zero]
  have i3 : nI (pkN 8 (fun j => (lk S.F p j ^^^ wt1 S k j) &&& ma1 S k j)) = 0 ↔ (¬ any4 (unlike S k p false) = true ∧ ¬ any4 (unlike S k p true) = true) := by
    rw [row_eq0 hy, all8, any4_no, any4_no]
    exact ⟨fun g => ⟨fun s hs => (unl_iff hI hp hs).1.mpr (g s hs).1, fun s hs => (unl_iff hI hp hs).2.mpr (g s hs).2⟩, fun g s hs => ⟨(unl_iff hI hp hs).1.mp (g.1 s hs), (unl_iff hI hp hs).2.mp (g.2 s hs)⟩⟩
  unfold misfit at h
  show ((nI (pkN 8 (lk S.F p)) &&& nI (pkN 8 (mz1 S k))) = 0 → ∀ x2 : Int32, x2 = ((nI (pkN 8 (lk S.F p)) ^^^ nI (pkN 8 (wt1 S k))) &&& nI (pkN 8 (ma1 S k))) → ((x2 &&& 65535) = 0 → (x2 = 0 → (nI (anyN (bz1 S k) 4).toNat = 0 → Q 0 (nvA S k)) ∧ (¬ nI (anyN (bz1 S k) 4).toNat = 0 → Q 6 (nvA S k))) ∧ (¬ x2 = 0 → Q 5 (nvA S k))) ∧ (¬ (x2 &&& 65535) = 0 → Q 4 (nvA S k))) ∧ (¬ (nI (pkN 8 (lk S.F p)) &&& nI (pkN 8 (mz1 S k))) = 0 → Q 3 (nvA S k))
  refine ek_if i1 (fun g1 x2 hx2 => ?_) (fun g1 => ?_)
  · rw [if_neg g1] at h
    rw [xor_row hl hw, and_row hx ha] at hx2
    subst hx2
    refine ek_if i2 (fun g2 => ?_) (fun g2 => ?_)
    · rw [if_neg g2] at h
      refine ek_if i3 (fun g3 => ?_) (fun g3 => ?_)
      · rw [if_neg g3.2] at h
        have e4 : anyN (bz1 S k) 4 = any4 (badZero S k p) := by
          have u1 := any4_no.mp g3.1
          have u2 := any4_no.mp g3.2
          show ((((false || bz1 S k 0) || bz1 S k 1) || bz1 S k 2) || bz1 S k 3) = (badZero S k p 0 || (badZero S k p 1 || (badZero S k p 2 || badZero S k p 3)))
          rw [zero_eq (u1 0 (by omega)) (u2 0 (by omega)), zero_eq (u1 1 (by omega)) (u2 1 (by omega)), zero_eq (u1 2 (by omega)) (u2 2 (by omega)), zero_eq (u1 3 (by omega)) (u2 3 (by omega)), Bool.false_or, Bool.or_assoc, Bool.or_assoc]
        rw [e4]
        cases e5 : any4 (badZero S k p) with
        | false =>
          rw [if_neg (by rw [e5]; exact Bool.false_ne_true)] at h
          exact bq_t rfl h
        | true =>
          rw [if_pos e5] at h
          exact bq_f (by decide) h
      · rw [if_pos (by
          cases e6 : any4 (unlike S k p true) with
          | true => rfl
          | false => exact absurd ⟨g2, by rw [e6]; exact Bool.false_ne_true⟩ g3)] at h
        exact h
    · rw [if_pos (Classical.not_not.mp g2)] at h
      exact h
  · rw [if_pos (Classical.not_not.mp g1)] at h
    exact h
