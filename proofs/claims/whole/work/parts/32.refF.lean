/-! the reference: take, fix, solve, append, clearBuffer -/
theorem RM.km {M M' : MV} {S T : AS} {L : List AS} {B : List Nat} (h : RM M S L B) (hk : KM M M') (hz : RZ (MV.z M') T) (hI : Inv T) : RM M' T L B := by
  obtain ⟨-, -, ⟨g1, g2, g3⟩, g4, ⟨t1, t2, t3⟩⟩ := h
  obtain ⟨-, k2, k3, k4, k5, -, -⟩ := hk
  refine ⟨hz, hI, ⟨k2.trans g1, g2, fun i T' hi => ?_⟩, g4, ⟨k4.trans t1, t2, fun i c hi => ?_⟩⟩
  · rw [k3]; exact g3 i T' hi
  · rw [k5]; exact t3 i c hi
def xS (S : AS) (k : Nat) (b : Bool) : AS := (S.r, S.c, S.ru, S.t, S.F, S.P, fun j => if j = k then b else S.X j)
theorem RZ.fixd {z : Nat → Int32} {S : AS} (h : RZ z S) {k : Nat} (hk : k < 12) (b : Bool) : RZ (upd z (40 + k) (nI b.toNat)) (xS S k b) := by
  obtain ⟨h0, h1, h2, h3, h4, h5, h6⟩ := h
  refine ⟨?_, ?_, ?_, ?_, fun i hi => ?_, fun j hj => ?_, fun j hj => ?_⟩
  · rw [pk_un (by omega)]; exact h0
  · rw [pk_un (by omega)]; exact h1
  · rw [pk_un (by omega)]; exact h2
  · rw [pk_un (by omega)]; exact h3
  · rw [pk_un (by omega)]; exact h4 i hi
  · rw [pk_un (by omega)]; exact h5 j hj
  · show _ = nI (if j = k then b else S.X j).toNat
    by_cases e : j = k
    · rw [if_pos e, e, pk_us]
    · rw [if_neg e, pk_un (by omega)]; exact h6 j hj
theorem nn_b1 (b : Bool) : nI b.toNat = 1 ↔ b = true := by
  cases b
  · exact ⟨fun z => absurd z (by decide), fun z => nomatch z⟩
  · exact ⟨fun _ => rfl, fun _ => rfl⟩
theorem sp_X7_take {M : MV} {S : AS} {L : List AS} {B : List Nat} (hM : RM M S L B) {a : Int32} {Q : Int32 → MV → Prop}
    (h0 : ∀ k p : Nat, k < S.n → a = nI k → S.P k = some p → S.X k = false → ∀ M', RM M' (S.put k none) (pushS L S) B → MV.thrown M' = 0 → Q (nI p) M')
    (h1 : ¬ (∃ k, k < S.n ∧ a = nI k) → ∀ M', RM M' S L B → MV.thrown M' = 1 → Q 0 M')
    (h2 : ∀ k : Nat, k < S.n → a = nI k → (S.P k = none ∨ S.X k = true) → ∀ M', RM M' S L B → MV.thrown M' = 2 → Q 0 M') : wp_X7_take M a Q := by
  have hM0 := hM
  obtain ⟨gz, gI, -, -, -⟩ := hM
  have hn := gI.n12
  unfold wp_X7_take
  refine sp_X7_isCell gz gI (fun k hk ea => ⟨fun _ => ?_, fun z => absurd z (by decide)⟩) (fun e => ⟨fun z => absurd rfl z, fun _ => ⟨fun z => absurd z (by decide), fun _ => h1 e _ (hM0.thrown 1) rfl⟩⟩)
  have bad : (S.P k = none ∨ S.X k = true) → wp_X7_take_44 Q M a 2 := fun e => ⟨fun z => absurd z (by decide), fun _ => h2 k hk ea e _ (hM0.thrown 2) rfl⟩
  subst ea
  rw [nn_lit 28, nI_add, nn_lit 40, nI_add, nI_clamp (by omega), nI_clamp (by omega), gz.2.2.2.2.2.1 k (by omega), gz.2.2.2.2.2.2 k (by omega)]
  refine ⟨vp_in_nI (by omega) (by omega), ?_⟩
  cases hp : S.P k with
  | none => exact bq_t rfl (bad (Or.inl hp))
  | some p =>
    have hp9 := gI.p96 hp
    refine bq_f (nn_ne_m1 (by omega)) ⟨vp_in_nI (by omega) (by omega), ?_⟩
    refine bn_if (nn_b1 _) (fun e => bad (Or.inr e)) (fun e => ⟨fun _ => ?_, fun z => absurd (by decide) z⟩)
    refine rm_save (hM0.thrown 0) (fun M' hM' hth => ?_)
    obtain ⟨k1, k2, g3, g4, g5⟩ := hM'
    rw [nn_lit 28, nI_add, nI_clamp (by omega)]
    refine ⟨vp_in_nI (by omega) (by omega), fun y hy => ⟨vp_in_nI (by omega) (by omega), fun z8 hz8 => ?_⟩⟩
    rw [k1.2.2.2.2.2.1 k (by omega), hp] at hy
    have hz : RZ z8 (S.put k none) := by rw [hz8]; exact k1.put (by omega) none
    subst hy
    exact h0 k p hk rfl hp (by cases hx : S.X k with | true => exact absurd hx e | false => rfl) _ ⟨hz, k2.off k, g3, g4, g5⟩ hth
theorem sp_X7_fix {M : MV} {S : AS} {L : List AS} {B : List Nat} (hM : RM M S L B) {a : Int32} {Q : Int32 → MV → Prop}
    (h0 : ∀ k p : Nat, k < S.n → a = nI k → S.P k = some p → ∀ M', RM M' (xS S k (!S.X k)) (pushS L S) B → MV.thrown M' = 0 → Q (nI (!S.X k).toNat) M')
    (h1 : ¬ (∃ k, k < S.n ∧ a = nI k) → ∀ M', RM M' S L B → MV.thrown M' = 1 → Q 0 M')
    (h2 : ∀ k : Nat, k < S.n → a = nI k → S.P k = none → ∀ M', RM M' S L B → MV.thrown M' = 2 → Q 0 M') : wp_X7_fix M a Q := by
  have hM0 := hM
  obtain ⟨gz, gI, -, -, -⟩ := hM
  have hn := gI.n12
  unfold wp_X7_fix
  refine sp_X7_isCell gz gI (fun k hk ea => ⟨fun _ => ?_, fun z => absurd z (by decide)⟩) (fun e => ⟨fun z => absurd rfl z, fun _ => ⟨fun z => absurd z (by decide), fun _ => h1 e _ (hM0.thrown 1) rfl⟩⟩)
  subst ea
  rw [nn_lit 28, nI_add, nI_clamp (by omega), gz.2.2.2.2.2.1 k (by omega)]
  refine ⟨vp_in_nI (by omega) (by omega), ?_⟩
  cases hp : S.P k with
  | none => exact bn_t rfl ⟨fun z => absurd z (by decide), fun _ => h2 k hk rfl hp _ (hM0.thrown 2) rfl⟩
  | some p =>
    have hp9 := gI.p96 hp
    refine bn_f (nn_ne_m1 (by omega)) ⟨fun _ => ?_, fun z => absurd (by decide) z⟩
    refine rm_save (hM0.thrown 0) (fun M' hM' hth => ?_)
    obtain ⟨k1, ⟨i1, i2, i3, i4, i5, i6, i7, i8⟩, g3, g4, g5⟩ := hM'
    rw [nn_lit 40, nI_add, nI_clamp (by omega)]
    refine ⟨vp_in_nI (by omega) (by omega), fun f hf => ⟨vp_in_nI (by omega) (by omega), fun z8 hz8 => ⟨vp_in_nI (by omega) (by omega), ?_⟩⟩⟩
    rw [k1.2.2.2.2.2.2 k (by omega)] at hf
    have hf : f = nI (!S.X k).toNat := by
      rw [hf]
      cases S.X k <;> decide
    rw [hf] at hz8
    have hz : RZ z8 (xS S k (!S.X k)) := by rw [hz8]; exact k1.fixd (by omega) _
    rw [show z8 (40 + k) = nI (!S.X k).toNat by rw [hz8, pk_us]]
    refine h0 k p hk rfl hp _ ⟨hz, ⟨i1, i2, i3, i4, i5, i6, i7, fun j hj => ?_⟩, g3, g4, g5⟩ hth
    by_cases e : j = k
    · rw [e]; exact hk
    · exact i8 j (by rw [show (xS S k (!S.X k)).X j = S.X j from if_neg e] at hj; exact hj)
theorem sp_X7_solve {M : MV} {S : AS} {L : List AS} {B : List Nat} (hM : RM M S L B) {Q : Int32 → MV → Prop}
    (h0 : (srch S 1).1 = 1 → ∀ M', RM M' (srch S 1).2.2.2.2 (pushS L S) B → MV.thrown M' = 0 → Q (nI (empties S)) M')
    (h1 : ¬ (srch S 1).1 = 1 → ∀ M', RM M' S L B → MV.thrown M' = 1 → Q 0 M') : wp_X7_solve M Q := by
  have hM0 := hM
  obtain ⟨gz, gI, -, -, -⟩ := hM
  have hb := srch_b S 1
  unfold wp_X7_solve
  refine sp_X7_empties gz gI ?_
  refine sp_X7_search (most := 1) gz gI (by omega) (by omega) false (fun M1 hk hz hf hs hc => ?_)
  have hz : RZ (MV.z M1) S := hz
  have hM1 : RM M1 S L B := hM0.km hk hz gI
  rw [hf]
  refine bn_if (nI_eq (b := 1) (by omega) (by omega)) (fun e => ⟨fun _ => ?_, fun z => absurd (by decide) z⟩) (fun e => ⟨fun z => absurd z (by decide), fun _ => h1 e _ (hM1.thrown 1) rfl⟩)
  refine rm_save (hM1.thrown 0) (fun M2 hM2 hth => ?_)
  refine sp_X7_search (most := 1) hM2.1 gI (by omega) (by omega) true (fun M3 hk3 hz3 _ _ _ => ?_)
  rw [if_pos ⟨rfl, e⟩] at hz3
  have hI3 := (fillA_only (most := 1) (opens S) S 0 0 gI (fun j hj => (opensN_mem.mp hj).1)).2
  exact h0 e M3 (hM2.km hk3 hz3 hI3) (hk3.1.trans hth)
theorem sp_X7_append {M : MV} {S : AS} {L : List AS} {B : List Nat} (hM : RM M S L B) {a : Int32} {Q : Int32 → MV → Prop}
    (h0 : ∀ c : Nat, 33 ≤ c → c ≤ 126 → a = nI c → B.length ≤ 59 → ∀ M', RM M' S L (B ++ [c]) → MV.thrown M' = 0 → Q (nI (B.length + 1)) M')
    (h1 : ¬ (33 ≤ a ∧ a ≤ 126) → ∀ M', RM M' S L B → MV.thrown M' = 1 → Q 0 M')
    (h2 : (33 ≤ a ∧ a ≤ 126) → B.length = 60 → ∀ M', RM M' S L B → MV.thrown M' = 2 → Q 0 M') : wp_X7_append M a Q := by
  have hM0 := hM
  obtain ⟨g1, g2, g3, g4, ⟨t1, t2, t3⟩⟩ := hM
  unfold wp_X7_append
  refine sp_X7_within ?_
  unfold bI
  by_cases ea : 33 ≤ a ∧ a ≤ 126
  · rw [if_pos ea]
    refine ⟨fun _ => ?_, fun z => absurd z (by decide)⟩
    rw [t1]
    refine bn_if (nI_eq (b := 60) (by omega) (by omega)) (fun e => ⟨fun z => absurd z (by decide), fun _ => h2 ea e _ (hM0.thrown 2) rfl⟩) (fun e => ⟨fun _ => ?_, fun z => absurd (by decide) z⟩)
    obtain ⟨c, c1, c2, rfl⟩ := nI_rng (a := 33) (b := 126) (by omega) (by omega) ea
    rw [t1, nI_clamp (by omega)]
    refine ⟨vp_in_nI (by omega) (by omega), fun t ht f hf => ?_⟩
    rw [nI_1] at hf
    subst hf
    refine h0 c c1 c2 rfl (by omega) _ ⟨g1, g2, g3, g4, ⟨by rw [List.length_append]; rfl, by rw [List.length_append, List.length_singleton]; omega, fun i c' hi => ?_⟩⟩ rfl
    show t i = nI c'
    rw [ht]
    by_cases e2 : i < B.length
    · rw [List.getElem?_append_left e2] at hi
      rw [pk_un (by omega)]
      exact t3 i c' hi
    · have e3 : i = B.length := by
        have h9 := (List.getElem?_eq_some_iff.mp hi).1
        rw [List.length_append, List.length_singleton] at h9
        omega
      subst e3
      rw [List.getElem?_append_right (Nat.le_refl _), Nat.sub_self] at hi
      cases hi
      rw [pk_us]
  · rw [if_neg ea]
    exact ⟨fun z => absurd rfl z, fun _ => ⟨fun z => absurd z (by decide), fun _ => h1 ea _ (hM0.thrown 1) rfl⟩⟩
theorem sp_X7_clearBuffer {M : MV} {S : AS} {L : List AS} {B : List Nat} (hM : RM M S L B) {Q : Int32 → MV → Prop} (h : ∀ M', RM M' S L [] → MV.thrown M' = 0 → Q (nI B.length) M') : wp_X7_clearBuffer M Q := by
  obtain ⟨g1, g2, g3, g4, ⟨t1, t2, t3⟩⟩ := hM
  intro y hy
  rw [t1] at hy
  subst hy
  exact h _ ⟨g1, g2, g3, g4, ⟨rfl, Nat.zero_le _, fun i c hi => (nomatch hi)⟩⟩ rfl
