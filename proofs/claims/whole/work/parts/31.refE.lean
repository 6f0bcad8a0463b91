/-! the reference: addTile, lay, take, fix -/
theorem RZ.addF {z : Nat → Int32} {S : AS} (h : RZ z S) (ht : S.t ≤ 11) (f o : Nat) : RZ (upd (upd (upd z (4 + 2 * S.t) (nI f)) (4 + 2 * S.t + 1) (nI o)) 3 (nI (S.t + 1))) (addF S f o) := by
  obtain ⟨h0, h1, h2, h3, h4, h5, h6⟩ := h
  refine ⟨?_, ?_, ?_, ?_, fun i hi => ?_, fun j hj => ?_, fun j hj => ?_⟩
  · rw [pk_un (by omega), pk_un (by omega), pk_un (by omega)]; exact h0
  · rw [pk_un (by omega), pk_un (by omega), pk_un (by omega)]; exact h1
  · rw [pk_un (by omega), pk_un (by omega), pk_un (by omega)]; exact h2
  · rw [pk_us]; rfl
  · rw [pk_un (by omega)]
    show _ = nI (if i = 2 * S.t then f else if i = 2 * S.t + 1 then o else S.F i)
    by_cases e1 : i = 2 * S.t
    · rw [if_pos e1, e1, pk_un (by omega), pk_us]
    · rw [if_neg e1]
      by_cases e2 : i = 2 * S.t + 1
      · rw [if_pos e2, e2, show 4 + (2 * S.t + 1) = 4 + 2 * S.t + 1 by omega, pk_us]
      · rw [if_neg e2, pk_un (by omega), pk_un (by omega)]; exact h4 i hi
  · rw [pk_un (by omega), pk_un (by omega), pk_un (by omega)]; exact h5 j hj
  · rw [pk_un (by omega), pk_un (by omega), pk_un (by omega)]; exact h6 j hj
theorem Inv.addF {S : AS} (h : Inv S) (ht : S.t ≤ 11) {f o : Nat} (hf : f ≤ 9999) (ho : o ≤ 9999) : Inv (addF S f o) := by
  obtain ⟨i1, i2, i3, i4, i5, i6, i7, i8⟩ := h
  refine ⟨i1, i2, i3, by show S.t + 1 ≤ 12; omega, fun i hi => ?_, fun k p e => ⟨(i6 k p e).1, ?_⟩, i7, i8⟩
  · show (if i = 2 * S.t then f else if i = 2 * S.t + 1 then o else S.F i) ≤ 9999
    split
    · exact hf
    · split
      · exact ho
      · exact i5 i hi
  · have := (i6 k p e).2
    show p < 8 * (S.t + 1)
    omega
theorem sp_X7_bring {M : MV} {S : AS} (hz : RZ (MV.z M) S) (ht : S.t ≤ 11) {f o : Nat} {Q : MV → Prop} (h : ∀ z, RZ z (addF S f o) → Q (MV.s_z M z)) : wp_X7_bring M (nI f) (nI o) Q := by
  unfold wp_X7_bring
  rw [hz.2.2.2.1, nn_lit 2, pk_mul, nn_lit 4, nI_add, nI_clamp (by omega)]
  refine ⟨vp_in_nI (by omega) (by omega), fun z2 hz2 => ?_⟩
  have e3 : z2 3 = nI S.t := by rw [hz2, pk_un (by omega)]; exact hz.2.2.2.1
  rw [e3, pk_mul, nI_add, nI_1, nI_clamp (by omega)]
  refine ⟨vp_in_nI (by omega) (by omega), fun z4 hz4 f5 hf5 z6 hz6 => ?_⟩
  have e4 : z4 3 = nI S.t := by rw [hz4, pk_un (by omega)]; exact e3
  rw [e4, nI_1] at hf5
  rw [hf5, hz4, hz2] at hz6
  exact h z6 (by rw [hz6]; exact hz.addF ht f o)
theorem sp_X7_addTile {M : MV} {S : AS} {L : List AS} {B : List Nat} (hM : RM M S L B) {a b : Int32} {Q : Int32 → MV → Prop}
    (h0 : ∀ f o : Nat, f ≤ 9999 → o ≤ 9999 → a = nI f → b = nI o → S.t ≤ 11 → ∀ M', RM M' (addF S f o) (pushS L S) B → MV.thrown M' = 0 → Q (nI S.t) M')
    (h1 : ¬ ((0 ≤ a ∧ a ≤ 9999) ∧ (0 ≤ b ∧ b ≤ 9999)) → ∀ M', RM M' S L B → MV.thrown M' = 1 → Q 0 M')
    (h2 : ((0 ≤ a ∧ a ≤ 9999) ∧ (0 ≤ b ∧ b ≤ 9999)) → S.t = 12 → ∀ M', RM M' S L B → MV.thrown M' = 2 → Q 0 M') : wp_X7_addTile M a b Q := by
  have hM0 := hM
  obtain ⟨gz, gI, -, -, -⟩ := hM
  have ht := gI.2.2.2.1
  have bad : ¬ ((0 ≤ a ∧ a ≤ 9999) ∧ (0 ≤ b ∧ b ≤ 9999)) → wp_X7_addTile_27 Q M a b 0 := fun e => ⟨fun z => absurd rfl z, fun _ => ⟨fun z => absurd z (by decide), fun _ => h1 e _ (hM0.thrown 1) rfl⟩⟩
  unfold wp_X7_addTile
  refine sp_X7_within ?_
  unfold bI
  by_cases ea : 0 ≤ a ∧ a ≤ 9999
  · rw [if_pos ea]
    refine ⟨fun z => absurd z (by decide), fun _ => sp_X7_within ?_⟩
    unfold bI
    by_cases eb : 0 ≤ b ∧ b ≤ 9999
    · rw [if_pos eb]
      refine ⟨fun z => absurd z (by decide), fun _ => ⟨fun _ => ?_, fun z => absurd z (by decide)⟩⟩
      rw [gz.2.2.2.1]
      refine bn_if (nI_eq (b := 12) (by omega) (by omega)) (fun e => ?_) (fun e => ?_)
      · exact ⟨fun z => absurd z (by decide), fun _ => h2 ⟨ea, eb⟩ e _ (hM0.thrown 2) rfl⟩
      · refine ⟨fun _ => ?_, fun z => absurd (by decide) z⟩
        obtain ⟨f, -, f2, rfl⟩ := nI_rng (a := 0) (b := 9999) (by omega) (by omega) ea
        obtain ⟨o, -, o2, rfl⟩ := nI_rng (a := 0) (b := 9999) (by omega) (by omega) eb
        refine rm_save (hM0.thrown 0) (fun M' hM' hth => ?_)
        obtain ⟨k1, k2, g3, g4, g5⟩ := hM'
        refine sp_X7_bring k1 (by omega) (fun z hz => ?_)
        have e3 : z 3 = nI (S.t + 1) := hz.2.2.2.1
        show Q (z 3 - 1) _
        rw [e3, nI_pred]
        exact h0 f o f2 o2 rfl rfl (by omega) _ ⟨hz, k2.addF (by omega) f2 o2, g3, g4, g5⟩ hth
    · rw [if_neg eb]
      exact ⟨fun _ => bad (fun z => eb z.2), fun z => absurd rfl z⟩
  · rw [if_neg ea]
    exact ⟨fun _ => bad (fun z => ea z.1), fun z => absurd rfl z⟩
theorem sp_X7_lay {M : MV} {S : AS} {L : List AS} {B : List Nat} (hM : RM M S L B) {a b : Int32} {Q : Int32 → MV → Prop}
    (h0 : ∀ k p : Nat, k < S.n → p < 8 * S.t → a = nI k → b = nI p → why S k p = 0 → ∀ M', RM M' (S.put k (some p)) (pushS L S) B → MV.thrown M' = 0 → Q (nI (empties (S.put k (some p)))) M')
    (h1 : ¬ ((∃ k, k < S.n ∧ a = nI k) ∧ (∃ p, p < 8 * S.t ∧ b = nI p)) → ∀ M', RM M' S L B → MV.thrown M' = 1 → Q 0 M')
    (h2 : ∀ k p : Nat, k < S.n → p < 8 * S.t → a = nI k → b = nI p → ¬ why S k p = 0 → ∀ M', RM M' S L B → MV.thrown M' = 2 → Q 0 M') : wp_X7_lay M a b Q := by
  have hM0 := hM
  obtain ⟨gz, gI, -, -, -⟩ := hM
  have ht := gI.2.2.2.1
  have hn := gI.n12
  have bad : ¬ ((∃ k, k < S.n ∧ a = nI k) ∧ (∃ p, p < 8 * S.t ∧ b = nI p)) → wp_X7_lay_21 Q M a b 0 := fun e => ⟨fun z => absurd rfl z, fun _ => ⟨fun z => absurd z (by decide), fun _ => h1 e _ (hM0.thrown 1) rfl⟩⟩
  unfold wp_X7_lay
  refine sp_X7_isCell gz gI (fun k hk ea => ⟨fun z => absurd z (by decide), fun _ => ?_⟩) (fun e => ⟨fun _ => bad (fun z => e z.1), fun z => absurd rfl z⟩)
  refine sp_X7_isPlacing gz gI (fun p hp eb => ⟨fun z => absurd z (by decide), fun _ => ⟨fun _ => ?_, fun z => absurd z (by decide)⟩⟩) (fun e => ⟨fun _ => bad (fun z => e z.2), fun z => absurd rfl z⟩)
  have hw := why_le S k p
  subst ea eb
  refine sp_X7_whyNot gz gI hk (by omega) ?_
  refine bn_if (nn_eq0 (by omega)) (fun e => ⟨fun _ => ?_, fun z => absurd (by decide) z⟩) (fun e => ⟨fun z => absurd z (by decide), fun _ => h2 k p hk hp rfl rfl e _ (hM0.thrown 2) rfl⟩)
  refine rm_save (hM0.thrown 0) (fun M' hM' hth => ?_)
  obtain ⟨k1, k2, g3, g4, g5⟩ := hM'
  rw [nn_lit 28, nI_add]
  refine ⟨vp_in_nI (by omega) (by omega), fun z7 hz7 => ?_⟩
  rw [nI_clamp (by omega)] at hz7
  have hz : RZ z7 (S.put k (some p)) := by rw [hz7]; exact k1.put (by omega) (some p)
  have hI := k2.put hk hp e
  refine sp_X7_empties hz hI ?_
  exact h0 k p hk hp rfl rfl e _ ⟨hz, hI, g3, g4, g5⟩ hth
