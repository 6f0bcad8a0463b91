/-! the reference: cell, color, why, layings -/
def cellV (S : AS) (k w : Nat) : Int32 := if w = 0 then enc (S.P k) else if w = 1 then nI (S.X k).toNat else if w = 2 then (if (S.P k).isNone = true then nI (pm S k) else 0) else if (S.P k).isNone = true then enc (pf S k 0) else -1
def colV (S : AS) (k s : Nat) (b : Bool) : Int32 := match S.P k with
  | none => -1
  | some p => nI (col S.F p s b)
theorem sp_X7_cellNow {M : MV} {S : AS} (hz : RZ (MV.z M) S) (hI : Inv S) {k w : Nat} (hk : k < S.n) (hw : w < 4) {Q : Int32 → MV → Prop} (h : Q (cellV S k w) M) : wp_X7_cellNow M (nI k) (nI w) Q := by
  have hn := hI.n12
  have go : ∀ b : Bool, b = (S.P k).isNone → wp_X7_cellNow_18 Q M (nI k) (nI w) (nI b.toNat) := by
    intro b hb
    unfold wp_X7_cellNow_18
    rw [nn_lit 28, nI_add, nn_lit 40, nI_add, nI_clamp (by omega), nI_clamp (by omega), hz.2.2.2.2.2.1 k (by omega), hz.2.2.2.2.2.2 k (by omega)]
    unfold cellV at h
    rw [← hb] at h
    rcases (show w = 0 ∨ w = 1 ∨ w = 2 ∨ w = 3 by omega) with rfl | rfl | rfl | rfl
    · exact ⟨fun _ => ⟨vp_in_nI (by omega) (by omega), h⟩, fun z => absurd z (by decide), fun z => absurd z (by decide), fun z => absurd rfl z⟩
    · exact ⟨fun z => absurd z (by decide), fun _ => ⟨vp_in_nI (by omega) (by omega), h⟩, fun z => absurd z (by decide), fun _ z => absurd rfl z⟩
    · refine ⟨fun z => absurd z (by decide), fun z => absurd z (by decide), fun _ => ?_, fun _ _ z => absurd rfl z⟩
      cases b with
      | false => exact bq_t rfl h
      | true => exact bq_f (by decide) (sp_X7_possibleMany hz hI hk h)
    · refine ⟨fun z => absurd z (by decide), fun z => absurd z (by decide), fun z => absurd z (by decide), fun _ _ _ => ?_⟩
      cases b with
      | false => exact bq_t rfl h
      | true => exact bq_f (by decide) (sp_X7_possibleFrom (p := 0) hz hI hk (by omega) h)
  unfold wp_X7_cellNow
  rw [nn_lit 28, nI_add, nI_clamp (by omega), hz.2.2.2.2.2.1 k (by omega)]
  refine ⟨vp_in_nI (by omega) (by omega), ?_⟩
  cases hp : S.P k with
  | none => exact bn_t rfl (go true (by rw [hp]; rfl))
  | some p =>
    have := hI.p96 hp
    exact bn_f (nn_ne_m1 (by omega)) (go false (by rw [hp]; rfl))
theorem sp_X7_colorNow {M : MV} {S : AS} (hz : RZ (MV.z M) S) (hI : Inv S) {k s : Nat} (hk : k < S.n) (hs : s < 4) (b : Bool) {Q : Int32 → MV → Prop} (h : Q (colV S k s b) M) : wp_X7_colorNow M (nI k) (nI s) (nI b.toNat) Q := by
  have hn := hI.n12
  unfold wp_X7_colorNow
  rw [nn_lit 28, nI_add, nI_clamp (by omega), hz.2.2.2.2.2.1 k (by omega)]
  refine ⟨vp_in_nI (by omega) (by omega), ?_⟩
  unfold colV at h
  cases hp : S.P k with
  | none =>
    simp only [hp] at h
    exact bn_t rfl h
  | some p =>
    have := hI.p96 hp
    simp only [hp] at h
    exact bn_f (nn_ne_m1 (by omega)) ⟨vp_in_nI (by omega) (by omega), sp_X7_colorOf hz hI (by omega) hs b h⟩
theorem sp_X7_cell {M : MV} {S : AS} {L : List AS} {B : List Nat} (hM : RM M S L B) {a b : Int32} {Q : Int32 → MV → Prop}
    (h0 : ∀ k w : Nat, k < S.n → w < 4 → a = nI k → b = nI w → ∀ M', RM M' S L B → MV.thrown M' = 0 → Q (cellV S k w) M')
    (h1 : ¬ (∃ k, k < S.n ∧ a = nI k) → ∀ M', RM M' S L B → MV.thrown M' = 1 → Q 0 M')
    (h2 : ∀ k : Nat, k < S.n → a = nI k → ¬ (0 ≤ b ∧ b ≤ 3) → ∀ M', RM M' S L B → MV.thrown M' = 2 → Q 0 M') : wp_X7_cell M a b Q := by
  have hM0 := hM
  obtain ⟨gz, gI, -, -, -⟩ := hM
  unfold wp_X7_cell
  refine sp_X7_isCell gz gI (fun k hk ea => ⟨fun _ => sp_X7_within ?_, fun z => absurd z (by decide)⟩) (fun e => ⟨fun z => absurd rfl z, fun _ => ⟨fun z => absurd z (by decide), fun _ => h1 e _ (hM0.thrown 1) rfl⟩⟩)
  subst ea
  unfold bI
  by_cases eb : 0 ≤ b ∧ b ≤ 3
  · rw [if_pos eb]
    obtain ⟨w, -, w2, rfl⟩ := nI_rng (a := 0) (b := 3) (by omega) (by omega) eb
    exact ⟨fun z => absurd z (by decide), fun _ => ⟨fun _ => sp_X7_cellNow (M := MV.s_thrown M 0) gz gI hk (by omega) (h0 k w hk (by omega) rfl rfl _ (hM0.thrown 0) rfl), fun z => absurd (by decide) z⟩⟩
  · rw [if_neg eb]
    exact ⟨fun _ => ⟨fun z => absurd z (by decide), fun _ => h2 k hk rfl eb _ (hM0.thrown 2) rfl⟩, fun z => absurd rfl z⟩
theorem sp_X7_color {M : MV} {S : AS} {L : List AS} {B : List Nat} (hM : RM M S L B) {a b : Int32} (c : Bool) {Q : Int32 → MV → Prop}
    (h0 : ∀ k s : Nat, k < S.n → s < 4 → a = nI k → b = nI s → ∀ M', RM M' S L B → MV.thrown M' = 0 → Q (colV S k s c) M')
    (h1 : ¬ ((∃ k, k < S.n ∧ a = nI k) ∧ (0 ≤ b ∧ b ≤ 3)) → ∀ M', RM M' S L B → MV.thrown M' = 1 → Q 0 M') : wp_X7_color M a b (nI c.toNat) Q := by
  have hM0 := hM
  obtain ⟨gz, gI, -, -, -⟩ := hM
  have bad : ¬ ((∃ k, k < S.n ∧ a = nI k) ∧ (0 ≤ b ∧ b ≤ 3)) → wp_X7_color_22 Q M a b (nI c.toNat) := fun e => ⟨fun z => absurd z (by decide), fun _ => h1 e _ (hM0.thrown 1) rfl⟩
  unfold wp_X7_color
  refine sp_X7_isCell gz gI (fun k hk ea => ⟨fun z => absurd z (by decide), fun _ => sp_X7_within ?_⟩) (fun e => ⟨fun _ => bad (fun z => e z.1), fun z => absurd rfl z⟩)
  unfold bI
  by_cases eb : 0 ≤ b ∧ b ≤ 3
  · rw [if_pos eb]
    obtain ⟨s, -, s2, rfl⟩ := nI_rng (a := 0) (b := 3) (by omega) (by omega) eb
    subst ea
    exact ⟨fun z => absurd z (by decide), fun _ => ⟨fun _ => sp_X7_colorNow (M := MV.s_thrown M 0) gz gI hk (by omega) c (h0 k s hk (by omega) rfl rfl _ (hM0.thrown 0) rfl), fun z => absurd (by decide) z⟩⟩
  · rw [if_neg eb]
    exact ⟨fun _ => bad (fun z => eb z.2), fun z => absurd rfl z⟩
theorem sp_X7_why {M : MV} {S : AS} {L : List AS} {B : List Nat} (hM : RM M S L B) {a b : Int32} {Q : Int32 → MV → Prop}
    (h0 : ∀ k p : Nat, k < S.n → p < 8 * S.t → a = nI k → b = nI p → ∀ M', RM M' S L B → MV.thrown M' = 0 → Q (nI (why S k p)) M')
    (h1 : ¬ ((∃ k, k < S.n ∧ a = nI k) ∧ (∃ p, p < 8 * S.t ∧ b = nI p)) → ∀ M', RM M' S L B → MV.thrown M' = 1 → Q 0 M') : wp_X7_why M a b Q := by
  have hM0 := hM
  obtain ⟨gz, gI, -, -, -⟩ := hM
  have ht := gI.2.2.2.1
  have bad : ¬ ((∃ k, k < S.n ∧ a = nI k) ∧ (∃ p, p < 8 * S.t ∧ b = nI p)) → wp_X7_why_21 Q M a b := fun e => ⟨fun z => absurd z (by decide), fun _ => h1 e _ (hM0.thrown 1) rfl⟩
  unfold wp_X7_why
  refine sp_X7_isCell gz gI (fun k hk ea => ⟨fun z => absurd z (by decide), fun _ => ?_⟩) (fun e => ⟨fun _ => bad (fun z => e z.1), fun z => absurd rfl z⟩)
  refine sp_X7_isPlacing gz gI (fun p hp eb => ⟨fun z => absurd z (by decide), fun _ => ⟨fun _ => ?_, fun z => absurd (by decide) z⟩⟩) (fun e => ⟨fun _ => bad (fun z => e z.2), fun z => absurd rfl z⟩)
  subst ea eb
  exact sp_X7_whyNot (M := MV.s_thrown M 0) gz gI hk (by omega) (h0 k p hk hp rfl rfl _ (hM0.thrown 0) rfl)
def srV (S : AS) (most w : Nat) : Nat := if w = 0 then (srch S most).1 else if w = 1 then (srch S most).2.1 else (srch S most).2.2.1.toNat
theorem sp_X7_searched {M : MV} {S : AS} {L : List AS} {B : List Nat} (hM : RM M S L B) {most w : Nat} (h1 : 1 ≤ most) (h50 : most ≤ 50) (hw : w < 3) {Q : Int32 → MV → Prop} (h : ∀ M', KM M M' → RM M' S L B → Q (nI (srV S most w)) M') : wp_X7_searched M (nI most) (nI w) Q := by
  have hb := srch_b S most
  refine sp_X7_search hM.1 hM.2.1 h1 h50 false (fun M1 hk hz hf hs hc => ?_)
  have hz : RZ (MV.z M1) S := hz
  have g := h M1 hk (hM.km hk hz hM.2.1)
  unfold srV at g
  rw [hf, hs, hc]
  rcases (show w = 0 ∨ w = 1 ∨ w = 2 by omega) with rfl | rfl | rfl
  · exact bn_t rfl g
  · exact bn_f (by decide) (bn_t rfl g)
  · refine bn_f (by decide) (bn_f (by decide) ?_)
    cases hx : (srch S most).2.2.1 with
    | false => rw [if_neg (by decide), if_neg (by decide), hx] at g; exact bq_t rfl g
    | true => rw [if_neg (by decide), if_neg (by decide), hx] at g; exact bq_f (by decide) g
theorem sp_X7_layings {M : MV} {S : AS} {L : List AS} {B : List Nat} (hM : RM M S L B) {a b : Int32} {Q : Int32 → MV → Prop}
    (h0 : ∀ most w : Nat, 1 ≤ most → most ≤ 50 → w < 3 → a = nI most → b = nI w → ∀ M', RM M' S L B → MV.thrown M' = 0 → Q (nI (srV S most w)) M')
    (h1 : ¬ ((1 ≤ a ∧ a ≤ 50) ∧ (0 ≤ b ∧ b ≤ 2)) → ∀ M', RM M' S L B → MV.thrown M' = 1 → Q 0 M') : wp_X7_layings M a b Q := by
  have bad : ¬ ((1 ≤ a ∧ a ≤ 50) ∧ (0 ≤ b ∧ b ≤ 2)) → wp_X7_layings_24 Q M a b := fun e => ⟨fun z => absurd z (by decide), fun _ => h1 e _ (hM.thrown 1) rfl⟩
  unfold wp_X7_layings
  refine sp_X7_within ?_
  unfold bI
  by_cases ea : 1 ≤ a ∧ a ≤ 50
  · rw [if_pos ea]
    refine ⟨fun z => absurd z (by decide), fun _ => sp_X7_within ?_⟩
    unfold bI
    by_cases eb : 0 ≤ b ∧ b ≤ 2
    · rw [if_pos eb]
      obtain ⟨x, x1, x2, rfl⟩ := nI_rng (a := 1) (b := 50) (by omega) (by omega) ea
      obtain ⟨w, -, w2, rfl⟩ := nI_rng (a := 0) (b := 2) (by omega) (by omega) eb
      refine ⟨fun z => absurd z (by decide), fun _ => ⟨fun _ => ?_, fun z => absurd (by decide) z⟩⟩
      exact sp_X7_searched (hM.thrown 0) x1 x2 (by omega) (fun M' hk hM' => h0 x w x1 x2 (by omega) rfl rfl M' hM' hk.1)
    · rw [if_neg eb]
      exact ⟨fun _ => bad (fun z => eb z.2), fun z => absurd rfl z⟩
  · rw [if_neg ea]
    exact ⟨fun _ => bad (fun z => ea z.1), fun z => absurd rfl z⟩
