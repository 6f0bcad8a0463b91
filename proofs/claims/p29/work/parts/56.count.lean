/-! the class's calls: count, hint, starts, layings -/
theorem sp_X6_misfits {v : XV} {S : AS} {L : List AS} {B : List Nat} (hX : RX v S L B) {Q : Int32 → XV → Prop} (h : ∀ v', RX v' S L B → Q (nI (misA S)) v') : wp_X6_misfits v Q := by
  have hI := hX.2.1
  have hn := hI.n12
  unfold wp_X6_misfits
  intro P hP
  have key : ∀ d k : Nat, k + d = S.n → ∀ w : XV, RX w S L B → P w (nI (sm (fun k => (isMis S k).toNat) k)) (nI k) := by
    intro d
    induction d with
    | zero =>
      intro k hk w hw
      obtain rfl : k = S.n := by omega
      apply hP
      unfold bd_X6_misfits_4
      exact sp_X0_cells hw.1 (bq_t ((nI_leI (by omega) (by omega)).mpr (Nat.le_refl _)) (h w hw))
    | succ d ih =>
      intro k hk w hw
      have fin : ∀ (c : Bool) (w' : XV), c = isMis S k → RX w' S L B → wp_X6_misfits_59 P Q w' (nI (sm (fun k => (isMis S k).toNat) k + c.toNat)) (nI k) := by
        intro c w' hc hw' y hy
        rw [nI_1] at hy
        subst hy hc
        exact ih (k + 1) (by omega) w' hw'
      apply hP
      unfold bd_X6_misfits_4
      refine sp_X0_cells hw.1 (bq_f (fun z => by rw [nI_leI (by omega) (by omega)] at z; omega) ?_)
      refine sp_X0_isEmpty hw.1 hI (by omega) (fun e => bn_f (by decide) (fin false _ (by unfold isMis; simp only [e]) hw)) (fun p e => bn_t rfl ?_)
      have hp := (hI.p96 e).2
      have hm := misfit_le S k p
      refine sp_X3_read hw.1 hI (by omega) (sp_X0_lookIn hw.1 hI e (sp_X3_reasonAgainst hI hp ?_))
      refine ek_if (nn_eq0 (by omega)) (fun e0 => fin false _ ?_ hw) (fun e0 x hx => ?_)
      · unfold isMis
        simp only [e]
        exact (decide_eq_false (by omega)).symm
      · rw [nI_1] at hx
        subst hx
        refine fin true _ ?_ hw
        unfold isMis
        simp only [e]
        exact (decide_eq_true (by omega)).symm
  exact key S.n 0 (by omega) v hX
/-- how many bits, as Java counts them -/
def bcN (m : Nat) : Nat :=
  let a := m - (m / 2 &&& 1431655765)
  let b := (a &&& 858993459) + (a / 4 &&& 858993459)
  let c := (b + b / 16) &&& 252645135
  let d := c + c / 256
  let e := d + d / 65536
  e &&& 63
set_option maxRecDepth 100000 in
theorem bcN_ok : ∀ m, m < 4096 → bcN m = bitsA m := by decide +kernel
theorem sp_J6_bitCount {m : Nat} (hm : m < 4096) {Q : Int32 → Prop} (h : Q (nI (bitsA m))) : wp_J6_bitCount_0f7a4 (nI m) Q := by
  rw [← bcN_ok m hm] at h
  have l1 : m / 2 &&& 1431655765 ≤ m / 2 := Nat.and_le_left
  have l2 : ∀ a : Nat, a &&& 858993459 ≤ a := fun a => Nat.and_le_left
  have l3 : ∀ a : Nat, a &&& 252645135 ≤ a := fun a => Nat.and_le_left
  intro x1 e1
  rw [nn_lit 1, nn_ushr (by omega) (by omega), nn_lit 1431655765, nn_and, Nat.pow_one, pk_sub (by omega)] at e1
  generalize ha : m - (m / 2 &&& 1431655765) = a at e1
  have ha9 : a < 4096 := by omega
  subst e1
  intro x2 e2
  rw [nn_lit 858993459, nn_and, nn_lit 2, nn_ushr (by omega) (by omega), nn_and, nI_add] at e2
  have b1 := l2 a
  have b2 := l2 (a / 2 ^ 2)
  generalize hb : (a &&& 858993459) + (a / 2 ^ 2 &&& 858993459) = b at e2
  have hb9 : b < 8192 := by omega
  subst e2
  intro x3 e3
  rw [nn_lit 4, nn_ushr (by omega) (by omega), nI_add, nn_lit 252645135, nn_and] at e3
  have c1 := l3 (b + b / 2 ^ 4)
  generalize hc : (b + b / 2 ^ 4) &&& 252645135 = c at e3
  have hc9 : c < 16384 := by omega
  subst e3
  intro x4 e4
  rw [nn_lit 8, nn_ushr (by omega) (by omega), nI_add] at e4
  subst e4
  intro x5 e5
  rw [nn_lit 16, nn_ushr (by omega) (by omega), nI_add] at e5
  subst e5
  rw [nn_lit 63, nn_and]
  have e9 : bcN m = (c + c / 2 ^ 8 + (c + c / 2 ^ 8) / 2 ^ 16) &&& 63 := by
    subst hc hb ha
    rfl
  rw [← e9]
  exact h
theorem bits_fix {S : AS} (hI : Inv S) {m : Nat} (h : ∀ k, k < 12 → bitN m k = (S.X k).toNat) : bitsA m = fixA S := by
  have hn := hI.n12
  have e : bitsA m = sm (fun k => (S.X k).toNat) 12 := sm_congr 12 (fun k hk => h k hk)
  have g : ∀ d n, n + d = 12 → S.n ≤ n → sm (fun k => (S.X k).toNat) n = fixA S → sm (fun k => (S.X k).toNat) 12 = fixA S := by
    intro d
    induction d with
    | zero =>
      intro n hn' _ e
      obtain rfl : n = 12 := by omega
      exact e
    | succ d ih =>
      intro n hn' hle e
      refine ih (n + 1) (by omega) (by omega) ?_
      show sm (fun k => (S.X k).toNat) n + (S.X n).toNat = _
      have hx : S.X n = false := by
        cases ex : S.X n with
        | false => rfl
        | true => exact absurd (hI.2.2.2.2.2.2.2 n ex) (by omega)
      rw [hx, e]
      rfl
  rw [e]
  exact g (12 - S.n) S.n (by omega) (Nat.le_refl _) rfl
theorem sp_X6_number {v : XV} {S : AS} {L : List AS} {B : List Nat} (hX : RX v S L B) {w : Nat} (hw : w < 10) {Q : Int32 → XV → Prop} (h : ∀ v', RX v' S L B → Q (nI (cntV S L.length w)) v') : wp_X6_number v (nI w) Q := by
  have hI := hX.2.1
  obtain ⟨m, m1, m2, m3⟩ := hX.1.2.1
  have hb := bits_fix hI m3
  have h4 : ∀ Q2 : Int32 → Prop, Q2 (nI (fixA S)) → wp_J6_bitCount_0f7a4 (BV.fixed (XV.board v)) Q2 := fun Q2 hq => by
    rw [m2]
    refine sp_J6_bitCount m1 ?_
    rw [hb]
    exact hq
  unfold wp_X6_number
  rcases (show w = 0 ∨ w = 1 ∨ w = 2 ∨ w = 3 ∨ w = 4 ∨ w = 5 ∨ w = 6 ∨ w = 7 ∨ w = 8 ∨ w = 9 by omega) with rfl | rfl | rfl | rfl | rfl | rfl | rfl | rfl | rfl | rfl
  all_goals refine ⟨fun z => ?_, fun z => ?_, fun z => ?_, fun z => ?_, fun z => ?_, fun z => ?_, fun z => ?_, fun z => ?_, fun z => ?_, fun z0 z1 z2 z3 z4 z5 z6 z7 z8 => ?_⟩
  all_goals first
    | exact absurd z (by decide)
    | exact absurd rfl z0
    | exact absurd rfl z1
    | exact absurd rfl z2
    | exact absurd rfl z3
    | exact absurd rfl z4
    | exact absurd rfl z5
    | exact absurd rfl z6
    | exact absurd rfl z7
    | exact absurd rfl z8
    | (rw [hX.1.1.1]; exact h v hX)
    | (rw [hX.1.1.2.1]; exact h v hX)
    | (rw [hX.1.1.2.2.2]; exact h v hX)
    | exact sp_X0_emptyCells hX.1 hI (h v hX)
    | exact h4 _ (h v hX)
    | (rw [hX.1.1.2.2.1]; exact h v hX)
    | exact sp_X0_pairs15 hX.1 hI (h v hX)
    | exact sp_X0_pairsHi hX.1 hI (h v hX)
    | exact sp_X6_misfits hX (fun v' hv' => h v' hv')
    | (rw [hX.2.2.1.1]; exact h v hX)
theorem sp_X6_count {v : XV} {S : AS} {L : List AS} {B : List Nat} (hX : RX v S L B) {a : Int32} {Q : Int32 → XV → Prop} {XQ : String → XV → Prop}
    (h0 : ∀ w : Nat, w < 10 → a = nI w → ∀ v', RX v' S L B → Q (nI (cntV S L.length w)) v')
    (h1 : ¬ (0 ≤ a ∧ a ≤ 9) → XQ "java/lang/IllegalArgumentException" v) : wp_X6_count v a Q XQ := by
  unfold wp_X6_count
  refine ⟨fun c1 => h1 (fun z => gtn c1 z.1), fun c1 => ?_⟩
  by_cases ea : 0 ≤ a ∧ a ≤ 9
  · obtain ⟨w, -, w2, rfl⟩ := nI_rng (a := 0) (b := 9) (by omega) (by omega) ea
    exact bq_t ((nI_ltI (b := 10) (by omega) (by omega)).mpr (by omega)) (sp_X6_number hX (by omega) (h0 w (by omega) rfl))
  · exact bq_f (fun z => ea ⟨nlt c1, lt_le rfl z⟩) (h1 ea)
theorem sp_X6_bestStep {v : XV} {S : AS} {L : List AS} {B : List Nat} (hX : RX v S L B) {Q : Int32 → XV → Prop} (h : ∀ v', RX v' S L B → Q (hintV S) v') : wp_X6_bestStep v Q := by
  have hI := hX.2.1
  have hn := hI.n12
  unfold wp_X6_bestStep
  intro P hP
  have key : ∀ d k : Nat, k + d = S.n → ∀ w : XV, RX w S L B → P w (enc (bst S k).1) (nI (bst S k).2) (nI k) := by
    intro d
    induction d with
    | zero =>
      intro k hk w hw
      apply hP
      unfold bd_X6_bestStep_6
      refine sp_X0_cells hw.1 ?_
      obtain rfl : k = S.n := by omega
      have hb := (bst_lt hI S.n).1
      refine bq_t ((nI_leI (by omega) (by omega)).mpr (Nat.le_refl _)) ?_
      unfold hintV at h
      cases e : (bst S S.n).1 with
      | none =>
        simp only [e] at h
        exact bn_t rfl (h w hw)
      | some k =>
        simp only [e] at h
        have hk2 := hb k e
        refine bn_f (nn_ne_m1 (by omega)) (sp_X6_firstPossible hw (by omega) (fun v' hv' => ?_))
        have g := h v' hv'
        cases e2 : (S.P k).isNone with
        | true =>
          exact g
        | false =>
          exfalso
          have hz : ∀ n, (bst S n).1 = some k → (S.P k).isNone = true := by
            intro n
            induction n with
            | zero => intro z; cases z
            | succ n ihn =>
              intro z
              unfold bst at z
              split at z
              · next c =>
                have ez : n = k := Option.some.inj z
                have c1 : 0 < manyA S k := by rw [← ez]; exact c.1
                unfold manyA at c1
                cases e3 : (S.P k).isNone with
                | true => rfl
                | false =>
                  rw [e3] at c1
                  exact absurd c1 (Nat.lt_irrefl 0)
              · exact ihn z
          rw [hz S.n e] at e2
          cases e2
    | succ d ih =>
      intro k hk w hw
      obtain ⟨hb, hb2⟩ := bst_lt hI k
      have hm := manyA_le hI k
      have keep : ¬ (0 < manyA S k ∧ ((bst S k).1 = none ∨ manyA S k < (bst S k).2)) → ∀ w' : XV, RX w' S L B → ∀ y : Int32, y = nI k + 1 → P w' (enc (bst S k).1) (nI (bst S k).2) y := by
        intro e w' hw' y hy
        rw [nI_1] at hy
        subst hy
        have hnx := ih (k + 1) (by omega) w' hw'
        unfold bst at hnx
        rw [if_neg e] at hnx
        exact hnx
      have take : (0 < manyA S k ∧ ((bst S k).1 = none ∨ manyA S k < (bst S k).2)) → ∀ w' : XV, RX w' S L B → ∀ y : Int32, y = nI k + 1 → P w' (nI k) (nI (manyA S k)) y := by
        intro e w' hw' y hy
        rw [nI_1] at hy
        subst hy
        have hnx := ih (k + 1) (by omega) w' hw'
        unfold bst at hnx
        rw [if_pos e] at hnx
        exact hnx
      apply hP
      unfold bd_X6_bestStep_6
      refine sp_X0_cells hw.1 (bq_f (fun z => by rw [nI_leI (by omega) (by omega)] at z; omega) ?_)
      refine sp_X6_possibleCount hw (by omega) (fun w' hw' => ?_)
      rw [nn_lit 0]
      refine ek_if (nI_leI (by omega) (by omega)) (fun e => keep (by omega) w' hw') (fun e => ?_)
      cases e2 : (bst S k).1 with
      | none => exact bq_t rfl (take ⟨by omega, Or.inl e2⟩ w' hw')
      | some q =>
        have hq := hb q e2
        rw [e2] at keep
        refine bq_f (nn_ne_m1 (by omega)) (ek_if (nI_leI (by omega) (by omega)) (fun e3 => keep (fun z => ?_) w' hw') (fun e3 => take ⟨by omega, Or.inr (by omega)⟩ w' hw'))
        rcases z.2 with z | z
        · cases z
        · omega
  exact key S.n 0 (by omega) v hX
theorem sp_X6_hint {v : XV} {S : AS} {L : List AS} {B : List Nat} (hX : RX v S L B) {Q : Int32 → XV → Prop} (h : ∀ v', RX v' S L B → Q (hintV S) v') : wp_X6_hint v Q := by
  unfold wp_X6_hint
  exact sp_X6_bestStep hX (fun v' hv' => h v' hv')
theorem sp_X6_layings {v : XV} {S : AS} {L : List AS} {B : List Nat} (hX : RX v S L B) {a b : Int32} {Q : Int32 → XV → Prop} {XQ : String → XV → Prop}
    (h0 : ∀ most w : Nat, 1 ≤ most → most ≤ 50 → w < 3 → a = nI most → b = nI w → ∀ v', RX v' S L B → Q (nI (srV S most w)) v')
    (h1 : ¬ ((1 ≤ a ∧ a ≤ 50) ∧ (0 ≤ b ∧ b ≤ 2)) → XQ "java/lang/IllegalArgumentException" v) : wp_X6_layings v a b Q XQ := by
  have hI := hX.2.1
  unfold wp_X6_layings
  refine ⟨fun c1 => h1 (fun z => gtn c1 z.1.1), fun c1 => ⟨fun c2 => h1 (fun z => gtn c2 z.1.2), fun c2 => ⟨fun c3 => h1 (fun z => gtn c3 z.2.1), fun c3 => ?_⟩⟩⟩
  obtain ⟨x, x1, x2, rfl⟩ := nI_rng (a := 1) (b := 50) (by omega) (by omega) ⟨nlt c1, nlt c2⟩
  by_cases eb : 0 ≤ b ∧ b ≤ 2
  · obtain ⟨w, -, w2, rfl⟩ := nI_rng (a := 0) (b := 2) (by omega) (by omega) eb
    refine bq_t ((nI_ltI (b := 3) (by omega) (by omega)).mpr (by omega)) (sp_X4_run x2 hX.1 hI (fun vS hS => sp_X4_result hS (by omega) ?_))
    exact h0 x w x1 x2 (by omega) rfl rfl _ hX
  · exact bq_f (fun z => eb ⟨nlt c3, lt_le rfl z⟩) (h1 (fun z => eb z.2))
