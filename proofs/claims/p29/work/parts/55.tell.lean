/-! the class's calls: what there is -/
theorem lt_le {b x y : Int32} (hx : x.toInt = y.toInt + 1) (h : b < x) : b ≤ y := by
  rw [Int32.lt_iff_toInt_lt] at h
  rw [Int32.le_iff_toInt_le]
  omega
theorem sp_X6_meetsNeeds {v : XV} {S : AS} {L : List AS} {B : List Nat} (hX : RX v S L B) {k p : Nat} (hN : XV.needs v = nvA S k) (hno : S.P k = none) (hp : p < 8 * S.t) {Q : Int32 → XV → Prop} (h : ∀ v', RX v' S L B → XV.needs v' = nvA S k → Q (nI (why S k p == 0).toNat) v') : wp_X6_meetsNeeds v (nI p) Q := by
  have hI := hX.2.1
  have ht := hI.2.2.2.1
  unfold wp_X6_meetsNeeds
  rw [nn_lit 8, pk_div (by omega) (by omega) (by omega), nI_clamp (by omega)]
  refine sp_X0_isLaid hX.1 hI (by omega) (fun c hc => bn_f (by decide) ?_) (fun hc => bn_t rfl ?_)
  · have g := h v hX hN
    have e : (why S k p == 0) = false := by
      unfold why
      rw [hno, hc]
      rfl
    rw [e] at g
    exact g
  · rw [hN, hX.1.2.2.2.2 p hp]
    refine ⟨vp_in_nI (by omega) (by omega), sp_X3_reasonAgainst hI (by omega) ?_⟩
    have hm := misfit_le S k p
    have e : why S k p = misfit S k p := by
      unfold why
      rw [hno, hc]
      rfl
    have g := h (XV.s_needs (XV.s_board v (XV.board v)) (nvA S k)) hX rfl
    rw [e] at g
    refine bn_if (nn_eq0 (by omega)) (fun e0 => ?_) (fun e0 => ?_)
    · rw [e0] at g
      exact g
    · rw [beq_eq_false_iff_ne.mpr e0] at g
      exact g
theorem sp_X6_possibleCount {v : XV} {S : AS} {L : List AS} {B : List Nat} (hX : RX v S L B) {k : Nat} (hk : k < S.n) {Q : Int32 → XV → Prop} (h : ∀ v', RX v' S L B → Q (nI (manyA S k)) v') : wp_X6_possibleCount v (nI k) Q := by
  have hI := hX.2.1
  have hn := hI.n12
  have ht := hI.2.2.2.1
  unfold wp_X6_possibleCount
  unfold manyA at h
  refine sp_X0_isEmpty hX.1 hI (by omega) (fun e => bn_f (by decide) ?_) (fun p e => bn_t rfl ?_)
  · rw [e] at h
    refine sp_X3_read hX.1 hI hk (fun P hP => ?_)
    have key : ∀ d q : Nat, q + d = 8 * S.t → ∀ w : XV, RX w S L B → XV.needs w = nvA S k → P w (nI (cnt (fun p => why S k p == 0) q)) (nI q) := by
      intro d
      induction d with
      | zero =>
        intro q hq w hw hN
        obtain rfl : q = 8 * S.t := by omega
        apply hP
        unfold bd_X6_possibleCount_29
        rw [show BV.tiles (XV.board w) = nI S.t from hw.1.1.2.2.2, nn_lit 8, pk_mul]
        exact bq_t ((nI_leI (by omega) (by omega)).mpr (Nat.le_refl _)) (h w hw)
      | succ d ih =>
        intro q hq w hw hN
        have step : ∀ (c : Bool) (w' : XV), c = (why S k q == 0) → RX w' S L B → XV.needs w' = nvA S k → ∀ y : Int32, y = nI q + 1 → P w' (nI (cnt (fun p => why S k p == 0) q + c.toNat)) y := by
          intro c w' hc hw' hN' y hy
          rw [nI_1] at hy
          subst hy hc
          exact ih (q + 1) (by omega) w' hw' hN'
        apply hP
        unfold bd_X6_possibleCount_29
        rw [show BV.tiles (XV.board w) = nI S.t from hw.1.1.2.2.2, nn_lit 8, pk_mul]
        refine bq_f (fun z => by rw [nI_leI (by omega) (by omega)] at z; omega) (sp_X6_meetsNeeds hw hN e (by omega) (fun w' hw' hN' => ?_))
        cases hc : (why S k q == 0) with
        | false => exact bq_t rfl (step false w' hc.symm hw' hN')
        | true =>
          refine bq_f (by decide) (fun x hx => ?_)
          rw [nI_1] at hx
          subst hx
          exact step true w' hc.symm hw' hN'
    exact key (8 * S.t) 0 (by omega) _ hX rfl
  · rw [e] at h
    exact h _ hX
theorem sp_X6_firstPossible {v : XV} {S : AS} {L : List AS} {B : List Nat} (hX : RX v S L B) {k : Nat} (hk : k < S.n) {Q : Int32 → XV → Prop} (h : ∀ v', RX v' S L B → Q (if (S.P k).isNone = true then enc (pf S k 0) else -1) v') : wp_X6_firstPossible v (nI k) Q := by
  have hI := hX.2.1
  have hn := hI.n12
  have ht := hI.2.2.2.1
  unfold wp_X6_firstPossible
  refine sp_X0_isEmpty hX.1 hI (by omega) (fun e => bn_f (by decide) ?_) (fun p e => bn_t rfl ?_)
  · rw [e] at h
    refine sp_X3_read hX.1 hI hk (fun P hP => ?_)
    have key : ∀ d q : Nat, q + d = 8 * S.t → pf S k 0 = pfN S k d q → ∀ w : XV, RX w S L B → XV.needs w = nvA S k → P w (nI q) := by
      intro d
      induction d with
      | zero =>
        intro q hq hf w hw hN
        obtain rfl : q = 8 * S.t := by omega
        apply hP
        unfold bd_X6_firstPossible_27
        rw [show BV.tiles (XV.board w) = nI S.t from hw.1.1.2.2.2, nn_lit 8, pk_mul]
        have g := h w hw
        rw [hf] at g
        exact bq_t ((nI_leI (by omega) (by omega)).mpr (Nat.le_refl _)) g
      | succ d ih =>
        intro q hq hf w hw hN
        rw [pfN_s] at hf
        apply hP
        unfold bd_X6_firstPossible_27
        rw [show BV.tiles (XV.board w) = nI S.t from hw.1.1.2.2.2, nn_lit 8, pk_mul]
        refine bq_f (fun z => by rw [nI_leI (by omega) (by omega)] at z; omega) (sp_X6_meetsNeeds hw hN e (by omega) (fun w' hw' hN' => ?_))
        cases hc : (why S k q == 0) with
        | false =>
          rw [if_neg (beq_eq_false_iff_ne.mp hc)] at hf
          refine bq_t rfl (fun y hy => ?_)
          rw [nI_1] at hy
          subst hy
          exact ih (q + 1) (by omega) hf w' hw' hN'
        | true =>
          rw [if_pos (beq_iff_eq.mp hc)] at hf
          have g := h w' hw'
          rw [hf] at g
          exact bq_f (by decide) g
    exact key (8 * S.t) 0 (by omega) (by unfold pf; rw [Nat.sub_zero]) _ hX rfl
  · rw [e] at h
    exact h _ hX
theorem sp_X6_cellProperty {v : XV} {S : AS} {L : List AS} {B : List Nat} (hX : RX v S L B) {k w : Nat} (hk : k < S.n) (hw : w < 4) {Q : Int32 → XV → Prop} (h : ∀ v', RX v' S L B → Q (cellV S k w) v') : wp_X6_cellProperty v (nI k) (nI w) Q := by
  have hI := hX.2.1
  have hn := hI.n12
  unfold wp_X6_cellProperty
  unfold cellV at h
  rcases (show w = 0 ∨ w = 1 ∨ w = 2 ∨ w = 3 by omega) with rfl | rfl | rfl | rfl
  · refine ⟨fun _ => ⟨vp_in_nI (by omega) (by omega), ?_⟩, fun z => absurd z (by decide), fun z => absurd z (by decide), fun z => absurd rfl z⟩
    rw [nI_clamp (by omega), hX.1.2.2.1 k (by omega)]
    exact h v hX
  · refine ⟨fun z => absurd z (by decide), fun _ => ?_, fun z => absurd z (by decide), fun _ z => absurd rfl z⟩
    refine sp_X0_isFixed hX.1 (by omega) (fun e => bq_f (by decide) ?_) (fun e => bq_t rfl ?_)
    · have g := h v hX
      rw [e] at g
      exact g
    · have g := h v hX
      rw [e] at g
      exact g
  · refine ⟨fun z => absurd z (by decide), fun z => absurd z (by decide), fun _ => ?_, fun _ _ z => absurd rfl z⟩
    refine sp_X6_possibleCount hX hk (fun v' hv' => ?_)
    have g := h v' hv'
    unfold manyA
    cases e : (S.P k).isNone with
    | true => rw [e] at g; exact g
    | false => rw [e] at g; exact g
  · refine ⟨fun z => absurd z (by decide), fun z => absurd z (by decide), fun z => absurd z (by decide), fun _ _ _ => ?_⟩
    exact sp_X6_firstPossible hX hk (fun v' hv' => h v' hv')
theorem sp_X6_colorAt {v : XV} {S : AS} {L : List AS} {B : List Nat} (hX : RX v S L B) {k s : Nat} (hk : k < S.n) (hs : s < 4) (b : Bool) {Q : Int32 → XV → Prop} (h : ∀ v', RX v' S L B → Q (colV S k s b) v') : wp_X6_colorAt v (nI k) (nI s) (nI b.toNat) Q := by
  have hI := hX.2.1
  have hn := hI.n12
  have hF := hI.2.2.2.2.1
  unfold wp_X6_colorAt
  unfold colV at h
  refine sp_X0_isEmpty hX.1 hI (by omega) (fun e => bq_f (by decide) ?_) (fun p e => bq_t rfl ?_)
  · have g := h v hX
    simp only [e] at g
    exact g
  · have g := h v hX
    simp only [e] at g
    have hp := (hI.p96 e).2
    have c1 := col_lt hF hp s false
    have c2 := col_lt hF hp s true
    refine sp_X0_lookIn hX.1 hI e (sp_X6_colorsAt (fun j _ => lk_lt hF hp j) hs ?_)
    rw [lk_low hs, lk_high, lo15 (by omega) (by omega), hi16 (by omega) (by omega)]
    cases b with
    | false => exact bq_t rfl g
    | true => exact bq_f (by decide) g
theorem sp_X6_cell {v : XV} {S : AS} {L : List AS} {B : List Nat} (hX : RX v S L B) {a b : Int32} {Q : Int32 → XV → Prop} {XQ : String → XV → Prop}
    (h0 : ∀ k w : Nat, k < S.n → w < 4 → a = nI k → b = nI w → ∀ v', RX v' S L B → Q (cellV S k w) v')
    (h1 : ¬ (∃ k, k < S.n ∧ a = nI k) → XQ "java/lang/IndexOutOfBoundsException" v)
    (h2 : ∀ k : Nat, k < S.n → a = nI k → ¬ (0 ≤ b ∧ b ≤ 3) → XQ "java/lang/IllegalArgumentException" v) : wp_X6_cell v a b Q XQ := by
  unfold wp_X6_cell
  refine sp_X6_requireCell hX (fun k hk ea => ⟨fun c1 => h2 k hk ea (fun z => gtn c1 z.1), fun c1 => ?_⟩) h1
  subst ea
  by_cases eb : 0 ≤ b ∧ b ≤ 3
  · obtain ⟨w, -, w2, rfl⟩ := nI_rng (a := 0) (b := 3) (by omega) (by omega) eb
    exact bq_t ((nI_ltI (b := 4) (by omega) (by omega)).mpr (by omega)) (sp_X6_cellProperty hX hk (by omega) (h0 k w hk (by omega) rfl rfl))
  · exact bq_f (fun z => eb ⟨nlt c1, lt_le rfl z⟩) (h2 k hk rfl eb)
theorem sp_X6_color {v : XV} {S : AS} {L : List AS} {B : List Nat} (hX : RX v S L B) {a b : Int32} (c : Bool) {Q : Int32 → XV → Prop} {XQ : String → XV → Prop}
    (h0 : ∀ k s : Nat, k < S.n → s < 4 → a = nI k → b = nI s → ∀ v', RX v' S L B → Q (colV S k s c) v')
    (h1 : ¬ ((∃ k, k < S.n ∧ a = nI k) ∧ (0 ≤ b ∧ b ≤ 3)) → XQ "java/lang/IndexOutOfBoundsException" v) : wp_X6_color v a b (nI c.toNat) Q XQ := by
  unfold wp_X6_color
  refine sp_X6_requireCell hX (fun k hk ea => ⟨fun c1 => h1 (fun z => gtn c1 z.2.1), fun c1 => ?_⟩) (fun e => h1 (fun z => e z.1))
  subst ea
  by_cases eb : 0 ≤ b ∧ b ≤ 3
  · obtain ⟨s, -, s2, rfl⟩ := nI_rng (a := 0) (b := 3) (by omega) (by omega) eb
    exact bq_t ((nI_ltI (b := 4) (by omega) (by omega)).mpr (by omega)) (sp_X6_colorAt hX hk (by omega) c (h0 k s hk (by omega) rfl rfl))
  · exact bq_f (fun z => eb ⟨nlt c1, lt_le rfl z⟩) (h1 (fun z => eb z.2))
theorem sp_X6_tileProperty {v : XV} {S : AS} {L : List AS} {B : List Nat} (hX : RX v S L B) {t w : Nat} (ht : t < S.t) (hw : w < 4) {Q : Int32 → XV → Prop} (h : ∀ v', RX v' S L B → Q (tileV S t w) v') : wp_X6_tileProperty v (nI t) (nI w) Q := by
  have hI := hX.2.1
  have ht12 := hI.2.2.2.1
  unfold wp_X6_tileProperty
  unfold tileV at h
  rcases (show w = 0 ∨ w = 1 ∨ w = 2 ∨ w = 3 by omega) with rfl | rfl | rfl | rfl
  · exact ⟨fun _ => sp_X0_faceOf (f := 0) hX.1 hI ht (by omega) (h v hX), fun z => absurd z (by decide), fun z => absurd z (by decide), fun z => absurd rfl z⟩
  · exact ⟨fun z => absurd z (by decide), fun _ => sp_X0_faceOf (f := 1) hX.1 hI ht (by omega) (h v hX), fun z => absurd z (by decide), fun _ z => absurd rfl z⟩
  · refine ⟨fun z => absurd z (by decide), fun z => absurd z (by decide), fun _ => ⟨vp_in_nI (by omega) (by omega), ?_⟩, fun _ _ z => absurd rfl z⟩
    rw [nI_clamp (by omega), hX.1.2.2.2.1 t (by omega)]
    exact h v hX
  · exact ⟨fun z => absurd z (by decide), fun z => absurd z (by decide), fun z => absurd z (by decide), fun _ _ _ => sp_X0_lowestLike hX.1 hI ht (h v hX)⟩
theorem sp_X6_tile {v : XV} {S : AS} {L : List AS} {B : List Nat} (hX : RX v S L B) {a b : Int32} {Q : Int32 → XV → Prop} {XQ : String → XV → Prop}
    (h0 : ∀ t w : Nat, t < S.t → w < 4 → a = nI t → b = nI w → ∀ v', RX v' S L B → Q (tileV S t w) v')
    (h1 : ¬ (∃ t, t < S.t ∧ a = nI t) → XQ "java/lang/IndexOutOfBoundsException" v)
    (h2 : ∀ t : Nat, t < S.t → a = nI t → ¬ (0 ≤ b ∧ b ≤ 3) → XQ "java/lang/IllegalArgumentException" v) : wp_X6_tile v a b Q XQ := by
  have ht12 := hX.2.1.2.2.2.1
  have et : BV.tiles (XV.board v) = nI S.t := hX.1.1.2.2.2
  unfold wp_X6_tile
  rw [et]
  refine ⟨fun c1 => h1 (fun ⟨t, t1, t2⟩ => ?_), fun c1 => ?_⟩
  · rw [t2] at c1
    exact nI_pos (by omega) c1
  · obtain ⟨t, htt, rfl⟩ := nI_of c1
    refine ek_if (nI_ltI (by omega) (by omega)) (fun e => ⟨fun c2 => h2 t e rfl (fun z => gtn c2 z.1), fun c2 => ?_⟩) (fun e => h1 (fun ⟨t', t1, t2⟩ => ?_))
    · by_cases eb : 0 ≤ b ∧ b ≤ 3
      · obtain ⟨w, -, w2, rfl⟩ := nI_rng (a := 0) (b := 3) (by omega) (by omega) eb
        exact bq_t ((nI_ltI (b := 4) (by omega) (by omega)).mpr (by omega)) (sp_X6_tileProperty hX e (by omega) (h0 t w e (by omega) rfl rfl))
      · exact bq_f (fun z => eb ⟨nlt c2, lt_le rfl z⟩) (h2 t e rfl eb)
    · rw [nI_eq htt (by omega)] at t2
      omega
