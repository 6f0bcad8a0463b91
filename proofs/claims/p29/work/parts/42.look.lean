/-! LOOKS: the colors of a placing as a row of eight nibbles -/
def lk (F : Nat → Nat) (p j : Nat) : Nat := if j < 4 then col F p j false else col F p (j - 4) true
theorem lk_lt {F : Nat → Nat} (h : ∀ i, i < 24 → F i ≤ 9999) {p : Nat} (hp : p < 96) (j : Nat) : lk F p j < 16 := by
  have h1 := col_lt h hp j false
  have h2 := col_lt h hp (j - 4) true
  unfold lk
  split <;> omega
theorem or_hi {a b : Nat} (ha : a < 16) (hb : b < 16) : nI a ||| jshl (nI b) 16 = nI (a + 65536 * b) := by
  rw [nn_lit 16, nn_shl (by omega) (by omega), nn_or]
  have h := nb_or (a := a) (b := 0) ha (by omega) 0 (4096 * b)
  have e1 : a + 16 * 0 = a := by omega
  have e2 : 0 + 16 * (4096 * b) = b * 2 ^ 16 := by omega
  rw [e1, e2, Nat.or_zero, Nat.zero_or] at h
  rw [h]
  congr 1
  omega
theorem lo15 {a b : Nat} (ha : a < 16) (hb : b < 16) : nI (a + 65536 * b) &&& 15 = nI a := by
  rw [nn_lit 15, nn_and]
  have h := Nat.and_two_pow_sub_one_eq_mod (a + 65536 * b) 4
  have h : (a + 65536 * b) &&& 15 = (a + 65536 * b) % 16 := h
  rw [h]
  congr 1
  omega
theorem hi16 {a b : Nat} (ha : a < 16) (hb : b < 16) : ushr (nI (a + 65536 * b)) 16 = nI b := by
  rw [nn_lit 16, nn_ushr (by omega) (by omega)]
  congr 1
  omega
theorem sp_X6_colorsAt {f : Nat → Nat} (hf : ∀ j, j < 8 → f j < 16) {s : Nat} (hs : s < 4) {Q : Int32 → Prop} (h : Q (nI (f s + 65536 * f (s + 4)))) : wp_X6_colorsAt (nI (pkN 8 f)) (nI s) Q := by
  unfold wp_X6_colorsAt
  rw [nn_lit 4, pk_mul, nn_ushr (by omega) (pk8_lt hf), nn_lit 983055, nn_and, pk_side hf hs]
  exact h
theorem sp_X6_seenFromBehind {s : Nat} (hs : s < 4) {Q : Int32 → Prop} (h : Q (nI ((4 - s) % 4))) : wp_X6_seenFromBehind (nI s) Q := by
  unfold wp_X6_seenFromBehind
  rw [nn_lit 4, pk_sub (by omega), nn_rem (by omega) (by omega) (by omega)]
  exact h
theorem sp_X6_opposite {s : Nat} (hs : s < 4) {Q : Int32 → Prop} (h : Q (nI ((s + 2) % 4))) : wp_X6_opposite (nI s) Q := by
  unfold wp_X6_opposite
  rw [nn_lit 2, nI_add, nn_lit 4, nn_rem (by omega) (by omega) (by omega)]
  exact h
theorem sp_X6_digit {n k : Nat} (hn : n ≤ 9999) (hk : k < 4) {Q : Int32 → Prop} (h : Q (nI (dig n k))) : wp_X6_digit (nI n) (nI k) Q := by
  unfold wp_X6_digit
  intro P hP
  have step : ∀ i x : Nat, i < 3 → x ≤ 9999 → P (nI (x / 10)) (nI (i + 1)) → P (nI x) (nI i) := by
    intro i x hi hx hnx
    apply hP
    refine bq_f (fun z => by rw [nn_lit 3, nI_leI (by omega) (by omega)] at z; omega) (fun y hy y2 hy2 => ?_)
    rw [nn_lit 10, pk_div (by omega) (by omega) (by omega)] at hy
    rw [nI_1] at hy2
    subst hy hy2
    exact hnx
  have fin : ∀ x : Nat, x ≤ 9999 → Q (nI (x % 10)) → P (nI x) (nI 3) := by
    intro x hx hq
    apply hP
    refine bq_t (by decide) ?_
    rw [nn_lit 10, nn_rem (by omega) (by omega) (by omega)]
    exact hq
  unfold dig at h
  rcases (show k = 0 ∨ k = 1 ∨ k = 2 ∨ k = 3 by omega) with rfl | rfl | rfl | rfl
  · refine step 0 n (by omega) hn (step 1 _ (by omega) (by omega) (step 2 _ (by omega) (by omega) (fin _ (by omega) ?_)))
    rw [show n / 10 / 10 / 10 % 10 = n / 1000 by omega]
    exact h
  · refine step 1 n (by omega) hn (step 2 _ (by omega) (by omega) (fin _ (by omega) ?_))
    rw [show n / 10 / 10 % 10 = n / 100 % 10 by omega]
    exact h
  · exact step 2 n (by omega) hn (fin _ (by omega) h)
  · exact fin n hn h
def rowA (a b j : Nat) : Nat := if j < 4 then dig a j else dig b ((4 - (j - 4)) % 4)
theorem sp_X6_lookOfFaces {a b : Nat} (ha : a ≤ 9999) (hb : b ≤ 9999) {Q : Int32 → Prop} (h : Q (nI (pkN 8 (rowA a b)))) : wp_X6_lookOfFaces (nI a) (nI b) Q := by
  unfold wp_X6_lookOfFaces
  intro P hP
  have step : ∀ (s : Nat) (g : Nat → Nat), s < 4 → (∀ j, g j < 16) → P (nI a) (nI b) (nI (pkN 8 (fun j => g j ||| sh2 s (dig a s) (dig b ((4 - s) % 4)) j))) (nI (s + 1)) → P (nI a) (nI b) (nI (pkN 8 g)) (nI s) := by
    intro s g hs hg hnx
    have d1 := dig_lt ha s
    have d2 := dig_lt hb ((4 - s) % 4)
    apply hP
    refine bq_f (fun z => by rw [nn_lit 4, nI_leI (by omega) (by omega)] at z; omega) (sp_X6_digit ha hs (sp_X6_seenFromBehind hs (sp_X6_digit hb (by omega) (fun y hy y2 hy2 => ?_))))
    rw [or_hi (by omega) (by omega), sh2_row (by omega) (by omega) hs, or_row (fun j _ => hg j) (fun j _ => sh2_lt (by omega) (by omega) j)] at hy
    rw [nI_1] at hy2
    subst hy hy2
    exact hnx
  have lt : ∀ (g : Nat → Nat) (s : Nat), (∀ j, g j < 16) → ∀ j, (g j ||| sh2 s (dig a s) (dig b ((4 - s) % 4)) j) < 16 := fun g s hg j => by
    have d1 := dig_lt ha s
    have d2 := dig_lt hb ((4 - s) % 4)
    exact or16 (hg j) (sh2_lt (by omega) (by omega) j)
  have l0 := lt (fun _ => 0) 0 (fun _ => by omega)
  have l1 := lt _ 1 l0
  have l2 := lt _ 2 l1
  refine step 0 (fun _ => 0) (by omega) (fun _ => by omega) (step 1 _ (by omega) l0 (step 2 _ (by omega) l1 (step 3 _ (by omega) l2 (hP _ _ _ _ (bq_t (by decide) ?_)))))
  have e := row_congr (f := rowA a b) (g := fun j => (((0 ||| sh2 0 (dig a 0) (dig b ((4 - 0) % 4)) j) ||| sh2 1 (dig a 1) (dig b ((4 - 1) % 4)) j) ||| sh2 2 (dig a 2) (dig b ((4 - 2) % 4)) j) ||| sh2 3 (dig a 3) (dig b ((4 - 3) % 4)) j) (fun j hj => by
    rcases lt8 hj with rfl | rfl | rfl | rfl | rfl | rfl | rfl | rfl
    all_goals simp [sh2, rowA])
  rw [e] at h
  exact h
def turnF (f : Nat → Nat) (j : Nat) : Nat := if j < 4 then f ((j + 3) % 4) else f ((j - 4 + 3) % 4 + 4)
def overF (f : Nat → Nat) (j : Nat) : Nat := if j < 4 then f ((4 - j) % 4 + 4) else f ((4 - (j - 4)) % 4)
theorem sp_X6_turned {f : Nat → Nat} (hf : ∀ j, j < 8 → f j < 16) {Q : Int32 → Prop} (h : Q (nI (pkN 8 (turnF f)))) : wp_X6_turned (nI (pkN 8 f)) Q := by
  unfold wp_X6_turned
  intro P hP
  have step : ∀ (s : Nat) (g : Nat → Nat), s < 4 → (∀ j, g j < 16) → P (nI (pkN 8 f)) (nI (pkN 8 (fun j => g j ||| sh2 ((s + 1) % 4) (f s) (f (s + 4)) j))) (nI (s + 1)) → P (nI (pkN 8 f)) (nI (pkN 8 g)) (nI s) := by
    intro s g hs hg hnx
    have d1 := hf s (by omega)
    have d2 := hf (s + 4) (by omega)
    apply hP
    refine bq_f (fun z => by rw [nn_lit 4, nI_leI (by omega) (by omega)] at z; omega) (sp_X6_colorsAt hf hs (fun y hy y2 hy2 => ?_))
    have er : jrem (nI s + 1) 4 = nI ((s + 1) % 4) := by rw [nI_1, nn_lit 4, nn_rem (by omega) (by omega) (by omega)]
    rw [er, sh2_row d1 d2 (by omega), or_row (fun j _ => hg j) (fun j _ => sh2_lt d1 d2 j)] at hy
    rw [nI_1] at hy2
    subst hy hy2
    exact hnx
  have lt : ∀ (g : Nat → Nat) (s : Nat), s < 4 → (∀ j, g j < 16) → ∀ j, (g j ||| sh2 ((s + 1) % 4) (f s) (f (s + 4)) j) < 16 := fun g s hs hg j => or16 (hg j) (sh2_lt (hf s (by omega)) (hf (s + 4) (by omega)) j)
  have l0 := lt (fun _ => 0) 0 (by omega) (fun _ => by omega)
  have l1 := lt _ 1 (by omega) l0
  have l2 := lt _ 2 (by omega) l1
  refine step 0 (fun _ => 0) (by omega) (fun _ => by omega) (step 1 _ (by omega) l0 (step 2 _ (by omega) l1 (step 3 _ (by omega) l2 (hP _ _ _ (bq_t (by decide) ?_)))))
  have e := row_congr (f := turnF f) (g := fun j => (((0 ||| sh2 ((0 + 1) % 4) (f 0) (f (0 + 4)) j) ||| sh2 ((1 + 1) % 4) (f 1) (f (1 + 4)) j) ||| sh2 ((2 + 1) % 4) (f 2) (f (2 + 4)) j) ||| sh2 ((3 + 1) % 4) (f 3) (f (3 + 4)) j) (fun j hj => by
    rcases lt8 hj with rfl | rfl | rfl | rfl | rfl | rfl | rfl | rfl
    all_goals simp [sh2, turnF])
  rw [e] at h
  exact h
theorem sp_X6_turnedOver {f : Nat → Nat} (hf : ∀ j, j < 8 → f j < 16) {Q : Int32 → Prop} (h : Q (nI (pkN 8 (overF f)))) : wp_X6_turnedOver (nI (pkN 8 f)) Q := by
  unfold wp_X6_turnedOver
  intro P hP
  have step : ∀ (s : Nat) (g : Nat → Nat), s < 4 → (∀ j, g j < 16) → P (nI (pkN 8 f)) (nI (pkN 8 (fun j => g j ||| sh2 ((4 - s) % 4) (f (s + 4)) (f s) j))) (nI (s + 1)) → P (nI (pkN 8 f)) (nI (pkN 8 g)) (nI s) := by
    intro s g hs hg hnx
    have d1 := hf s (by omega)
    have d2 := hf (s + 4) (by omega)
    apply hP
    refine bq_f (fun z => by rw [nn_lit 4, nI_leI (by omega) (by omega)] at z; omega) (sp_X6_colorsAt hf hs (fun y hy => sp_X6_seenFromBehind hs (fun y2 hy2 y3 hy3 => ?_)))
    rw [hi16 d1 d2, lo15 d1 d2, or_hi d2 d1] at hy
    subst hy
    rw [sh2_row d2 d1 (by omega), or_row (fun j _ => hg j) (fun j _ => sh2_lt d2 d1 j)] at hy2
    rw [nI_1] at hy3
    subst hy2 hy3
    exact hnx
  have lt : ∀ (g : Nat → Nat) (s : Nat), s < 4 → (∀ j, g j < 16) → ∀ j, (g j ||| sh2 ((4 - s) % 4) (f (s + 4)) (f s) j) < 16 := fun g s hs hg j => or16 (hg j) (sh2_lt (hf (s + 4) (by omega)) (hf s (by omega)) j)
  have l0 := lt (fun _ => 0) 0 (by omega) (fun _ => by omega)
  have l1 := lt _ 1 (by omega) l0
  have l2 := lt _ 2 (by omega) l1
  refine step 0 (fun _ => 0) (by omega) (fun _ => by omega) (step 1 _ (by omega) l0 (step 2 _ (by omega) l1 (step 3 _ (by omega) l2 (hP _ _ _ (bq_t (by decide) ?_)))))
  have e := row_congr (f := overF f) (g := fun j => (((0 ||| sh2 ((4 - 0) % 4) (f (0 + 4)) (f 0) j) ||| sh2 ((4 - 1) % 4) (f (1 + 4)) (f 1) j) ||| sh2 ((4 - 2) % 4) (f (2 + 4)) (f 2) j) ||| sh2 ((4 - 3) % 4) (f (3 + 4)) (f 3) j) (fun j hj => by
    rcases lt8 hj with rfl | rfl | rfl | rfl | rfl | rfl | rfl | rfl
    all_goals simp [sh2, overF])
  rw [e] at h
  exact h
/-! the looks of one tile in its eight ways -/
theorem lk_0 (F : Nat → Nat) (t j : Nat) : lk F (8 * t) j = rowA (F (2 * t)) (F (2 * t + 1)) j := by
  have e1 : 8 * t / 8 = t := by omega
  have e2 : 8 * t / 4 % 2 = 0 := by omega
  have e3 : 8 * t % 4 = 0 := by omega
  unfold lk rowA col
  rw [e1, e2, e3]
  by_cases h : j < 4
  · rw [if_pos h, if_pos h, if_neg Bool.false_ne_true, show (j + 4 - 0) % 4 = j by omega] <;> rfl
  · rw [if_neg h, if_neg h, if_pos rfl, show ((4 - (j - 4)) % 4 + 0) % 4 = (4 - (j - 4)) % 4 by omega] <;> rfl
theorem lk_turn (F : Nat → Nat) {p : Nat} (hp : p % 4 < 3) {j : Nat} (hj : j < 8) : lk F (p + 1) j = turnF (lk F p) j := by
  have e1 : (p + 1) / 8 = p / 8 := by omega
  have e2 : (p + 1) / 4 % 2 = p / 4 % 2 := by omega
  have e3 : (p + 1) % 4 = p % 4 + 1 := by omega
  unfold turnF lk col
  rw [e1, e2, e3]
  by_cases h : j < 4
  · rw [if_pos h, if_pos h, if_pos (show (j + 3) % 4 < 4 by omega), if_neg Bool.false_ne_true, if_neg Bool.false_ne_true, show (j + 4 - (p % 4 + 1)) % 4 = ((j + 3) % 4 + 4 - p % 4) % 4 by omega]
  · rw [if_neg h, if_neg h, if_neg (show ¬ (j - 4 + 3) % 4 + 4 < 4 by omega), if_pos rfl, if_pos rfl, show (j - 4 + 3) % 4 + 4 - 4 = (j - 4 + 3) % 4 by omega, show ((4 - (j - 4)) % 4 + (p % 4 + 1)) % 4 = ((4 - (j - 4 + 3) % 4) % 4 + p % 4) % 4 by omega]
theorem lk_over (F : Nat → Nat) (t : Nat) {j : Nat} (hj : j < 8) : lk F (8 * t + 4) j = overF (lk F (8 * t)) j := by
  have e1 : (8 * t + 4) / 8 = t := by omega
  have e2 : (8 * t + 4) / 4 % 2 = 1 := by omega
  have e3 : (8 * t + 4) % 4 = 0 := by omega
  have d1 : 8 * t / 8 = t := by omega
  have d2 : 8 * t / 4 % 2 = 0 := by omega
  have d3 : 8 * t % 4 = 0 := by omega
  unfold overF lk col
  rw [e1, e2, e3, d1, d2, d3]
  by_cases h : j < 4
  · rw [if_pos h, if_pos h, if_neg (show ¬ (4 - j) % 4 + 4 < 4 by omega), if_neg Bool.false_ne_true, if_pos rfl, show (4 - j) % 4 + 4 - 4 = (4 - j) % 4 by omega, show (j + 4 - 0) % 4 = ((4 - (4 - j) % 4) % 4 + 0) % 4 by omega] <;> rfl
  · rw [if_neg h, if_neg h, if_pos (show (4 - (j - 4)) % 4 < 4 by omega), if_pos rfl, if_neg Bool.false_ne_true, show ((4 - (j - 4)) % 4 + 0) % 4 = ((4 - (j - 4)) % 4 + 4 - 0) % 4 by omega] <;> rfl
