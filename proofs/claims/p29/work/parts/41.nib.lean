/-! BITS: numbers as rows of nibbles -/
theorem nb_split {a : Nat} (ha : a < 16) (x j : Nat) : (a + 16 * x).testBit j = if j < 4 then a.testBit j else x.testBit (j - 4) := by
  rw [Nat.add_comm]
  exact Nat.testBit_two_pow_mul_add x (show a < 2 ^ 4 from ha) j
theorem and16 {a b : Nat} (hb : b < 16) : (a &&& b) < 16 := Nat.and_lt_two_pow a (n := 4) hb
theorem or16 {a b : Nat} (ha : a < 16) (hb : b < 16) : (a ||| b) < 16 := Nat.or_lt_two_pow (n := 4) ha hb
theorem xor16 {a b : Nat} (ha : a < 16) (hb : b < 16) : (a ^^^ b) < 16 := Nat.xor_lt_two_pow (n := 4) ha hb
theorem nb_and {a b : Nat} (ha : a < 16) (hb : b < 16) (x y : Nat) : (a + 16 * x) &&& (b + 16 * y) = (a &&& b) + 16 * (x &&& y) := by
  apply Nat.eq_of_testBit_eq
  intro j
  rw [Nat.testBit_and, nb_split ha, nb_split hb, nb_split (and16 hb)]
  by_cases h : j < 4
  · simp only [if_pos h, Nat.testBit_and]
  · simp only [if_neg h, Nat.testBit_and]
theorem nb_or {a b : Nat} (ha : a < 16) (hb : b < 16) (x y : Nat) : (a + 16 * x) ||| (b + 16 * y) = (a ||| b) + 16 * (x ||| y) := by
  apply Nat.eq_of_testBit_eq
  intro j
  rw [Nat.testBit_or, nb_split ha, nb_split hb, nb_split (or16 ha hb)]
  by_cases h : j < 4
  · simp only [if_pos h, Nat.testBit_or]
  · simp only [if_neg h, Nat.testBit_or]
theorem nb_xor {a b : Nat} (ha : a < 16) (hb : b < 16) (x y : Nat) : (a + 16 * x) ^^^ (b + 16 * y) = (a ^^^ b) + 16 * (x ^^^ y) := by
  apply Nat.eq_of_testBit_eq
  intro j
  rw [Nat.testBit_xor, nb_split ha, nb_split hb, nb_split (xor16 ha hb)]
  by_cases h : j < 4
  · simp only [if_pos h, Nat.testBit_xor]
  · simp only [if_neg h, Nat.testBit_xor]
theorem nb_15 {a : Nat} (h : a < 16) : a &&& 15 = a := (Nat.and_two_pow_sub_one_eq_mod a 4).trans (Nat.mod_eq_of_lt h)
theorem nb_mask (n : Nat) : n &&& 983055 = n % 16 + 65536 * (n / 65536 % 16) := by
  have h15 : ∀ j, (15 : Nat).testBit j = decide (j < 4) := fun j => Nat.testBit_two_pow_sub_one 4 j
  have hm : ∀ j, (983055 : Nat).testBit j = if j < 16 then decide (j < 4) else decide (j - 16 < 4) := fun j => by
    have h := Nat.testBit_two_pow_mul_add 15 (show 15 < 2 ^ 16 by omega) j
    rw [h15, h15] at h
    exact h
  have hr : ∀ j, (n % 16 + 65536 * (n / 65536 % 16)).testBit j = if j < 16 then (n % 16).testBit j else (n / 65536 % 16).testBit (j - 16) := fun j => by
    rw [Nat.add_comm]
    exact Nat.testBit_two_pow_mul_add (n / 65536 % 16) (show n % 16 < 2 ^ 16 by omega) j
  have hq : ∀ x j, (x % 16).testBit j = (decide (j < 4) && x.testBit j) := fun x j => Nat.testBit_mod_two_pow x 4 j
  apply Nat.eq_of_testBit_eq
  intro j
  rw [Nat.testBit_and, hm, hr, hq, hq]
  by_cases e : j < 16
  · rw [if_pos e, if_pos e]
    exact Bool.and_comm _ _
  · rw [if_neg e, if_neg e]
    have h := Nat.testBit_div_two_pow (n := 16) n (j - 16)
    rw [show j - 16 + 16 = j by omega] at h
    have h : (n / 65536).testBit (j - 16) = n.testBit j := h
    rw [h]
    exact Bool.and_comm _ _
/-- a row of n nibbles -/
def pkN : Nat → (Nat → Nat) → Nat
  | 0, _ => 0
  | n + 1, f => f 0 + 16 * pkN n (fun j => f (j + 1))
theorem pkN_s (n : Nat) (f : Nat → Nat) : pkN (n + 1) f = f 0 + 16 * pkN n (fun j => f (j + 1)) := rfl
theorem pkN_lt : ∀ (n : Nat) (f : Nat → Nat), (∀ j, j < n → f j < 16) → pkN n f < 16 ^ n
  | 0, _, _ => Nat.one_pos
  | n + 1, f, h => by
    have h1 := h 0 (by omega)
    have h2 := pkN_lt n (fun j => f (j + 1)) (fun j hj => h (j + 1) (by omega))
    rw [pkN_s, Nat.pow_succ]
    omega
theorem pkN_congr : ∀ (n : Nat) (f g : Nat → Nat), (∀ j, j < n → f j = g j) → pkN n f = pkN n g
  | 0, _, _, _ => rfl
  | n + 1, f, g, h => by
    rw [pkN_s, pkN_s, h 0 (by omega), pkN_congr n (fun j => f (j + 1)) (fun j => g (j + 1)) (fun j hj => h (j + 1) (by omega))]
theorem pkN_and : ∀ (n : Nat) (f g : Nat → Nat), (∀ j, j < n → f j < 16) → (∀ j, j < n → g j < 16) → pkN n f &&& pkN n g = pkN n (fun j => f j &&& g j)
  | 0, _, _, _, _ => by
    show (0 : Nat) &&& 0 = 0
    exact Nat.and_self 0
  | n + 1, f, g, h, k => by
    rw [pkN_s, pkN_s, nb_and (h 0 (by omega)) (k 0 (by omega)), pkN_and n (fun j => f (j + 1)) (fun j => g (j + 1)) (fun j hj => h (j + 1) (by omega)) (fun j hj => k (j + 1) (by omega))]
    rfl
theorem pkN_or : ∀ (n : Nat) (f g : Nat → Nat), (∀ j, j < n → f j < 16) → (∀ j, j < n → g j < 16) → pkN n f ||| pkN n g = pkN n (fun j => f j ||| g j)
  | 0, _, _, _, _ => by
    show (0 : Nat) ||| 0 = 0
    exact Nat.or_self 0
  | n + 1, f, g, h, k => by
    rw [pkN_s, pkN_s, nb_or (h 0 (by omega)) (k 0 (by omega)), pkN_or n (fun j => f (j + 1)) (fun j => g (j + 1)) (fun j hj => h (j + 1) (by omega)) (fun j hj => k (j + 1) (by omega))]
    rfl
theorem pkN_xor : ∀ (n : Nat) (f g : Nat → Nat), (∀ j, j < n → f j < 16) → (∀ j, j < n → g j < 16) → pkN n f ^^^ pkN n g = pkN n (fun j => f j ^^^ g j)
  | 0, _, _, _, _ => by
    show (0 : Nat) ^^^ 0 = 0
    exact Nat.xor_self 0
  | n + 1, f, g, h, k => by
    rw [pkN_s, pkN_s, nb_xor (h 0 (by omega)) (k 0 (by omega)), pkN_xor n (fun j => f (j + 1)) (fun j => g (j + 1)) (fun j hj => h (j + 1) (by omega)) (fun j hj => k (j + 1) (by omega))]
    rfl
theorem pkN_eq0 : ∀ (n : Nat) (f : Nat → Nat), pkN n f = 0 ↔ ∀ j, j < n → f j = 0
  | 0, _ => ⟨fun _ j hj => absurd hj (Nat.not_lt_zero j), fun _ => rfl⟩
  | n + 1, f => by
    have ih := pkN_eq0 n (fun j => f (j + 1))
    rw [pkN_s]
    refine ⟨fun h j hj => ?_, fun h => ?_⟩
    · cases j with
      | zero => omega
      | succ j => exact ih.mp (by omega) j (by omega)
    · have h1 := h 0 (by omega)
      have h2 := ih.mpr (fun j hj => h (j + 1) (by omega))
      omega
theorem pkN_inj : ∀ (n : Nat) (f g : Nat → Nat), (∀ j, j < n → f j < 16) → (∀ j, j < n → g j < 16) → pkN n f = pkN n g → ∀ j, j < n → f j = g j
  | 0, _, _, _, _, _, j, hj => absurd hj (Nat.not_lt_zero j)
  | n + 1, f, g, h, k, e, j, hj => by
    rw [pkN_s, pkN_s] at e
    have h0 := h 0 (by omega)
    have k0 := k 0 (by omega)
    cases j with
    | zero => omega
    | succ j => exact pkN_inj n (fun j => f (j + 1)) (fun j => g (j + 1)) (fun j hj => h (j + 1) (by omega)) (fun j hj => k (j + 1) (by omega)) (by omega) j (by omega)
theorem pk8 (f : Nat → Nat) : pkN 8 f = f 0 + 16 * (f 1 + 16 * (f 2 + 16 * (f 3 + 16 * (f 4 + 16 * (f 5 + 16 * (f 6 + 16 * (f 7 + 16 * 0))))))) := rfl
theorem pk8_lt {f : Nat → Nat} (h : ∀ j, j < 8 → f j < 16) : pkN 8 f < 2 ^ 32 := pkN_lt 8 f h
theorem pk_side {f : Nat → Nat} (h : ∀ j, j < 8 → f j < 16) {s : Nat} (hs : s < 4) : (pkN 8 f / 2 ^ (4 * s)) &&& 983055 = f s + 65536 * f (s + 4) := by
  have h0 := h 0 (by omega); have h1 := h 1 (by omega); have h2 := h 2 (by omega); have h3 := h 3 (by omega)
  have h4 := h 4 (by omega); have h5 := h 5 (by omega); have h6 := h 6 (by omega); have h7 := h 7 (by omega)
  rw [nb_mask, pk8]
  rcases (show s = 0 ∨ s = 1 ∨ s = 2 ∨ s = 3 by omega) with rfl | rfl | rfl | rfl
  all_goals
    simp only [Nat.reduceMul, Nat.reducePow, Nat.reduceAdd]
    omega
/-- two colors at a side, else nothing -/
def sh2 (s a b : Nat) : Nat → Nat := fun j => if j = s then a else if j = s + 4 then b else 0
theorem sh2_lt {s a b : Nat} (ha : a < 16) (hb : b < 16) (j : Nat) : sh2 s a b j < 16 := by
  unfold sh2
  split
  · exact ha
  · split
    · exact hb
    · omega
theorem sh2_n {s a b : Nat} (ha : a < 16) (hb : b < 16) (hs : s < 4) : (a + 65536 * b) * 2 ^ (4 * s) = pkN 8 (sh2 s a b) := by
  rcases (show s = 0 ∨ s = 1 ∨ s = 2 ∨ s = 3 by omega) with rfl | rfl | rfl | rfl
  · rw [show pkN 8 (sh2 0 a b) = a + 16 * (0 + 16 * (0 + 16 * (0 + 16 * (b + 16 * (0 + 16 * (0 + 16 * (0 + 16 * 0))))))) from rfl]
    simp only [Nat.reduceMul, Nat.reducePow]
    omega
  · rw [show pkN 8 (sh2 1 a b) = 0 + 16 * (a + 16 * (0 + 16 * (0 + 16 * (0 + 16 * (b + 16 * (0 + 16 * (0 + 16 * 0))))))) from rfl]
    simp only [Nat.reduceMul, Nat.reducePow]
    omega
  · rw [show pkN 8 (sh2 2 a b) = 0 + 16 * (0 + 16 * (a + 16 * (0 + 16 * (0 + 16 * (0 + 16 * (b + 16 * (0 + 16 * 0))))))) from rfl]
    simp only [Nat.reduceMul, Nat.reducePow]
    omega
  · rw [show pkN 8 (sh2 3 a b) = 0 + 16 * (0 + 16 * (0 + 16 * (a + 16 * (0 + 16 * (0 + 16 * (0 + 16 * (b + 16 * 0))))))) from rfl]
    simp only [Nat.reduceMul, Nat.reducePow]
    omega
theorem sh2_row {s a b : Nat} (ha : a < 16) (hb : b < 16) (hs : s < 4) : jshl (nI (a + 65536 * b)) (4 * nI s) = nI (pkN 8 (sh2 s a b)) := by
  have e := sh2_n ha hb hs
  have hl := pk8_lt (fun j _ => sh2_lt (s := s) ha hb j)
  rw [nn_lit 4, pk_mul, nn_shl (by omega) (by rw [e]; exact hl), e]
theorem or_row {f g : Nat → Nat} (hf : ∀ j, j < 8 → f j < 16) (hg : ∀ j, j < 8 → g j < 16) : nI (pkN 8 f) ||| nI (pkN 8 g) = nI (pkN 8 (fun j => f j ||| g j)) := by
  rw [nn_or, pkN_or 8 f g hf hg]
theorem and_row {f g : Nat → Nat} (hf : ∀ j, j < 8 → f j < 16) (hg : ∀ j, j < 8 → g j < 16) : nI (pkN 8 f) &&& nI (pkN 8 g) = nI (pkN 8 (fun j => f j &&& g j)) := by
  rw [nn_and, pkN_and 8 f g hf hg]
theorem xor_row {f g : Nat → Nat} (hf : ∀ j, j < 8 → f j < 16) (hg : ∀ j, j < 8 → g j < 16) : nI (pkN 8 f) ^^^ nI (pkN 8 g) = nI (pkN 8 (fun j => f j ^^^ g j)) := by
  rw [nn_xor, pkN_xor 8 f g hf hg]
theorem row_eq0 {f : Nat → Nat} (hf : ∀ j, j < 8 → f j < 16) : nI (pkN 8 f) = 0 ↔ ∀ j, j < 8 → f j = 0 := by
  rw [nn_lit 0, nn_eq32 (pk8_lt hf) (by omega)]
  exact pkN_eq0 8 f
theorem row_inj {f g : Nat → Nat} (hf : ∀ j, j < 8 → f j < 16) (hg : ∀ j, j < 8 → g j < 16) : nI (pkN 8 f) = nI (pkN 8 g) ↔ ∀ j, j < 8 → f j = g j := by
  rw [nn_eq32 (pk8_lt hf) (pk8_lt hg)]
  exact ⟨pkN_inj 8 f g hf hg, pkN_congr 8 f g⟩
theorem row_congr {f g : Nat → Nat} (h : ∀ j, j < 8 → f j = g j) : nI (pkN 8 f) = nI (pkN 8 g) := by rw [pkN_congr 8 f g h]
theorem lt8 {j : Nat} (h : j < 8) : j = 0 ∨ j = 1 ∨ j = 2 ∨ j = 3 ∨ j = 4 ∨ j = 5 ∨ j = 6 ∨ j = 7 := by omega
