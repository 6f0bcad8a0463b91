/-! THE LAW'S OWN BOARD: rows of ints beside the puzzle; its small methods -/
def lbB (b ti : IV) (S : AS) : Prop :=
  b 0 = nI S.r ∧ b 1 = nI S.c ∧ b 2 = nI S.ru ∧ b 3 = nI S.t ∧ (∀ k, k < 12 → b (4 + k) = enc (S.P k)) ∧ (∀ k, k < 12 → b (16 + k) = nI (S.X k).toNat) ∧ (∀ t k, t < S.t → k < 4 → ti (8 * t + 4 * 0 + k) = nI (dig (S.F (2 * t + 0)) k) ∧ ti (8 * t + 4 * 1 + k) = nI (dig (S.F (2 * t + 1)) k))
/-- small boards -/
def lbS (S : AS) : Prop := S.r ≤ 2 ∧ S.c ≤ 3 ∧ S.t ≤ 6
theorem lbS.n6 {S : AS} (h : lbS S) : S.n ≤ 6 := Nat.mul_le_mul h.1 h.2.1
theorem lbB.tl {b ti : IV} {S : AS} (h : lbB b ti S) {t f k : Nat} (ht : t < S.t) (hf : f < 2) (hk : k < 4) : ti (8 * t + 4 * f + k) = nI (dig (S.F (2 * t + f)) k) := by
  have h9 := h.2.2.2.2.2.2 t k ht hk
  obtain rfl | rfl : f = 0 ∨ f = 1 := by omega
  · exact h9.1
  · exact h9.2
theorem i32_nI (x : Int32) : x = nI x.toBitVec.toNat := nn_ext (BitVec.eq_of_toNat_eq (by rw [nn_bv, BitVec.toNat_ofNat, Nat.mod_eq_of_lt x.toBitVec.isLt]))
theorem sp_L_at {x : Int32} {n : Nat} (h0 : 0 < n) (hn : n < 2 ^ 31) {Q : Int32 → Prop} (h : ∀ m, m < n → Q (nI m)) : wp_L_at x (nI n) Q := by
  unfold wp_L_at
  refine ⟨fun z => ?_, ?_⟩
  · rw [nn_eq0 hn] at z; omega
  · have hx := x.toBitVec.isLt
    rw [i32_nI x, nn_lit 1, nn_ushr (by omega) hx, nn_rem (by omega) h0 hn]
    exact h _ (Nat.mod_lt _ h0)
theorem nI_m1 {n : Nat} (h : 1 ≤ n) : nI n + (-1) = nI (n - 1) := by
  obtain ⟨m, rfl⟩ : ∃ m, n = m + 1 := ⟨n - 1, by omega⟩
  rw [pk_m1]
  rfl
theorem m1_neg : (nI 0 + (-1) : Int32) < 0 := by decide
section BY
variable {b : IV} {S : AS} {Q : Int32 → IV → Prop}
theorem sp_L_by49 {c r x : Nat} (hr : r < 1000) (hc : c < 1000) (hx : x < 1000) (b0 : b 0 = nI r) (b1 : b 1 = nI c) {y : Nat} (hy : y < 1000) {t0 t1 : Int32} (e : t0 + t1 = nI y) (h : Q (if x = c ∨ y = r then -1 else nI (y * c + x)) b) : wp_L_beyond_49 Q b (nI x) t0 t1 := by
  intro x4 hx4
  rw [e] at hx4
  subst hx4
  rw [b0, b1, pk_mul, nI_add]
  refine bq_f (nI_pos (by omega)) (bq_f (nI_pos (by omega)) ?_)
  refine ek_if (nI_eq (by omega) (by omega)) (fun e1 => ?_) (fun e1 => bn_if (nI_eq (by omega) (by omega)) (fun e2 => ?_) (fun e2 => ?_))
  · rw [if_pos (Or.inl e1)] at h; exact h
  · rw [if_pos (Or.inr e2)] at h; exact h
  · rw [if_neg (by omega)] at h; exact h
theorem sp_L_byN {x : Int32} (hx : x < 0) {t0 t1 : Int32} (h : Q (-1) b) : wp_L_beyond_49 Q b x t0 t1 := fun _ _ => bq_t hx h
theorem sp_L_byN2 {x t0 t1 : Int32} (hx : t0 + t1 < 0) (h : Q (-1) b) : wp_L_beyond_49 Q b x t0 t1 := by
  intro x4 hx4
  rw [← hx4] at hx
  exact ⟨fun _ => h, fun _ => bq_t hx h⟩
end BY
theorem sp_L_bey {b : IV} {S : AS} (b0 : b 0 = nI S.r) (b1 : b 1 = nI S.c) (hI : Inv S) {k s : Nat} (hk : k < S.n) (hs : s < 4) {Q : Int32 → IV → Prop} (hQ : Q (enc (nb S.r S.c k s)) b) : wp_L_beyond b (nI k) (nI s) Q := by
  have hn12 := hI.n12
  obtain ⟨⟨r1, r2⟩, ⟨c1, c2⟩, -⟩ := hI
  have hk' : k < S.r * S.c := hk
  have hm : k % S.c < S.c := Nat.mod_lt _ (by omega)
  have hd : S.c * (k / S.c) + k % S.c = k := Nat.div_add_mod k S.c
  have hdc : k / S.c * S.c + k % S.c = k := by rw [Nat.mul_comm]; exact hd
  have hdr : k / S.c < S.r := Nat.div_lt_of_lt_mul (by rw [Nat.mul_comm]; exact hk')
  have hc0 : ¬ nI S.c = 0 := fun z => by rw [nn_eq0 (by omega)] at z; omega
  unfold wp_L_beyond
  rw [b1, nn_rem (by omega) (by omega) (by omega)]
  have go : ∀ {x3 : Int32}, wp_L_beyond_49 Q b x3 (nI (k / S.c)) (if s = 2 then 1 else if s = 0 then -1 else 0) → ∀ {t0 t1 : Int32}, t0 + t1 = x3 → wp_L_beyond_24 Q b (nI k) (nI s) t0 t1 := by
    intro x3 h9 t0 t1 e x hx
    rw [b1, pk_div (by omega) (by omega) (by omega)]
    rw [e] at hx
    subst hx
    refine ⟨hc0, bn_if (nI_eq (b := 2) (by omega) (by omega)) (fun e2 => ?_) (fun e2 => bn_if (nn_eq0 (by omega)) (fun e0 => ?_) (fun e0 => ?_))⟩
    · rw [if_pos e2] at h9; exact h9
    · rw [if_neg e2, if_pos e0] at h9; exact h9
    · rw [if_neg e2, if_neg e0] at h9; exact h9
  refine ⟨hc0, ?_⟩
  obtain rfl | rfl | rfl | rfl : s = 0 ∨ s = 1 ∨ s = 2 ∨ s = 3 := by omega
  · refine bn_f (by decide) (bn_f (by decide) (go ?_ (Int32.add_zero _)))
    show wp_L_beyond_49 Q b (nI (k % S.c)) (nI (k / S.c)) (-1)
    unfold nb at hQ
    rw [if_pos rfl] at hQ
    by_cases e : k < S.c
    · rw [if_pos e] at hQ
      rw [Nat.div_eq_of_lt e]
      exact sp_L_byN2 m1_neg hQ
    · rw [if_neg e] at hQ
      have h1 : 1 ≤ k / S.c := Nat.div_pos (by omega) (by omega)
      refine sp_L_by49 (r := S.r) (c := S.c) (y := k / S.c - 1) (by omega) (by omega) (by omega) b0 b1 (by omega) (nI_m1 h1) ?_
      rw [if_neg (by omega), Nat.sub_mul, Nat.one_mul]
      have h3 : S.c ≤ k / S.c * S.c := Nat.le_mul_of_pos_left S.c h1
      have h2 : k / S.c * S.c - S.c + k % S.c = k - S.c := by omega
      rw [h2]
      exact hQ
  · refine bn_t rfl (go ?_ (nI_1 _))
    show wp_L_beyond_49 Q b (nI (k % S.c + 1)) (nI (k / S.c)) 0
    unfold nb at hQ
    rw [if_neg (by decide), if_pos rfl] at hQ
    refine sp_L_by49 (r := S.r) (c := S.c) (y := k / S.c) (by omega) (by omega) (by omega) b0 b1 (by omega) (Int32.add_zero _) ?_
    by_cases e : k % S.c + 1 < S.c
    · rw [if_pos e] at hQ
      rw [if_neg (by omega), ← Nat.add_assoc, hdc]
      exact hQ
    · rw [if_neg e] at hQ
      rw [if_pos (by omega)]
      exact hQ
  · refine bn_f (by decide) (bn_f (by decide) (go ?_ (Int32.add_zero _)))
    show wp_L_beyond_49 Q b (nI (k % S.c)) (nI (k / S.c)) 1
    unfold nb at hQ
    rw [if_neg (by decide), if_neg (by decide), if_pos rfl] at hQ
    have h1 : k + S.c < S.r * S.c ↔ k / S.c + 1 < S.r := by
      rw [← Nat.div_lt_iff_lt_mul (by omega), Nat.add_div_right _ (by omega)]
    refine sp_L_by49 (r := S.r) (c := S.c) (y := k / S.c + 1) (by omega) (by omega) (by omega) b0 b1 (by omega) (nI_1 _) ?_
    by_cases e : k + S.c < S.r * S.c
    · rw [if_pos e] at hQ
      have h2 := h1.mp e
      rw [if_neg (by omega), Nat.add_mul, Nat.one_mul]
      have h3 : k / S.c * S.c + S.c + k % S.c = k + S.c := by omega
      rw [h3]
      exact hQ
    · rw [if_neg e] at hQ
      have h2 : ¬ k / S.c + 1 < S.r := fun z => e (h1.mpr z)
      rw [if_pos (by omega)]
      exact hQ
  · refine bn_f (by decide) (bn_t rfl (go ?_ rfl))
    show wp_L_beyond_49 Q b (nI (k % S.c) + (-1)) (nI (k / S.c)) 0
    unfold nb at hQ
    rw [if_neg (by decide), if_neg (by decide), if_neg (by decide)] at hQ
    by_cases e : k % S.c = 0
    · rw [if_pos e] at hQ
      rw [e]
      exact sp_L_byN m1_neg hQ
    · rw [if_neg e] at hQ
      rw [nI_m1 (by omega)]
      refine sp_L_by49 (r := S.r) (c := S.c) (y := k / S.c) (by omega) (by omega) (by omega) b0 b1 (by omega) (Int32.add_zero _) ?_
      rw [if_neg (by omega)]
      have h2 : k / S.c * S.c + (k % S.c - 1) = k - 1 := by omega
      rw [h2]
      exact hQ
theorem sp_L_beyond {b ti : IV} {S : AS} (h : lbB b ti S) (hI : Inv S) {k s : Nat} (hk : k < S.n) (hs : s < 4) {Q : Int32 → IV → Prop} (hQ : Q (enc (nb S.r S.c k s)) b) : wp_L_beyond b (nI k) (nI s) Q := sp_L_bey h.1 h.2.1 hI hk hs hQ
theorem sp_L_color {b ti : IV} {S : AS} (h : lbB b ti S) (hT : S.t ≤ 6) {p s : Nat} (hp : p < 8 * S.t) (hs : s < 4) (bl : Bool) {Q : Int32 → IV → Prop} (hQ : Q (nI (col S.F p s bl)) ti) : wp_L_color ti (nI p) (nI s) (nI bl.toNat) Q := by
  have ht : p / 8 < S.t := by omega
  -- from the tile's row on
  have tail : ∀ (f k0 : Nat), f < 2 → k0 < 4 → ∀ d j : Nat, j + d = p % 4 → Q (nI (dig (S.F (2 * (p / 8) + f)) (if bl = true then (k0 + p % 4) % 4 else (k0 + 3 * (p % 4)) % 4))) ti → ∀ P : IV → Int32 → Int32 → Int32 → Int32 → Int32 → Prop, (∀ (vI48 : IV) (x0 x2 x4 x5 x6 : Int32), bd_L_color_63 Q P (fun (v : IV) (x4 x5 : Int32) => vp_in (x4 + x5) 48 ∧ Q (v (Int32.toNatClampNeg (x4 + x5))) v) vI48 x0 x2 x4 x5 x6 → P vI48 x0 x2 x4 x5 x6) → P ti (nI p) (nI bl.toNat) (nI (8 * (p / 8) + 4 * f)) (nI (if bl = true then (k0 + j) % 4 else (k0 + 3 * j) % 4)) (nI j) := by
    intro f k0 hf hk0 d
    induction d with
    | zero =>
      intro j hj hQ P hP
      obtain rfl : j = p % 4 := by omega
      apply hP
      unfold bd_L_color_63
      rw [nn_lit 4, nn_rem (by omega) (by omega) (by omega)]
      have hk4 : (if bl = true then (k0 + p % 4) % 4 else (k0 + 3 * (p % 4)) % 4) < 4 := by split <;> omega
      refine bq_t ((nI_leI (by omega) (by omega)).mpr (Nat.le_refl _)) ?_
      dsimp only
      rw [nI_add]
      refine ⟨vp_in_nI (by omega) (by omega), ?_⟩
      rw [nI_clamp (by omega), h.tl ht hf hk4]
      exact hQ
    | succ d ih =>
      intro j hj hQ P hP
      have nx := ih (j + 1) (by omega) hQ P hP
      apply hP
      unfold bd_L_color_63
      rw [nn_lit 4, nn_rem (by omega) (by omega) (by omega)]
      refine bq_f (fun z => by rw [nI_leI (by omega) (by omega)] at z; omega) ?_
      cases bl with
      | true =>
        refine bq_f (by decide) ?_
        simp only [if_true] at nx ⊢
        refine bn_if (nI_eq (b := 3) (by omega) (by omega)) (fun e => ?_) (fun e => ?_)
        · intro x hx
          rw [nI_1] at hx
          subst hx
          rw [show (k0 + (j + 1)) % 4 = 0 by omega] at nx
          exact nx
        · intro x hx
          rw [nI_1] at hx
          subst hx
          rw [nI_1, show (k0 + j) % 4 + 1 = (k0 + (j + 1)) % 4 by omega]
          exact nx
      | false =>
        refine bq_t (by decide) ?_
        simp only [Bool.false_eq_true, if_false] at nx ⊢
        refine bn_if (nn_eq0 (by omega)) (fun e => ?_) (fun e => ?_)
        · intro x hx
          rw [nI_1] at hx
          subst hx
          rw [show (k0 + 3 * (j + 1)) % 4 = 3 by omega] at nx
          exact nx
        · intro x hx
          rw [nI_1] at hx
          subst hx
          rw [nn_lit 1, pk_sub (by omega), show (k0 + 3 * j) % 4 - 1 = (k0 + 3 * (j + 1)) % 4 by omega]
          exact nx
  have fin : ∀ (f k0 : Nat), f < 2 → k0 < 4 → Q (nI (dig (S.F (2 * (p / 8) + f)) (if bl = true then (k0 + p % 4) % 4 else (k0 + 3 * (p % 4)) % 4))) ti → wp_L_color_58 Q ti (nI p) (nI bl.toNat) (nI (8 * (p / 8) + 4 * f)) (nI k0) := by
    intro f k0 hf hk0 hq
    intro P hP
    have g := tail f k0 hf hk0 (p % 4) 0 (by omega) hq P hP
    have e : (if bl = true then (k0 + 0) % 4 else (k0 + 3 * 0) % 4) = k0 := by split <;> omega
    rw [e] at g
    exact g
  unfold wp_L_color
  rw [nn_lit 8, nn_lit 4, nn_lit 2, nn_lit 1, pk_div (by omega) (by omega) (by omega), pk_div (by omega) (by omega) (by omega), nn_rem (by omega) (by omega) (by omega), pk_sub (by omega), pk_mul]
  cases bl with
  | true =>
    refine bq_f (by decide) (fun x hx => ?_)
    rw [pk_mul, nI_add] at hx
    subst hx
    refine bq_f (by decide) ?_
    unfold col at hQ
    rw [if_pos rfl] at hQ
    simp only [if_true] at fin
    refine bn_if (nI_eq (b := 1) (by omega) (by omega)) (fun e => ?_) (fun e => bn_if (nI_eq (b := 3) (by omega) (by omega)) (fun e3 => ?_) (fun e3 => ?_))
    · subst e
      exact fin _ 3 (by omega) (by omega) hQ
    · subst e3
      exact fin _ 1 (by omega) (by omega) hQ
    · refine fin _ s (by omega) hs ?_
      rw [show (s + p % 4) % 4 = ((4 - s) % 4 + p % 4) % 4 by omega]
      exact hQ
  | false =>
    refine bq_t (by decide) (fun x hx => ?_)
    rw [pk_mul, nI_add] at hx
    subst hx
    refine bq_t (by decide) ?_
    unfold col at hQ
    rw [if_neg (by decide)] at hQ
    simp only [Bool.false_eq_true, if_false] at fin
    refine fin _ s (by omega) hs ?_
    rw [show (s + 3 * (p % 4)) % 4 = (s + 4 - p % 4) % 4 by omega]
    exact hQ
