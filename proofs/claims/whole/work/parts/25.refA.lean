/-! THE REFERENCE, leaf by leaf -/
theorem sp_X7_within {x a b : Int32} {Q : Int32 → Prop} (h : Q (bI (a ≤ x ∧ x ≤ b))) : wp_X7_within x a b Q := by
  unfold wp_X7_within
  refine ⟨fun c => ?_, fun c => ⟨fun c2 => ?_, fun c2 => ?_⟩⟩
  · have e : bI (a ≤ x ∧ x ≤ b) = 0 := if_neg (fun z => Int32.not_le.mpr c z.1)
    rwa [e] at h
  · have e : bI (a ≤ x ∧ x ≤ b) = 0 := if_neg (fun z => Int32.not_le.mpr c2 z.2)
    rwa [e] at h
  · have e : bI (a ≤ x ∧ x ≤ b) = 1 := if_pos ⟨Int32.not_lt.mp c, Int32.not_lt.mp c2⟩
    rwa [e] at h
theorem sp_X7_cells {M : MV} {S : AS} (hz : RZ (MV.z M) S) {Q : Int32 → MV → Prop} (h : Q (nI S.n) M) : wp_X7_cells M Q := by
  unfold wp_X7_cells
  rw [hz.1, hz.2.1, pk_mul]
  exact h
theorem sp_X7_edge {M : MV} {S : AS} (hz : RZ (MV.z M) S) (hI : Inv S) {t f k : Nat} (ht : t < 12) (hf : f < 2) (hk : k < 4) {Q : Int32 → MV → Prop} (h : Q (nI (dig (S.F (2 * t + f)) k)) M) : wp_X7_edge M (nI t) (nI f) (nI k) Q := by
  have hz4 := hz.2.2.2.2.1
  have hF := hI.2.2.2.2.1 (2 * t + f) (by omega)
  have e1 : (4 + 2 * nI t) + nI f = nI (4 + (2 * t + f)) := by
    rw [nn_lit 4, nn_lit 2, pk_mul, nI_add, nI_add, Nat.add_assoc]
  unfold wp_X7_edge
  rw [e1, nI_clamp (by omega), hz4 _ (by omega)]
  refine ⟨vp_in_nI (by omega) (by omega), fun x hx => ?_⟩
  subst hx
  rw [nn_lit 10, nn_lit 100, nn_lit 1000, nn_lit 0, nn_lit 1, nn_lit 2, pk_div (by omega) (by omega) (by omega), pk_div (by omega) (by omega) (by omega), pk_div (by omega) (by omega) (by omega), nn_rem (by omega) (by omega) (by omega), nn_rem (by omega) (by omega) (by omega), nn_rem (by omega) (by omega) (by omega)]
  unfold dig at h
  refine bn_if (nI_eq (by omega) (by omega)) (fun e => ?_) (fun e => bn_if (nI_eq (by omega) (by omega)) (fun e2 => ?_) (fun e2 => bn_if (nI_eq (by omega) (by omega)) (fun e3 => ?_) (fun e3 => ?_)))
  · rw [if_pos e] at h; exact h
  · rw [if_neg e, if_pos e2] at h; exact h
  · rw [if_neg e, if_neg e2, if_pos e3] at h; exact h
  · rw [if_neg e, if_neg e2, if_neg e3] at h; exact h
theorem sp_X7_colorOf {M : MV} {S : AS} (hz : RZ (MV.z M) S) (hI : Inv S) {p s : Nat} (hp : p < 96) (hs : s < 4) (b : Bool) {Q : Int32 → MV → Prop} (h : Q (nI (col S.F p s b)) M) : wp_X7_colorOf M (nI p) (nI s) (nI b.toNat) Q := by
  unfold wp_X7_colorOf
  intro x hx y hy
  rw [nn_lit 4, nn_lit 2, pk_div (by omega) (by omega) (by omega), nn_rem (by omega) (by omega) (by omega)] at hx
  rw [nn_lit 4, nn_rem (by omega) (by omega) (by omega)] at hy
  subst hx hy
  have e8 : nI p / 8 = nI (p / 8) := by rw [nn_lit 8, pk_div (by omega) (by omega) (by omega)]
  have e1 : jrem (nI s - nI (p % 4) + 4) 4 = nI ((s + 4 - p % 4) % 4) := by
    rw [nn_lit 4]
    have : nI s - nI (p % 4) + nI 4 = nI (s + 4 - p % 4) := by
      rw [← pk_sub (by omega), ← nI_add, Int32.sub_eq_add_neg, Int32.sub_eq_add_neg, Int32.add_assoc, Int32.add_comm (-nI (p % 4)), ← Int32.add_assoc]
    rw [this, nn_rem (by omega) (by omega) (by omega)]
  have e2 : jrem (jrem (4 - nI s) 4 + nI (p % 4)) 4 = nI (((4 - s) % 4 + p % 4) % 4) := by
    rw [nn_lit 4, pk_sub (by omega), nn_rem (by omega) (by omega) (by omega), nI_add, nn_rem (by omega) (by omega) (by omega)]
  have e3 : (1 : Int32) - nI (p / 4 % 2) = nI (1 - p / 4 % 2) := by rw [nn_lit 1, pk_sub (by omega)]
  rw [e8, e1, e2, e3]
  unfold col at h
  cases b with
  | false => exact bq_t rfl (sp_X7_edge hz hI (by omega) (by omega) (by omega) h)
  | true => exact bq_f (by decide) (sp_X7_edge hz hI (by omega) (by omega) (by omega) h)
theorem sp_X7_beyond {M : MV} {S : AS} (hz : RZ (MV.z M) S) (hI : Inv S) {k s : Nat} (hk : k < S.n) (hs : s < 4) {Q : Int32 → MV → Prop} (h : Q (enc (nb S.r S.c k s)) M) : wp_X7_beyond M (nI k) (nI s) Q := by
  have hn := hI.n12
  obtain ⟨⟨r1, r3⟩, ⟨c1, c4⟩, -⟩ := hI
  have hk2 : k < S.r * S.c := hk
  unfold wp_X7_beyond
  rw [hz.1, hz.2.1, nn_lit 0, nn_lit 1, nn_lit 2]
  have hc0 : ¬ nI S.c = nI 0 := fun e => by rw [nI_eq (by omega) (by omega)] at e; omega
  refine ⟨hc0, fun x hx => ⟨hc0, fun y hy => ?_⟩⟩
  rw [pk_div (by omega) (by omega) (by omega)] at hx
  rw [nn_rem (by omega) (by omega) (by omega)] at hy
  subst hx hy
  have hd := Nat.div_add_mod k S.c
  have hm := Nat.mod_lt k (show 0 < S.c by omega)
  have hq : k / S.c < S.r := Nat.div_lt_of_lt_mul (by rw [Nat.mul_comm]; exact hk2)
  have hmul : S.c * (k / S.c) + S.c ≤ S.r * S.c := by
    have := Nat.mul_le_mul_left S.c (Nat.succ_le_of_lt hq)
    rw [Nat.mul_succ] at this
    rw [Nat.mul_comm S.r S.c]
    exact this
  rw [pk_sub (a := S.c) (by omega), pk_sub (a := S.r) (by omega)]
  unfold nb at h
  refine ⟨fun e => ?_, fun e => ?_, fun e => ?_, fun e e1 e2 => ?_⟩
  · rw [nI_eq (by omega) (by omega)] at e
    rw [if_pos e] at h
    refine bn_if (nI_eq (by omega) (by omega)) (fun q => ?_) (fun q => ?_)
    · rw [if_pos (by rw [q, Nat.mul_zero] at hd; omega)] at h; exact h
    · have : S.c * 1 ≤ S.c * (k / S.c) := Nat.mul_le_mul_left _ (Nat.one_le_iff_ne_zero.mpr q)
      rw [if_neg (by omega)] at h
      rw [pk_sub (by omega)]; exact h
  · rw [nI_eq (by omega) (by omega)] at e
    rw [if_neg (by omega), if_pos e] at h
    refine bn_if (nI_eq (by omega) (by omega)) (fun q => ?_) (fun q => ?_)
    · rw [if_neg (by omega)] at h; exact h
    · rw [if_pos (by omega)] at h
      rw [nI_add]; exact h
  · rw [nI_eq (by omega) (by omega)] at e
    rw [if_neg (by omega), if_neg (by omega), if_pos e] at h
    refine bn_if (nI_eq (by omega) (by omega)) (fun q => ?_) (fun q => ?_)
    · have : S.c * (k / S.c) + S.c = S.r * S.c := by
        rw [q, ← Nat.mul_succ, Nat.mul_comm S.r]
        congr 1
        omega
      rw [if_neg (by omega)] at h; exact h
    · have : S.c * (k / S.c + 2) ≤ S.c * S.r := Nat.mul_le_mul_left _ (by omega)
      rw [Nat.mul_add, Nat.mul_comm S.c S.r] at this
      rw [if_pos (by omega)] at h
      rw [nI_add]; exact h
  · rw [nI_eq (by omega) (by omega)] at e e1 e2
    rw [if_neg e, if_neg e1, if_neg e2] at h
    refine bn_if (nI_eq (by omega) (by omega)) (fun q => ?_) (fun q => ?_)
    · rw [if_pos q] at h; exact h
    · rw [if_neg q] at h
      rw [pk_sub (by omega)]; exact h
theorem sp_X7_shown {M : MV} {S : AS} (hz : RZ (MV.z M) S) (hI : Inv S) {k s : Nat} (hk : k < S.n) (hs : s < 4) (b : Bool) {Q : Int32 → MV → Prop} (h : Q (enc (shown S k s b)) M) : wp_X7_shown M (nI k) (nI s) (nI b.toNat) Q := by
  unfold wp_X7_shown
  refine sp_X7_beyond hz hI hk hs ?_
  unfold shown at h
  cases hn : nb S.r S.c k s with
  | none =>
    simp only [hn] at h
    exact bq_t rfl h
  | some j =>
    simp only [hn] at h
    have hj : j < S.n := nb_lt hk hn
    have hn12 := hI.n12
    have hP := hz.2.2.2.2.2.1 j (by omega)
    have e28 : 28 + enc (some j) = nI (28 + j) := by rw [enc_some, nn_lit 28, nI_add]
    refine bq_f (nn_ne_m1 (by omega)) ?_
    rw [e28, nI_clamp (by omega), hP]
    refine ⟨vp_in_nI (by omega) (by omega), ?_⟩
    cases hp : S.P j with
    | none =>
      simp only [hp] at h
      exact bn_t rfl h
    | some q =>
      simp only [hp] at h
      have hq := hI.p96 hp
      refine bn_f (nn_ne_m1 (by omega)) ⟨vp_in_nI (by omega) (by omega), ?_⟩
      have es : jrem (nI s + 2) 4 = nI ((s + 2) % 4) := by rw [nn_lit 2, nn_lit 4, nI_add, nn_rem (by omega) (by omega) (by omega)]
      rw [es]
      exact sp_X7_colorOf hz hI hq.2 (by omega) b h
theorem sp_X7_isBadRim_35 {M : MV} {S : AS} (hz : RZ (MV.z M) S) (hI : Inv S) {k s : Nat} (hk : k < S.n) (hs : s < 4) (x : Bool) {Q : Int32 → MV → Prop} (h : Q (nI (decide (0 < S.ru) && ((nb S.r S.c k s).isNone && x)).toNat) M) : wp_X7_isBadRim_35 Q M (nI k) (nI s) (nI x.toNat) := by
  have hru := hI.2.2.1
  unfold wp_X7_isBadRim_35
  rw [hz.2.2.1, nn_lit 0]
  refine ek_if (nI_leI (by omega) (by omega)) (fun q => ?_) (fun q => ?_)
  · rw [show decide (0 < S.ru) = false from decide_eq_false (by omega)] at h
    exact h
  · rw [show decide (0 < S.ru) = true from decide_eq_true (by omega)] at h
    refine sp_X7_beyond hz hI hk hs ?_
    cases hn : nb S.r S.c k s with
    | none =>
      rw [hn] at h
      refine bn_t rfl ?_
      cases x with
      | false => exact bq_t rfl h
      | true => exact bq_f (by decide) h
    | some j =>
      rw [hn] at h
      have hn12 := hI.n12
      have := nb_lt hk hn
      have hj : j < S.n := this
      exact bn_f (nn_ne_m1 (by omega)) h
theorem sp_X7_isBadRim {M : MV} {S : AS} (hz : RZ (MV.z M) S) (hI : Inv S) {k p s : Nat} (hk : k < S.n) (hp : p < 96) (hs : s < 4) {Q : Int32 → MV → Prop} (h : Q (nI (badRim S k p s).toNat) M) : wp_X7_isBadRim M (nI k) (nI p) (nI s) Q := by
  have hru := hI.2.2.1
  have hF := hI.2.2.2.2.1
  have c0 := col_lt hF hp s false
  have c1 := col_lt hF hp s true
  unfold badRim at h
  unfold wp_X7_isBadRim
  refine sp_X7_colorOf hz hI hp hs false ?_
  rw [hz.2.2.1, nn_lit 2]
  refine bn_if (nn_eq0 (by omega)) (fun q => ?_) (fun q => ?_)
  · rw [show (col S.F p s false != 0) = false by simp [q]] at h
    refine bn_if (nI_eq (by omega) (by omega)) (fun e => ?_) (fun e => ?_)
    · rw [show (S.ru == 2) = true by simp [e]] at h
      refine sp_X7_colorOf hz hI hp hs true ?_
      refine ek_if (nn_eq0 (by omega)) (fun q1 => ?_) (fun q1 => ?_)
      · rw [show (col S.F p s true != 0) = false by simp [q1]] at h
        exact sp_X7_isBadRim_35 hz hI hk hs false h
      · rw [show (col S.F p s true != 0) = true by simp [q1]] at h
        exact sp_X7_isBadRim_35 hz hI hk hs true h
    · rw [show (S.ru == 2) = false by simp [e]] at h
      exact sp_X7_isBadRim_35 hz hI hk hs false h
  · rw [show (col S.F p s false != 0) = true by simp [q]] at h
    exact sp_X7_isBadRim_35 hz hI hk hs true h
theorem shown_lt {S : AS} (hI : Inv S) {k s x : Nat} {b : Bool} (h : shown S k s b = some x) : x < 10 := by
  unfold shown at h
  split at h
  · cases h
  · split at h
    · cases h
    · next q hq =>
      cases h
      exact col_lt hI.2.2.2.2.1 (hI.p96 hq).2 _ _
theorem sp_X7_isUnlike {M : MV} {S : AS} (hz : RZ (MV.z M) S) (hI : Inv S) {k p s : Nat} (hk : k < S.n) (hp : p < 96) (hs : s < 4) (b : Bool) {Q : Int32 → MV → Prop} (h : Q (nI (unlike S k p b s).toNat) M) : wp_X7_isUnlike M (nI k) (nI p) (nI s) (nI b.toNat) Q := by
  unfold unlike at h
  unfold wp_X7_isUnlike
  refine sp_X7_shown hz hI hk hs b ?_
  cases hq : shown S k s b with
  | none =>
    simp only [hq] at h
    exact bq_t rfl h
  | some x =>
    simp only [hq] at h
    have hx := shown_lt hI hq
    refine bq_f (nn_ne_m1 (by omega)) ?_
    refine sp_X7_colorOf hz hI hp hs b ?_
    have hc := col_lt hI.2.2.2.2.1 hp s b
    rw [enc_some]
    refine ek_if (nI_eq (by omega) (by omega)) (fun e => ?_) (fun e => ?_)
    · rw [show (x != col S.F p s b) = false by simp [e]] at h
      exact h
    · rw [show (x != col S.F p s b) = true by simp [e]] at h
      exact h
theorem sp_X7_isBadZero_35 {M : MV} {S : AS} (hz : RZ (MV.z M) S) (hI : Inv S) {k s : Nat} (hk : k < S.n) (hs : s < 4) (x : Bool) {Q : Int32 → MV → Prop} (h : Q (nI (decide (0 < S.ru) && ((shown S k s false).isSome && x)).toNat) M) : wp_X7_isBadZero_35 Q M (nI k) (nI s) (nI x.toNat) := by
  have hru := hI.2.2.1
  unfold wp_X7_isBadZero_35
  rw [hz.2.2.1, nn_lit 0]
  refine ek_if (nI_leI (by omega) (by omega)) (fun q => ?_) (fun q => ?_)
  · rw [show decide (0 < S.ru) = false from decide_eq_false (by omega)] at h
    exact h
  · rw [show decide (0 < S.ru) = true from decide_eq_true (by omega)] at h
    refine sp_X7_shown hz hI hk hs false ?_
    cases hn : shown S k s false with
    | none =>
      rw [hn] at h
      exact bq_t rfl h
    | some j =>
      rw [hn] at h
      have hj := shown_lt hI hn
      refine bq_f (nn_ne_m1 (by omega)) ?_
      cases x with
      | false => exact bq_t rfl h
      | true => exact bq_f (by decide) h
theorem sp_X7_isBadZero {M : MV} {S : AS} (hz : RZ (MV.z M) S) (hI : Inv S) {k p s : Nat} (hk : k < S.n) (hp : p < 96) (hs : s < 4) {Q : Int32 → MV → Prop} (h : Q (nI (badZero S k p s).toNat) M) : wp_X7_isBadZero M (nI k) (nI p) (nI s) Q := by
  have hru := hI.2.2.1
  have hF := hI.2.2.2.2.1
  have c0 := col_lt hF hp s false
  have c1 := col_lt hF hp s true
  unfold badZero at h
  unfold wp_X7_isBadZero
  refine sp_X7_colorOf hz hI hp hs false ?_
  rw [hz.2.2.1, nn_lit 2]
  refine ek_if (nn_eq0 (by omega)) (fun q => ?_) (fun q => ?_)
  · rw [show (col S.F p s false == 0) = true by simp [q]] at h
    exact sp_X7_isBadZero_35 hz hI hk hs true h
  · rw [show (col S.F p s false == 0) = false by simp [q]] at h
    refine bn_if (nI_eq (by omega) (by omega)) (fun e => ?_) (fun e => ?_)
    · rw [show (S.ru == 2) = true by simp [e]] at h
      refine sp_X7_colorOf hz hI hp hs true ?_
      refine bn_if (nn_eq0 (by omega)) (fun q1 => ?_) (fun q1 => ?_)
      · rw [show (col S.F p s true == 0) = true by simp [q1]] at h
        exact sp_X7_isBadZero_35 hz hI hk hs true h
      · rw [show (col S.F p s true == 0) = false by simp [q1]] at h
        exact sp_X7_isBadZero_35 hz hI hk hs false h
    · rw [show (S.ru == 2) = false by simp [e]] at h
      exact sp_X7_isBadZero_35 hz hI hk hs false h
def own (S : AS) (k p s : Nat) : Nat := if badRim S k p s then 3 else if unlike S k p false s then 4 else if unlike S k p true s then 5 else if badZero S k p s then 6 else 7
def leastN (S : AS) (k p : Nat) : Nat → Nat
  | 0 => 7
  | n + 1 => min (own S k p n) (leastN S k p n)
theorem own_le (S : AS) (k p s : Nat) : own S k p s ≤ 7 := by
  unfold own
  repeat' split
  all_goals omega
theorem leastN_le (S : AS) (k p : Nat) : ∀ n, leastN S k p n ≤ 7
  | 0 => Nat.le_refl 7
  | n + 1 => by
    have := leastN_le S k p n
    show min (own S k p n) (leastN S k p n) ≤ 7
    omega
theorem any4_t {f : Nat → Bool} (h : any4 f = true) : f 0 = true ∨ f 1 = true ∨ f 2 = true ∨ f 3 = true := by
  unfold any4 at h
  simpa using h
theorem any4_f {f : Nat → Bool} (h : ¬ any4 f = true) : f 0 = false ∧ f 1 = false ∧ f 2 = false ∧ f 3 = false := by
  unfold any4 at h
  simpa using h
theorem misfit_least (S : AS) (k p : Nat) : misfit S k p = if leastN S k p 4 = 7 then 0 else leastN S k p 4 := by
  have e4 : leastN S k p 4 = min (own S k p 3) (min (own S k p 2) (min (own S k p 1) (min (own S k p 0) 7))) := rfl
  rw [e4]
  have ha : ∀ s, badRim S k p s = true → own S k p s = 3 := fun s h => if_pos h
  have hge : ∀ s, 3 ≤ own S k p s := fun s => by unfold own; repeat' split
                                                 all_goals omega
  have hna : ∀ s, badRim S k p s = false → 4 ≤ own S k p s := fun s h => by
    unfold own
    rw [if_neg (by rw [h]; exact Bool.false_ne_true)]
    repeat' split
    all_goals omega
  have hb : ∀ s, badRim S k p s = false → unlike S k p false s = true → own S k p s = 4 := fun s h h2 => by
    unfold own
    rw [if_neg (by rw [h]; exact Bool.false_ne_true), if_pos h2]
  have hnb : ∀ s, badRim S k p s = false → unlike S k p false s = false → 5 ≤ own S k p s := fun s h h2 => by
    unfold own
    rw [if_neg (by rw [h]; exact Bool.false_ne_true), if_neg (by rw [h2]; exact Bool.false_ne_true)]
    repeat' split
    all_goals omega
  have hc : ∀ s, badRim S k p s = false → unlike S k p false s = false → unlike S k p true s = true → own S k p s = 5 := fun s h h2 h3 => by
    unfold own
    rw [if_neg (by rw [h]; exact Bool.false_ne_true), if_neg (by rw [h2]; exact Bool.false_ne_true), if_pos h3]
  have hnc : ∀ s, badRim S k p s = false → unlike S k p false s = false → unlike S k p true s = false → own S k p s = if badZero S k p s = true then 6 else 7 := fun s h h2 h3 => by
    unfold own
    rw [if_neg (by rw [h]; exact Bool.false_ne_true), if_neg (by rw [h2]; exact Bool.false_ne_true), if_neg (by rw [h3]; exact Bool.false_ne_true)]
  have g0 := hge 0; have g1 := hge 1; have g2 := hge 2; have g3 := hge 3
  unfold misfit
  split
  · next h =>
    have : min (own S k p 3) (min (own S k p 2) (min (own S k p 1) (min (own S k p 0) 7))) = 3 := by
      rcases any4_t h with h | h | h | h
      · have := ha 0 h; omega
      · have := ha 1 h; omega
      · have := ha 2 h; omega
      · have := ha 3 h; omega
    rw [this]; rfl
  · next h =>
    obtain ⟨a0, a1, a2, a3⟩ := any4_f h
    have g0 := hna 0 a0; have g1 := hna 1 a1; have g2 := hna 2 a2; have g3 := hna 3 a3
    split
    · next h =>
      have : min (own S k p 3) (min (own S k p 2) (min (own S k p 1) (min (own S k p 0) 7))) = 4 := by
        rcases any4_t h with h | h | h | h
        · have := hb 0 a0 h; omega
        · have := hb 1 a1 h; omega
        · have := hb 2 a2 h; omega
        · have := hb 3 a3 h; omega
      rw [this]; rfl
    · next h =>
      obtain ⟨b0, b1, b2, b3⟩ := any4_f h
      have g0 := hnb 0 a0 b0; have g1 := hnb 1 a1 b1; have g2 := hnb 2 a2 b2; have g3 := hnb 3 a3 b3
      split
      · next h =>
        have : min (own S k p 3) (min (own S k p 2) (min (own S k p 1) (min (own S k p 0) 7))) = 5 := by
          rcases any4_t h with h | h | h | h
          · have := hc 0 a0 b0 h; omega
          · have := hc 1 a1 b1 h; omega
          · have := hc 2 a2 b2 h; omega
          · have := hc 3 a3 b3 h; omega
        rw [this]; rfl
      · next h =>
        obtain ⟨c0, c1, c2, c3⟩ := any4_f h
        have q0 := hnc 0 a0 b0 c0; have q1 := hnc 1 a1 b1 c1; have q2 := hnc 2 a2 b2 c2; have q3 := hnc 3 a3 b3 c3
        split
        · next h =>
          have l0 := own_le S k p 0; have l1 := own_le S k p 1; have l2 := own_le S k p 2; have l3 := own_le S k p 3
          have m0 : 6 ≤ own S k p 0 := by rw [q0]; split <;> omega
          have m1 : 6 ≤ own S k p 1 := by rw [q1]; split <;> omega
          have m2 : 6 ≤ own S k p 2 := by rw [q2]; split <;> omega
          have m3 : 6 ≤ own S k p 3 := by rw [q3]; split <;> omega
          have : min (own S k p 3) (min (own S k p 2) (min (own S k p 1) (min (own S k p 0) 7))) = 6 := by
            rcases any4_t h with h | h | h | h
            · rw [if_pos h] at q0; omega
            · rw [if_pos h] at q1; omega
            · rw [if_pos h] at q2; omega
            · rw [if_pos h] at q3; omega
          rw [this]; rfl
        · next h =>
          obtain ⟨d0, d1, d2, d3⟩ := any4_f h
          rw [if_neg (by rw [d0]; exact Bool.false_ne_true)] at q0
          rw [if_neg (by rw [d1]; exact Bool.false_ne_true)] at q1
          rw [if_neg (by rw [d2]; exact Bool.false_ne_true)] at q2
          rw [if_neg (by rw [d3]; exact Bool.false_ne_true)] at q3
          rw [q0, q1, q2, q3]; rfl
theorem sp_X7_misfit {M : MV} {S : AS} (hz : RZ (MV.z M) S) (hI : Inv S) {k p : Nat} (hk : k < S.n) (hp : p < 96) {Q : Int32 → MV → Prop} (h : Q (nI (misfit S k p)) M) : wp_X7_misfit M (nI k) (nI p) Q := by
  unfold wp_X7_misfit
  intro P hP
  have key : ∀ d s : Nat, s + d = 4 → P M (nI k) (nI p) (nI (leastN S k p s)) (nI s) := by
    intro d
    induction d with
    | zero =>
      intro s hs
      obtain rfl : s = 4 := by omega
      apply hP
      unfold bd_X7_misfit_6
      rw [nn_lit 4]
      have hl := leastN_le S k p 4
      refine bq_t ((nI_leI (by omega) (by omega)).mpr (Nat.le_refl 4)) ?_
      rw [misfit_least] at h
      rw [nn_lit 7]
      refine bn_if (nI_eq (by omega) (by omega)) (fun e => ?_) (fun e => ?_)
      · rw [if_pos e] at h; exact h
      · rw [if_neg e] at h; exact h
    | succ d ih =>
      intro s hs
      have hl := leastN_le S k p s
      have step : ∀ o : Nat, o = own S k p s → o ≤ 7 → wp_X7_misfit_77 P (fun (M_16 : MV) (x3_17 : Int32) => (¬ x3_17 = 7 → Q x3_17 M_16) ∧ (x3_17 = 7 → Q 0 M_16)) Q M (nI k) (nI p) (nI (leastN S k p s)) (nI s) (nI o) := by
        intro o ho ho7
        have hnx := ih (s + 1) (by omega)
        have e : leastN S k p (s + 1) = min o (leastN S k p s) := by rw [ho]; rfl
        rw [e] at hnx
        unfold wp_X7_misfit_77 wp_X7_misfit_91
        refine ek_if (nI_leI (by omega) (by omega)) (fun q => ?_) (fun q => ?_)
        · intro y hy
          rw [nI_1] at hy
          subst hy
          rw [show min o (leastN S k p s) = leastN S k p s by omega] at hnx
          exact hnx
        · intro y hy
          rw [nI_1] at hy
          subst hy
          rw [show min o (leastN S k p s) = o by omega] at hnx
          exact hnx
      apply hP
      unfold bd_X7_misfit_6
      rw [nn_lit 4]
      refine bq_f (fun z => by rw [nI_leI (by omega) (by omega)] at z; omega) ?_
      refine sp_X7_isBadRim hz hI hk hp (by omega) ?_
      cases h1 : badRim S k p s with
      | true => exact bq_f (by decide) (step 3 (by unfold own; rw [if_pos h1]) (by omega))
      | false =>
        refine bq_t rfl ?_
        refine sp_X7_isUnlike hz hI hk hp (by omega) false ?_
        cases h2 : unlike S k p false s with
        | true => exact bq_f (by decide) (step 4 (by unfold own; rw [if_neg (by rw [h1]; exact Bool.false_ne_true), if_pos h2]) (by omega))
        | false =>
          refine bq_t rfl ?_
          refine sp_X7_isUnlike hz hI hk hp (by omega) true ?_
          cases h3 : unlike S k p true s with
          | true => exact bq_f (by decide) (step 5 (by unfold own; rw [if_neg (by rw [h1]; exact Bool.false_ne_true), if_neg (by rw [h2]; exact Bool.false_ne_true), if_pos h3]) (by omega))
          | false =>
            refine bq_t rfl ?_
            refine sp_X7_isBadZero hz hI hk hp (by omega) ?_
            cases h4 : badZero S k p s with
            | true => exact bq_f (by decide) (step 6 (by unfold own; rw [if_neg (by rw [h1]; exact Bool.false_ne_true), if_neg (by rw [h2]; exact Bool.false_ne_true), if_neg (by rw [h3]; exact Bool.false_ne_true), if_pos h4]) (by omega))
            | false => exact bq_t rfl (step 7 (by unfold own; rw [if_neg (by rw [h1]; exact Bool.false_ne_true), if_neg (by rw [h2]; exact Bool.false_ne_true), if_neg (by rw [h3]; exact Bool.false_ne_true), if_neg (by rw [h4]; exact Bool.false_ne_true)]) (by omega))
  exact key 4 0 rfl
theorem cellOfN_lt {S : AS} {t : Nat} : ∀ {n k : Nat}, cellOfN S t n = some k → k < n
  | 0, k, h => by cases h
  | n + 1, k, h => by
    unfold cellOfN at h
    split at h
    · split at h
      · cases h; omega
      · have := cellOfN_lt h; omega
    · have := cellOfN_lt h; omega
theorem sp_X7_cellOf {M : MV} {S : AS} (hz : RZ (MV.z M) S) (hI : Inv S) {t : Nat} (ht : t < 2 ^ 28) {Q : Int32 → MV → Prop} (h : Q (enc (cellOf S t)) M) : wp_X7_cellOf M (nI t) Q := by
  unfold wp_X7_cellOf
  have hn := hI.n12
  intro P hP
  have key : ∀ d k : Nat, k + d = S.n → P M (nI t) (enc (cellOfN S t k)) (nI k) := by
    intro d
    induction d with
    | zero =>
      intro k hk
      apply hP
      unfold bd_X7_cellOf_4
      refine sp_X7_cells hz ?_
      refine bq_t ((nI_leI (by omega) (by omega)).mpr (by omega)) ?_
      rw [show k = S.n by omega]
      exact h
    | succ d ih =>
      intro k hk
      have hnx := ih (k + 1) (by omega)
      apply hP
      unfold bd_X7_cellOf_4
      refine sp_X7_cells hz ?_
      refine bq_f (fun z => by rw [nI_leI (by omega) (by omega)] at z; omega) ?_
      rw [nn_lit 28, nI_add, nI_clamp (by omega), hz.2.2.2.2.2.1 k (by omega)]
      refine ⟨vp_in_nI (by omega) (by omega), ?_⟩
      unfold wp_X7_cellOf_45 wp_X7_cellOf_46
      unfold cellOfN at hnx
      cases hp : S.P k with
      | none =>
        simp only [hp] at hnx
        refine bq_t rfl ?_
        intro y hy
        rw [nI_1] at hy
        subst hy
        exact hnx
      | some q =>
        simp only [hp] at hnx
        have hq := hI.p96 hp
        refine bq_f (nn_ne_m1 (by omega)) ⟨vp_in_nI (by omega) (by omega), ?_⟩
        rw [enc_some, nn_lit 8, pk_div (by omega) (by omega) (by omega)]
        refine bn_if (nI_eq (by omega) (by omega)) (fun e => ?_) (fun e => ?_)
        · rw [if_pos e] at hnx
          intro y hy
          rw [nI_1] at hy
          subst hy
          exact hnx
        · rw [if_neg e] at hnx
          intro y hy
          rw [nI_1] at hy
          subst hy
          exact hnx
  exact key S.n 0 (by omega)
theorem misfit_le (S : AS) (k p : Nat) : misfit S k p ≤ 6 := by
  unfold misfit
  repeat' split
  all_goals omega
theorem why_le (S : AS) (k p : Nat) : why S k p ≤ 6 := by
  have := misfit_le S k p
  unfold why
  repeat' split
  all_goals omega
theorem sp_X7_whyNot {M : MV} {S : AS} (hz : RZ (MV.z M) S) (hI : Inv S) {k p : Nat} (hk : k < S.n) (hp : p < 96) {Q : Int32 → MV → Prop} (h : Q (nI (why S k p)) M) : wp_X7_whyNot M (nI k) (nI p) Q := by
  have hn := hI.n12
  unfold wp_X7_whyNot
  rw [nn_lit 28, nI_add, nI_clamp (by omega), hz.2.2.2.2.2.1 k (by omega), nn_lit 8, pk_div (by omega) (by omega) (by omega)]
  refine ⟨vp_in_nI (by omega) (by omega), ?_⟩
  unfold why at h
  cases hP : S.P k with
  | none =>
    rw [hP] at h
    refine bq_t rfl ?_
    refine sp_X7_cellOf hz hI (by omega) ?_
    cases hc : cellOf S (p / 8) with
    | none =>
      rw [hc] at h
      exact bq_t rfl (sp_X7_misfit hz hI hk hp h)
    | some j =>
      rw [hc] at h
      have hj := cellOfN_lt hc
      exact bq_f (nn_ne_m1 (by omega)) h
  | some q =>
    rw [hP] at h
    have hq := hI.p96 hP
    exact bq_f (nn_ne_m1 (by omega)) h
theorem pfN_lt {S : AS} {k : Nat} : ∀ {n p q : Nat}, pfN S k n p = some q → p ≤ q ∧ q < p + n ∧ why S k q = 0
  | 0, p, q, h => by cases h
  | n + 1, p, q, h => by
    unfold pfN at h
    split at h
    · next e => cases h; exact ⟨Nat.le_refl _, by omega, e⟩
    · have := pfN_lt h; exact ⟨by omega, by omega, this.2.2⟩
theorem pf_lt {S : AS} {k p q : Nat} (h : pf S k p = some q) : p ≤ q ∧ q < 8 * S.t ∧ why S k q = 0 := by
  have := pfN_lt h
  exact ⟨this.1, by omega, this.2.2⟩
theorem sp_X7_possibleFrom {M : MV} {S : AS} (hz : RZ (MV.z M) S) (hI : Inv S) {k p : Nat} (hk : k < S.n) (hp : p ≤ 96) {Q : Int32 → MV → Prop} (h : Q (enc (pf S k p)) M) : wp_X7_possibleFrom M (nI k) (nI p) Q := by
  have ht := hI.2.2.2.1
  unfold wp_X7_possibleFrom
  intro P hP
  have key : ∀ d q : Nat, 8 * S.t - q = d → q ≤ 96 → Q (enc (pfN S k d q)) M → P M (nI k) (nI q) := by
    intro d
    induction d with
    | zero =>
      intro q hq hq2 h
      apply hP
      unfold bd_X7_possibleFrom_2
      rw [hz.2.2.2.1, nn_lit 8, pk_mul]
      exact bq_t ((nI_leI (by omega) (by omega)).mpr (by omega)) h
    | succ d ih =>
      intro q hq hq2 h
      apply hP
      unfold bd_X7_possibleFrom_2
      rw [hz.2.2.2.1, nn_lit 8, pk_mul]
      refine bq_f (fun z => by rw [nI_leI (by omega) (by omega)] at z; omega) ?_
      refine sp_X7_whyNot hz hI hk (by omega) ?_
      have hw := why_le S k q
      unfold pfN at h
      refine bn_if (nn_eq0 (by omega)) (fun e => ?_) (fun e => ?_)
      · rw [if_pos e] at h; exact h
      · rw [if_neg e] at h
        intro y hy
        rw [nI_1] at hy
        subst hy
        exact ih (q + 1) (by omega) (by omega) h
  exact key _ p rfl hp h
theorem cnt_le (f : Nat → Bool) : ∀ n, cnt f n ≤ n
  | 0 => Nat.le_refl 0
  | n + 1 => by
    have := cnt_le f n
    have h2 : (f n).toNat ≤ 1 := Bool.toNat_le _
    show cnt f n + (f n).toNat ≤ n + 1
    omega
theorem sp_X7_possibleMany {M : MV} {S : AS} (hz : RZ (MV.z M) S) (hI : Inv S) {k : Nat} (hk : k < S.n) {Q : Int32 → MV → Prop} (h : Q (nI (pm S k)) M) : wp_X7_possibleMany M (nI k) Q := by
  have ht := hI.2.2.2.1
  unfold wp_X7_possibleMany
  intro P hP
  have key : ∀ d q : Nat, q + d = 8 * S.t → P M (nI k) (nI (cnt (fun p => why S k p == 0) q)) (nI q) := by
    intro d
    induction d with
    | zero =>
      intro q hq
      apply hP
      unfold bd_X7_possibleMany_4
      rw [hz.2.2.2.1, nn_lit 8, pk_mul]
      refine bq_t ((nI_leI (by omega) (by omega)).mpr (by omega)) ?_
      rw [show q = 8 * S.t by omega]
      exact h
    | succ d ih =>
      intro q hq
      have hnx := ih (q + 1) (by omega)
      have hw := why_le S k q
      apply hP
      unfold bd_X7_possibleMany_4
      rw [hz.2.2.2.1, nn_lit 8, pk_mul]
      refine bq_f (fun z => by rw [nI_leI (by omega) (by omega)] at z; omega) ?_
      refine sp_X7_whyNot hz hI hk (by omega) ?_
      have step : ∀ b : Bool, b = (why S k q == 0) → wp_X7_possibleMany_32 P Q M (nI k) (nI q) (nI (cnt (fun p => why S k p == 0) q)) (nI b.toNat) := by
        intro b hb x hx y hy
        rw [nI_add] at hx
        rw [nI_1] at hy
        subst hx hy hb
        exact hnx
      refine bn_if (nn_eq0 (by omega)) (fun e => ?_) (fun e => ?_)
      · exact step true (by simp [e])
      · exact step false (by simp [e])
  exact key (8 * S.t) 0 (by omega)
