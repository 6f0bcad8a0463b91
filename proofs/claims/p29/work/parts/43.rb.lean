/-! THE CLASS: its board -/
def RB (v : BV) (S : AS) : Prop :=
  (BV.rows v = nI S.r ∧ BV.columns v = nI S.c ∧ BV.rule v = nI S.ru ∧ BV.tiles v = nI S.t) ∧ (∃ m, m < 4096 ∧ BV.fixed v = nI m ∧ ∀ k, k < 12 → bitN m k = (S.X k).toNat) ∧ (∀ k, k < 12 → BV.placings v k = enc (S.P k)) ∧ (∀ t, t < 12 → BV.places v t = enc (cellOf S t)) ∧ (∀ p, p < 8 * S.t → BV.looks v p = nI (pkN 8 (lk S.F p)))
theorem cellOfN_congr {S T : AS} {t : Nat} (h : ∀ k, T.P k = S.P k) : ∀ n, cellOfN T t n = cellOfN S t n
  | 0 => rfl
  | n + 1 => by
    unfold cellOfN
    rw [h n, cellOfN_congr h n]
theorem cellOf_congr {S T : AS} {t : Nat} (h : ∀ k, T.P k = S.P k) (hn : T.n = S.n) : cellOf T t = cellOf S t := by
  unfold cellOf
  rw [hn]
  exact cellOfN_congr h _
theorem cellOfN_ex {S : AS} {t : Nat} : ∀ {n k : Nat}, cellOfN S t n = some k → ∃ p, S.P k = some p ∧ p / 8 = t
  | 0, k, h => by cases h
  | n + 1, k, h => by
    unfold cellOfN at h
    split at h
    · next p hp =>
      split at h
      · next e => cases h; exact ⟨p, hp, e⟩
      · exact cellOfN_ex h
    · exact cellOfN_ex h
theorem cellOf_none {S : AS} (hI : Inv S) {t : Nat} (h : cellOf S t = none) {k p : Nat} (hp : S.P k = some p) : p / 8 ≠ t := cellOfN_none h k p (hI.2.2.2.2.2.1 k p hp).1 hp
theorem cellOf_some {S : AS} (hI : Inv S) {k p : Nat} (hp : S.P k = some p) : cellOf S (p / 8) = some k := by
  cases h : cellOf S (p / 8) with
  | none => exact absurd rfl (cellOf_none hI h hp)
  | some j =>
    obtain ⟨q, hq, e⟩ := cellOfN_ex h
    rw [hI.2.2.2.2.2.2.1 j k q p hq hp e]
theorem cellOf_eq {S T : AS} (hS : Inv S) (hT : Inv T) {t : Nat} (h : ∀ k q, q / 8 = t → (S.P k = some q ↔ T.P k = some q)) : cellOf T t = cellOf S t := by
  cases e : cellOf S t with
  | some k =>
    obtain ⟨q, hq, eq⟩ := cellOfN_ex e
    have := cellOf_some hT ((h k q eq).mp hq)
    rw [eq] at this
    exact this
  | none =>
    cases e2 : cellOf T t with
    | none => rfl
    | some k =>
      obtain ⟨q, hq, eq⟩ := cellOfN_ex e2
      exact absurd eq (cellOf_none hS e ((h k q eq).mpr hq))
theorem Inv.sub {S T : AS} (h : Inv S) (e : T.r = S.r ∧ T.c = S.c ∧ T.ru = S.ru ∧ T.t = S.t ∧ T.F = S.F ∧ T.X = S.X) (g : ∀ k p, T.P k = some p → S.P k = some p) : Inv T := by
  obtain ⟨h1, h2, h3, h4, h5, h6, h7, h8⟩ := h
  obtain ⟨e1, e2, e3, e4, e5, e6⟩ := e
  have en : T.n = S.n := by unfold AS.n; rw [e1, e2]
  refine ⟨by rw [e1]; exact h1, by rw [e2]; exact h2, by rw [e3]; exact h3, by rw [e4]; exact h4, by rw [e5]; exact h5, fun k p hp => ?_, fun k k' p p' hp hp' => h7 k k' p p' (g k p hp) (g k' p' hp'), fun k hk => ?_⟩
  · rw [en, e4]; exact h6 k p (g k p hp)
  · rw [en]; rw [e6] at hk; exact h8 k hk
theorem sp_X0_copyFrom {v w : BV} {T : AS} (hw : RB w T) (hT : Inv T) {Q : BV → BV → Prop} (h : ∀ v', RB v' T → Q v' w) : wp_X0_copyFrom v w Q := by
  obtain ⟨⟨b1, b2, b3, b4⟩, ⟨m, m1, m2, m3⟩, b6, b7, b8⟩ := hw
  have ht := hT.2.2.2.1
  intro f1 e1 f2 e2 f3 e3 f4 e4 f5 e5 p6 e6 p7 e7 l8 e8
  refine h _ ⟨⟨e1.trans b1, e2.trans b2, e3.trans b3, e4.trans b4⟩, ⟨m, m1, e5.trans m2, m3⟩, fun k hk => ?_, fun t ht' => ?_, fun p hp => ?_⟩
  · show p6 k = _
    rw [e6, pk_cpy_in (Nat.zero_le k) (by omega), Nat.sub_zero, Nat.zero_add]
    exact b6 k hk
  · show p7 t = _
    rw [e7, pk_cpy_in (Nat.zero_le t) (by omega), Nat.sub_zero, Nat.zero_add]
    exact b7 t ht'
  · show l8 p = _
    rw [e8, pk_cpy_in (Nat.zero_le p) (by omega), Nat.sub_zero, Nat.zero_add]
    exact b8 p hp
theorem sp_X0_cells {v : BV} {S : AS} (hv : RB v S) {Q : Int32 → BV → Prop} (h : Q (nI S.n) v) : wp_X0_cells v Q := by
  obtain ⟨⟨b1, b2, -, -⟩, -⟩ := hv
  unfold wp_X0_cells
  rw [b1, b2, pk_mul]
  exact h
theorem sp_X0_hasCell {v : BV} {S : AS} (hv : RB v S) (hI : Inv S) {x : Int32} {Q : Int32 → BV → Prop} (h1 : ∀ k, k < S.n → x = nI k → Q 1 v) (h0 : ¬ (∃ k, k < S.n ∧ x = nI k) → Q 0 v) : wp_X0_hasCell v x Q := by
  have hn := hI.n12
  unfold wp_X0_hasCell
  refine ⟨fun z => h0 (fun ⟨k, k1, k2⟩ => ?_), fun z => sp_X0_cells hv ?_⟩
  · rw [k2] at z
    exact nI_pos (by omega) z
  · obtain ⟨k, hk, rfl⟩ := nI_of z
    refine ek_if (nI_leI (by omega) hk) (fun e => h0 (fun ⟨j, j1, j2⟩ => ?_)) (fun e => h1 k (by omega) rfl)
    rw [nI_eq hk (by omega)] at j2
    omega
theorem sp_X0_hasPlacing {v : BV} {S : AS} (hv : RB v S) (hI : Inv S) {x : Int32} {Q : Int32 → BV → Prop} (h1 : ∀ p, p < 8 * S.t → x = nI p → Q 1 v) (h0 : ¬ (∃ p, p < 8 * S.t ∧ x = nI p) → Q 0 v) : wp_X0_hasPlacing v x Q := by
  have ht := hI.2.2.2.1
  unfold wp_X0_hasPlacing
  rw [hv.1.2.2.2, nn_lit 8, pk_mul]
  refine ⟨fun z => h0 (fun ⟨k, k1, k2⟩ => ?_), fun z => ?_⟩
  · rw [k2] at z
    exact nI_pos (by omega) z
  · obtain ⟨k, hk, rfl⟩ := nI_of z
    refine ek_if (nI_leI (by omega) hk) (fun e => h0 (fun ⟨j, j1, j2⟩ => ?_)) (fun e => h1 k (by omega) rfl)
    rw [nI_eq hk (by omega)] at j2
    omega
theorem sp_X0_isEmpty {v : BV} {S : AS} (hv : RB v S) (hI : Inv S) {k : Nat} (hk : k < 12) {Q : Int32 → BV → Prop} (h1 : S.P k = none → Q 1 v) (h0 : ∀ p, S.P k = some p → Q 0 v) : wp_X0_isEmpty v (nI k) Q := by
  unfold wp_X0_isEmpty
  rw [nI_clamp (by omega), hv.2.2.1 k hk]
  refine ⟨vp_in_nI hk (by omega), ?_⟩
  cases e : S.P k with
  | none => exact bn_t rfl (h1 e)
  | some p =>
    have := hI.p96 e
    exact bn_f (nn_ne_m1 (by omega)) (h0 p e)
theorem sp_X0_isFixed {v : BV} {S : AS} (hv : RB v S) {k : Nat} (hk : k < 12) {Q : Int32 → BV → Prop} (h1 : S.X k = true → Q 1 v) (h0 : S.X k = false → Q 0 v) : wp_X0_isFixed v (nI k) Q := by
  obtain ⟨-, ⟨m, m1, m2, m3⟩, -⟩ := hv
  unfold wp_X0_isFixed
  rw [m2, bit_row (by omega) (by omega), m3 k hk]
  cases e : S.X k with
  | true => exact bn_t rfl (h1 e)
  | false => exact bn_f (by decide) (h0 e)
theorem sp_X0_isLaid {v : BV} {S : AS} (hv : RB v S) (hI : Inv S) {t : Nat} (ht : t < 12) {Q : Int32 → BV → Prop} (h1 : ∀ k, cellOf S t = some k → Q 1 v) (h0 : cellOf S t = none → Q 0 v) : wp_X0_isLaid v (nI t) Q := by
  have hn := hI.n12
  unfold wp_X0_isLaid
  rw [nI_clamp (by omega), hv.2.2.2.1 t ht]
  refine ⟨vp_in_nI ht (by omega), ?_⟩
  cases e : cellOf S t with
  | none => exact bq_t rfl (h0 e)
  | some k =>
    have := cellOfN_lt e
    exact bq_f (nn_ne_m1 (by omega)) (h1 k e)
theorem sp_X0_lookIn {v : BV} {S : AS} (hv : RB v S) (hI : Inv S) {k p : Nat} (e : S.P k = some p) {Q : Int32 → BV → Prop} (h : Q (nI (pkN 8 (lk S.F p))) v) : wp_X0_lookIn v (nI k) Q := by
  have h9 := hI.p96 e
  have h8 := (hI.2.2.2.2.2.1 k p e).2
  unfold wp_X0_lookIn
  rw [nI_clamp (by omega), hv.2.2.1 k h9.1, e, enc_some, nI_clamp (by omega), hv.2.2.2.2 p h8]
  exact ⟨vp_in_nI h9.1 (by omega), vp_in_nI h9.2 (by omega), h⟩
theorem sp_X0_emptyCells {v : BV} {S : AS} (hv : RB v S) (hI : Inv S) {Q : Int32 → BV → Prop} (h : Q (nI (empties S)) v) : wp_X0_emptyCells v Q := by
  have hn := hI.n12
  unfold wp_X0_emptyCells
  intro P hP
  have key : ∀ d k : Nat, k + d = S.n → P v (nI (cnt (fun k => (S.P k).isNone) k)) (nI k) := by
    intro d
    induction d with
    | zero =>
      intro k hk
      apply hP
      unfold bd_X0_emptyCells_4
      refine sp_X0_cells hv ?_
      obtain rfl : k = S.n := by omega
      exact bq_t ((nI_leI (by omega) (by omega)).mpr (by omega)) h
    | succ d ih =>
      intro k hk
      have hnx := ih (k + 1) (by omega)
      apply hP
      unfold bd_X0_emptyCells_4
      refine sp_X0_cells hv ?_
      refine bq_f (fun z => by rw [nI_leI (by omega) (by omega)] at z; omega) ?_
      have step : ∀ b : Bool, b = (S.P k).isNone → wp_X0_emptyCells_23 P Q v (nI (cnt (fun k => (S.P k).isNone) k + b.toNat)) (nI k) := by
        intro b hb y hy
        rw [nI_1] at hy
        subst hy hb
        exact hnx
      refine sp_X0_isEmpty hv hI (by omega) (fun e => bq_f (by decide) (fun x hx => ?_)) (fun p e => bq_t rfl (step false (by rw [e]; rfl)))
      rw [nI_1] at hx
      subst hx
      exact step true (by rw [e]; rfl)
  exact key S.n 0 (by omega)
theorem sp_X0_neighbor {v : BV} {S : AS} (hv : RB v S) (hI : Inv S) {k s : Nat} (hk : k < S.n) (hs : s < 4) {Q : Int32 → BV → Prop} (h : Q (enc (nb S.r S.c k s)) v) : wp_X0_neighbor v (nI k) (nI s) Q := by
  have hn := hI.n12
  obtain ⟨⟨r1, r3⟩, ⟨c1, c4⟩, -⟩ := hI
  have hv0 := hv
  obtain ⟨⟨b1, b2, -, -⟩, -⟩ := hv
  have hm := Nat.mod_lt k (show 0 < S.c by omega)
  unfold wp_X0_neighbor
  rw [b2]
  refine bq_t ((nI_leI (a := 1) (by omega) (by omega)).mpr c1) ⟨fun z => ?_, ?_⟩
  · rw [nn_eq0 (by omega)] at z
    omega
  rw [nn_rem (by omega) (by omega) (by omega)]
  unfold wp_X0_neighbor_18
  rw [b2, nn_lit 0, nn_lit 1, nn_lit 2, nI_add, nI_add]
  have hnn : S.n = S.r * S.c := rfl
  unfold nb at h
  refine ⟨fun e => ?_, fun e => ?_, fun e => ?_, fun e e1 e2 => ?_⟩
  · rw [nI_eq (by omega) (by omega)] at e
    rw [if_pos e] at h
    refine ek_if (nI_ltI (by omega) (by omega)) (fun q => ?_) (fun q => ?_)
    · rw [if_pos q] at h; exact h
    · rw [if_neg q] at h
      rw [pk_sub (by omega)]
      exact h
  · rw [nI_eq (by omega) (by omega)] at e
    rw [if_neg (by omega), if_pos e] at h
    refine ek_if (nI_leI (by omega) (by omega)) (fun q => ?_) (fun q => ?_)
    · rw [if_neg (by omega)] at h; exact h
    · rw [if_pos (by omega)] at h
      exact h
  · rw [nI_eq (by omega) (by omega)] at e
    rw [if_neg (by omega), if_neg (by omega), if_pos e] at h
    refine sp_X0_cells hv0 ?_
    rw [b2, nI_add]
    refine ek_if (nI_leI (by omega) (by omega)) (fun q => ?_) (fun q => ?_)
    · rw [if_neg (by omega)] at h; exact h
    · rw [if_pos (by omega)] at h
      exact h
  · rw [nI_eq (by omega) (by omega)] at e e1 e2
    rw [if_neg e, if_neg e1, if_neg e2] at h
    refine ek_if (nI_leI (by omega) (by omega)) (fun q => ?_) (fun q => ?_)
    · rw [if_pos (by omega)] at h; exact h
    · rw [if_neg (by omega)] at h
      have hml := Nat.mod_le k S.c
      rw [pk_sub (by omega)]
      exact h
theorem RB.put {v : BV} {S : AS} (hv : RB v S) (hI : Inv S) {k p : Nat} (hk : k < S.n) (hp : p < 8 * S.t) (hn : S.P k = none) (hc : cellOf S (p / 8) = none) (hT : Inv (S.put k (some p))) : RB (BV.s_places (BV.s_placings v (upd (BV.placings v) k (nI p))) (upd (BV.places v) (p / 8) (nI k))) (S.put k (some p)) := by
  obtain ⟨b1, b5, b6, b7, b8⟩ := hv
  refine ⟨b1, b5, fun j hj => ?_, fun t ht => ?_, b8⟩
  · show upd (BV.placings v) k (nI p) j = _
    by_cases e : j = k
    · rw [e, pk_us, put_at]
      rfl
    · rw [pk_un e, put_ne _ _ e]
      exact b6 j hj
  · show upd (BV.places v) (p / 8) (nI k) t = _
    by_cases e : t = p / 8
    · rw [e, pk_us, cellOf_some hT (put_at S k (some p))]
      rfl
    · rw [pk_un e, b7 t ht, cellOf_eq hI hT (fun j q eq => ?_)]
      by_cases ej : j = k
      · rw [ej, put_at, hn]
        exact ⟨fun z => (nomatch z), fun z => by cases z; exact absurd eq.symm e⟩
      · rw [put_ne _ _ ej]
theorem sp_X0_put {v : BV} {S : AS} (hv : RB v S) (hI : Inv S) {k p : Nat} (hk : k < S.n) (hp : p < 8 * S.t) (hn : S.P k = none) (hc : cellOf S (p / 8) = none) (hT : Inv (S.put k (some p))) {Q : BV → Prop} (h : ∀ v', RB v' (S.put k (some p)) → Q v') : wp_X0_put v (nI k) (nI p) Q := by
  have h12 := hI.n12
  have ht := hI.2.2.2.1
  unfold wp_X0_put
  rw [nn_lit 8, pk_div (by omega) (by omega) (by omega), nI_clamp (by omega), nI_clamp (by omega)]
  refine ⟨vp_in_nI (by omega) (by omega), fun p2 e2 => ⟨vp_in_nI (by omega) (by omega), fun p4 e4 => ?_⟩⟩
  subst e2 e4
  exact h _ (hv.put hI hk hp hn hc hT)
theorem sp_X0_remove {v : BV} {S : AS} (hv : RB v S) (hI : Inv S) {k p : Nat} (hP : S.P k = some p) {Q : BV → Prop} (h : ∀ v', RB v' (S.put k none) → Q v') : wp_X0_remove v (nI k) Q := by
  have h9 := hI.p96 hP
  have hT := hI.off k
  obtain ⟨b1, b5, b6, b7, b8⟩ := hv
  unfold wp_X0_remove
  rw [nI_clamp (by omega), b6 k h9.1, hP, enc_some, nn_lit 8, pk_div (by omega) (by omega) (by omega), nI_clamp (by omega)]
  refine ⟨vp_in_nI h9.1 (by omega), vp_in_nI (by omega) (by omega), fun p3 e3 => ⟨vp_in_nI h9.1 (by omega), fun p5 e5 => h _ ⟨b1, b5, fun j hj => ?_, fun t ht => ?_, b8⟩⟩⟩
  · show p5 j = _
    rw [e5]
    by_cases e : j = k
    · rw [e, pk_us, put_at]
      rfl
    · rw [pk_un e, put_ne _ _ e]
      exact b6 j hj
  · show p3 t = _
    rw [e3]
    by_cases e : t = p / 8
    · rw [e, pk_us]
      cases ec : cellOf (S.put k none) (p / 8) with
      | none => rfl
      | some j =>
        obtain ⟨q, hq, eq⟩ := cellOfN_ex ec
        by_cases ej : j = k
        · rw [ej, put_at] at hq
          cases hq
        · rw [put_ne _ _ ej] at hq
          exact absurd (hI.2.2.2.2.2.2.1 j k q p hq hP eq) ej
    · rw [pk_un e, b7 t ht, cellOf_eq hI hT (fun j q eq => ?_)]
      by_cases ej : j = k
      · rw [ej, put_at, hP]
        exact ⟨fun z => by cases z; exact absurd eq.symm e, fun z => (nomatch z)⟩
      · rw [put_ne _ _ ej]
theorem mkS_keep {S : AS} {m k : Nat} (h : S.P k = none ∨ bitN m k = 1) : mkS S m (k + 1) = mkS S m k := AS.ext' rfl rfl rfl rfl rfl (fun j => by
  show (if j < k + 1 ∧ ¬ bitN m j = 1 then none else S.P j) = (if j < k ∧ ¬ bitN m j = 1 then none else S.P j)
  by_cases e : j = k
  · subst e
    rw [if_neg (c := j < j ∧ ¬ bitN m j = 1) (fun z => Nat.lt_irrefl j z.1)]
    rcases h with h | h
    · rw [h, ite_self]
    · rw [if_neg (fun z => z.2 h)]
  · by_cases hb : j < k ∧ ¬ bitN m j = 1
    · rw [if_pos hb, if_pos ⟨by omega, hb.2⟩]
    · rw [if_neg hb, if_neg (fun z => hb ⟨by omega, z.2⟩)]) rfl
theorem Inv.mk' {S : AS} (h : Inv S) (m k : Nat) : Inv (mkS S m k) := h.sub ⟨rfl, rfl, rfl, rfl, rfl, rfl⟩ (fun j p e => by
  have e : (if j < k ∧ ¬ bitN m j = 1 then none else S.P j) = some p := e
  split at e
  · cases e
  · exact e)
def rmB (S : AS) (m j : Nat) : Bool := (S.P j).isSome && bitN m j != 1
theorem sp_X0_removeAllBut {v : BV} {S : AS} (hv : RB v S) (hI : Inv S) {m : Nat} (hm : m < 2 ^ 31) {Q : Int32 → BV → Prop} (h : ∀ v', RB v' (maskS S m) → Q (nI (sm (fun j => (rmB S m j).toNat) S.n)) v') : wp_X0_removeAllBut v (nI m) Q := by
  have hn := hI.n12
  unfold wp_X0_removeAllBut
  intro P hP
  have key : ∀ d k : Nat, k + d = S.n → ∀ v1 : BV, RB v1 (mkS S m k) → P v1 (nI m) (nI (sm (fun j => (rmB S m j).toNat) k)) (nI k) := by
    intro d
    induction d with
    | zero =>
      intro k hk v1 h1
      obtain rfl : k = S.n := by omega
      have h2 := h1
      rw [mkS_n hI] at h2
      apply hP
      unfold bd_X0_removeAllBut_4
      exact sp_X0_cells h1 (bq_t ((nI_leI (a := S.n) (b := S.n) (by omega) (by omega)).mpr (Nat.le_refl _)) (h v1 h2))
    | succ d ih =>
      intro k hk v1 h1
      have hI1 := hI.mk' m k
      have hPk : (mkS S m k).P k = S.P k := if_neg (fun z => Nat.lt_irrefl k z.1)
      have hb : bitN m k < 2 := Nat.mod_lt _ (by omega)
      have keep : (S.P k = none ∨ bitN m k = 1) → wp_X0_removeAllBut_36 P Q v1 (nI m) (nI (sm (fun j => (rmB S m j).toNat) k)) (nI k) := by
        intro e y hy
        rw [nI_1] at hy
        subst hy
        have hnx := ih (k + 1) (by omega) v1 (by rw [mkS_keep e]; exact h1)
        have es : sm (fun j => (rmB S m j).toNat) (k + 1) = sm (fun j => (rmB S m j).toNat) k := by
          show _ + (rmB S m k).toNat = _
          rw [show rmB S m k = false by
            unfold rmB
            rcases e with e | e
            · rw [e]; rfl
            · rw [e]; simp]
          rfl
        rw [es] at hnx
        exact hnx
      apply hP
      unfold bd_X0_removeAllBut_4
      refine sp_X0_cells h1 (bq_f (fun z => by
        have z : nI S.n ≤ nI k := z
        rw [nI_leI (by omega) (by omega)] at z; omega) ?_)
      refine sp_X0_isEmpty h1 hI1 (by omega) (fun e => bn_f (by decide) (keep (Or.inl (hPk.symm.trans e)))) (fun p e => bn_t rfl ?_)
      rw [bit_row hm (by omega)]
      refine bn_if (nn_eq0 (by omega)) (fun e0 => ?_) (fun e0 => keep (Or.inr (by omega)))
      refine sp_X0_remove h1 hI1 e (fun v2 h2 x hx y hy => ?_)
      rw [nI_1] at hx hy
      subst hx hy
      have e1 : (mkS S m k).put k none = mkS S m (k + 1) := by
        rw [← mkS_step, if_neg (by omega)]
      rw [e1] at h2
      have hnx := ih (k + 1) (by omega) v2 h2
      have es : sm (fun j => (rmB S m j).toNat) (k + 1) = sm (fun j => (rmB S m j).toNat) k + 1 := by
        show _ + (rmB S m k).toNat = _
        rw [show rmB S m k = true by
          unfold rmB
          rw [← hPk, e, e0]; rfl]
        rfl
      rw [es] at hnx
      exact hnx
  have e0 : mkS S m 0 = S := AS.ext' rfl rfl rfl rfl rfl (fun j => by
    show (if j < 0 ∧ ¬ bitN m j = 1 then none else S.P j) = S.P j
    exact if_neg (fun z => Nat.not_lt_zero j z.1)) rfl
  exact key S.n 0 (by omega) v (by rw [e0]; exact hv)
theorem RB.emp {v : BV} {S : AS} (hv : RB v S) {r c : Nat} : RB (emB v (nI r) (nI c)) ((r, c, S.ru, S.t, S.F, fun _ => none, fun _ => false) : AS) := by
  obtain ⟨⟨b1, b2, b3, b4⟩, -, -, -, b8⟩ := hv
  have hc : ∀ (t n : Nat), cellOfN ((r, c, S.ru, S.t, S.F, fun _ => none, fun _ => false) : AS) t n = none := by
    intro t n
    induction n with
    | zero => rfl
    | succ n ih => exact ih
  refine ⟨⟨rfl, rfl, b3, b4⟩, ⟨0, by omega, rfl, fun k hk => ?_⟩, fun k hk => ?_, fun t ht => ?_, b8⟩
  · unfold bitN
    rw [Nat.zero_div]
    rfl
  · show fillm (BV.placings v) 12 (-1) k = _
    unfold fillm
    rw [if_pos hk]
    rfl
  · show fillm (BV.places v) 12 (-1) t = _
    unfold fillm
    rw [if_pos ht]
    have e : cellOf ((r, c, S.ru, S.t, S.F, fun _ => none, fun _ => false) : AS) t = none := hc t (r * c)
    rw [e]
    rfl
