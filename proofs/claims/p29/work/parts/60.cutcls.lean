/-! cut: the class -/
theorem sp_X0_neighbor' {v : BV} {r c : Nat} (b1 : BV.rows v = nI r) (b2 : BV.columns v = nI c) (hc : 1 ≤ c ∧ c ≤ 4) (hn : r * c ≤ 12) {k s : Nat} (hk : k < r * c) (hs : s < 4) {Q : Int32 → BV → Prop} (h : Q (enc (nb r c k s)) v) : wp_X0_neighbor v (nI k) (nI s) Q := by
  obtain ⟨c1, c4⟩ := hc
  have hm := Nat.mod_lt k (show 0 < c by omega)
  unfold wp_X0_neighbor
  rw [b2]
  refine bq_t ((nI_leI (a := 1) (by omega) (by omega)).mpr c1) ⟨fun z => ?_, ?_⟩
  · rw [nn_eq0 (by omega)] at z
    omega
  rw [nn_rem (by omega) (by omega) (by omega)]
  unfold wp_X0_neighbor_18
  rw [b2, nn_lit 0, nn_lit 1, nn_lit 2, nI_add, nI_add]
  unfold nb at h
  refine ⟨fun e => ?_, fun e => ?_, fun e => ?_, fun e e1 e2 => ?_⟩
  · rw [nI_eq (by omega) (by omega)] at e
    rw [if_pos e] at h
    refine ek_if (nI_ltI (by omega) (by omega)) (fun q => ?_) (fun q => ?_)
    · rw [if_pos q] at h; exact h
    · rw [if_neg q] at h
      rw [pk_sub (by omega)]
      exact h
  · rw [nI_eq (by omega) (by omega)] at e
    rw [if_neg (by omega), if_pos e] at h
    refine ek_if (nI_leI (by omega) (by omega)) (fun q => ?_) (fun q => ?_)
    · rw [if_neg (by omega)] at h; exact h
    · rw [if_pos (by omega)] at h
      exact h
  · rw [nI_eq (by omega) (by omega)] at e
    rw [if_neg (by omega), if_neg (by omega), if_pos e] at h
    unfold wp_X0_cells
    dsimp only
    rw [b1, b2, pk_mul, nI_add]
    refine ek_if (nI_leI (by omega) (by omega)) (fun q => ?_) (fun q => ?_)
    · rw [if_neg (by omega)] at h; exact h
    · rw [if_pos (by omega)] at h
      exact h
  · rw [nI_eq (by omega) (by omega)] at e e1 e2
    rw [if_neg e, if_neg e1, if_neg e2] at h
    refine ek_if (nI_leI (by omega) (by omega)) (fun q => ?_) (fun q => ?_)
    · rw [if_pos (by omega)] at h; exact h
    · rw [if_neg (by omega)] at h
      have hml := Nat.mod_le k c
      rw [pk_sub (by omega)]
      exact h
/-- the draws of the class -/
def DRc (seed col e : Nat) (d : DV) : Prop := DV.seed d = nI seed ∧ DV.colors d = nI col ∧ DV.rest d = nI (if e = 0 then seed else e)
theorem sp_X1_next {seed col e : Nat} (hs : seed ≤ 999999999) (hc1 : 1 ≤ col) (hc9 : col ≤ 9) (he : e ≤ seed) {d : DV} (hd : DRc seed col e d) {Q : Int32 → DV → Prop} (h : ∀ d', DRc seed col (drE seed e) d' → Q (nI (drC seed col e)) d') : wp_X1_next d Q := by
  obtain ⟨d1, d2, d3⟩ := hd
  unfold wp_X1_next
  rw [d2, d3]
  have hr : (if e = 0 then seed else e) ≤ 999999999 := by split <;> omega
  have e1 : drC seed col e = 1 + (if e = 0 then seed else e) % 10 % col := rfl
  have e2 : drE seed e = (if e = 0 then seed else e) / 10 := rfl
  generalize (if e = 0 then seed else e) = r at hr e1 e2 d3
  refine ⟨fun z => by rw [nn_eq0 (by omega)] at z; omega, fun x1 h1 f3 h3 => ?_⟩
  rw [nn_lit 10, nn_rem (by omega) (by omega) (by omega), nn_rem (by omega) (by omega) (by omega), nn_lit 1, nI_add, ← e1] at h1
  rw [nn_lit 10, pk_div (by omega) (by omega) (by omega), ← e2] at h3
  subst h1 h3
  refine bn_if (nn_eq0 (by omega)) (fun z f4 h4 => h _ ⟨d1, d2, ?_⟩) (fun z => h _ ⟨d1, d2, ?_⟩)
  · rw [if_pos z]
    exact h4.trans d1
  · rw [if_neg z]
theorem set_row {D : Nat → Nat} (h9 : ∀ i, D i ≤ 9) {k s a b : Nat} (hs : s < 4) (ha : a ≤ 9) (hb : b ≤ 9) (z0 : D (8 * k + 0 + s) = 0) (z4 : D (8 * k + 4 + s) = 0) : nI (pkN 8 (fun j => D (8 * k + j))) ||| jshl (nI (a + 65536 * b)) (4 * nI s) = nI (pkN 8 (fun j => setD (setD D (8 * k + 0 + s) a) (8 * k + 4 + s) b (8 * k + j))) := by
  rw [sh2_row (by omega) (by omega) hs, or_row (fun j _ => by have := h9 (8 * k + j); omega) (fun j _ => sh2_lt (by omega) (by omega) j)]
  refine row_congr (fun j hj => ?_)
  unfold sh2
  by_cases e1 : j = s
  · subst e1
    rw [if_pos rfl, setD_n _ _ (by omega), show 8 * k + 0 + j = 8 * k + j by omega, setD_s]
    rw [show D (8 * k + j) = 0 by rw [show 8 * k + j = 8 * k + 0 + j by omega]; exact z0, Nat.zero_or]
  · rw [if_neg e1]
    by_cases e2 : j = s + 4
    · rw [if_pos e2, show 8 * k + j = 8 * k + 4 + s by omega, setD_s, z4, Nat.zero_or]
    · rw [if_neg e2, Nat.or_zero, setD_n _ _ (by omega), setD_n _ _ (by omega)]
/-- the looks of the cells as drawn so far -/
def DL (n : Nat) (D : Nat → Nat) (v : BV) : Prop := ∀ q, q < n → BV.looks v (8 * q) = nI (pkN 8 (fun j => D (8 * q + j)))
theorem sp_X0_cutSide {v : BV} {d : DV} {r c : Nat} (b1 : BV.rows v = nI r) (b2 : BV.columns v = nI c) (hc : 1 ≤ c ∧ c ≤ 4) (hn : r * c ≤ 12) {k s : Nat} (hk : k < r * c) (hs12 : s = 1 ∨ s = 2) {seed col : Nat} (hs : seed ≤ 999999999) (hc1 : 1 ≤ col) (hc9 : col ≤ 9) {C : CS} (h9 : ∀ i, C.1 i ≤ 9) (he : C.2 ≤ seed) (hd : DRc seed col C.2 d) (hD : DL (r * c) C.1 v)
    (hz : ∀ j, nb r c k s = some j → C.1 (8 * k + 0 + s) = 0 ∧ C.1 (8 * k + 4 + s) = 0 ∧ C.1 (8 * j + 0 + (s + 2) % 4) = 0 ∧ C.1 (8 * j + 4 + (s + 2) % 4) = 0) {Q : BV → DV → Prop}
    (h : ∀ (l : Nat → Int32) (d' : DV), DRc seed col (sideS r c seed col k s C).2 d' → DL (r * c) (sideS r c seed col k s C).1 (BV.s_looks v l) → Q (BV.s_looks v l) d') : wp_X0_cutSide v d (nI k) (nI s) Q := by
  unfold wp_X0_cutSide
  refine sp_X0_neighbor' b1 b2 hc hn hk (by omega) ?_
  cases e : nb r c k s with
  | none =>
    have es : sideS r c seed col k s C = C := by unfold sideS; rw [e]
    rw [es] at h
    exact bn_t rfl (h (BV.looks v) d hd hD)
  | some j =>
    have hj : j < r * c := nb_lt hk e
    have hjk : j ≠ k := by
      rcases hs12 with rfl | rfl
      · have := nb_1 e
        omega
      · have := nb_2 e
        omega
    have es : sideS r c seed col k s C = (putS C.1 k s j (drC seed col C.2) (drC seed col (drE seed C.2)), drE seed (drE seed C.2)) := by unfold sideS; rw [e]
    rw [es] at h
    obtain ⟨z1, z2, z3, z4⟩ := hz j e
    have ca := drC_le (seed := seed) (e := C.2) hc1 hc9
    have cb := drC_le (seed := seed) (e := drE seed C.2) hc1 hc9
    refine bn_f (nn_ne_m1 (by omega)) (sp_X1_next hs hc1 hc9 he hd (fun d1 hd1 => sp_X1_next hs hc1 hc9 (drE_le he) hd1 (fun d2 hd2 x7 h7 => ?_)))
    rw [or_hi (by omega) (by omega)] at h7
    subst h7
    rw [enc_some, nn_lit 8, pk_mul, pk_mul, nI_clamp (by omega), nI_clamp (by omega), hD k hk]
    refine ⟨vp_in_nI (by omega) (by omega), fun f9 h9' => ⟨vp_in_nI (by omega) (by omega), fun l11 h11 => ⟨vp_in_nI (by omega) (by omega), sp_X6_opposite (by omega) (fun f14 h14 => ⟨vp_in_nI (by omega) (by omega), fun l16 h16 => ?_⟩)⟩⟩⟩
    rw [set_row h9 (by omega) ca cb z1 z2] at h9'
    have e11 : l11 (8 * j) = nI (pkN 8 (fun i => C.1 (8 * j + i))) := by
      rw [h11, pk_un (by omega)]
      exact hD j hj
    rw [e11, set_row h9 (by omega) ca cb z3 z4] at h14
    refine h l16 d2 hd2 (fun q hq => ?_)
    show l16 (8 * q) = nI (pkN 8 (fun i => putS C.1 k s j (drC seed col C.2) (drC seed col (drE seed C.2)) (8 * q + i)))
    rw [h16]
    have hm : (s + 2) % 4 < 4 := Nat.mod_lt _ (by omega)
    by_cases q1 : q = j
    · rw [q1, pk_us, h14]
      refine row_congr (fun i hi => ?_)
      unfold putS
      by_cases i4 : 8 * j + i = 8 * j + 4 + (s + 2) % 4
      · rw [i4, setD_s, setD_s]
      · rw [setD_n _ _ i4, setD_n _ _ i4, setD_n _ _ (show 8 * j + i ≠ 8 * k + 4 + s by omega)]
        by_cases i0 : 8 * j + i = 8 * j + 0 + (s + 2) % 4
        · rw [i0, setD_s, setD_s]
        · rw [setD_n _ _ i0, setD_n _ _ i0, setD_n _ _ (show 8 * j + i ≠ 8 * k + 0 + s by omega)]
    · rw [pk_un (by omega), h11]
      by_cases q2 : q = k
      · rw [q2, pk_us, h9']
        refine row_congr (fun i hi => ?_)
        unfold putS
        rw [setD_n _ _ (show 8 * k + i ≠ 8 * j + 4 + (s + 2) % 4 by omega)]
        by_cases i4 : 8 * k + i = 8 * k + 4 + s
        · rw [i4, setD_s, setD_s]
        · rw [setD_n _ _ i4, setD_n _ _ i4, setD_n _ _ (show 8 * k + i ≠ 8 * j + 0 + (s + 2) % 4 by omega)]
      · rw [pk_un (by omega)]
        have e8 := hD q hq
        refine e8.trans (row_congr (fun i hi => ?_))
        exact (putS_o (by omega) (by omega) (by omega) (by omega)).symm
theorem sp_X0_cutTiles {v : BV} {d : DV} {S : AS} (hI : Inv S) (hv : RB v ((S.r, S.c, S.ru, S.t, S.F, fun _ => none, fun _ => false) : AS)) {seed col : Nat} (hs1 : 1 ≤ seed) (hs : seed ≤ 999999999) (hc1 : 1 ≤ col) (hc9 : col ≤ 9) (hd : DRc seed col 0 d) {Q : BV → DV → Prop} (h : ∀ v' d', RB v' (cutA S seed col) → Q v' d') : wp_X0_cutTiles v d Q := by
  have hn : S.r * S.c ≤ 12 := hI.n12
  have hc := hI.2.1
  obtain ⟨⟨b1, b2, b3, b4⟩, b5, b6, b7, b8⟩ := hv
  have h9 := (runC_9 (r := S.r) (c := S.c) (seed := seed) hc1 hc9 S.n).1
  have hJ := cutN_inv hI h9 S.n hn
  have hF := hJ.2.2.2.2.1
  have hc0 : ∀ t, t < 12 → BV.places v t = enc none := fun t ht => by
    rw [b7 t ht]
    have e : ∀ n, cellOfN ((S.r, S.c, S.ru, S.t, S.F, fun _ => none, fun _ => false) : AS) t n = none := by
      intro n
      induction n with
      | zero => rfl
      | succ n ih => exact ih
    have e : cellOf ((S.r, S.c, S.ru, S.t, S.F, fun _ => none, fun _ => false) : AS) t = none := e _
    rw [e]
  unfold wp_X0_cutTiles wp_X0_cells
  rw [b1, b2, pk_mul]
  -- the ways of each tile
  have ways : ∀ (l : Nat → Int32) (d' : DV), DL (S.r * S.c) (runC S.r S.c seed col S.n).1 (BV.s_looks (BV.s_tiles v (nI (S.r * S.c))) l) → wp_X0_cutTiles_66 Q (BV.s_looks (BV.s_tiles v (nI (S.r * S.c))) l) d' 0 := by
    intro l d' hl P hP
    have key : ∀ e k : Nat, k + e = S.r * S.c → ∀ lk' : Nat → Int32, (∀ q, k ≤ q → q < S.r * S.c → lk' (8 * q) = nI (pkN 8 (lk (cutA S seed col).F (8 * q)))) → (∀ p, p < 8 * k → lk' p = nI (pkN 8 (lk (cutA S seed col).F p))) → P (BV.s_looks (BV.s_tiles v (nI (S.r * S.c))) lk') d' (nI k) := by
      intro e
      induction e with
      | zero =>
        intro k hk l2 _ h2
        obtain rfl : k = S.r * S.c := by omega
        obtain ⟨f1, f2, f3⟩ := cutN_rc S (runC S.r S.c seed col S.n).1 S.n
        have ft : (cutA S seed col).t = S.r * S.c := cutN_t S _ S.n
        apply hP
        unfold bd_X0_cutTiles_66
        refine bq_t ((nI_leI (a := S.r * S.c) (b := S.r * S.c) (by omega) (by omega)).mpr (Nat.le_refl _)) (h _ _ ⟨⟨?_, ?_, ?_, ?_⟩, ?_, fun k hk => ?_, fun t ht => ?_, fun p hp => ?_⟩)
        · rw [show (cutA S seed col).r = S.r from f1]; exact b1
        · rw [show (cutA S seed col).c = S.c from f2]; exact b2
        · rw [show (cutA S seed col).ru = S.ru from f3]; exact b3
        · rw [ft]
        · obtain ⟨m, m1, m2, m3⟩ := b5
          refine ⟨m, m1, m2, fun k hk => (m3 k hk).trans ?_⟩
          rw [show (cutA S seed col).X k = false from (cutN_P S _ k S.n).2]
        · rw [show (cutA S seed col).P k = none from (cutN_P S _ k S.n).1]
          exact b6 k hk
        · have e0 : cellOf (cutA S seed col) t = none := by
            cases ec : cellOf (cutA S seed col) t with
            | none => rfl
            | some q =>
              obtain ⟨p, hp, -⟩ := cellOfN_ex ec
              rw [show (cutA S seed col).P q = none from (cutN_P S _ q S.n).1] at hp
              cases hp
          rw [e0]
          exact hc0 t ht
        · rw [ft] at hp
          exact h2 p hp
      | succ e ih =>
        intro k hk l2 h1 h2
        apply hP
        unfold bd_X0_cutTiles_66
        rw [show BV.tiles (BV.s_looks (BV.s_tiles v (nI (S.r * S.c))) l2) = nI (S.r * S.c) from rfl]
        refine bq_f (fun y => by rw [nI_leI (by omega) (by omega)] at y; omega) (sp_X0_makeWays (G := (cutA S seed col).F) hF (by omega) (h1 k (Nat.le_refl k) (by omega)) (fun l3 q1 q2 y hy => ?_))
        rw [nI_1] at hy
        subst hy
        refine ih (k + 1) (by omega) l3 (fun q hq hq2 => ?_) (fun p hp => ?_)
        · rw [q1 _ (by omega)]
          exact h1 q (by omega) hq2
        · by_cases e8 : p < 8 * k
          · rw [q1 p (by omega)]
            exact h2 p e8
          · exact q2 p (by omega) (by omega)
    refine key (S.r * S.c) 0 (by omega) l (fun q _ hq => ?_) (fun p hp => absurd hp (by omega))
    refine (hl q hq).trans (row_congr (fun j hj => ?_))
    exact (cutN_lk S h9 (n := S.n) hq hj).symm
  -- the sides of each cell
  have sides : ∀ (l : Nat → Int32), (∀ q, q < S.r * S.c → l (8 * q) = 0) → wp_X0_cutTiles_36 Q (fun (vB_15 : BV) (vD_16 : DV) => wp_X0_cutTiles_66 Q vB_15 vD_16 0) (BV.s_looks (BV.s_tiles v (nI (S.r * S.c))) l) d 0 := by
    intro l hl P hP
    have key : ∀ e k : Nat, k + e = S.r * S.c → ∀ (l2 : Nat → Int32) (d2 : DV), DRc seed col (runC S.r S.c seed col k).2 d2 → DL (S.r * S.c) (runC S.r S.c seed col k).1 (BV.s_looks (BV.s_tiles v (nI (S.r * S.c))) l2) → P (BV.s_looks (BV.s_tiles v (nI (S.r * S.c))) l2) d2 (nI k) := by
      intro e
      induction e with
      | zero =>
        intro k hk l2 d2 _ hD
        obtain rfl : k = S.r * S.c := by omega
        apply hP
        unfold bd_X0_cutTiles_36
        exact bq_t ((nI_leI (a := S.r * S.c) (b := S.r * S.c) (by omega) (by omega)).mpr (Nat.le_refl _)) (ways l2 d2 hD)
      | succ e ih =>
        intro k hk l2 d2 hd2 hD
        have g9 := runC_9 (r := S.r) (c := S.c) (seed := seed) hc1 hc9 k
        have g9' := sideS_9 (r := S.r) (c := S.c) (k := k) (s := 1) hc1 hc9 g9.1 g9.2
        have Z1 := runC_Z (r := S.r) (seed := seed) (col := col) hc.1 k
        have Z2 := Z1.one (r := S.r) (seed := seed) (col := col) hc.1
        apply hP
        unfold bd_X0_cutTiles_36
        rw [show BV.tiles (BV.s_looks (BV.s_tiles v (nI (S.r * S.c))) l2) = nI (S.r * S.c) from rfl]
        refine bq_f (fun y => by rw [nI_leI (by omega) (by omega)] at y; omega) ?_
        refine sp_X0_cutSide (v := BV.s_looks (BV.s_tiles v (nI (S.r * S.c))) l2) (r := S.r) (c := S.c) (s := 1) b1 b2 hc hn (by omega) (Or.inl rfl) hs hc1 hc9 g9.1 g9.2 hd2 hD (fun j ej => ?_) (fun l3 d3 hd3 hD3 => ?_)
        · have := nb_1 ej
          subst this
          exact ⟨(Z1.1 k (Nat.le_refl k)).1, (Z1.1 k (Nat.le_refl k)).2.1, (Z1.2.1 (k + 1) (by omega)).1, (Z1.2.1 (k + 1) (by omega)).2⟩
        refine sp_X0_cutSide (v := BV.s_looks (BV.s_tiles v (nI (S.r * S.c))) l3) (r := S.r) (c := S.c) (s := 2) b1 b2 hc hn (by omega) (Or.inr rfl) hs hc1 hc9 g9'.1 g9'.2 hd3 hD3 (fun j ej => ?_) (fun l4 d4 hd4 hD4 y hy => ?_)
        · have := nb_2 ej
          subst this
          exact ⟨(Z2.2.1 k (Nat.le_refl k)).1, (Z2.2.1 k (Nat.le_refl k)).2, (Z2.2.2.2 _ (Nat.le_refl _)).1, (Z2.2.2.2 _ (Nat.le_refl _)).2⟩
        rw [nI_1] at hy
        subst hy
        exact ih (k + 1) (by omega) l4 d4 hd4 hD4
    refine key (S.r * S.c) 0 (by omega) l d hd (fun q hq => ?_)
    show l (8 * q) = _
    rw [hl q hq]
    rfl
  -- at first the looks are empty
  intro P hP
  have key : ∀ e k : Nat, k + e = S.r * S.c → ∀ l : Nat → Int32, (∀ q, q < k → l (8 * q) = 0) → P (BV.s_looks (BV.s_tiles v (nI (S.r * S.c))) l) d (nI k) := by
    intro e
    induction e with
    | zero =>
      intro k hk l hl
      obtain rfl : k = S.r * S.c := by omega
      apply hP
      unfold bd_X0_cutTiles_10
      exact bq_t ((nI_leI (a := S.r * S.c) (b := S.r * S.c) (by omega) (by omega)).mpr (Nat.le_refl _)) (sides l hl)
    | succ e ih =>
      intro k hk l hl
      apply hP
      unfold bd_X0_cutTiles_10
      rw [show BV.tiles (BV.s_looks (BV.s_tiles v (nI (S.r * S.c))) l) = nI (S.r * S.c) from rfl]
      refine bq_f (fun y => by rw [nI_leI (by omega) (by omega)] at y; omega) ?_
      rw [nn_lit 8, pk_mul, nI_clamp (by omega)]
      refine ⟨vp_in_nI (by omega) (by omega), fun l4 h4 y hy => ?_⟩
      rw [nI_1] at hy
      subst hy
      refine ih (k + 1) (by omega) l4 (fun q hq => ?_)
      rw [h4]
      by_cases e1 : q = k
      · rw [e1, pk_us]
      · rw [pk_un (by omega)]
        exact hl q (by omega)
  exact key (S.r * S.c) 0 (by omega) (BV.looks v) (fun q hq => absurd hq (Nat.not_lt_zero q))
theorem sp_X6_cut {v : XV} {S : AS} {L : List AS} {B : List Nat} (hX : RX v S L B) {a b : Int32} {Q : Int32 → XV → Prop} {XQ : String → XV → Prop}
    (h0 : ∀ seed col : Nat, (1 ≤ seed ∧ seed ≤ 999999999) → (1 ≤ col ∧ col ≤ 9) → a = nI seed → b = nI col → ∀ v', RX v' (cutA S seed col) (pushS L S) B → Q (nI S.n) v')
    (h1 : ¬ ((1 ≤ a ∧ a ≤ 999999999) ∧ (1 ≤ b ∧ b ≤ 9)) → XQ "java/lang/IllegalArgumentException" v) : wp_X6_cut v a b Q XQ := by
  have hI := hX.2.1
  unfold wp_X6_cut
  refine ⟨fun c1 => h1 (fun z => gtn c1 z.1.1), fun c1 => ⟨fun c2 => h1 (fun z => gtn c2 z.1.2), fun c2 => ⟨fun c3 => h1 (fun z => gtn c3 z.2.1), fun c3 => ⟨fun c4 => ?_, fun c4 => h1 (fun z => c4 z.2.2)⟩⟩⟩⟩
  obtain ⟨seed, s1, s2, rfl⟩ := nI_rng (a := 1) (b := 999999999) (by omega) (by omega) ⟨nlt c1, nlt c2⟩
  obtain ⟨col, d1, d2, rfl⟩ := nI_rng (a := 1) (b := 9) (by omega) (by omega) ⟨nlt c3, c4⟩
  refine rx_save hX (fun vH hH => ?_)
  rw [hX.1.1.1, hX.1.1.2.1]
  refine sp_X0_makeEmpty ?_
  unfold wp_X1_start
  refine bq_t ((nI_leI (a := 1) (by omega) (by omega)).mpr d1) ?_
  unfold wp_X1_start_16
  refine sp_X0_cutTiles hI (hX.1.emp (r := S.r) (c := S.c)) s1 s2 d1 d2 ⟨rfl, rfl, rfl⟩ (fun vB vD hB => ?_)
  have et : BV.tiles vB = nI S.n := hB.1.2.2.2.trans (by rw [show (cutA S seed col).t = S.n from cutN_t S _ S.n])
  rw [et]
  have h9 := (runC_9 (r := S.r) (c := S.c) (seed := seed) d1 d2 S.n).1
  exact h0 seed col ⟨s1, s2⟩ ⟨d1, d2⟩ rfl rfl _ (hX.put hB (cutN_inv hI h9 S.n hI.n12) hH (pushS_inv hX.2.2.2.1 hI))
