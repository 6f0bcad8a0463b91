/-! turnOver of the class -/
theorem sp_empty' {v : BV} {k : Nat} {o : Option Nat} (hk : k < 12) (e : BV.placings v k = enc o) (hb : ∀ p, o = some p → p < 96) {Q : Int32 → BV → Prop} (h1 : o = none → Q 1 v) (h0 : ∀ p, o = some p → Q 0 v) : wp_X0_isEmpty v (nI k) Q := by
  unfold wp_X0_isEmpty
  rw [nI_clamp (by omega), e]
  refine ⟨vp_in_nI hk (by omega), ?_⟩
  cases o with
  | none => exact bn_t rfl (h1 rfl)
  | some p =>
    have := hb p rfl
    exact bn_f (nn_ne_m1 (by omega)) (h0 p rfl)
/-- what lies when row and column are reached -/
def plF (S : AS) (row col j : Nat) : Option Nat := if j / S.c < row ∨ (j / S.c = row ∧ (j % S.c < col ∨ S.c - 1 - j % S.c < col)) then (S.P (mir S.c j)).map trn else S.P j
theorem plF_congr {S : AS} {row col row' col' j : Nat} (h : (j / S.c < row ∨ (j / S.c = row ∧ (j % S.c < col ∨ S.c - 1 - j % S.c < col))) ↔ (j / S.c < row' ∨ (j / S.c = row' ∧ (j % S.c < col' ∨ S.c - 1 - j % S.c < col')))) : plF S row col j = plF S row' col' j := by
  unfold plF
  by_cases e : j / S.c < row ∨ (j / S.c = row ∧ (j % S.c < col ∨ S.c - 1 - j % S.c < col))
  · rw [if_pos e, if_pos (h.mp e)]
  · rw [if_neg e, if_neg (fun z => e (h.mpr z))]
/-- bits of the mirrored fixed cells below i -/
def fxB (S : AS) (i m : Nat) : Prop := m < 4096 ∧ ∀ j, j < 12 → bitN m j = (decide (j < i) && S.X (mir S.c j)).toNat
theorem fxB_step {S : AS} {i m : Nat} (hi : i < 12) (h : fxB S i m) : fxB S (i + 1) (m ||| (S.X (mir S.c i)).toNat * 2 ^ i) := by
  obtain ⟨h1, h2⟩ := h
  have hp : 2 ^ i < 2 ^ 12 := Nat.pow_lt_pow_right (by omega) hi
  have hb : (S.X (mir S.c i)).toNat ≤ 1 := Bool.toNat_le _
  refine ⟨Nat.or_lt_two_pow (n := 12) h1 ?_, fun j hj => ?_⟩
  · rcases (show (S.X (mir S.c i)).toNat = 0 ∨ (S.X (mir S.c i)).toNat = 1 by omega) with e | e
    · rw [e, Nat.zero_mul]; omega
    · rw [e, Nat.one_mul]; exact hp
  · have h3 := h2 j hj
    rw [bitN_tb] at h3
    rw [bitN_tb, Nat.testBit_or]
    have hx : ((S.X (mir S.c i)).toNat * 2 ^ i).testBit j = (decide (j = i) && S.X (mir S.c i)) := by
      cases S.X (mir S.c i) with
      | false => rw [show false.toNat * 2 ^ i = 0 from Nat.zero_mul _, Nat.zero_testBit, Bool.and_false]
      | true =>
        rw [show true.toNat * 2 ^ i = 2 ^ i from Nat.one_mul _, Nat.testBit_two_pow, Bool.and_true]
        by_cases e : j = i
        · rw [decide_eq_true e, decide_eq_true e.symm]
        · rw [decide_eq_false e, decide_eq_false (fun z => e z.symm)]
    have h4 : m.testBit j = (decide (j < i) && S.X (mir S.c j)) := by
      cases h5 : m.testBit j <;> cases h6 : (decide (j < i) && S.X (mir S.c j)) <;> rw [h5, h6] at h3 <;> first | rfl | exact absurd h3 (by decide)
    rw [hx, h4]
    by_cases e : j = i
    · subst e
      rw [decide_eq_false (Nat.lt_irrefl j), decide_eq_true rfl, decide_eq_true (show j < j + 1 by omega), Bool.false_and, Bool.false_or]
    · rw [decide_eq_false e, Bool.false_and, Bool.or_false]
      by_cases e2 : j < i
      · rw [decide_eq_true e2, decide_eq_true (show j < i + 1 by omega)]
      · rw [decide_eq_false e2, decide_eq_false (show ¬ j < i + 1 by omega)]
theorem cellOfN_T {S : AS} (hI : Inv S) {t : Nat} (h : cellOf (mirS S) t = none) : cellOf S t = none := by
  cases e : cellOf S t with
  | none => rfl
  | some k =>
    exfalso
    obtain ⟨q, hq, eq⟩ := cellOfN_ex e
    have hk := (hI.2.2.2.2.2.1 k q hq).1
    have hmk : mir S.c k < S.n := mir_lt hI.1 hI.2.1 hk
    have hp : (mirS S).P (mir S.c k) = some (trn q) := by
      show (if mir S.c k < S.n then (S.P (mir S.c (mir S.c k))).map trn else S.P (mir S.c k)) = _
      rw [if_pos hmk, mir_mir hI.2.1, hq]
      rfl
    exact cellOf_none hI.mirr h hp ((trn_8 q).trans eq)
theorem sp_X0_mirror_104 {v : BV} {S : AS} (hI : Inv S) (hb : BV.rows v = nI S.r ∧ BV.columns v = nI S.c ∧ BV.rule v = nI S.ru ∧ BV.tiles v = nI S.t) (hf : ∃ m, m < 4096 ∧ BV.fixed v = nI m ∧ ∀ k, k < 12 → bitN m k = ((mirS S).X k).toNat) (hp : ∀ k, k < 12 → BV.placings v k = enc ((mirS S).P k)) (hc : ∀ t, t < 12 → BV.places v t = enc (cellOf S t)) (hl : ∀ p, p < 8 * S.t → BV.looks v p = nI (pkN 8 (lk S.F p))) {Q : BV → Prop} (h : ∀ v', RB v' (mirS S) → Q v') : wp_X0_mirror_104 Q v 0 := by
  have hJ := hI.mirr
  have hn := hI.n12
  have ht := hI.2.2.2.1
  intro P hP
  have key : ∀ d k : Nat, k + d = S.n → ∀ pl : Nat → Int32, (∀ t, t < 12 → pl t = enc (match cellOfN (mirS S) t k with
      | some j => some j
      | none => cellOf S t)) → P (BV.s_places v pl) (nI k) := by
    intro d
    induction d with
    | zero =>
      intro k hk pl hpl
      obtain rfl : k = S.n := by omega
      apply hP
      unfold bd_X0_mirror_104 wp_X0_cells
      rw [show BV.rows (BV.s_places v pl) * BV.columns (BV.s_places v pl) = nI S.n by rw [show BV.rows (BV.s_places v pl) = nI S.r from hb.1, show BV.columns (BV.s_places v pl) = nI S.c from hb.2.1, pk_mul]; rfl]
      refine bq_t ((nI_leI (by omega) (by omega)).mpr (Nat.le_refl _)) (h _ ⟨hb, hf, hp, fun t ht => ?_, hl⟩)
      have g := hpl t ht
      have e9 : cellOfN (mirS S) t S.n = cellOf (mirS S) t := rfl
      rw [e9] at g
      cases e : cellOf (mirS S) t with
      | some j => rw [e] at g; exact g
      | none =>
        rw [e] at g
        have g : pl t = enc (cellOf S t) := g
        rw [cellOfN_T hI e] at g
        exact g
    | succ d ih =>
      intro k hk pl hpl
      apply hP
      unfold bd_X0_mirror_104
      show wp_X0_cells (BV.s_places v pl) _
      unfold wp_X0_cells
      rw [show BV.rows (BV.s_places v pl) * BV.columns (BV.s_places v pl) = nI S.n by rw [show BV.rows (BV.s_places v pl) = nI S.r from hb.1, show BV.columns (BV.s_places v pl) = nI S.c from hb.2.1, pk_mul]; rfl]
      refine bq_f (fun y => by rw [nI_leI (by omega) (by omega)] at y; omega) ?_
      refine sp_empty' (v := BV.s_places v pl) (o := (mirS S).P k) (by omega) (hp k (by omega)) (fun p e => (hJ.p96 e).2) (fun e => bn_f (by decide) (fun y hy => ?_)) (fun p e => bn_t rfl ?_)
      · rw [nI_1] at hy
        subst hy
        refine ih (k + 1) (by omega) pl (fun t ht => ?_)
        have e9 : cellOfN (mirS S) t (k + 1) = cellOfN (mirS S) t k := by
          show (match (mirS S).P k with
            | some p => if p / 8 = t then some k else cellOfN (mirS S) t k
            | none => cellOfN (mirS S) t k) = _
          rw [e]
        rw [e9]
        exact hpl t ht
      · have hp9 := (hJ.p96 e).2
        rw [nI_clamp (by omega), show BV.placings (BV.s_places v pl) k = nI p from (hp k (by omega)).trans (by rw [e]; rfl), nn_lit 8, pk_div (by omega) (by omega) (by omega), nI_clamp (by omega)]
        refine ⟨vp_in_nI (by omega) (by omega), vp_in_nI (by omega) (by omega), fun p2 hp2 y hy => ?_⟩
        rw [nI_1] at hy
        subst hy
        refine ih (k + 1) (by omega) p2 (fun t ht => ?_)
        have hp2 : p2 = upd pl (p / 8) (nI k) := hp2
        have e9 : cellOfN (mirS S) t (k + 1) = if p / 8 = t then some k else cellOfN (mirS S) t k := by
          show (match (mirS S).P k with
            | some p => if p / 8 = t then some k else cellOfN (mirS S) t k
            | none => cellOfN (mirS S) t k) = _
          rw [e]
        rw [e9, hp2]
        by_cases et : t = p / 8
        · rw [if_pos et.symm, et, pk_us]
          rfl
        · rw [if_neg (fun z => et z.symm), pk_un et]
          exact hpl t ht
  exact key S.n 0 (by omega) (BV.places v) hc
theorem sp_X0_mirror {v : BV} {S : AS} (hv : RB v S) (hI : Inv S) {Q : BV → Prop} (h : ∀ v', RB v' (mirS S) → Q v') : wp_X0_mirror v Q := by
  have hn := hI.n12
  have hr := hI.1
  have hc := hI.2.1
  have hnn : S.n = S.r * S.c := rfl
  obtain ⟨b1, ⟨m0, m1, m2, m3⟩, b6, b7, b8⟩ := hv
  intro x1 hx1
  rw [m2] at hx1
  subst hx1
  intro P hP
  -- the end of the rows
  have fin : ∀ (pl : Nat → Int32) (m : Nat), (∀ j, j < 12 → pl j = enc (plF S S.r 0 j)) → fxB S (S.r * S.c) m → P (BV.s_fixed (BV.s_placings v pl) (nI m)) (nI m0) (nI S.r) := by
    intro pl m hpl hm
    apply hP
    unfold bd_X0_mirror_12
    rw [show BV.rows (BV.s_fixed (BV.s_placings v pl) (nI m)) = nI S.r from b1.1]
    refine bq_t ((nI_leI (by omega) (by omega)).mpr (Nat.le_refl _)) ?_
    refine sp_X0_mirror_104 (v := BV.s_fixed (BV.s_placings v pl) (nI m)) hI b1 ⟨m, hm.1, rfl, fun k hk => ?_⟩ (fun k hk => ?_) b7 b8 h
    · rw [hm.2 k hk]
      show _ = (if k < S.n then S.X (mir S.c k) else S.X k).toNat
      by_cases e : k < S.n
      · rw [if_pos e, decide_eq_true (show k < S.r * S.c from e), Bool.true_and]
      · rw [if_neg e, decide_eq_false (show ¬ k < S.r * S.c from e), Bool.false_and]
        cases ex : S.X k with
        | false => rfl
        | true => exact absurd (hI.2.2.2.2.2.2.2 k ex) e
    · show pl k = _
      rw [hpl k hk]
      show enc (plF S S.r 0 k) = enc (if k < S.n then (S.P (mir S.c k)).map trn else S.P k)
      unfold plF
      have hdiv : k / S.c < S.r ↔ k < S.r * S.c := Nat.div_lt_iff_lt_mul (by omega)
      by_cases e : k < S.n
      · rw [if_pos e, if_pos (Or.inl (hdiv.mpr e))]
      · rw [if_neg e]
        have hN : S.P k = none := out_none hI e
        rw [hN]
        split
        · have hml : ¬ mir S.c k < S.n := fun z => e (by
            have := mir_lt hr hc z
            rw [mir_mir hc] at this
            exact this)
          rw [out_none hI hml]
          rfl
        · rfl
  -- one row after another
  have rows : ∀ d row : Nat, row + d = S.r → ∀ (pl : Nat → Int32) (m : Nat), (∀ j, j < 12 → pl j = enc (plF S row 0 j)) → fxB S (row * S.c) m → P (BV.s_fixed (BV.s_placings v pl) (nI m)) (nI m0) (nI row) := by
    intro d
    induction d with
    | zero =>
      intro row hrow pl m hpl hm
      obtain rfl : row = S.r := by omega
      exact fin pl m hpl hm
    | succ d ih =>
      intro row hrow pl m hpl hm
      have hrow2 : row < S.r := by omega
      have hmul : (row + 1) * S.c ≤ S.r * S.c := Nat.mul_le_mul_right _ (by omega)
      rw [Nat.add_mul, Nat.one_mul] at hmul
      apply hP
      unfold bd_X0_mirror_12
      rw [show BV.rows (BV.s_fixed (BV.s_placings v pl) (nI m)) = nI S.r from b1.1]
      refine bq_f (fun y => by rw [nI_leI (by omega) (by omega)] at y; omega) ?_
      intro P2 hP2
      have cols : ∀ e col : Nat, col + e = S.c → ∀ (pl : Nat → Int32) (m : Nat), (∀ j, j < 12 → pl j = enc (plF S row col j)) → fxB S (row * S.c + col) m → P2 (BV.s_fixed (BV.s_placings v pl) (nI m)) (nI m0) (nI row) (nI col) := by
        intro e
        induction e with
        | zero =>
          intro col hcol pl m hpl hm
          obtain rfl : col = S.c := by omega
          apply hP2
          unfold bd_X0_mirror_22
          rw [show BV.columns (BV.s_fixed (BV.s_placings v pl) (nI m)) = nI S.c from b1.2.1]
          refine bq_t ((nI_leI (by omega) (by omega)).mpr (Nat.le_refl _)) (fun y hy => ?_)
          rw [nI_1] at hy
          subst hy
          refine ih (row + 1) (by omega) pl m (fun j hj => ?_) (by rw [Nat.add_mul, Nat.one_mul]; exact hm)
          rw [hpl j hj]
          have hjm := Nat.mod_lt j (show 0 < S.c by omega)
          rw [plF_congr (row' := row + 1) (col' := 0) (by omega)]
        | succ e ihc =>
          intro col hcol pl m hpl hm
          have hcl : row * S.c + col < S.n := by omega
          have him : row * S.c + S.c - 1 - col < S.n := by omega
          have d1 : (row * S.c + col) / S.c = row := by rw [Nat.mul_comm, Nat.mul_add_div (by omega), Nat.div_eq_of_lt (by omega), Nat.add_zero]
          have d2 : (row * S.c + col) % S.c = col := by rw [Nat.mul_comm, Nat.mul_add_mod, Nat.mod_eq_of_lt (by omega)]
          have ei : row * S.c + S.c - 1 - col = row * S.c + (S.c - 1 - col) := by omega
          have d3 : (row * S.c + S.c - 1 - col) / S.c = row := by rw [ei, Nat.mul_comm, Nat.mul_add_div (by omega), Nat.div_eq_of_lt (by omega), Nat.add_zero]
          have d4 : (row * S.c + S.c - 1 - col) % S.c = S.c - 1 - col := by rw [ei, Nat.mul_comm, Nat.mul_add_mod, Nat.mod_eq_of_lt (by omega)]
          have q1 : mir S.c (row * S.c + col) = row * S.c + S.c - 1 - col := by
            unfold mir
            rw [d2]
            omega
          have q2 : mir S.c (row * S.c + S.c - 1 - col) = row * S.c + col := by rw [← q1, mir_mir hc]
          have uq : ∀ j, j / S.c = row → ∀ x, j % S.c = x → j = row * S.c + x := fun j e1 x e2 => by
            have := Nat.div_add_mod j S.c
            rw [e1, e2, Nat.mul_comm] at this
            exact this.symm
          apply hP2
          unfold bd_X0_mirror_22
          rw [show BV.columns (BV.s_fixed (BV.s_placings v pl) (nI m)) = nI S.c from b1.2.1]
          refine bq_f (fun y => by rw [nI_leI (by omega) (by omega)] at y; omega) (fun x4 hx4 x5 hx5 f hf => ?_)
          rw [pk_mul, nI_add] at hx4
          rw [pk_mul, nI_add, nn_lit 1, pk_sub (by omega), pk_sub (by omega)] at hx5
          subst hx4 hx5
          have hf : f = nI m ||| jshl ((jshr (nI m0) (nI (row * S.c + S.c - 1 - col))) &&& 1) (nI (row * S.c + col)) := hf
          have hpw : 2 ^ (row * S.c + col) < 2 ^ 12 := Nat.pow_lt_pow_right (by omega) (by omega)
          have hbt : (S.X (mir S.c (row * S.c + col))).toNat ≤ 1 := Bool.toNat_le _
          have hbp : (S.X (mir S.c (row * S.c + col))).toNat * 2 ^ (row * S.c + col) < 2 ^ 32 := by
            rcases (show (S.X (mir S.c (row * S.c + col))).toNat = 0 ∨ (S.X (mir S.c (row * S.c + col))).toNat = 1 by omega) with e | e
            · rw [e, Nat.zero_mul]; omega
            · rw [e, Nat.one_mul]; omega
          rw [bit_row (by omega) (by omega), m3 _ (by omega), ← q1, nn_shl (by omega) hbp, nn_or] at hf
          have hm' := fxB_step (by omega) hm
          rw [Nat.add_assoc] at hm'
          subst hf
          have nxt : ∀ pl' : Nat → Int32, (∀ j, j < 12 → pl' j = enc (plF S row (col + 1) j)) → wp_X0_mirror_90 P2 (fun (vB_9 : BV) (x1_10 : Int32) (x2_11 : Int32) => ∀ x2_12 : Int32, x2_12 = x2_11 + 1 → P vB_9 x1_10 x2_12) Q (BV.s_fixed (BV.s_placings v pl') (nI (m ||| (S.X (mir S.c (row * S.c + col))).toNat * 2 ^ (row * S.c + col)))) (nI m0) (nI row) (nI col) := by
            intro pl' hpl' y hy
            rw [nI_1] at hy
            subst hy
            exact ihc (col + 1) (by omega) pl' _ hpl' hm'
          refine ek_if (nI_ltI (by omega) (by omega)) (fun e1 => ?_) (fun e1 => ?_)
          · refine nxt pl (fun j hj => ?_)
            have hjm := Nat.mod_lt j (show 0 < S.c by omega)
            rw [hpl j hj, plF_congr (row' := row) (col' := col + 1) (by omega)]
          · have hx1 : plF S row col (row * S.c + col) = S.P (row * S.c + col) := by
              unfold plF
              rw [d1, d2]
              exact if_neg (by omega)
            have hx2 : plF S row col (row * S.c + S.c - 1 - col) = S.P (row * S.c + S.c - 1 - col) := by
              unfold plF
              rw [d3, d4]
              exact if_neg (by omega)
            have e9 : BV.placings (BV.s_fixed (BV.s_placings v pl) (nI (m ||| (S.X (mir S.c (row * S.c + col))).toNat * 2 ^ (row * S.c + col)))) = pl := rfl
            unfold wp_X0_swapTurnedOver
            rw [e9, nI_clamp (by omega), nI_clamp (by omega), hpl _ (show row * S.c + col < 12 by omega), hpl _ (show row * S.c + S.c - 1 - col < 12 by omega), hx1, hx2]
            refine ⟨vp_in_nI (by omega) (by omega), fun x3 hx3 => ⟨vp_in_nI (by omega) (by omega), sp_X6_placingTurnedOver (fun p hp => (hI.p96 hp).2) ⟨vp_in_nI (by omega) (by omega), fun p6 hp6 => ?_⟩⟩⟩
            subst hx3
            refine sp_X6_placingTurnedOver (fun p hp => (hI.p96 hp).2) ⟨vp_in_nI (by omega) (by omega), fun p9 hp9 => ?_⟩
            refine nxt p9 (fun j hj => ?_)
            have hjm := Nat.mod_lt j (show 0 < S.c by omega)
            rw [hp9, hp6]
            by_cases j1 : j = row * S.c + S.c - 1 - col
            · rw [j1, pk_us]
              unfold plF
              rw [d3, d4, if_pos (by omega), q2]
            · rw [pk_un j1]
              by_cases j2 : j = row * S.c + col
              · rw [j2, pk_us]
                unfold plF
                rw [d1, d2, if_pos (by omega), q1]
              · rw [pk_un j2, hpl j hj]
                refine congrArg enc (plF_congr ?_)
                constructor
                · omega
                · intro z
                  rcases z with z | ⟨z1, z⟩
                  · exact Or.inl z
                  · refine Or.inr ⟨z1, ?_⟩
                    by_cases w1 : j % S.c = col
                    · exact absurd (uq j z1 col w1) j2
                    · by_cases w2 : j % S.c = S.c - 1 - col
                      · exact absurd ((uq j z1 _ w2).trans ei.symm) j1
                      · omega
      exact cols S.c 0 (by omega) pl m hpl hm
  exact rows S.r 0 (by omega) (BV.placings v) 0 (fun j hj => by
    rw [b6 j hj]
    unfold plF
    rw [if_neg (fun z => by rcases z with z | ⟨_, z | z⟩ <;> exact Nat.not_lt_zero _ z)]) ⟨by omega, fun j hj => by
      rw [decide_eq_false (by omega), Bool.false_and]
      unfold bitN
      rw [Nat.zero_div]
      rfl⟩
theorem sp_X6_turnOver {v : XV} {S : AS} {L : List AS} {B : List Nat} (hX : RX v S L B) {Q : Int32 → XV → Prop} (h : ∀ v', RX v' (mirS S) (pushS L S) B → Q (nI (S.n - empties (mirS S))) v') : wp_X6_turnOver v Q := by
  have hI := hX.2.1
  have hJ := hI.mirr
  have he := empties_le' (mirS S)
  unfold wp_X6_turnOver
  refine rx_save hX (fun vH hH => sp_X0_mirror hX.1 hI (fun vB hB => sp_X0_cells hB (sp_X0_emptyCells hB hJ ?_)))
  rw [pk_sub he]
  exact h _ (hX.put hB hJ hH (pushS_inv hX.2.2.2.1 hI))
