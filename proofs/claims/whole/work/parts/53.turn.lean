/-! turnOver, on both sides -/
def mir (c k : Nat) : Nat := k - k % c + c - 1 - k % c
def trn (p : Nat) : Nat := p / 8 * 8 + 4 * (1 - p / 4 % 2) + (4 - p % 4) % 4
def mirK (S : AS) (k : Nat) : AS := (S.r, S.c, S.ru, S.t, S.F, fun j => if j < k then (S.P (mir S.c j)).map trn else S.P j, fun j => if j < k then S.X (mir S.c j) else S.X j)
def mirS (S : AS) : AS := mirK S S.n
theorem mir_lt {r c k : Nat} (hr : 1 ≤ r ∧ r ≤ 3) (hc : 1 ≤ c ∧ c ≤ 4) (hk : k < r * c) : mir c k < r * c := by
  unfold mir
  rcases (show r = 1 ∨ r = 2 ∨ r = 3 by omega) with rfl | rfl | rfl <;> rcases (show c = 1 ∨ c = 2 ∨ c = 3 ∨ c = 4 by omega) with rfl | rfl | rfl | rfl <;> omega
theorem mir_mir {c k : Nat} (hc : 1 ≤ c ∧ c ≤ 4) : mir c (mir c k) = k := by
  unfold mir
  rcases (show c = 1 ∨ c = 2 ∨ c = 3 ∨ c = 4 by omega) with rfl | rfl | rfl | rfl <;> omega
theorem trn_lt {p : Nat} (h : p < 96) : trn p < 96 := by unfold trn; omega
theorem trn_8 (p : Nat) : trn p / 8 = p / 8 := by unfold trn; omega
theorem Inv.mirr {S : AS} (h : Inv S) : Inv (mirS S) := by
  obtain ⟨h1, h2, h3, h4, h5, h6, h7, h8⟩ := h
  have hn : S.n = S.r * S.c := rfl
  have g : ∀ k p, (mirS S).P k = some p → k < S.n ∧ ∃ q, S.P (mir S.c k) = some q ∧ p = trn q := fun k p e => by
    have e : (if k < S.n then (S.P (mir S.c k)).map trn else S.P k) = some p := e
    by_cases hk : k < S.n
    · rw [if_pos hk] at e
      cases hq : S.P (mir S.c k) with
      | none => rw [hq] at e; cases e
      | some q =>
        rw [hq] at e
        have e : some (trn q) = some p := e
        cases e
        exact ⟨hk, q, rfl, rfl⟩
    · rw [if_neg hk] at e
      exact absurd (h6 k p e).1 hk
  refine ⟨h1, h2, h3, h4, h5, fun k p e => ?_, fun k k' p p' e e' ep => ?_, fun k hk => ?_⟩
  · obtain ⟨hk, q, hq, rfl⟩ := g k p e
    have hq8 := (h6 _ q hq).2
    have ht := trn_8 q
    refine ⟨hk, ?_⟩
    show trn q < 8 * S.t
    omega
  · obtain ⟨hk, q, hq, rfl⟩ := g k p e
    obtain ⟨hk', q', hq', rfl⟩ := g k' p' e'
    rw [trn_8, trn_8] at ep
    have hm := h7 _ _ q q' hq hq' ep
    have hm2 := congrArg (mir S.c) hm
    rw [mir_mir h2, mir_mir h2] at hm2
    exact hm2
  · have hk : (if k < S.n then S.X (mir S.c k) else S.X k) = true := hk
    by_cases e : k < S.n
    · exact e
    · rw [if_neg e] at hk
      exact h8 k hk
theorem sp_X7_turned {o : Option Nat} (h96 : ∀ p, o = some p → p < 96) {Q : Int32 → Prop} (h : Q (enc (o.map trn))) : wp_X7_turned (enc o) Q := by
  unfold wp_X7_turned
  cases o with
  | none => exact bn_t rfl h
  | some p =>
    have hp := h96 p rfl
    refine bn_f (nn_ne_m1 (by omega)) ?_
    have e : ((((enc (some p)) / 8) * 8) + (4 * (1 - (jrem ((enc (some p)) / 4) 2)))) + (jrem (4 - (jrem (enc (some p)) 4)) 4) = nI (trn p) := by
      rw [enc_some, nn_lit 8, nn_lit 4, nn_lit 2, nn_lit 1, pk_div (by omega) (by omega) (by omega), pk_div (by omega) (by omega) (by omega), nn_rem (by omega) (by omega) (by omega), nn_rem (by omega) (by omega) (by omega), pk_sub (by omega), pk_sub (by omega), nn_rem (by omega) (by omega) (by omega), pk_mul, pk_mul, nI_add, nI_add]
      rfl
    rw [e]
    exact h
theorem sp_X6_placingTurnedOver {o : Option Nat} (h96 : ∀ p, o = some p → p < 96) {Q : Int32 → Prop} (h : Q (enc (o.map trn))) : wp_X6_placingTurnedOver (enc o) Q := by
  unfold wp_X6_placingTurnedOver
  cases o with
  | none => exact bn_t rfl h
  | some p =>
    have hp := h96 p rfl
    refine bn_f (nn_ne_m1 (by omega)) (fun x1 e1 x2 e2 x3 e3 => ?_)
    rw [enc_some, nn_lit 8, pk_div (by omega) (by omega) (by omega)] at e1
    rw [enc_some, nn_lit 4, nn_lit 2, nn_lit 1, pk_div (by omega) (by omega) (by omega), nn_rem (by omega) (by omega) (by omega), pk_sub (by omega)] at e2
    rw [enc_some, nn_lit 4, nn_rem (by omega) (by omega) (by omega), pk_sub (by omega), nn_rem (by omega) (by omega) (by omega)] at e3
    subst e1 e2 e3
    rw [nn_lit 8, nn_lit 4, pk_mul, pk_mul, nI_add, nI_add, Nat.mul_comm 8 (p / 8)]
    exact h
theorem mirK_step (S : AS) (k : Nat) : xS ((mirK S k).put k ((S.P (mir S.c k)).map trn)) k (S.X (mir S.c k)) = mirK S (k + 1) := by
  refine AS.ext' rfl rfl rfl rfl rfl (fun j => ?_) (funext fun j => ?_)
  · show (if j = k then (S.P (mir S.c k)).map trn else (if j < k then (S.P (mir S.c j)).map trn else S.P j)) = (if j < k + 1 then (S.P (mir S.c j)).map trn else S.P j)
    by_cases e : j = k
    · subst e
      rw [if_pos rfl, if_pos (by omega)]
    · rw [if_neg e]
      by_cases e2 : j < k
      · rw [if_pos e2, if_pos (by omega)]
      · rw [if_neg e2, if_neg (by omega)]
  · show (if j = k then S.X (mir S.c k) else (if j < k then S.X (mir S.c j) else S.X j)) = (if j < k + 1 then S.X (mir S.c j) else S.X j)
    by_cases e : j = k
    · subst e
      rw [if_pos rfl, if_pos (by omega)]
    · rw [if_neg e]
      by_cases e2 : j < k
      · rw [if_pos e2, if_pos (by omega)]
      · rw [if_neg e2, if_neg (by omega)]
theorem empties_le' (S : AS) : empties S ≤ S.n := cnt_le _ _
theorem pushS_last (L : List AS) (S : AS) : ∃ n, (pushS L S).length = n + 1 ∧ (pushS L S)[n]? = some S := by
  unfold pushS
  refine ⟨(if L.length = 8 then L.drop 1 else L).length, ?_, ?_⟩
  · rw [List.length_append]; rfl
  · rw [List.getElem?_append_right (Nat.le_refl _), Nat.sub_self]; rfl
theorem sp_X7_turnOver {M : MV} {S : AS} {L : List AS} {B : List Nat} (hM : RM M S L B) {Q : Int32 → MV → Prop} (h : ∀ M', RM M' (mirS S) (pushS L S) B → MV.thrown M' = 0 → Q (nI (S.n - empties (mirS S))) M') : wp_X7_turnOver M Q := by
  have gI := hM.2.1
  have hn := gI.n12
  have hr := gI.1
  have hc := gI.2.1
  unfold wp_X7_turnOver
  refine rm_save (hM.thrown 0) (fun M1 hM1 hth x1 hx1 => ?_)
  obtain ⟨z1, -, ⟨g1, g2, g3⟩, g4, g5⟩ := hM1
  obtain ⟨n, hl, hlast⟩ := pushS_last L S
  have hrow := g3 n S hlast
  rw [g1, hl, nI_pred, nn_lit 52, pk_mul] at hx1
  subst hx1
  intro P hP
  have key : ∀ d k : Nat, k + d = S.n → ∀ z : Nat → Int32, RZ z (mirK S k) → P (MV.s_z M1 z) (nI (52 * n)) (nI k) := by
    intro d
    induction d with
    | zero =>
      intro k hk z hz
      obtain rfl : k = S.n := by omega
      have hI := gI.mirr
      have he := empties_le' (mirS S)
      have en : (mirS S).n = S.n := rfl
      apply hP
      unfold bd_X7_turnOver_21
      refine sp_X7_cells (M := MV.s_z M1 z) hz (bq_t ((nI_leI (a := S.n) (b := S.n) (by omega) (by omega)).mpr (Nat.le_refl _)) ?_)
      refine sp_X7_cells (M := MV.s_z M1 z) (S := mirS S) hz (sp_X7_empties (M := MV.s_z M1 z) (S := mirS S) hz hI ?_)
      rw [pk_sub he, en]
      exact h _ ⟨hz, hI, ⟨g1, g2, g3⟩, g4, g5⟩ hth
    | succ d ih =>
      intro k hk z hz
      have hk2 : k < S.n := by omega
      have hkn : k < S.r * S.c := hk2
      have hml := mir_lt hr hc hkn
      have hml : mir S.c k < S.n := hml
      have hmod := Nat.mod_lt k (show 0 < S.c by omega)
      have hle : k % S.c ≤ k := Nat.mod_le k S.c
      apply hP
      unfold bd_X7_turnOver_21
      refine sp_X7_cells (M := MV.s_z M1 z) hz (bq_f (fun y => by
        have y : nI S.n ≤ nI k := y
        rw [nI_leI (by omega) (by omega)] at y; omega) ?_)
      have e1 : MV.z (MV.s_z M1 z) 1 = nI S.c := hz.2.1
      have e0 : ¬ nI S.c = 0 := fun y => by rw [nn_eq0 (by omega)] at y; omega
      rw [e1]
      refine ⟨e0, e0, fun x3 hx3 => ?_⟩
      rw [nn_rem (by omega) (by omega) (by omega), pk_sub hle, nI_add, nn_lit 1, pk_sub (by omega), pk_sub (by omega)] at hx3
      have hx3 : x3 = nI (mir S.c k) := hx3
      subst hx3
      rw [nn_lit 28, nn_lit 40, nI_add, nI_add, nI_add, nI_add, nI_add, nI_add, nI_clamp (by omega), nI_clamp (by omega), nI_clamp (by omega), nI_clamp (by omega)]
      have es : MV.saved (MV.s_z M1 z) (52 * n + 28 + mir S.c k) = enc (S.P (mir S.c k)) := by
        have := hrow.2.2.2.2.2.1 (mir S.c k) (by omega)
        rw [Nat.add_assoc]
        exact this
      have ef : MV.saved (MV.s_z M1 z) (52 * n + 40 + mir S.c k) = nI (S.X (mir S.c k)).toNat := by
        have := hrow.2.2.2.2.2.2 (mir S.c k) (by omega)
        rw [Nat.add_assoc]
        exact this
      rw [es]
      have h416 : 52 * n + 52 ≤ 416 := by omega
      refine ⟨vp_in_nI (by omega) (by omega), sp_X7_turned (fun p hp => (gI.p96 hp).2) ⟨vp_in_nI (by omega) (by omega), fun za hza => ⟨vp_in_nI (by omega) (by omega), fun f hf => ⟨vp_in_nI (by omega) (by omega), fun zb hzb y hy => ?_⟩⟩⟩⟩
      rw [ef] at hf
      rw [nI_1] at hy
      subst hf hy
      have hz9 : RZ zb (mirK S (k + 1)) := by
        rw [hzb, hza, ← mirK_step]
        exact (hz.put (by omega) _).fixd (by omega) _
      exact ih (k + 1) (by omega) zb hz9
  have e0 : mirK S 0 = S := AS.ext' rfl rfl rfl rfl rfl (fun j => by
    show (if j < 0 then (S.P (mir S.c j)).map trn else S.P j) = S.P j
    exact if_neg (Nat.not_lt_zero j)) (funext fun j => by
    show (if j < 0 then S.X (mir S.c j) else S.X j) = S.X j
    exact if_neg (Nat.not_lt_zero j))
  exact key S.n 0 (by omega) (MV.z M1) (by rw [e0]; exact z1)
