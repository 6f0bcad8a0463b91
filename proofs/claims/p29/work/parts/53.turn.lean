/-! turnOver, on both sides -/
def mir (c k : Nat) : Nat := k - k % c + c - 1 - k % c
def trn (p : Nat) : Nat := p / 8 * 8 + 4 * (1 - p / 4 % 2) + (4 - p % 4) % 4
def mirK (S : AS) (k : Nat) : AS := (S.r, S.c, S.ru, S.t, S.F, fun j => if j < k then (S.P (mir S.c j)).map trn else S.P j, fun j => if j < k then S.X (mir S.c j) else S.X j)
def mirS (S : AS) : AS := mirK S S.n
theorem mir_lt {r c k : Nat} (hr : 1 ≤ r ∧ r ≤ 3) (hc : 1 ≤ c ∧ c ≤ 4) (hk : k < r * c) : mir c k < r * c := by
  unfold mir
  rcases (show r = 1 ∨ r = 2 ∨ r = 3 by omega) with rfl | rfl | rfl <;> rcases (show c = 1 ∨ c = 2 ∨ c = 3 ∨ c = 4 by omega) with rfl | rfl | rfl | rfl <;> omega
theorem mir_mir {c k : Nat} (hc : 1 ≤ c ∧ c ≤ 4) : mir c (mir c k) = k := by
  unfold mir
  rcases (show c = 1 ∨ c = 2 ∨ c = 3 ∨ c = 4 by omega) with rfl | rfl | rfl | rfl <;> omega
theorem trn_8 (p : Nat) : trn p / 8 = p / 8 := by unfold trn; omega
theorem Inv.mirr {S : AS} (h : Inv S) : Inv (mirS S) := by
  obtain ⟨h1, h2, h3, h4, h5, h6, h7, h8⟩ := h
  have hn : S.n = S.r * S.c := rfl
  have g : ∀ k p, (mirS S).P k = some p → k < S.n ∧ ∃ q, S.P (mir S.c k) = some q ∧ p = trn q := fun k p e => by
    have e : (if k < S.n then (S.P (mir S.c k)).map trn else S.P k) = some p := e
    by_cases hk : k < S.n
    · rw [if_pos hk] at e
      cases hq : S.P (mir S.c k) with
      | none => rw [hq] at e; cases e
      | some q =>
        rw [hq] at e
        have e : some (trn q) = some p := e
        cases e
        exact ⟨hk, q, rfl, rfl⟩
    · rw [if_neg hk] at e
      exact absurd (h6 k p e).1 hk
  refine ⟨h1, h2, h3, h4, h5, fun k p e => ?_, fun k k' p p' e e' ep => ?_, fun k hk => ?_⟩
  · obtain ⟨hk, q, hq, rfl⟩ := g k p e
    have hq8 := (h6 _ q hq).2
    have ht := trn_8 q
    refine ⟨hk, ?_⟩
    show trn q < 8 * S.t
    omega
  · obtain ⟨hk, q, hq, rfl⟩ := g k p e
    obtain ⟨hk', q', hq', rfl⟩ := g k' p' e'
    rw [trn_8, trn_8] at ep
    have hm := h7 _ _ q q' hq hq' ep
    have hm2 := congrArg (mir S.c) hm
    rw [mir_mir h2, mir_mir h2] at hm2
    exact hm2
  · have hk : (if k < S.n then S.X (mir S.c k) else S.X k) = true := hk
    by_cases e : k < S.n
    · exact e
    · rw [if_neg e] at hk
      exact h8 k hk
theorem sp_X6_placingTurnedOver {o : Option Nat} (h96 : ∀ p, o = some p → p < 96) {Q : Int32 → Prop} (h : Q (enc (o.map trn))) : wp_X6_placingTurnedOver (enc o) Q := by
  unfold wp_X6_placingTurnedOver
  cases o with
  | none => exact bn_t rfl h
  | some p =>
    have hp := h96 p rfl
    refine bn_f (nn_ne_m1 (by omega)) (fun x1 e1 x2 e2 x3 e3 => ?_)
    rw [enc_some, nn_lit 8, pk_div (by omega) (by omega) (by omega)] at e1
    rw [enc_some, nn_lit 4, nn_lit 2, nn_lit 1, pk_div (by omega) (by omega) (by omega), nn_rem (by omega) (by omega) (by omega), pk_sub (by omega)] at e2
    rw [enc_some, nn_lit 4, nn_rem (by omega) (by omega) (by omega), pk_sub (by omega), nn_rem (by omega) (by omega) (by omega)] at e3
    subst e1 e2 e3
    rw [nn_lit 8, nn_lit 4, pk_mul, pk_mul, nI_add, nI_add, Nat.mul_comm 8 (p / 8)]
    exact h
theorem empties_le' (S : AS) : empties S ≤ S.n := cnt_le _ _
