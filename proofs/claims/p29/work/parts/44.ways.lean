/-! the class's board: ways, faces, pairs -/
theorem lk_congr {F G : Nat → Nat} {p : Nat} (h0 : F (2 * (p / 8)) = G (2 * (p / 8))) (h1 : F (2 * (p / 8) + 1) = G (2 * (p / 8) + 1)) (j : Nat) : lk F p j = lk G p j := by
  have hc : ∀ s b, col F p s b = col G p s b := fun s b => by
    unfold col
    rcases (show p / 4 % 2 = 0 ∨ p / 4 % 2 = 1 by omega) with e | e
    · have a0 : F (2 * (p / 8) + 0) = G (2 * (p / 8) + 0) := h0
      have a1 : F (2 * (p / 8) + (1 - 0)) = G (2 * (p / 8) + (1 - 0)) := h1
      rw [e, a0, a1]
    · have a0 : F (2 * (p / 8) + (1 - 1)) = G (2 * (p / 8) + (1 - 1)) := h0
      have a1 : F (2 * (p / 8) + 1) = G (2 * (p / 8) + 1) := h1
      rw [e, a0, a1]
  unfold lk
  rw [hc, hc]
theorem sp_X0_makeWays {v : BV} {G : Nat → Nat} (hG : ∀ i, i < 24 → G i ≤ 9999) {t : Nat} (ht : t < 12) (h0 : BV.looks v (8 * t) = nI (pkN 8 (lk G (8 * t)))) {Q : BV → Prop}
    (h : ∀ l : Nat → Int32, (∀ p, ¬ (8 * t ≤ p ∧ p < 8 * t + 8) → l p = BV.looks v p) → (∀ p, 8 * t ≤ p → p < 8 * t + 8 → l p = nI (pkN 8 (lk G p))) → Q (BV.s_looks v l)) : wp_X0_makeWays v (nI t) Q := by
  intro x2 hx2
  rw [nn_lit 8, pk_mul] at hx2
  subst hx2
  have hb : ∀ p, p < 96 → ∀ j, j < 8 → lk G p j < 16 := fun p hp j _ => lk_lt hG hp j
  rw [nI_clamp (by omega), h0]
  refine ⟨vp_in_nI (by omega) (by omega), sp_X6_turnedOver (hb _ (by omega)) ?_⟩
  rw [nn_lit 4, nI_add, nI_clamp (by omega)]
  refine ⟨vp_in_nI (by omega) (by omega), fun l5 e5 => ?_⟩
  rw [row_congr (g := lk G (8 * t + 4)) (fun j hj => (lk_over G t hj).symm)] at e5
  intro P hP
  have key : ∀ d s : Nat, s + 1 + d = 4 → ∀ l : Nat → Int32, (∀ p, ¬ (8 * t ≤ p ∧ p < 8 * t + 8) → l p = BV.looks v p) → (∀ p, 8 * t ≤ p → p < 8 * t + 8 → p % 4 < s + 1 → l p = nI (pkN 8 (lk G p))) → P (BV.s_looks v l) (nI (8 * t)) (nI (s + 1)) := by
    intro d
    induction d with
    | zero =>
      intro s hs l ho hi
      obtain rfl : s = 3 := by omega
      exact hP _ _ _ (bq_t (by decide) (h l ho (fun p p1 p2 => hi p p1 p2 (by omega))))
    | succ d ih =>
      intro s hs l ho hi
      apply hP
      unfold bd_X0_makeWays_24
      refine bq_f (fun z => by rw [nn_lit 4, nI_leI (by omega) (by omega)] at z; omega) ?_
      have ea : nI (8 * t) + nI (s + 1) - 1 = nI (8 * t + s) := by rw [nI_add, ← Nat.add_assoc, nI_pred]
      have eb : nI (8 * t) + nI (s + 1) = nI (8 * t + s + 1) := by rw [nI_add, ← Nat.add_assoc]
      have ec : nI (8 * t) + 4 + nI (s + 1) - 1 = nI (8 * t + 4 + s) := by rw [nn_lit 4, nI_add, nI_add, ← Nat.add_assoc, nI_pred]
      have ed : nI (8 * t) + 4 + nI (s + 1) = nI (8 * t + 4 + s + 1) := by rw [nn_lit 4, nI_add, nI_add, ← Nat.add_assoc]
      rw [ea, ec, eb, ed, nI_clamp (n := 8 * t + s) (by omega), nI_clamp (n := 8 * t + 4 + s) (by omega), nI_clamp (n := 8 * t + s + 1) (by omega), nI_clamp (n := 8 * t + 4 + s + 1) (by omega)]
      have hl : BV.looks (BV.s_looks v l) (8 * t + s) = nI (pkN 8 (lk G (8 * t + s))) := hi _ (by omega) (by omega) (by omega)
      rw [hl]
      refine ⟨vp_in_nI (by omega) (by omega), sp_X6_turned (hb _ (by omega)) ⟨vp_in_nI (by omega) (by omega), fun l9 e9 => ⟨vp_in_nI (by omega) (by omega), ?_⟩⟩⟩
      rw [row_congr (g := lk G (8 * t + s + 1)) (fun j hj => (lk_turn G (by omega) hj).symm)] at e9
      have e9 : l9 = upd l (8 * t + s + 1) (nI (pkN 8 (lk G (8 * t + s + 1)))) := e9
      have hl2 : l9 (8 * t + 4 + s) = nI (pkN 8 (lk G (8 * t + 4 + s))) := by
        rw [e9, pk_un (by omega)]
        exact hi _ (by omega) (by omega) (by omega)
      rw [hl2]
      refine sp_X6_turned (hb _ (by omega)) ⟨vp_in_nI (by omega) (by omega), fun l13 e13 y hy => ?_⟩
      rw [row_congr (g := lk G (8 * t + 4 + s + 1)) (fun j hj => (lk_turn G (by omega) hj).symm)] at e13
      rw [nI_1] at hy
      subst hy
      refine ih (s + 1) (by omega) l13 (fun p hp => ?_) (fun p p1 p2 p3 => ?_)
      · rw [e13, pk_un (by omega), e9, pk_un (by omega)]
        exact ho p hp
      · rw [e13]
        by_cases q1 : p = 8 * t + 4 + s + 1
        · rw [q1, pk_us]
        · rw [pk_un q1, e9]
          by_cases q2 : p = 8 * t + s + 1
          · rw [q2, pk_us]
          · rw [pk_un q2]
            exact hi p p1 p2 (by omega)
  refine key 3 0 rfl l5 (fun p hp => ?_) (fun p p1 p2 p3 => ?_)
  · rw [e5, pk_un (by omega)]
  · rw [e5]
    by_cases q1 : p = 8 * t + 4
    · rw [q1, pk_us]
    · rw [pk_un q1, show p = 8 * t by omega]
      exact h0
theorem sp_X0_addFaces {v : BV} {S : AS} (hv : RB v S) (hI : Inv S) (ht : S.t ≤ 11) {f o : Nat} (hf : f ≤ 9999) (ho : o ≤ 9999) {Q : BV → Prop} (h : ∀ v', RB v' (addF S f o) → Q v') : wp_X0_addFaces v (nI f) (nI o) Q := by
  obtain ⟨⟨b1, b2, b3, b4⟩, b5, b6, b7, b8⟩ := hv
  have hJ := hI.addF ht hf ho
  refine sp_X6_lookOfFaces hf ho ?_
  rw [b4, nn_lit 8, pk_mul, nI_clamp (by omega)]
  refine ⟨vp_in_nI (by omega) (by omega), fun l3 e3 => ?_⟩
  refine sp_X0_makeWays (v := BV.s_looks v l3) (G := (addF S f o).F) hJ.2.2.2.2.1 (by omega) ?_ (fun l q1 q2 f5 e5 => ?_)
  · show l3 (8 * S.t) = _
    rw [e3, pk_us]
    refine row_congr (fun j hj => ?_)
    rw [lk_0, show (addF S f o).F (2 * S.t) = f from if_pos rfl, show (addF S f o).F (2 * S.t + 1) = o from (if_neg (by omega)).trans (if_pos rfl)]
  · have e5 : f5 = nI (S.t + 1) := by
      have e5 : f5 = BV.tiles v + 1 := e5
      rw [e5, b4, nI_1]
    refine h _ ⟨⟨b1, b2, b3, e5⟩, b5, b6, fun t ht' => ?_, fun p hp => ?_⟩
    · rw [cellOf_congr (S := S) (T := addF S f o) (fun k => rfl) rfl]
      exact b7 t ht'
    · have hp : p < 8 * (S.t + 1) := hp
      show l p = _
      by_cases e : p < 8 * S.t
      · rw [q1 p (by omega)]
        show l3 p = _
        rw [e3, pk_un (by omega), b8 p e]
        refine row_congr (fun j hj => lk_congr ?_ ?_ j)
        · exact ((if_neg (by omega)).trans (if_neg (by omega))).symm
        · exact ((if_neg (by omega)).trans (if_neg (by omega))).symm
      · exact q2 p (by omega) (by omega)
theorem lk_low {F : Nat → Nat} {p s : Nat} (hs : s < 4) : lk F p s = col F p s false := if_pos hs
theorem lk_high {F : Nat → Nat} {p s : Nat} : lk F p (s + 4) = col F p s true := by
  unfold lk
  rw [if_neg (by omega), Nat.add_sub_cancel]
theorem face_sum {n : Nat} (h : n ≤ 9999) : 10 * (10 * (10 * (10 * 0 + dig n 0) + dig n 1) + dig n 2) + dig n 3 = n := by
  have e0 : dig n 0 = n / 1000 := rfl
  have e1 : dig n 1 = n / 100 % 10 := rfl
  have e2 : dig n 2 = n / 10 % 10 := rfl
  have e3 : dig n 3 = n % 10 := rfl
  rw [e0, e1, e2, e3]
  omega
theorem sp_X0_faceOf {v : BV} {S : AS} (hv : RB v S) (hI : Inv S) {t f : Nat} (ht : t < S.t) (hf : f < 2) {Q : Int32 → BV → Prop} (h : Q (nI (S.F (2 * t + f))) v) : wp_X0_faceOf v (nI t) (nI f) Q := by
  have ht12 := hI.2.2.2.1
  have hF := hI.2.2.2.2.1
  have hFf := hF (2 * t + f) (by omega)
  unfold wp_X0_faceOf
  rw [nn_lit 8, nn_lit 4, pk_mul, pk_mul, nI_add, nI_clamp (by omega), hv.2.2.2.2 (8 * t + 4 * f) (by omega)]
  refine ⟨vp_in_nI (by omega) (by omega), fun x3 hx3 P hP => ?_⟩
  subst hx3
  have hc : ∀ s, s < 4 → lk S.F (8 * t + 4 * f) s = dig (S.F (2 * t + f)) s := fun s hs => by
    rw [lk_low hs]
    unfold col
    rw [if_neg Bool.false_ne_true, show (8 * t + 4 * f) / 8 = t by omega, show (8 * t + 4 * f) / 4 % 2 = f by omega, show (s + 4 - (8 * t + 4 * f) % 4) % 4 = s by omega]
  have step : ∀ s x : Nat, s < 4 → x ≤ 9999 → P v (nI (pkN 8 (lk S.F (8 * t + 4 * f)))) (nI (10 * x + dig (S.F (2 * t + f)) s)) (nI (s + 1)) → P v (nI (pkN 8 (lk S.F (8 * t + 4 * f)))) (nI x) (nI s) := by
    intro s x hs hx hnx
    have d1 := dig_lt hFf s
    have d2 := lk_lt hF (p := 8 * t + 4 * f) (by omega) (s + 4)
    apply hP
    refine bq_f (fun z => by rw [nn_lit 4, nI_leI (by omega) (by omega)] at z; omega) (sp_X6_colorsAt (fun j _ => lk_lt hF (by omega) j) hs (fun y hy y2 hy2 => ?_))
    rw [hc s hs, lo15 (by omega) d2, nn_lit 10, pk_mul, nI_add] at hy
    rw [nI_1] at hy2
    subst hy hy2
    exact hnx
  have d0 := dig_lt hFf 0
  have d1 := dig_lt hFf 1
  have d2 := dig_lt hFf 2
  refine step 0 0 (by omega) (by omega) (step 1 _ (by omega) (by omega) (step 2 _ (by omega) (by omega) (step 3 _ (by omega) (by omega) (hP _ _ _ _ (bq_t (by decide) ?_)))))
  rw [face_sum hFf]
  exact h
theorem lks_iff {F : Nat → Nat} {p q : Nat} : lks F p q = true ↔ ∀ j, j < 8 → lk F p j = lk F q j := by
  have e : lks F p q = ((((true && sideEq F p q 0) && sideEq F p q 1) && sideEq F p q 2) && sideEq F p q 3) := rfl
  have es : ∀ s, sideEq F p q s = true ↔ (col F p s false = col F q s false ∧ col F p s true = col F q s true) := fun s => by
    unfold sideEq
    rw [Bool.and_eq_true, beq_iff_eq, beq_iff_eq]
  rw [e, Bool.and_eq_true, Bool.and_eq_true, Bool.and_eq_true, Bool.and_eq_true, es, es, es, es]
  constructor
  · rintro ⟨⟨⟨⟨-, a0, b0⟩, a1, b1⟩, a2, b2⟩, a3, b3⟩ j hj
    rcases lt8 hj with rfl | rfl | rfl | rfl | rfl | rfl | rfl | rfl
    · exact a0
    · exact a1
    · exact a2
    · exact a3
    · exact b0
    · exact b1
    · exact b2
    · exact b3
  · intro h
    exact ⟨⟨⟨⟨rfl, h 0 (by omega), h 4 (by omega)⟩, h 1 (by omega), h 5 (by omega)⟩, h 2 (by omega), h 6 (by omega)⟩, h 3 (by omega), h 7 (by omega)⟩
theorem anyN_f {f : Nat → Bool} : ∀ {n}, (∀ j, j < n → f j = false) → anyN f n = false
  | 0, _ => rfl
  | n + 1, h => by
    show (anyN f n || f n) = false
    rw [anyN_f (n := n) (fun j hj => h j (by omega)), h n (by omega)]
    rfl
theorem sp_X0_lowestLike {v : BV} {S : AS} (hv : RB v S) (hI : Inv S) {t : Nat} (ht : t < S.t) {Q : Int32 → BV → Prop} (h : Q (nI (lowA S t)) v) : wp_X0_lowestLike v (nI t) Q := by
  have ht12 := hI.2.2.2.1
  have hF := hI.2.2.2.2.1
  have hb : ∀ p, p < 96 → ∀ j, j < 8 → lk S.F p j < 16 := fun p hp j _ => lk_lt hF hp j
  unfold wp_X0_lowestLike
  rw [nn_lit 8, pk_mul, nI_clamp (by omega), hv.2.2.2.2 (8 * t) (by omega)]
  refine ⟨vp_in_nI (by omega) (by omega), fun x2 hx2 P hP => ?_⟩
  subst hx2
  have key : ∀ d p : Nat, p + d = 8 * t → (∀ q, 8 * (p / 8) ≤ q → q < p → lks S.F q (8 * t) = false) → fstF (fun k => lk8 S.F k t) (t - p / 8) (p / 8) = lowA S t → P v (nI t) (nI (pkN 8 (lk S.F (8 * t)))) (nI p) := by
    intro d
    induction d with
    | zero =>
      intro p hp _ hq
      obtain rfl : p = 8 * t := by omega
      apply hP
      unfold bd_X0_lowestLike_12
      rw [nn_lit 8, pk_mul]
      refine bq_t ((nI_leI (by omega) (by omega)).mpr (Nat.le_refl _)) ?_
      rw [show 8 * t / 8 = t by omega, Nat.sub_self] at hq
      have hq : t = lowA S t := hq
      rw [← hq] at h
      exact h
    | succ d ih =>
      intro p hp hno hq
      obtain ⟨e, he⟩ : ∃ e, t - p / 8 = e + 1 := ⟨t - p / 8 - 1, by omega⟩
      rw [he] at hq
      have hq : (if lk8 S.F (p / 8) t = true then p / 8 else fstF (fun k => lk8 S.F k t) e (p / 8 + 1)) = lowA S t := hq
      apply hP
      unfold bd_X0_lowestLike_12
      rw [nn_lit 8, pk_mul, nI_clamp (by omega), hv.2.2.2.2 p (by omega), pk_div (by omega) (by omega) (by omega)]
      refine bq_f (fun z => by rw [nI_leI (by omega) (by omega)] at z; omega) ⟨vp_in_nI (by omega) (by omega), ?_⟩
      refine bn_if ((row_inj (hb p (by omega)) (hb (8 * t) (by omega))).trans lks_iff.symm) (fun e1 => ?_) (fun e1 => ?_)
      · have h1 : lk8 S.F (p / 8) t = true := anyN_t (j := p % 8) (by rw [show 8 * (p / 8) + p % 8 = p by omega]; exact e1) (by omega)
        rw [if_pos h1] at hq
        rw [hq]
        exact h
      · have e1 : lks S.F p (8 * t) = false := by
          cases hx : lks S.F p (8 * t) with
          | false => rfl
          | true => exact absurd hx e1
        intro y hy
        rw [nI_1] at hy
        subst hy
        by_cases e8 : p % 8 = 7
        · have h1 : lk8 S.F (p / 8) t = false := anyN_f (fun j hj => by
            by_cases ej : j = 7
            · rw [ej, show 8 * (p / 8) + 7 = p by omega]; exact e1
            · exact hno _ (by omega) (by omega))
          rw [if_neg (by rw [h1]; exact Bool.false_ne_true)] at hq
          refine ih (p + 1) (by omega) (fun q q1 q2 => by omega) ?_
          rw [show (p + 1) / 8 = p / 8 + 1 by omega, show t - (p / 8 + 1) = e by omega]
          exact hq
        · refine ih (p + 1) (by omega) (fun q q1 q2 => ?_) ?_
          · by_cases eq : q = p
            · rw [eq]; exact e1
            · exact hno q (by omega) (by omega)
          · rw [show (p + 1) / 8 = p / 8 by omega, he]
            exact hq
  exact key (8 * t) 0 (by omega) (fun q _ q2 => absurd q2 (Nat.not_lt_zero q)) rfl
