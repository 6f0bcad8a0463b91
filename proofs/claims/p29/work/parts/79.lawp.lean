/-! THE LAW, a turn: an action, questions, one change taken back -/
def lvI (v : XV) (b ti : IV) : Prop := ∃ (S : AS) (L : List AS) (B : List Nat), RX v S L B ∧ lbB b ti S ∧ lbS S
theorem lbB.cong {b ti b' ti' : IV} {S : AS} (h : lbB b ti S) (ht : S.t ≤ 6) (hb : ∀ j, j < 28 → b' j = b j) (hti : ∀ j, j < 48 → ti' j = ti j) : lbB b' ti' S := by
  obtain ⟨h0, h1, h2, h3, h4, h5, h6⟩ := h
  refine ⟨(hb 0 (by omega)).trans h0, (hb 1 (by omega)).trans h1, (hb 2 (by omega)).trans h2, (hb 3 (by omega)).trans h3, fun j hj => (hb _ (by omega)).trans (h4 j hj), fun j hj => (hb _ (by omega)).trans (h5 j hj), fun t k ht' hk => ?_⟩
  have h9 := h6 t k ht' hk
  exact ⟨(hti _ (by omega)).trans h9.1, (hti _ (by omega)).trans h9.2⟩
section LP
variable {v : XV} {b ti b2 t2 : IV} {x6 x7 x8 x9 : Int32} {Q : XV → IV → IV → IV → IV → Int32 → Prop}
/-- the copies -/
theorem lp_131 {K : XV → IV → IV → IV → IV → Int32 → Int32 → Int32 → Int32 → Prop} (hK : ∀ b2' t2', (∀ j, j < 28 → b2' j = b j) → (∀ j, j < 48 → t2' j = ti j) → K v b ti b2' t2' x6 x7 x8 x9) : wp_L_law_131 Q K v b ti b2 t2 x6 x7 x8 x9 0 := by
  intro P hP
  have key : ∀ d i : Nat, i + d = 48 → ∀ b2' t2', (∀ j, j < 28 → j < i → b2' j = b j) → (∀ j, j < i → t2' j = ti j) → P v b ti b2' t2' x6 x7 x8 x9 (nI i) := by
    intro d
    induction d with
    | zero =>
      intro i hi b2' t2' g1 g2
      obtain rfl : i = 48 := by omega
      exact hP _ _ _ _ _ _ _ _ _ _ (bq_t (by decide) (hK b2' t2' (fun j hj => g1 j hj (by omega)) g2))
    | succ d ih =>
      intro i hi b2' t2' g1 g2
      apply hP
      unfold bd_L_law_131
      refine bq_f (fun z => by rw [nn_lit 48, nI_leI (by omega) (by omega)] at z; omega) ?_
      rw [nI_clamp (n := i) (by omega)]
      refine ⟨vp_in_nI (by omega) (by omega), fun f hf => ⟨vp_in_nI (by omega) (by omega), fun o ho => ?_⟩⟩
      have ht : ∀ j, j < i + 1 → o j = ti j := fun j hj => by
        rw [ho]
        by_cases e : j = i
        · rw [e, pk_us, hf]
        · rw [pk_un e]; exact g2 j (by omega)
      refine ek_if (nI_leI (a := 28) (by omega) (by omega)) (fun e x hx => ?_) (fun e => ⟨vp_in_nI (by omega) (by omega), fun f2 hf2 => ⟨vp_in_nI (by omega) (by omega), fun o2 ho2 x hx => ?_⟩⟩)
      · rw [nI_1] at hx
        subst hx
        exact ih (i + 1) (by omega) b2' o (fun j h1 h2 => g1 j h1 (by omega)) ht
      · rw [nI_1] at hx
        subst hx
        refine ih (i + 1) (by omega) o2 o (fun j h1 h2 => ?_) ht
        rw [ho2]
        by_cases e9 : j = i
        · rw [e9, pk_us, hf2]
        · rw [pk_un e9]; exact g1 j h1 (by omega)
  exact key 48 0 (by omega) b2 t2 (fun j _ hj => absurd hj (Nat.not_lt_zero j)) (fun j hj => absurd hj (Nat.not_lt_zero j))
/-- .. and back -/
theorem lp_265 {K : XV → IV → IV → IV → IV → Int32 → Int32 → Prop} (hK : ∀ b' ti', (∀ j, j < 28 → b' j = b2 j) → (∀ j, j < 48 → ti' j = t2 j) → K v b' ti' b2 t2 x6 x8) : wp_L_law_265 Q K v b ti b2 t2 x6 x8 0 := by
  intro P hP
  have key : ∀ d i : Nat, i + d = 48 → ∀ b' ti', (∀ j, j < 28 → j < i → b' j = b2 j) → (∀ j, j < i → ti' j = t2 j) → P v b' ti' b2 t2 x6 x8 (nI i) := by
    intro d
    induction d with
    | zero =>
      intro i hi b' ti' g1 g2
      obtain rfl : i = 48 := by omega
      exact hP _ _ _ _ _ _ _ _ (bq_t (by decide) (hK b' ti' (fun j hj => g1 j hj (by omega)) g2))
    | succ d ih =>
      intro i hi b' ti' g1 g2
      apply hP
      unfold bd_L_law_265
      refine bq_f (fun z => by rw [nn_lit 48, nI_leI (by omega) (by omega)] at z; omega) ?_
      rw [nI_clamp (n := i) (by omega)]
      refine ⟨vp_in_nI (by omega) (by omega), fun f hf => ⟨vp_in_nI (by omega) (by omega), fun o ho => ?_⟩⟩
      have ht : ∀ j, j < i + 1 → o j = t2 j := fun j hj => by
        rw [ho]
        by_cases e : j = i
        · rw [e, pk_us, hf]
        · rw [pk_un e]; exact g2 j (by omega)
      refine ek_if (nI_leI (a := 28) (by omega) (by omega)) (fun e x hx => ?_) (fun e => ⟨vp_in_nI (by omega) (by omega), fun f2 hf2 => ⟨vp_in_nI (by omega) (by omega), fun o2 ho2 x hx => ?_⟩⟩)
      · rw [nI_1] at hx
        subst hx
        exact ih (i + 1) (by omega) b' o (fun j h1 h2 => g1 j h1 (by omega)) ht
      · rw [nI_1] at hx
        subst hx
        refine ih (i + 1) (by omega) o2 o (fun j h1 h2 => ?_) ht
        rw [ho2]
        by_cases e9 : j = i
        · rw [e9, pk_us, hf2]
        · rw [pk_un e9]; exact g1 j h1 (by omega)
  exact key 48 0 (by omega) b ti (fun j _ hj => absurd hj (Nat.not_lt_zero j)) (fun j hj => absurd hj (Nat.not_lt_zero j))
theorem pushS_len {L : List AS} {S : AS} (h : L.length ≤ 6) : pushS L S = L ++ [S] := by
  unfold pushS
  rw [if_neg (by omega)]
theorem lp_189 {S : AS} {L : List AS} {B : List Nat} (hX : RX v S L B) (h : lbB b ti S) (hs : lbS S) (hb2 : ∀ j, j < 28 → b2 j = b j) (ht2 : ∀ j, j < 48 → t2 j = ti j) (hQ : ∀ v' b' ti', lvI v' b' ti' → Q v' b' ti' b2 t2 x6) {a : Nat} (ha : a < 13) : wp_L_law_189 Q v b ti b2 t2 x6 x7 x8 (nI L.length) (nI a) := by
  have hl8 : L.length ≤ 8 := hX.2.2.1.2.1
  unfold wp_L_law_189
  refine sp_L_act (B := B) (L := L) hX h hs (fun v1 b1 ti1 S1 L1 hX1 h1 hs1 hL1 => bq_f (by decide) ?_) ha
  refine sp_L_told hX1 h1 hs1 (fun v2 b3 hX2 h2 => bn_f (by decide) ?_)
  refine ek_if (nI_ltI (a := 6) (by omega) (by omega)) (fun _ => hQ _ _ _ ⟨S1, L1, B, hX2, h2, hs1⟩) (fun e6 => ?_)
  have hl9 : L1.length ≤ 8 := hX2.2.2.1.2.1
  refine us_count hX2 (w := 9) (by omega) (fun v3 hX3 => ?_)
  show (¬ nI L1.length = nI L.length + 1 → _) ∧ (nI L1.length = nI L.length + 1 → _)
  rw [nI_1]
  refine bn_if (nI_eq (by omega) (by omega)) (fun e9 => ?_) (fun _ => hQ _ _ _ ⟨S1, L1, B, hX3, h2, hs1⟩)
  -- one save: it can be taken back
  have eL : L1 = L ++ [S] := by
    rcases hL1 with g | g | ⟨T, g⟩
    · rw [g] at e9; omega
    · rw [g]; exact pushS_len (by omega)
    · exfalso
      have k1 : pushS L S = L ++ [S] := pushS_len (by omega)
      have k2 : pushS (L ++ [S]) T = (L ++ [S]) ++ [T] := by
        unfold pushS
        rw [if_neg (by rw [List.length_append, List.length_singleton]; omega)]
      rw [g, k1, k2, List.length_append, List.length_append, List.length_singleton, List.length_singleton] at e9
      omega
  subst eL
  refine sp_L_at (n := 4) (by omega) (by omega) (fun m hm => ek_if (nI_leI (b := 0) (by omega) (by omega)) (fun _ => ?_) (fun _ => hQ _ _ _ ⟨S1, L ++ [S], B, hX3, h2, hs1⟩))
  refine us_undo hX3 (fun v4 hX4 => bq_t rfl (lp_265 (fun b4 ti4 g1 g2 => ?_)))
  have hb4 : lbB b4 ti4 S := h.cong hs.2.2 (fun j hj => (g1 j hj).trans (hb2 j hj)) (fun j hj => (g2 j hj).trans (ht2 j hj))
  exact sp_L_told hX4 hb4 hs (fun v5 b5 hX5 hb5 => bn_f (by decide) (hQ _ _ _ ⟨S, L, B, hX5, hb5, hs⟩))
theorem lp_B {i : Nat} (hi : i < 20) (hI : lvI v b ti) (hQ : ∀ v' b' ti' b2' t2', lvI v' b' ti' → Q v' b' ti' b2' t2' (nI i)) : wp_L_lawB Q v b ti b2 t2 (nI i) := by
  obtain ⟨S, L, B, hX, h, hs⟩ := hI
  unfold wp_L_lawB
  rw [show (2 : Int32) * nI i = nI (2 * i) from pk_mul 2 i, nI_1]
  refine ⟨⟨2 * i, by omega, rfl⟩, fun r1 x7 hx7 => ⟨⟨2 * i + 1, by omega, rfl⟩, fun r4 x8 hx8 => us_count hX (w := 9) (by omega) (fun v1 hX1 => lp_131 (fun b2' t2' g1 g2 => ?_))⟩⟩
  refine bn_if (nn_eq0 (by omega)) (fun _ => ?_) (fun _ => sp_L_at (n := 13) (by omega) (by omega) (fun m hm => ?_))
  · exact lp_189 hX1 h hs g1 g2 (fun v' b' ti' hv => hQ v' b' ti' b2' t2' hv) (a := 0) (by omega)
  · exact lp_189 hX1 h hs g1 g2 (fun v' b' ti' hv => hQ v' b' ti' b2' t2' hv) hm
end LP
theorem lp_A {Q : XV → IV → IV → IV → IV → Prop} {b2 t2 : IV} (hQ : ∀ v' b' ti' b2' t2', lvI v' b' ti' → Q v' b' ti' b2' t2') : wp_L_lawA Q v0X (fun _ => 0) (fun _ => 0) b2 t2 := by
  have hX : RX v0X S0 [] [] := ⟨S0_RB, S0_inv, ⟨rfl, Nat.zero_le _, 0, by omega, rfl, fun i T h => (nomatch h)⟩, fun T h => (nomatch h), ⟨rfl, Nat.zero_le _, fun i c h => (nomatch h), fun c h => (nomatch h)⟩⟩
  have hs : lbS S0 := ⟨by decide, by decide, by decide⟩
  unfold wp_L_lawA
  intro o1 ho1 o2 ho2 P hP
  have e0 : o2 0 = nI 2 := by rw [ho2, pk_un (by omega), ho1, pk_us]; rfl
  have e1 : o2 1 = nI 2 := by rw [ho2, pk_us]; rfl
  have eo : ∀ j, 2 ≤ j → o2 j = 0 := fun j hj => by rw [ho2, pk_un (by omega), ho1, pk_un (by omega)]
  have key : ∀ d i : Nat, i + d = 12 → ∀ b' : IV, b' 0 = nI 2 → b' 1 = nI 2 → (∀ j, 2 ≤ j → b' j = if 4 ≤ j ∧ j < 4 + i then -1 else 0) → P v0X b' (fun _ => 0) b2 t2 (nI i) := by
    intro d
    induction d with
    | zero =>
      intro i hi b' g0 g1 g2
      obtain rfl : i = 12 := by omega
      have hb : lbB b' (fun _ => 0) S0 := by
        refine ⟨g0, g1, ?_, ?_, fun j hj => ?_, fun j hj => ?_, fun t k ht hk => absurd ht (Nat.not_lt_zero t)⟩
        · rw [g2 2 (by omega), if_neg (by omega)]; rfl
        · rw [g2 3 (by omega), if_neg (by omega)]; rfl
        · rw [g2 (4 + j) (by omega), if_pos (by omega)]; rfl
        · rw [g2 (16 + j) (by omega), if_neg (by omega)]; rfl
      refine hP _ _ _ _ _ _ (bq_t (by decide) (sp_L_told hX hb hs (fun v1 b1 hX1 hb1 => bq_f (by decide) ?_)))
      exact us_count hX1 (w := 9) (by omega) (fun v2 hX2 => bq_t rfl (hQ _ _ _ _ _ ⟨S0, [], [], hX2, hb1, hs⟩))
    | succ d ih =>
      intro i hi b' g0 g1 g2
      apply hP
      unfold bd_L_law_41
      refine bq_f (fun z => by rw [nn_lit 12, nI_leI (by omega) (by omega)] at z; omega) ?_
      rw [nn_lit 4, nI_add, nI_clamp (n := 4 + i) (by omega)]
      refine ⟨vp_in_nI (by omega) (by omega), fun o ho x hx => ?_⟩
      rw [nI_1] at hx
      subst hx
      refine ih (i + 1) (by omega) o (by rw [ho, pk_un (by omega)]; exact g0) (by rw [ho, pk_un (by omega)]; exact g1) (fun j hj => ?_)
      rw [ho]
      by_cases e : j = 4 + i
      · rw [e, pk_us, if_pos (by omega)]
      · rw [pk_un e, g2 j hj]
        by_cases e2 : 4 ≤ j ∧ j < 4 + i
        · rw [if_pos e2, if_pos (by omega)]
        · rw [if_neg e2, if_neg (by omega)]
  exact key 12 0 (by omega) o2 e0 e1 (fun j hj => by rw [eo j hj, if_neg (by omega)])
