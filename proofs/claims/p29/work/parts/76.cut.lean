/-! THE LAW'S CUT: the same draws, digit by digit -/
abbrev lfC (sd e : Nat) : Nat := if e = 0 then sd else e
def tiD (ti : IV) (D : Nat → Nat) : Prop := ∀ q j, q < 6 → j < 4 → ti (8 * q + j) = nI (D (8 * q + 0 + j)) ∧ ti (8 * q + 4 + j) = nI (D (8 * q + 4 + (4 - j) % 4))
theorem tiD.f {ti : IV} {D : Nat → Nat} (h : tiD ti D) {q0 j0 x : Nat} (hj : j0 < 4) : tiD (upd ti (8 * q0 + j0) (nI x)) (setD D (8 * q0 + 0 + j0) x) := fun q j hq' hj' => by
  have h9 := h q j hq' hj'
  constructor
  · by_cases e : 8 * q + j = 8 * q0 + j0
    · rw [e, pk_us, show 8 * q + 0 + j = 8 * q0 + 0 + j0 by omega, setD_s]
    · rw [pk_un e, setD_n _ _ (by omega)]
      exact h9.1
  · rw [pk_un (by omega), setD_n _ _ (by omega)]
    exact h9.2
theorem tiD.b {ti : IV} {D : Nat → Nat} (h : tiD ti D) {q0 j0 x : Nat} (hj : j0 < 4) : tiD (upd ti (8 * q0 + 4 + j0) (nI x)) (setD D (8 * q0 + 4 + (4 - j0) % 4) x) := fun q j hq' hj' => by
  have h9 := h q j hq' hj'
  constructor
  · rw [pk_un (by omega), setD_n _ _ (by omega)]
    exact h9.1
  · by_cases e : 8 * q + 4 + j = 8 * q0 + 4 + j0
    · rw [e, pk_us, show 8 * q + 4 + (4 - j) % 4 = 8 * q0 + 4 + (4 - j0) % 4 by omega, setD_s]
    · rw [pk_un e, setD_n _ _ (by omega)]
      exact h9.2
section CT
variable {b ti : IV} {S : AS} {sd cl : Nat} {Q : IV → IV → Prop} {P : IV → IV → Int32 → Int32 → Int32 → Int32 → Int32 → Int32 → Prop} {K : IV → IV → Int32 → Int32 → Int32 → Int32 → Int32 → Prop} {x5 : Int32}
theorem ct_216 {x0 x1 x4 x6 : Int32} {x7 : Nat} (h : P b ti x0 x1 x4 x5 x6 (nI (x7 + 1))) : wp_L_cut_216 P K Q b ti x0 x1 x4 x5 x6 (nI x7) := by
  intro x hx
  rw [nI_1] at hx
  subst hx
  exact h
theorem ct_78 (b0 : b 0 = nI S.r) (b1 : b 1 = nI S.c) (hI : Inv S) (hs : lbS S) {k s e : Nat} (hk : k < S.n) (hs4 : s < 4) (hsd : 1 ≤ sd ∧ sd ≤ 99999999) (hcl : 1 ≤ cl ∧ cl ≤ 9) (he : e ≤ sd) {x7 : Int32}
    (h0 : nb S.r S.c k s = none → wp_L_cut_216 P K Q b ti (nI sd) (nI cl) (nI (lfC sd e)) x5 (nI k) x7)
    (h1 : ∀ j, nb S.r S.c k s = some j → wp_L_cut_125 P K Q b ti (nI sd) (nI cl) x5 (nI k) x7 (nI s) (nI j) (nI (drC sd cl e)) (nI (lfC sd (drE sd e)))) :
    wp_L_cut_78 P K Q b ti (nI sd) (nI cl) (nI (lfC sd e)) x5 (nI k) x7 (nI s) := by
  have hn6 := hs.n6
  have hl : lfC sd e ≤ sd := by show (if e = 0 then sd else e) ≤ sd; split <;> omega
  have hl1 : drE sd e = lfC sd e / 10 := rfl
  have hl2 : drC sd cl e = 1 + lfC sd e % 10 % cl := rfl
  unfold wp_L_cut_78
  refine sp_L_bey b0 b1 hI hk hs4 ?_
  cases hj : nb S.r S.c k s with
  | none => exact bq_f (by decide) (h0 hj)
  | some j =>
    have hj2 : j < S.n := nb_lt hk hj
    have g := h1 j hj
    rw [hl2] at g
    refine bq_t (nI_pos' (by omega)) ⟨fun z => by rw [nn_eq0 (by omega)] at z; omega, fun x10 hx10 => ?_⟩
    rw [nn_lit 10, nn_rem (by omega) (by omega) (by omega), nn_rem (by omega) (by omega) (by omega), nn_lit 1, nI_add] at hx10
    subst hx10
    refine ek_if (nI_leI (a := 10) (by omega) (by omega)) (fun e9 => ?_) (fun e9 => ?_)
    · rw [nn_lit 10, pk_div (by omega) (by omega) (by omega)]
      have e8 : lfC sd (drE sd e) = lfC sd e / 10 := by rw [hl1]; exact if_neg (by omega)
      rw [e8] at g
      exact g
    · have e8 : lfC sd (drE sd e) = sd := by rw [hl1]; exact if_pos (by omega)
      rw [e8] at g
      exact g
theorem ct_side (hP : ∀ (b ti : IV) (x0 x1 x4 x5 x6 x7 : Int32), bd_L_cut_61 Q P K b ti x0 x1 x4 x5 x6 x7 → P b ti x0 x1 x4 x5 x6 x7) (b0 : b 0 = nI S.r) (b1 : b 1 = nI S.c) (hI : Inv S) (hs : lbS S) {k s k7 : Nat} (hk : k < S.n) (hsk : (s = 1 ∧ k7 = 0) ∨ (s = 2 ∧ k7 = 2)) (hsd : 1 ≤ sd ∧ sd ≤ 99999999) (hcl : 1 ≤ cl ∧ cl ≤ 9) {C : CS} (he : C.2 ≤ sd) (hD : tiD ti C.1)
    (next : ∀ ti', tiD ti' (sideS S.r S.c sd cl k s C).1 → P b ti' (nI sd) (nI cl) (nI (lfC sd (sideS S.r S.c sd cl k s C).2)) x5 (nI k) (nI (k7 + 2))) :
    P b ti (nI sd) (nI cl) (nI (lfC sd C.2)) x5 (nI k) (nI k7) := by
  have hn6 := hs.n6
  -- a round at x7 goes to the side s
  have go : ∀ (x7 : Nat) (ti : IV) (x4 : Int32), (x7 = k7 ∨ x7 = k7 + 1) → wp_L_cut_78 P K Q b ti (nI sd) (nI cl) x4 x5 (nI k) (nI x7) (nI s) → P b ti (nI sd) (nI cl) x4 x5 (nI k) (nI x7) := by
    intro x7 ti x4 hx7 h9
    refine hP _ _ _ _ _ _ _ _ (bq_f (fun z => by rw [nn_lit 4, nI_leI (by omega) (by omega)] at z; omega) ?_)
    refine ek_if (nI_leI (a := 2) (by omega) (by omega)) (fun e => ?_) (fun e => ?_)
    · rw [show s = 2 by omega] at h9; exact h9
    · rw [show s = 1 by omega] at h9; exact h9
  have hs4 : s < 4 := by omega
  cases hj : nb S.r S.c k s with
  | none =>
    have e : sideS S.r S.c sd cl k s C = C := by unfold sideS; rw [hj]
    rw [e] at next
    have one : ∀ j, nb S.r S.c k s = some j → False := fun j z => by rw [hj] at z; cases z
    refine go k7 ti _ (Or.inl rfl) (ct_78 b0 b1 hI hs hk hs4 hsd hcl he (fun _ => ct_216 ?_) (fun j z => (one j z).elim))
    exact go (k7 + 1) ti _ (Or.inr rfl) (ct_78 b0 b1 hI hs hk hs4 hsd hcl he (fun _ => ct_216 (next ti hD)) (fun j z => (one j z).elim))
  | some j =>
    have hj2 : j < S.n := nb_lt hk hj
    have e : sideS S.r S.c sd cl k s C = (putS C.1 k s j (drC sd cl C.2) (drC sd cl (drE sd C.2)), drE sd (drE sd C.2)) := by unfold sideS; rw [hj]
    rw [e] at next
    have he1 : drE sd C.2 ≤ sd := drE_le he
    refine go k7 ti _ (Or.inl rfl) (ct_78 b0 b1 hI hs hk hs4 hsd hcl he (fun z => by rw [hj] at z; cases z) (fun j' hj' => ?_))
    rw [hj] at hj'
    cases hj'
    -- the front
    unfold wp_L_cut_125
    rw [nn_lit 2, nn_rem (by omega) (by omega) (by omega), show k7 % 2 = 0 by omega]
    refine bn_t rfl ?_
    rw [nn_lit 8, pk_mul, pk_mul, nI_add, nI_clamp (n := 8 * k + s) (by omega)]
    refine ⟨vp_in_nI (by omega) (by omega), fun o28 ho28 => ?_⟩
    have hD1 : tiD o28 (setD C.1 (8 * k + 0 + s) (drC sd cl C.2)) := by rw [ho28]; exact hD.f hs4
    have front : wp_L_cut_163 P K Q b o28 (nI sd) (nI cl) (nI (lfC sd (drE sd C.2))) x5 (nI k) (nI k7) (nI (drC sd cl C.2)) (nI (8 * j)) (nI ((s + 2) % 4)) := by
      unfold wp_L_cut_163
      rw [nI_add, nI_clamp (n := 8 * j + (s + 2) % 4) (by omega)]
      refine ⟨vp_in_nI (by omega) (by omega), fun o30 ho30 => ct_216 ?_⟩
      have hD2 : tiD o30 (setD (setD C.1 (8 * k + 0 + s) (drC sd cl C.2)) (8 * j + 0 + (s + 2) % 4) (drC sd cl C.2)) := by rw [ho30]; exact hD1.f (by omega)
      refine go (k7 + 1) o30 _ (Or.inr rfl) (ct_78 b0 b1 hI hs hk hs4 hsd hcl he1 (fun z => by rw [hj] at z; cases z) (fun j' hj' => ?_))
      rw [hj] at hj'
      cases hj'
      -- the back
      unfold wp_L_cut_125
      rw [nn_lit 2, nn_rem (by omega) (by omega) (by omega), show (k7 + 1) % 2 = 1 by omega]
      refine bn_f (by decide) ?_
      have back : wp_L_cut_189 P K Q b o30 (nI sd) (nI cl) (nI (lfC sd (drE sd (drE sd C.2)))) x5 (nI k) (nI (k7 + 1)) (nI s) (nI j) (nI (drC sd cl (drE sd C.2))) (nI (8 * k + 4)) (nI (4 - s)) := by
        unfold wp_L_cut_189
        rw [nI_add, nI_clamp (n := 8 * k + 4 + (4 - s)) (by omega)]
        refine ⟨vp_in_nI (by omega) (by omega), fun o21 ho21 => ?_⟩
        have hD3 : tiD o21 (setD (setD (setD C.1 (8 * k + 0 + s) (drC sd cl C.2)) (8 * j + 0 + (s + 2) % 4) (drC sd cl C.2)) (8 * k + 4 + s) (drC sd cl (drE sd C.2))) := by
          have := hD2.b (q0 := k) (j0 := 4 - s) (x := drC sd cl (drE sd C.2)) (by omega)
          rw [show (4 - (4 - s)) % 4 = s by omega] at this
          rw [ho21]
          exact this
        rw [nn_lit 8, pk_mul, nn_lit 4, nI_add]
        have last : wp_L_cut_212 P K Q b o21 (nI sd) (nI cl) (nI (lfC sd (drE sd (drE sd C.2)))) x5 (nI k) (nI (k7 + 1)) (nI (drC sd cl (drE sd C.2))) (nI (8 * j + 4)) (nI (2 - s)) := by
          unfold wp_L_cut_212
          rw [nI_add, nI_clamp (n := 8 * j + 4 + (2 - s)) (by omega)]
          refine ⟨vp_in_nI (by omega) (by omega), fun o23 ho23 => ct_216 ?_⟩
          refine next o23 ?_
          have := hD3.b (q0 := j) (j0 := 2 - s) (x := drC sd cl (drE sd C.2)) (by omega)
          rw [show (4 - (2 - s)) % 4 = (s + 2) % 4 by omega] at this
          rw [ho23]
          exact this
        refine bn_if (nI_eq (b := 1) (by omega) (by omega)) (fun e9 => ?_) (fun e9 => ?_)
        · subst e9; exact last
        · rw [show s = 2 by omega] at last; exact last
      rw [nn_lit 8, pk_mul, nn_lit 4, nI_add]
      refine bn_if (nI_eq (b := 1) (by omega) (by omega)) (fun e9 => ?_) (fun e9 => ?_)
      · subst e9; exact back
      · rw [show s = 2 by omega] at back ⊢; exact back
    refine bn_if (nI_eq (b := 1) (by omega) (by omega)) (fun e9 => ?_) (fun e9 => ?_)
    · subst e9; exact front
    · rw [show s = 2 by omega] at front; exact front
end CT
theorem sp_L_cut {b ti : IV} {S : AS} (h : lbB b ti S) (hI : Inv S) (hs : lbS S) {sd cl : Nat} (hsd : 1 ≤ sd ∧ sd ≤ 99999999) (hcl : 1 ≤ cl ∧ cl ≤ 9) {Q : IV → IV → Prop} (hQ : ∀ b' ti', lbB b' ti' (cutA S sd cl) → Q b' ti') : wp_L_cut b ti (nI sd) (nI cl) Q := by
  have hn6 := hs.n6
  obtain ⟨b0, b1, b2, b3, b4, b5, -⟩ := h
  have hr9 := runC_9 (r := S.r) (c := S.c) (seed := sd) hcl.1 hcl.2
  -- cell by cell
  have cells : ∀ (ti0 : IV), tiD ti0 (fun _ => 0) → wp_L_cut_36 Q (fun (b : IV) (ti : IV) (x5 : Int32) => ∀ o_49 : Nat → Int32, o_49 = upd b 3 x5 → Q o_49 ti) b ti0 (nI sd) (nI cl) (nI sd) (nI S.n) 0 := by
    intro ti0 hti0 P hP
    have key : ∀ d k : Nat, k + d = S.n → ∀ (b' ti' : IV), b' 0 = nI S.r → b' 1 = nI S.c → b' 2 = nI S.ru → (∀ j, j < 12 → b' (4 + j) = enc (if j < k then none else S.P j)) → (∀ j, j < 12 → b' (16 + j) = nI (if j < k then false else S.X j).toNat) → tiD ti' (runC S.r S.c sd cl k).1 → P b' ti' (nI sd) (nI cl) (nI (lfC sd (runC S.r S.c sd cl k).2)) (nI S.n) (nI k) := by
      intro d
      induction d with
      | zero =>
        intro k hk b' ti' c0 c1 c2 c4 c5 hD
        obtain rfl : k = S.n := by omega
        apply hP
        unfold bd_L_cut_36
        refine bq_t ((nI_leI (a := S.n) (b := S.n) (by omega) (by omega)).mpr (Nat.le_refl _)) (fun o ho => hQ o ti' ?_)
        obtain ⟨rc1, rc2, rc3⟩ := cutN_rc S (runC S.r S.c sd cl S.n).1 S.n
        have et : (cutA S sd cl).t = S.n := cutN_t _ _ _
        have e1 : (cutA S sd cl).r = S.r := rc1
        have e2 : (cutA S sd cl).c = S.c := rc2
        have e3 : (cutA S sd cl).ru = S.ru := rc3
        refine ⟨?_, ?_, ?_, ?_, fun j hj => ?_, fun j hj => ?_, fun t j ht hj => ?_⟩
        · rw [ho, pk_un (by omega), c0, e1]
        · rw [ho, pk_un (by omega), c1, e2]
        · rw [ho, pk_un (by omega), c2, e3]
        · rw [ho, pk_us, et]
        · have ep : (cutA S sd cl).P j = none := (cutN_P S _ j _).1
          rw [ho, pk_un (by omega), c4 j hj, ep]
          by_cases e : j < S.n
          · rw [if_pos e]
          · rw [if_neg e, out_none hI e]
        · have ex : (cutA S sd cl).X j = false := (cutN_P S _ j _).2
          rw [ho, pk_un (by omega), c5 j hj, ex]
          by_cases e : j < S.n
          · rw [if_pos e]
          · rw [if_neg e]
            cases hx : S.X j with
            | false => rfl
            | true => exact absurd (hI.2.2.2.2.2.2.2 j hx) e
        · rw [et] at ht
          obtain ⟨f1, f2⟩ := cutN_F S (runC S.r S.c sd cl S.n).1 S.n t ht
          have f1 : (cutA S sd cl).F (2 * t) = fcA (runC S.r S.c sd cl S.n).1 t := f1
          have f2 : (cutA S sd cl).F (2 * t + 1) = fcB (runC S.r S.c sd cl S.n).1 t := f2
          have hd := hD t j (by omega) hj
          have h9 := (hr9 S.n).1
          have h0 := h9 (8 * t + 0); have h1 := h9 (8 * t + 1); have h2 := h9 (8 * t + 2); have h3 := h9 (8 * t + 3)
          have h4 := h9 (8 * t + 4 + 0); have h5 := h9 (8 * t + 4 + 1); have h6 := h9 (8 * t + 4 + 2); have h7 := h9 (8 * t + 4 + 3)
          show ti' (8 * t + 0 + j) = nI (dig ((cutA S sd cl).F (2 * t)) j) ∧ ti' (8 * t + 4 + j) = nI (dig ((cutA S sd cl).F (2 * t + 1)) j)
          rw [f1, f2]
          have g : ∀ f x, dig f x = if x = 0 then f / 1000 else if x = 1 then f / 100 % 10 else if x = 2 then f / 10 % 10 else f % 10 := fun f x => rfl
          obtain ⟨d1, d2⟩ := hd
          constructor
          · refine d1.trans (congrArg nI ?_)
            unfold fcA
            obtain rfl | rfl | rfl | rfl : j = 0 ∨ j = 1 ∨ j = 2 ∨ j = 3 := by omega
            · rw [g, if_pos rfl]; show (runC S.r S.c sd cl S.n).1 (8 * t + 0) = _; omega
            · rw [g, if_neg (by omega), if_pos rfl]; show (runC S.r S.c sd cl S.n).1 (8 * t + 1) = _; omega
            · rw [g, if_neg (by omega), if_neg (by omega), if_pos rfl]; show (runC S.r S.c sd cl S.n).1 (8 * t + 2) = _; omega
            · rw [g, if_neg (by omega), if_neg (by omega), if_neg (by omega)]; show (runC S.r S.c sd cl S.n).1 (8 * t + 3) = _; omega
          · refine d2.trans (congrArg nI ?_)
            unfold fcB
            obtain rfl | rfl | rfl | rfl : j = 0 ∨ j = 1 ∨ j = 2 ∨ j = 3 := by omega
            · rw [g, if_pos rfl]; show (runC S.r S.c sd cl S.n).1 (8 * t + 4 + 0) = _; omega
            · rw [g, if_neg (by omega), if_pos rfl]; show (runC S.r S.c sd cl S.n).1 (8 * t + 4 + 3) = _; omega
            · rw [g, if_neg (by omega), if_neg (by omega), if_pos rfl]; show (runC S.r S.c sd cl S.n).1 (8 * t + 4 + 2) = _; omega
            · rw [g, if_neg (by omega), if_neg (by omega), if_neg (by omega)]; show (runC S.r S.c sd cl S.n).1 (8 * t + 4 + 1) = _; omega
      | succ d ih =>
        intro k hk b' ti' c0 c1 c2 c4 c5 hD
        have hkn : k < S.n := by omega
        have hrk := hr9 k
        apply hP
        unfold bd_L_cut_36
        refine bq_f (fun z => by rw [nI_leI (by omega) (by omega)] at z; omega) ?_
        rw [nn_lit 4, nI_add, nI_clamp (n := 4 + k) (by omega), nn_lit 16, nI_add, nI_clamp (n := 16 + k) (by omega)]
        refine ⟨vp_in_nI (by omega) (by omega), fun o13 ho13 => ⟨vp_in_nI (by omega) (by omega), fun o15 ho15 => ?_⟩⟩
        have ne : ∀ i, i ≠ 4 + k → i ≠ 16 + k → o15 i = b' i := fun i h1 h2 => by rw [ho15, pk_un h2, ho13, pk_un h1]
        have g0 : o15 0 = nI S.r := (ne 0 (by omega) (by omega)).trans c0
        have g1 : o15 1 = nI S.c := (ne 1 (by omega) (by omega)).trans c1
        have g2 : o15 2 = nI S.ru := (ne 2 (by omega) (by omega)).trans c2
        intro P2 hP2
        refine ct_side (k7 := 0) hP2 g0 g1 hI hs hkn (Or.inl ⟨rfl, rfl⟩) hsd hcl hrk.2 hD (fun ti1 hD1 => ?_)
        have hr2 := sideS_9 (r := S.r) (c := S.c) (k := k) (s := 1) hcl.1 hcl.2 hrk.1 hrk.2
        refine ct_side (k7 := 2) hP2 g0 g1 hI hs hkn (Or.inr ⟨rfl, rfl⟩) hsd hcl hr2.2 hD1 (fun ti2 hD2 => ?_)
        refine hP2 _ _ _ _ _ _ _ _ (bq_t (by decide) (fun x6 hx6 => ?_))
        rw [nI_1] at hx6
        subst hx6
        refine ih (k + 1) (by omega) o15 ti2 g0 g1 g2 (fun j hj => ?_) (fun j hj => ?_) hD2
        · by_cases e : j = k
          · rw [e, if_pos (by omega), ho15, pk_un (by omega), ho13, pk_us]; rfl
          · rw [ne _ (by omega) (by omega), c4 j hj]
            by_cases e2 : j < k
            · rw [if_pos e2, if_pos (by omega)]
            · rw [if_neg e2, if_neg (by omega)]
        · by_cases e : j = k
          · rw [e, if_pos (by omega), ho15, pk_us]; rfl
          · rw [ne _ (by omega) (by omega), c5 j hj]
            by_cases e2 : j < k
            · rw [if_pos e2, if_pos (by omega)]
            · rw [if_neg e2, if_neg (by omega)]
    have g := key S.n 0 (by omega) b ti0 b0 b1 b2 (fun j hj => by rw [if_neg (Nat.not_lt_zero _)]; exact b4 j hj) (fun j hj => by rw [if_neg (Nat.not_lt_zero _)]; exact b5 j hj) hti0
    exact g
  unfold wp_L_cut
  rw [b0, b1, pk_mul]
  intro x5 hx5
  have hx5 : x5 = nI S.n := hx5
  subst hx5
  intro P hP
  have key : ∀ d i : Nat, i + d = 48 → P b (fillm ti i 0) (nI sd) (nI cl) (nI sd) (nI S.n) (nI i) := by
    intro d
    induction d with
    | zero =>
      intro i hi
      obtain rfl : i = 48 := by omega
      refine hP _ _ _ _ _ _ _ (bq_t (by decide) (cells _ (fun q j hq hj => ?_)))
      unfold fillm
      rw [if_pos (by omega), if_pos (by omega)]
      exact ⟨rfl, rfl⟩
    | succ d ih =>
      intro i hi
      refine hP _ _ _ _ _ _ _ (bq_f (fun z => by rw [nn_lit 48, nI_leI (by omega) (by omega)] at z; omega) ⟨vp_in_nI (by omega) (by omega), fun o ho x hx => ?_⟩)
      rw [nI_clamp (n := i) (by omega), fillm_step] at ho
      rw [nI_1] at hx
      subst ho hx
      exact ih (i + 1) (by omega)
  have g := key 48 0 (by omega)
  rw [fillm_0] at g
  exact g
