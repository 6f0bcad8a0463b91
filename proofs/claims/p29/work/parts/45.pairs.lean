/-! the class's board: pairs of neighbors that agree -/
theorem xor_0 {a b : Nat} : a ^^^ b = 0 ↔ a = b := by
  constructor
  · intro h
    have h1 : (a ^^^ b) ^^^ b = a := by rw [Nat.xor_assoc, Nat.xor_self, Nat.xor_zero]
    rw [h, Nat.zero_xor] at h1
    exact h1.symm
  · intro h
    rw [h, Nat.xor_self]
theorem nh_split {a : Nat} (ha : a < 16) (x j : Nat) : (a + 65536 * x).testBit j = if j < 16 then a.testBit j else x.testBit (j - 16) := by
  rw [Nat.add_comm]
  exact Nat.testBit_two_pow_mul_add x (show a < 2 ^ 16 by omega) j
theorem nh_and {a b : Nat} (ha : a < 16) (hb : b < 16) (x y : Nat) : (a + 65536 * x) &&& (b + 65536 * y) = (a &&& b) + 65536 * (x &&& y) := by
  apply Nat.eq_of_testBit_eq
  intro j
  rw [Nat.testBit_and, nh_split ha, nh_split hb, nh_split (and16 hb)]
  by_cases h : j < 16
  · simp only [if_pos h, Nat.testBit_and]
  · simp only [if_neg h, Nat.testBit_and]
theorem nh_xor {a b : Nat} (ha : a < 16) (hb : b < 16) (x y : Nat) : (a + 65536 * x) ^^^ (b + 65536 * y) = (a ^^^ b) + 65536 * (x ^^^ y) := by
  apply Nat.eq_of_testBit_eq
  intro j
  rw [Nat.testBit_xor, nh_split ha, nh_split hb, nh_split (xor16 ha hb)]
  by_cases h : j < 16
  · simp only [if_pos h, Nat.testBit_xor]
  · simp only [if_neg h, Nat.testBit_xor]
theorem al_mask {a b a' b' : Nat} (ha : a < 16) (hb : b < 16) (ha' : a' < 16) (hb' : b' < 16) {ma mb : Nat} (hma : ma < 16) (hmb : mb < 16) : ((nI (a + 65536 * b) ^^^ nI (a' + 65536 * b')) &&& nI (ma + 65536 * mb)) = 0 ↔ (a ^^^ a') &&& ma = 0 ∧ (b ^^^ b') &&& mb = 0 := by
  have h1 := and16 (a := a ^^^ a') hma
  have h2 := and16 (a := b ^^^ b') hmb
  rw [nn_xor, nn_and, nh_xor ha ha', nh_and (xor16 ha ha') hma, nn_eq0 (by omega)]
  omega
theorem al_0 {a b a' b' : Nat} (ha : a < 16) (hb : b < 16) (ha' : a' < 16) (hb' : b' < 16) : ((nI (a + 65536 * b) ^^^ nI (a' + 65536 * b')) &&& 0) = 0 ↔ True := by
  have h := al_mask ha hb ha' hb' (ma := 0) (mb := 0) (by omega) (by omega)
  rw [Nat.and_zero, Nat.and_zero] at h
  exact ⟨fun _ => trivial, fun _ => h.mpr ⟨rfl, rfl⟩⟩
theorem al_15 {a b a' b' : Nat} (ha : a < 16) (hb : b < 16) (ha' : a' < 16) (hb' : b' < 16) : ((nI (a + 65536 * b) ^^^ nI (a' + 65536 * b')) &&& 15) = 0 ↔ a = a' := by
  have h := al_mask ha hb ha' hb' (ma := 15) (mb := 0) (by omega) (by omega)
  rw [Nat.and_zero, nb_15 (xor16 ha ha'), xor_0] at h
  exact ⟨fun z => (h.mp z).1, fun z => h.mpr ⟨z, rfl⟩⟩
theorem al_hi {a b a' b' : Nat} (ha : a < 16) (hb : b < 16) (ha' : a' < 16) (hb' : b' < 16) : ((nI (a + 65536 * b) ^^^ nI (a' + 65536 * b')) &&& 983040) = 0 ↔ b = b' := by
  have h := al_mask ha hb ha' hb' (ma := 0) (mb := 15) (by omega) (by omega)
  rw [Nat.and_zero, nb_15 (xor16 hb hb'), xor_0] at h
  exact ⟨fun z => (h.mp z).2, fun z => h.mpr ⟨rfl, z⟩⟩
/-- what isAlike compares: g tells it of the colors of the two -/
def alk (S : AS) (g : Nat → Nat → Nat → Nat → Bool) (k s : Nat) : Bool := match S.P k with
  | none => false
  | some p => match nb S.r S.c k s with
    | none => false
    | some j => match S.P j with
      | none => false
      | some q => g (col S.F p s false) (col S.F p s true) (col S.F q ((s + 2) % 4) false) (col S.F q ((s + 2) % 4) true)
theorem sp_X0_isAlike {v : BV} {S : AS} (hv : RB v S) (hI : Inv S) {mask : Int32} {g : Nat → Nat → Nat → Nat → Bool}
    (hg : ∀ a b a' b' : Nat, a < 16 → b < 16 → a' < 16 → b' < 16 → (((nI (a + 65536 * b) ^^^ nI (a' + 65536 * b')) &&& mask) = 0 ↔ g a b a' b' = true)) {k s : Nat} (hk : k < S.n) (hs : s < 4) {Q : Int32 → BV → Prop} (h : Q (nI (alk S g k s).toNat) v) : wp_X0_isAlike v (nI k) (nI s) mask Q := by
  have hn := hI.n12
  have hF := hI.2.2.2.2.1
  unfold alk at h
  unfold wp_X0_isAlike
  refine sp_X0_neighbor hv hI hk hs ?_
  cases e : nb S.r S.c k s with
  | none =>
    refine bq_t rfl ?_
    rw [e] at h
    cases e2 : S.P k with
    | none => simp only [e2] at h; exact h
    | some p => simp only [e2] at h; exact h
  | some j =>
    have hj : j < S.n := nb_lt hk e
    simp only [e] at h
    refine bq_f (nn_ne_m1 (by omega)) (sp_X0_isEmpty hv hI (by omega) (fun e2 => bn_f (by decide) ?_) (fun p e2 => bn_t rfl ?_))
    · simp only [e2] at h; exact h
    · simp only [e2] at h
      refine sp_X0_isEmpty hv hI (by omega) (fun e3 => bq_f (by decide) ?_) (fun q e3 => bq_t rfl ?_)
      · simp only [e3] at h; exact h
      · simp only [e3] at h
        have p9 := hI.p96 e2
        have q9 := hI.p96 e3
        have c1 := col_lt hF p9.2 s false
        have c2 := col_lt hF p9.2 s true
        have c3 := col_lt hF q9.2 ((s + 2) % 4) false
        have c4 := col_lt hF q9.2 ((s + 2) % 4) true
        refine sp_X0_lookIn hv hI e2 (sp_X6_colorsAt (fun j _ => lk_lt hF p9.2 j) hs (sp_X0_lookIn hv hI e3 (sp_X6_opposite hs (sp_X6_colorsAt (fun j _ => lk_lt hF q9.2 j) (by omega) ?_))))
        rw [lk_low hs, lk_high, lk_low (s := (s + 2) % 4) (by omega), lk_high]
        refine bn_if (hg _ _ _ _ (by omega) (by omega) (by omega) (by omega)) (fun e4 => ?_) (fun e4 => ?_)
        · rw [e4] at h; exact h
        · rw [show g (col S.F p s false) (col S.F p s true) (col S.F q ((s + 2) % 4) false) (col S.F q ((s + 2) % 4) true) = false by
            cases hx : g (col S.F p s false) (col S.F p s true) (col S.F q ((s + 2) % 4) false) (col S.F q ((s + 2) % 4) true) with
            | false => rfl
            | true => exact absurd hx e4] at h
          exact h
theorem sp_X0_pairsAlike {v : BV} {S : AS} (hv : RB v S) (hI : Inv S) {mask : Int32} {g : Nat → Nat → Nat → Nat → Bool}
    (hg : ∀ a b a' b' : Nat, a < 16 → b < 16 → a' < 16 → b' < 16 → (((nI (a + 65536 * b) ^^^ nI (a' + 65536 * b')) &&& mask) = 0 ↔ g a b a' b' = true)) {Q : Int32 → BV → Prop} (h : Q (nI (sm (fun k => (alk S g k 1).toNat + (alk S g k 2).toNat) S.n)) v) : wp_X0_pairsAlike v mask Q := by
  have hn := hI.n12
  unfold wp_X0_pairsAlike
  intro P hP
  have key : ∀ d k : Nat, k + d = S.n → P v mask (nI (sm (fun k => (alk S g k 1).toNat + (alk S g k 2).toNat) k)) (nI k) := by
    intro d
    induction d with
    | zero =>
      intro k hk
      apply hP
      unfold bd_X0_pairsAlike_4
      refine sp_X0_cells hv ?_
      obtain rfl : k = S.n := by omega
      exact bq_t ((nI_leI (by omega) (by omega)).mpr (by omega)) h
    | succ d ih =>
      intro k hk
      have hnx := ih (k + 1) (by omega)
      have hnx : P v mask (nI (sm (fun k => (alk S g k 1).toNat + (alk S g k 2).toNat) k + ((alk S g k 1).toNat + (alk S g k 2).toNat))) (nI (k + 1)) := hnx
      have snd : ∀ c : Bool, c = alk S g k 1 → wp_X0_pairsAlike_25 P Q v mask (nI (sm (fun k => (alk S g k 1).toNat + (alk S g k 2).toNat) k + c.toNat)) (nI k) := by
        intro c hc
        subst hc
        unfold wp_X0_pairsAlike_25
        refine sp_X0_isAlike (s := 2) hv hI hg (by omega) (by omega) ?_
        cases e : alk S g k 2 with
        | false =>
          refine bq_t rfl (fun y hy => ?_)
          rw [nI_1] at hy
          subst hy
          rw [e] at hnx
          exact hnx
        | true =>
          refine bq_f (by decide) (fun y hy y2 hy2 => ?_)
          rw [nI_1] at hy hy2
          subst hy hy2
          rw [e] at hnx
          exact hnx
      apply hP
      unfold bd_X0_pairsAlike_4
      refine sp_X0_cells hv ?_
      refine bq_f (fun z => by rw [nI_leI (by omega) (by omega)] at z; omega) ?_
      refine sp_X0_isAlike (s := 1) hv hI hg (by omega) (by omega) ?_
      cases e : alk S g k 1 with
      | false => exact bq_t rfl (snd false e.symm)
      | true =>
        refine bq_f (by decide) (fun y hy => ?_)
        rw [nI_1] at hy
        subst hy
        exact snd true e.symm
  exact key S.n 0 (by omega)
theorem sm_congr {f g : Nat → Nat} : ∀ n, (∀ k, k < n → f k = g k) → sm f n = sm g n
  | 0, _ => rfl
  | n + 1, h => by
    show sm f n + f n = sm g n + g n
    rw [sm_congr n (fun k hk => h k (by omega)), h n (by omega)]
theorem alk_pair (S : AS) (k s : Nat) : alk S (fun _ _ _ _ => true) k s = isPair S k s := by
  unfold alk isPair shown
  cases S.P k with
  | none => rfl
  | some p =>
    cases nb S.r S.c k s with
    | none => rfl
    | some j =>
      dsimp only
      cases S.P j <;> rfl
theorem alk_like0 (S : AS) (k s : Nat) : alk S (fun a _ a' _ => a == a') k s = isLike S false k s := by
  unfold alk isLike shown
  cases S.P k with
  | none => rfl
  | some p =>
    cases nb S.r S.c k s with
    | none => rfl
    | some j =>
      dsimp only
      cases S.P j with
      | none => rfl
      | some q => exact BEq.comm
theorem alk_like1 (S : AS) (k s : Nat) : alk S (fun _ b _ b' => b == b') k s = isLike S true k s := by
  unfold alk isLike shown
  cases S.P k with
  | none => rfl
  | some p =>
    cases nb S.r S.c k s with
    | none => rfl
    | some j =>
      dsimp only
      cases S.P j with
      | none => rfl
      | some q => exact BEq.comm
theorem sp_X0_pairs0 {v : BV} {S : AS} (hv : RB v S) (hI : Inv S) {Q : Int32 → BV → Prop} (h : Q (nI (pairsA S)) v) : wp_X0_pairsAlike v 0 Q := by
  refine sp_X0_pairsAlike hv hI (g := fun _ _ _ _ => true) (fun a b a' b' h1 h2 h3 h4 => (al_0 h1 h2 h3 h4).trans ⟨fun _ => rfl, fun _ => trivial⟩) ?_
  have e : sm (fun k => (alk S (fun _ _ _ _ => true) k 1).toNat + (alk S (fun _ _ _ _ => true) k 2).toNat) S.n = pairsA S := sm_congr _ (fun k _ => by rw [alk_pair, alk_pair])
  rw [e]
  exact h
theorem sp_X0_pairs15 {v : BV} {S : AS} (hv : RB v S) (hI : Inv S) {Q : Int32 → BV → Prop} (h : Q (nI (likeA S false)) v) : wp_X0_pairsAlike v 15 Q := by
  refine sp_X0_pairsAlike hv hI (g := fun a _ a' _ => a == a') (fun a b a' b' h1 h2 h3 h4 => (al_15 h1 h2 h3 h4).trans beq_iff_eq.symm) ?_
  have e : sm (fun k => (alk S (fun a _ a' _ => a == a') k 1).toNat + (alk S (fun a _ a' _ => a == a') k 2).toNat) S.n = likeA S false := sm_congr _ (fun k _ => by rw [alk_like0, alk_like0])
  rw [e]
  exact h
theorem sp_X0_pairsHi {v : BV} {S : AS} (hv : RB v S) (hI : Inv S) {Q : Int32 → BV → Prop} (h : Q (nI (likeA S true)) v) : wp_X0_pairsAlike v 983040 Q := by
  refine sp_X0_pairsAlike hv hI (g := fun _ b _ b' => b == b') (fun a b a' b' h1 h2 h3 h4 => (al_hi h1 h2 h3 h4).trans beq_iff_eq.symm) ?_
  have e : sm (fun k => (alk S (fun _ b _ b' => b == b') k 1).toNat + (alk S (fun _ b _ b' => b == b') k 2).toNat) S.n = likeA S true := sm_congr _ (fun k _ => by rw [alk_like1, alk_like1])
  rw [e]
  exact h
