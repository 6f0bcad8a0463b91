/-! the class's calls, one by one: boards and tiles, laying -/
theorem RX.put {v : XV} {S T : AS} {L L' : List AS} {B : List Nat} (hX : RX v S L B) {vB : BV} {vH : HV} (hB : RB vB T) (hI : Inv T) (hH : RHc vH L') (hL : ∀ U ∈ L', Inv U) : RX (XV.s_history (XV.s_board v vB) vH) T L' B := ⟨hB, hI, hH, hL, hX.2.2.2.2⟩
theorem nlt {a b : Int32} (h : ¬ a < b) : b ≤ a := Int32.not_lt.mp h
theorem gtn {a b : Int32} (h : a < b) : ¬ b ≤ a := Int32.not_le.mpr h
theorem sp_X6_begin {v : XV} {S : AS} {L : List AS} {B : List Nat} (hX : RX v S L B) {a b : Int32} {Q : Int32 → XV → Prop} {XQ : String → XV → Prop}
    (h0 : ∀ r c : Nat, (1 ≤ r ∧ r ≤ 3) → (1 ≤ c ∧ c ≤ 4) → a = nI r → b = nI c → ∀ v', RX v' ((r, c, S.ru, S.t, S.F, fun _ => none, fun _ => false) : AS) (pushS L S) B → Q (nI (r * c)) v')
    (h1 : ¬ ((1 ≤ a ∧ a ≤ 3) ∧ (1 ≤ b ∧ b ≤ 4)) → XQ "java/lang/IllegalArgumentException" v) : wp_X6_begin v a b Q XQ := by
  unfold wp_X6_begin
  refine ⟨fun c1 => h1 (fun z => gtn c1 z.1.1), fun c1 => ⟨fun c2 => h1 (fun z => gtn c2 z.1.2), fun c2 => ⟨fun c3 => h1 (fun z => gtn c3 z.2.1), fun c3 => ⟨fun c4 => ?_, fun c4 => h1 (fun z => c4 z.2.2)⟩⟩⟩⟩
  obtain ⟨r, r1, r2, rfl⟩ := nI_rng (a := 1) (b := 3) (by omega) (by omega) ⟨nlt c1, nlt c2⟩
  obtain ⟨c, d1, d2, rfl⟩ := nI_rng (a := 1) (b := 4) (by omega) (by omega) ⟨nlt c3, c4⟩
  refine rx_save hX (fun vH hH => sp_X0_makeEmpty ?_)
  have hB := hX.1.emp (r := r) (c := c)
  refine sp_X0_cells hB ?_
  exact h0 r c ⟨r1, r2⟩ ⟨d1, d2⟩ rfl rfl _ (hX.put hB (hX.2.1.emp ⟨r1, r2⟩ ⟨d1, d2⟩) hH (pushS_inv hX.2.2.2.1 hX.2.1))
theorem sp_X6_addTile {v : XV} {S : AS} {L : List AS} {B : List Nat} (hX : RX v S L B) {a b : Int32} {Q : Int32 → XV → Prop} {XQ : String → XV → Prop}
    (h0 : ∀ f o : Nat, f ≤ 9999 → o ≤ 9999 → a = nI f → b = nI o → S.t ≤ 11 → ∀ v', RX v' (addF S f o) (pushS L S) B → Q (nI S.t) v')
    (h1 : ¬ ((0 ≤ a ∧ a ≤ 9999) ∧ (0 ≤ b ∧ b ≤ 9999)) → XQ "java/lang/IllegalArgumentException" v)
    (h2 : ((0 ≤ a ∧ a ≤ 9999) ∧ (0 ≤ b ∧ b ≤ 9999)) → S.t = 12 → XQ "java/lang/IllegalStateException" v) : wp_X6_addTile v a b Q XQ := by
  have ht := hX.2.1.2.2.2.1
  unfold wp_X6_addTile
  refine ⟨fun c1 => h1 (fun z => gtn c1 z.1.1), fun c1 => ⟨fun c2 => h1 (fun z => gtn c2 z.1.2), fun c2 => ⟨fun c3 => h1 (fun z => gtn c3 z.2.1), fun c3 => ⟨fun c4 => ?_, fun c4 => h1 (fun z => c4 z.2.2)⟩⟩⟩⟩
  rw [hX.1.1.2.2.2]
  refine ek_if (nI_ltI (b := 12) (by omega) (by omega)) (fun e => ?_) (fun e => h2 ⟨⟨nlt c1, nlt c2⟩, ⟨nlt c3, c4⟩⟩ (by omega))
  obtain ⟨f, -, f2, rfl⟩ := nI_rng (a := 0) (b := 9999) (by omega) (by omega) ⟨nlt c1, nlt c2⟩
  obtain ⟨o, -, o2, rfl⟩ := nI_rng (a := 0) (b := 9999) (by omega) (by omega) ⟨nlt c3, c4⟩
  refine rx_save hX (fun vH hH => sp_X0_addFaces hX.1 hX.2.1 (by omega) f2 o2 (fun vB hB => ?_))
  have et : BV.tiles vB = nI (S.t + 1) := hB.1.2.2.2
  rw [et, nI_pred]
  exact h0 f o f2 o2 rfl rfl (by omega) _ (hX.put hB (hX.2.1.addF (by omega) f2 o2) hH (pushS_inv hX.2.2.2.1 hX.2.1))
theorem Inv.dropT {S : AS} (h : Inv S) {n : Nat} (e : S.t = n + 1) (hc : cellOf S n = none) : Inv (tS S n) := by
  obtain ⟨i1, i2, i3, i4, i5, i6, i7, i8⟩ := h
  refine ⟨i1, i2, i3, by show n ≤ 12; omega, i5, fun k p e => ?_, i7, i8⟩
  have h8 := i6 k p e
  have h9 := cellOfN_none hc k p h8.1 e
  refine ⟨h8.1, ?_⟩
  show p < 8 * n
  omega
theorem sp_X6_dropTile {v : XV} {S : AS} {L : List AS} {B : List Nat} (hX : RX v S L B) {Q : Int32 → XV → Prop} {XQ : String → XV → Prop}
    (h0 : ∀ n : Nat, S.t = n + 1 → cellOf S n = none → ∀ v', RX v' (tS S n) (pushS L S) B → Q (nI n) v')
    (h1 : ¬ (∃ n, S.t = n + 1 ∧ cellOf S n = none) → XQ "java/lang/IllegalStateException" v) : wp_X6_dropTile v Q XQ := by
  have ht := hX.2.1.2.2.2.1
  have et : BV.tiles (XV.board v) = nI S.t := hX.1.1.2.2.2
  unfold wp_X6_dropTile
  rw [et]
  refine ek_if (nI_ltI (b := 1) (by omega) (by omega)) (fun e => h1 (fun ⟨n, z, _⟩ => by omega)) (fun e => ?_)
  obtain ⟨n, hn⟩ : ∃ n, S.t = n + 1 := ⟨S.t - 1, by omega⟩
  rw [hn, nI_pred]
  refine sp_X0_isLaid hX.1 hX.2.1 (by omega) (fun k hk => bq_f (by decide) (h1 (fun ⟨m, z, z2⟩ => ?_))) (fun hc => bq_t rfl ?_)
  · rw [show m = n by omega, hk] at z2
    cases z2
  · refine rx_save hX (fun vH hH f5 hf5 => ?_)
    rw [et, hn, nI_pred] at hf5
    subst hf5
    have hI := hX.2.1.dropT hn hc
    have hB : RB (BV.s_tiles (XV.board v) (nI n)) (tS S n) := by
      obtain ⟨⟨b1, b2, b3, b4⟩, b5, b6, b7, b8⟩ := hX.1
      refine ⟨⟨b1, b2, b3, rfl⟩, b5, b6, fun t ht => ?_, fun p hp => b8 p ?_⟩
      · rw [cellOf_congr (S := S) (T := tS S n) (fun k => rfl) rfl]
        exact b7 t ht
      · have hp : p < 8 * n := hp
        omega
    exact h0 n hn hc _ (hX.put hB hI hH (pushS_inv hX.2.2.2.1 hX.2.1))
theorem sp_X6_setRule {v : XV} {S : AS} {L : List AS} {B : List Nat} (hX : RX v S L B) {a : Int32} {Q : Int32 → XV → Prop} {XQ : String → XV → Prop}
    (h0 : ∀ x : Nat, x ≤ 2 → a = nI x → ∀ v', RX v' (ruS S x) (pushS L S) B → Q (nI S.ru) v')
    (h1 : ¬ (0 ≤ a ∧ a ≤ 2) → XQ "java/lang/IllegalArgumentException" v) : wp_X6_setRule v a Q XQ := by
  unfold wp_X6_setRule
  refine ⟨fun c1 => h1 (fun z => gtn c1 z.1), fun c1 => ⟨fun c2 => ?_, fun c2 => h1 (fun z => c2 z.2)⟩⟩
  obtain ⟨x, -, x2, rfl⟩ := nI_rng (a := 0) (b := 2) (by omega) (by omega) ⟨nlt c1, c2⟩
  refine rx_save hX (fun vH hH y hy => ?_)
  have er : BV.rule (XV.board v) = nI S.ru := hX.1.1.2.2.1
  rw [er] at hy
  subst hy
  have hB : RB (BV.s_rule (XV.board v) (nI x)) (ruS S x) := by
    obtain ⟨⟨b1, b2, b3, b4⟩, b5, b6, b7, b8⟩ := hX.1
    refine ⟨⟨b1, b2, rfl, b4⟩, b5, b6, fun t ht => ?_, b8⟩
    rw [cellOf_congr (S := S) (T := ruS S x) (fun k => rfl) rfl]
    exact b7 t ht
  obtain ⟨i1, i2, i3, i4, i5, i6, i7, i8⟩ := hX.2.1
  exact h0 x x2 rfl _ (hX.put hB ⟨i1, i2, x2, i4, i5, i6, i7, i8⟩ hH (pushS_inv hX.2.2.2.1 hX.2.1))
theorem sp_X6_requireCell {v : XV} {S : AS} {L : List AS} {B : List Nat} (hX : RX v S L B) {x : Int32} {Q : XV → Prop} {XQ : String → XV → Prop}
    (h : ∀ k, k < S.n → x = nI k → Q v) (h1 : ¬ (∃ k, k < S.n ∧ x = nI k) → XQ "java/lang/IndexOutOfBoundsException" v) : wp_X6_requireCell v x Q XQ := by
  unfold wp_X6_requireCell
  exact sp_X0_hasCell hX.1 hX.2.1 (fun k hk e => bn_f (by decide) (h k hk e)) (fun e => bn_t rfl (h1 e))
theorem sp_X6_requirePlacing {v : XV} {S : AS} {L : List AS} {B : List Nat} (hX : RX v S L B) {x y : Int32} {Q : XV → Prop} {XQ : String → XV → Prop}
    (h : ∀ k p, k < S.n → p < 8 * S.t → x = nI k → y = nI p → Q v) (h1 : ¬ ((∃ k, k < S.n ∧ x = nI k) ∧ (∃ p, p < 8 * S.t ∧ y = nI p)) → XQ "java/lang/IndexOutOfBoundsException" v) : wp_X6_requirePlacing v x y Q XQ := by
  unfold wp_X6_requirePlacing
  refine sp_X6_requireCell hX (fun k hk e => ?_) (fun e => h1 (fun z => e z.1))
  exact sp_X0_hasPlacing hX.1 hX.2.1 (fun p hp e2 => bn_f (by decide) (h k p hk hp e e2)) (fun e2 => bn_t rfl (h1 (fun z => e2 z.2)))
theorem sp_X6_reason {v : XV} {S : AS} {L : List AS} {B : List Nat} (hX : RX v S L B) {k p : Nat} (hk : k < S.n) (hp : p < 8 * S.t) {Q : Int32 → XV → Prop} (h : ∀ v', RX v' S L B → Q (nI (why S k p)) v') : wp_X6_reason v (nI k) (nI p) Q := by
  have hI := hX.2.1
  have hn := hI.n12
  have ht := hI.2.2.2.1
  unfold wp_X6_reason
  rw [nn_lit 8, pk_div (by omega) (by omega) (by omega), nI_clamp (by omega)]
  unfold why at h
  refine sp_X0_isEmpty hX.1 hI (by omega) (fun e => bn_f (by decide) ?_) (fun q e => bn_t rfl ?_)
  · rw [e] at h
    refine sp_X0_isLaid hX.1 hI (by omega) (fun c hc => bq_f (by decide) ?_) (fun hc => bq_t rfl ?_)
    · rw [hc] at h
      exact h _ hX
    · rw [hc] at h
      refine sp_X3_read hX.1 hI hk ⟨vp_in_nI (by omega) (by omega), ?_⟩
      rw [hX.1.2.2.2.2 p hp]
      exact sp_X3_reasonAgainst hI (by omega) (h _ hX)
  · rw [e] at h
    exact h _ hX
theorem sp_X6_why {v : XV} {S : AS} {L : List AS} {B : List Nat} (hX : RX v S L B) {a b : Int32} {Q : Int32 → XV → Prop} {XQ : String → XV → Prop}
    (h0 : ∀ k p : Nat, k < S.n → p < 8 * S.t → a = nI k → b = nI p → ∀ v', RX v' S L B → Q (nI (why S k p)) v')
    (h1 : ¬ ((∃ k, k < S.n ∧ a = nI k) ∧ (∃ p, p < 8 * S.t ∧ b = nI p)) → XQ "java/lang/IndexOutOfBoundsException" v) : wp_X6_why v a b Q XQ := by
  unfold wp_X6_why
  refine sp_X6_requirePlacing hX (fun k p hk hp ea eb => ?_) h1
  subst ea eb
  exact sp_X6_reason hX hk hp (h0 k p hk hp rfl rfl)
theorem sp_X6_lay {v : XV} {S : AS} {L : List AS} {B : List Nat} (hX : RX v S L B) {a b : Int32} {Q : Int32 → XV → Prop} {XQ : String → XV → Prop}
    (h0 : ∀ k p : Nat, k < S.n → p < 8 * S.t → a = nI k → b = nI p → why S k p = 0 → ∀ v', RX v' (S.put k (some p)) (pushS L S) B → Q (nI (empties (S.put k (some p)))) v')
    (h1 : ¬ ((∃ k, k < S.n ∧ a = nI k) ∧ (∃ p, p < 8 * S.t ∧ b = nI p)) → XQ "java/lang/IndexOutOfBoundsException" v)
    (h2 : ∀ k p : Nat, k < S.n → p < 8 * S.t → a = nI k → b = nI p → ¬ why S k p = 0 → ∀ v', RX v' S L B → XQ "java/lang/IllegalStateException" v') : wp_X6_lay v a b Q XQ := by
  unfold wp_X6_lay
  refine sp_X6_requirePlacing hX (fun k p hk hp ea eb => ?_) h1
  subst ea eb
  refine sp_X6_reason hX hk hp (fun v1 hX1 => ?_)
  have hw := why_le S k p
  refine ek_if (nn_eq0 (by omega)) (fun e => ?_) (fun e => h2 k p hk hp rfl rfl e v1 hX1)
  obtain ⟨w1, w2, w3⟩ := why_0 e
  have hT := hX.2.1.put hk hp e
  refine rx_save hX1 (fun vH hH => sp_X0_put hX1.1 hX.2.1 hk hp w1 w2 hT (fun vB hB => sp_X0_emptyCells hB hT ?_))
  exact h0 k p hk hp rfl rfl e _ (hX1.put hB hT hH (pushS_inv hX.2.2.2.1 hX.2.1))
theorem sp_X6_take {v : XV} {S : AS} {L : List AS} {B : List Nat} (hX : RX v S L B) {a : Int32} {Q : Int32 → XV → Prop} {XQ : String → XV → Prop}
    (h0 : ∀ k p : Nat, k < S.n → a = nI k → S.P k = some p → S.X k = false → ∀ v', RX v' (S.put k none) (pushS L S) B → Q (nI p) v')
    (h1 : ¬ (∃ k, k < S.n ∧ a = nI k) → XQ "java/lang/IndexOutOfBoundsException" v)
    (h2 : ∀ k : Nat, k < S.n → a = nI k → (S.P k = none ∨ S.X k = true) → XQ "java/lang/IllegalStateException" v) : wp_X6_take v a Q XQ := by
  have hI := hX.2.1
  have hn := hI.n12
  unfold wp_X6_take
  refine sp_X6_requireCell hX (fun k hk ea => ?_) h1
  subst ea
  refine sp_X0_isEmpty hX.1 hI (by omega) (fun e => bn_f (by decide) (h2 k hk rfl (Or.inl e))) (fun p e => bn_t rfl ?_)
  refine sp_X0_isFixed hX.1 (by omega) (fun e2 => bq_f (by decide) (h2 k hk rfl (Or.inr e2))) (fun e2 => bq_t rfl ?_)
  have hp9 := hI.p96 e
  refine rx_save hX (fun vH hH => ⟨vp_in_nI (by omega) (by omega), fun y hy => ?_⟩)
  rw [nI_clamp (by omega), hX.1.2.2.1 k (by omega), e] at hy
  subst hy
  refine sp_X0_remove hX.1 hI e (fun vB hB => ?_)
  exact h0 k p hk rfl e e2 _ (hX.put hB (hI.off k) hH (pushS_inv hX.2.2.2.1 hX.2.1))
theorem bitN_tb (m k : Nat) : bitN m k = (m.testBit k).toNat := by
  unfold bitN
  rw [Nat.testBit_eq_decide_div_mod_eq]
  have h : m / 2 ^ k % 2 < 2 := Nat.mod_lt _ (by omega)
  by_cases e : m / 2 ^ k % 2 = 1
  · rw [decide_eq_true e, e]; rfl
  · rw [decide_eq_false e]
    show _ = 0
    omega
theorem RB.flip {v : BV} {S : AS} (hv : RB v S) {k : Nat} (hk : k < 12) : RB (BV.s_fixed v ((BV.fixed v) ^^^ (jshl 1 (nI k)))) (xS S k (!S.X k)) := by
  obtain ⟨b1, ⟨m, m1, m2, m3⟩, b6, b7, b8⟩ := hv
  have hp : 2 ^ k < 2 ^ 12 := Nat.pow_lt_pow_right (by omega) hk
  refine ⟨b1, ⟨m ^^^ 2 ^ k, Nat.xor_lt_two_pow (n := 12) m1 hp, ?_, fun j hj => ?_⟩, b6, fun t ht => ?_, b8⟩
  · show (BV.fixed v) ^^^ (jshl 1 (nI k)) = _
    rw [m2, nn_lit 1, nn_shl (by omega) (by omega), nn_xor, Nat.one_mul]
  · have h3 := m3 j hj
    rw [bitN_tb] at h3
    rw [bitN_tb, Nat.testBit_xor, Nat.testBit_two_pow]
    show _ = (if j = k then !S.X k else S.X j).toNat
    by_cases e : j = k
    · subst e
      rw [if_pos rfl, decide_eq_true rfl]
      have h4 : m.testBit j = S.X j := by
        cases h5 : m.testBit j <;> cases h6 : S.X j <;> rw [h5, h6] at h3 <;> first | rfl | exact absurd h3 (by decide)
      rw [h4]
      cases S.X j <;> rfl
    · rw [if_neg e, decide_eq_false (fun z => e z.symm), Bool.xor_false]
      exact h3
  · rw [cellOf_congr (S := S) (T := xS S k (!S.X k)) (fun k => rfl) rfl]
    exact b7 t ht
theorem Inv.fl {S : AS} (h : Inv S) {k : Nat} (hk : k < S.n) (b : Bool) : Inv (xS S k b) := by
  obtain ⟨i1, i2, i3, i4, i5, i6, i7, i8⟩ := h
  refine ⟨i1, i2, i3, i4, i5, i6, i7, fun j hj => ?_⟩
  by_cases e : j = k
  · rw [e]; exact hk
  · exact i8 j (by rw [show (xS S k b).X j = S.X j from if_neg e] at hj; exact hj)
theorem sp_X6_fix {v : XV} {S : AS} {L : List AS} {B : List Nat} (hX : RX v S L B) {a : Int32} {Q : Int32 → XV → Prop} {XQ : String → XV → Prop}
    (h0 : ∀ k p : Nat, k < S.n → a = nI k → S.P k = some p → ∀ v', RX v' (xS S k (!S.X k)) (pushS L S) B → Q (nI (!S.X k).toNat) v')
    (h1 : ¬ (∃ k, k < S.n ∧ a = nI k) → XQ "java/lang/IndexOutOfBoundsException" v)
    (h2 : ∀ k : Nat, k < S.n → a = nI k → S.P k = none → XQ "java/lang/IllegalStateException" v) : wp_X6_fix v a Q XQ := by
  have hI := hX.2.1
  have hn := hI.n12
  unfold wp_X6_fix
  refine sp_X6_requireCell hX (fun k hk ea => ?_) h1
  subst ea
  refine sp_X0_isEmpty hX.1 hI (by omega) (fun e => bq_f (by decide) (h2 k hk rfl e)) (fun p e => bq_t rfl ?_)
  refine rx_save hX (fun vH hH f hf => ?_)
  have hB : RB (BV.s_fixed (XV.board v) f) (xS S k (!S.X k)) := by
    rw [hf]
    exact hX.1.flip (by omega)
  have hR := hX.put hB (hI.fl hk _) hH (pushS_inv hX.2.2.2.1 hI)
  have eX : (xS S k (!S.X k)).X k = !S.X k := if_pos rfl
  refine sp_X0_isFixed hB (by omega) (fun e2 => bq_f (by decide) ?_) (fun e2 => bq_t rfl ?_)
  · have g := h0 k p hk rfl e _ hR
    rw [← eX, e2] at g
    exact g
  · have g := h0 k p hk rfl e _ hR
    rw [← eX, e2] at g
    exact g
