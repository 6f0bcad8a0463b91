/-! THE LAW'S QUESTIONS, as a whole -/
section T2
variable {v : XV} {b ti se : IV} {S : AS} {L : List AS} {B : List Nat} {Q : Int32 → XV → IV → IV → Prop}
theorem td_245 {K : XV → IV → IV → IV → Int32 → Int32 → Int32 → Int32 → Int32 → Int32 → Int32 → Int32 → Int32 → Int32 → Int32 → Prop} {x1 x5 x6 x7 x11 x12 x13 : Int32} (hX : RX v S L B) (h : lbB b ti S) (hs : lbS S) {k a8 a9 a10 : Nat} (hk : k < S.n)
    (hK : ∀ v', RX v' S L B → K v' b ti se x1 x5 x6 x7 (nI (a8 + ((isPair S k 1).toNat + (isPair S k 2).toNat))) (nI (a9 + ((isLike S false k 1).toNat + (isLike S false k 2).toNat))) (nI (a10 + ((isLike S true k 1).toNat + (isLike S true k 2).toNat))) x11 x12 x13 (nI k)) :
    wp_L_told_245 Q K v b ti se x1 x5 x6 x7 (nI a8) (nI a9) (nI a10) x11 x12 x13 (nI k) (enc (S.P k)) 0 := by
  intro P hP
  have key : ∀ d s : Nat, s + d = 4 → ∀ v, RX v S L B → P v b ti se x1 x5 x6 x7 (nI (a8 + prS S k s)) (nI (a9 + lkS S false k s)) (nI (a10 + lkS S true k s)) x11 x12 x13 (nI k) (enc (S.P k)) (nI s) := by
    intro d
    induction d with
    | zero =>
      intro s hs4 v hX
      obtain rfl : s = 4 := by omega
      apply hP
      unfold bd_L_told_245
      exact bq_t (by decide) (hK v hX)
    | succ d ih =>
      intro s hs4 v hX
      refine hP _ _ _ _ _ _ _ _ _ _ _ _ _ _ _ _ _ (td_side hX h hs hk (by omega) (fun v' hX' => ?_))
      have nx := ih (s + 1) (by omega) v' hX'
      rw [prS_s S k (by omega), lkS_s S false k (by omega), lkS_s S true k (by omega), ← Nat.add_assoc, ← Nat.add_assoc, ← Nat.add_assoc] at nx
      exact nx
  exact key 4 0 rfl v hX
def hbV (S : AS) (c : Nat) : Int32 := match (bst S c).1 with
  | none => -1
  | some k => 100 * nI k + enc (pf S k 0)
def hlV (S : AS) (c : Nat) : Nat := match (bst S c).1 with
  | none => 99
  | some _ => (bst S c).2
theorem hb_up {S : AS} (hI : Inv S) (c : Nat) : (0 < pm S c ∧ pm S c < hlV S c → hbV S (c + 1) = 100 * nI c + enc (pf S c 0) ∧ hlV S (c + 1) = pm S c) ∧ (¬ (0 < pm S c ∧ pm S c < hlV S c) → hbV S (c + 1) = hbV S c ∧ hlV S (c + 1) = hlV S c) := by
  have hm := manyA_le hI c
  have hl := (bst_lt hI c).2
  have e : bst S (c + 1) = if 0 < manyA S c ∧ ((bst S c).1 = none ∨ manyA S c < (bst S c).2) then (some c, manyA S c) else bst S c := rfl
  rw [manyA_pm] at e hm
  have hc : (0 < pm S c ∧ pm S c < hlV S c) ↔ (0 < pm S c ∧ ((bst S c).1 = none ∨ pm S c < (bst S c).2)) := by
    unfold hlV
    cases h1 : (bst S c).1 with
    | none =>
      simp only [true_or, and_true]
      omega
    | some k => simp
  refine ⟨fun z => ?_, fun z => ?_⟩
  · rw [if_pos (hc.mp z)] at e
    unfold hbV hlV
    rw [e]
    exact ⟨rfl, rfl⟩
  · rw [if_neg (fun y => z (hc.mpr y))] at e
    unfold hbV hlV
    rw [e]
    exact ⟨rfl, rfl⟩
theorem hlV_le {S : AS} (hI : Inv S) (c : Nat) : hlV S c ≤ 99 := by
  have hl := (bst_lt hI c).2
  unfold hlV
  split <;> omega
theorem td_43 {K : XV → IV → IV → IV → Int32 → Int32 → Int32 → Int32 → Int32 → Int32 → Int32 → Int32 → Int32 → Prop} {x1 : Int32} (hX : RX v S L B) (h : lbB b ti S) (hs : lbS S)
    (hK : ∀ v', RX v' S L B → K v' b ti se x1 (nI S.n) (nI (empties S)) (nI (fixA S)) (nI (pairsA S)) (nI (likeA S false)) (nI (likeA S true)) (nI (misA S)) (hintV S)) :
    wp_L_told_43 Q K v b ti se x1 (nI S.n) 0 0 0 0 0 0 (-1) 99 0 := by
  have hI := hX.2.1
  have hn6 := hs.n6
  have ht6 := hs.2.2
  intro P hP
  have key : ∀ d c : Nat, c + d = S.n → ∀ v, RX v S L B → P v b ti se x1 (nI S.n) (nI (cnt (fun k => (S.P k).isNone) c)) (nI (sm (fun k => (S.X k).toNat) c)) (nI (sm (fun k => (isPair S k 1).toNat + (isPair S k 2).toNat) c)) (nI (sm (fun k => (isLike S false k 1).toNat + (isLike S false k 2).toNat) c)) (nI (sm (fun k => (isLike S true k 1).toNat + (isLike S true k 2).toNat) c)) (nI (sm (fun k => (isMis S k).toNat) c)) (hbV S c) (nI (hlV S c)) (nI c) := by
    intro d
    induction d with
    | zero =>
      intro c hc v hX
      obtain rfl : c = S.n := by omega
      apply hP
      unfold bd_L_told_43
      exact bq_t ((nI_leI (a := S.n) (b := S.n) (by omega) (by omega)).mpr (Nat.le_refl _)) (hK v hX)
    | succ d ih =>
      intro c hc v hX
      have hcn : c < S.n := by omega
      have hpm := manyA_le hI c
      rw [manyA_pm] at hpm
      have hl9 := hlV_le hI c
      apply hP
      unfold bd_L_told_43
      refine bq_f (fun z => by rw [nI_leI (by omega) (by omega)] at z; omega) ?_
      rw [nn_lit 4, nI_add, nI_clamp (n := 4 + c) (by omega), h.2.2.2.2.1 c (by omega), h.2.2.2.1, nn_lit 8, pk_mul]
      refine ⟨vp_in_nI (by omega) (by omega), fun x15 hx15 x18 hx18 => ?_⟩
      subst hx15 hx18
      refine td_74 h hI hs hcn ?_
      refine us_cell hX hcn (w := 0) (by omega) (fun v1 hX1 => bn_t rfl ?_)
      refine us_cell hX1 hcn (w := 1) (by omega) (fun v2 hX2 => ?_)
      rw [nn_lit 16, nI_add, nI_clamp (n := 16 + c) (by omega), h.2.2.2.2.2.1 c (by omega)]
      refine ⟨vp_in_nI (by omega) (by omega), bn_t rfl ?_⟩
      refine us_cell hX2 hcn (w := 2) (by omega) (fun v3 hX3 => bn_t (cellV_2 S c) ?_)
      refine us_cell hX3 hcn (w := 3) (by omega) (fun v4 hX4 => bq_t (cellV_3 S c) ?_)
      -- what stands behind, with the counts in the model's words
      have nx := fun v' hX' => ih (c + 1) (by omega) v' hX'
      -- misfits, then the sides
      have m215 : wp_L_told_215 P K Q v4 b ti se x1 (nI S.n) (nI (cnt (fun k => (S.P k).isNone) (c + 1))) (nI (sm (fun k => (S.X k).toNat) (c + 1))) (nI (sm (fun k => (isPair S k 1).toNat + (isPair S k 2).toNat) c)) (nI (sm (fun k => (isLike S false k 1).toNat + (isLike S false k 2).toNat) c)) (nI (sm (fun k => (isLike S true k 1).toNat + (isLike S true k 2).toNat) c)) (nI (sm (fun k => (isMis S k).toNat) c)) (hbV S (c + 1)) (nI (hlV S (c + 1))) (nI c) (enc (S.P c)) := by
        have m239 : ∀ {t0 t1 : Int32}, t0 + t1 = nI (sm (fun k => (isMis S k).toNat) (c + 1)) → wp_L_told_239 P K Q v4 b ti se x1 (nI S.n) (nI (cnt (fun k => (S.P k).isNone) (c + 1))) (nI (sm (fun k => (S.X k).toNat) (c + 1))) (nI (sm (fun k => (isPair S k 1).toNat + (isPair S k 2).toNat) c)) (nI (sm (fun k => (isLike S false k 1).toNat + (isLike S false k 2).toNat) c)) (nI (sm (fun k => (isLike S true k 1).toNat + (isLike S true k 2).toNat) c)) (hbV S (c + 1)) (nI (hlV S (c + 1))) (nI c) (enc (S.P c)) t0 t1 := by
          intro t0 t1 et x11 hx11
          rw [et] at hx11
          subst hx11
          refine td_245 hX4 h hs hcn (fun v' hX' x14 hx14 => ?_)
          rw [nI_1] at hx14
          subst hx14
          exact nx v' hX'
        have e1 : sm (fun k => (isMis S k).toNat) (c + 1) = sm (fun k => (isMis S k).toNat) c + (isMis S c).toNat := rfl
        unfold wp_L_told_215
        cases hp : S.P c with
        | none =>
          have e2 : isMis S c = false := by unfold isMis; rw [hp]
          rw [hp] at m239
          refine bq_t (by decide) (m239 ?_)
          rw [e1, e2]
          exact Int32.add_zero _
        | some p =>
          have hp8 := (hI.2.2.2.2.2.1 c p hp).2
          have hmf := misfit_le S c p
          have e2 : isMis S c = decide (0 < misfit S c p) := by unfold isMis; rw [hp]
          rw [hp] at m239
          refine bq_f (nI_pos (by omega)) (sp_L_fits h hI hs hcn hp8 ?_)
          refine ek_if (nI_leI (b := 0) (by omega) (by omega)) (fun e => m239 ?_) (fun e => m239 ?_)
          · rw [e1, e2, decide_eq_false (by omega)]
            exact Int32.add_zero _
          · rw [e1, e2, decide_eq_true (by omega)]
            exact nI_1 _
      have m174 : ∀ {t0 t1 : Int32}, t0 + t1 = nI (cnt (fun k => (S.P k).isNone) (c + 1)) → wp_L_told_174 P K Q v4 b ti se x1 (nI S.n) (nI (sm (fun k => (S.X k).toNat) c)) (nI (sm (fun k => (isPair S k 1).toNat + (isPair S k 2).toNat) c)) (nI (sm (fun k => (isLike S false k 1).toNat + (isLike S false k 2).toNat) c)) (nI (sm (fun k => (isLike S true k 1).toNat + (isLike S true k 2).toNat) c)) (nI (sm (fun k => (isMis S k).toNat) c)) (hbV S c) (nI (hlV S c)) (nI c) (enc (S.P c)) (nI (pm S c)) (enc (pf S c 0)) t0 t1 := by
        intro t0 t1 et x6 hx6
        rw [et] at hx6
        subst hx6
        rw [nn_lit 16, nI_add, nI_clamp (n := 16 + c) (by omega), h.2.2.2.2.2.1 c (by omega), nI_add]
        refine ⟨vp_in_nI (by omega) (by omega), fun x7 hx7 => ?_⟩
        have hx7 : x7 = nI (sm (fun k => (S.X k).toNat) (c + 1)) := hx7
        subst hx7
        have hu := hb_up hI c
        refine ek_if (nI_leI (b := 0) (by omega) (by omega)) (fun e => ?_) (fun e => ek_if (nI_leI (by omega) (by omega)) (fun e9 => ?_) (fun e9 x12 hx12 => ?_))
        · have g := hu.2 (by omega)
          rw [g.1, g.2] at m215
          exact m215
        · have g := hu.2 (by omega)
          rw [g.1, g.2] at m215
          exact m215
        · have g := hu.1 (by omega)
          rw [g.1, g.2] at m215
          subst hx12
          exact m215
      have e0 : cnt (fun k => (S.P k).isNone) (c + 1) = cnt (fun k => (S.P k).isNone) c + ((S.P c).isNone).toNat := rfl
      cases hp : S.P c with
      | none =>
        rw [hp] at m174 e0
        exact bq_f (by decide) (m174 (by rw [e0]; exact nI_1 _))
      | some p =>
        have hp9 := hI.p96 hp
        rw [hp] at m174 e0
        exact bq_t (nI_pos' (by omega)) (m174 (by rw [e0]; exact Int32.add_zero _))
  exact key S.n 0 (by omega) v hX
/-! the tiles -/
def dgN (f : Nat) : Nat → Nat
  | 0 => 0
  | j + 1 => 10 * dgN f j + dig f j
theorem dgN_4 {f : Nat} (h : f ≤ 9999) : dgN f 4 = f := by
  show 10 * (10 * (10 * (10 * 0 + dig f 0) + dig f 1) + dig f 2) + dig f 3 = f
  unfold dig
  rw [if_pos rfl, if_neg (by decide), if_pos rfl, if_neg (by decide), if_neg (by decide), if_pos rfl, if_neg (by decide), if_neg (by decide), if_neg (by decide)]
  omega
theorem td_443 {K : XV → IV → IV → IV → Int32 → Int32 → Int32 → Int32 → Int32 → Int32 → Int32 → Int32 → Int32 → Prop} {x1 x5 x6 x7 x8 x9 x10 x11 x12 : Int32} (hX : RX v S L B) (h : lbB b ti S) (hs : lbS S)
    (hK : ∀ v', RX v' S L B → K v' b ti se x1 x5 x6 x7 x8 x9 x10 x11 x12) : wp_L_told_443 Q K v b ti se x1 x5 x6 x7 x8 x9 x10 x11 x12 0 := by
  have hI := hX.2.1
  have ht6 := hs.2.2
  intro P hP
  have key : ∀ d t : Nat, t + d = S.t → ∀ v, RX v S L B → P v b ti se x1 x5 x6 x7 x8 x9 x10 x11 x12 (nI t) := by
    intro d
    induction d with
    | zero =>
      intro t ht v hX
      apply hP
      unfold bd_L_told_443
      rw [h.2.2.2.1]
      exact bq_t ((nI_leI (by omega) (by omega)).mpr (by omega)) (hK v hX)
    | succ d ih =>
      intro t ht v hX
      have htt : t < S.t := by omega
      apply hP
      unfold bd_L_told_443
      rw [h.2.2.2.1]
      refine bq_f (fun z => by rw [nI_leI (by omega) (by omega)] at z; omega) ?_
      intro P2 hP2
      have k2 : ∀ d j : Nat, j + d = 4 → P2 v b ti se x1 x5 x6 x7 x8 x9 x10 x11 x12 (nI t) (nI (dgN (S.F (2 * t)) j)) (nI (dgN (S.F (2 * t + 1)) j)) (nI j) := by
        intro d
        induction d with
        | zero =>
          intro j hj
          obtain rfl : j = 4 := by omega
          have f0 : S.F (2 * t) ≤ 9999 := hI.2.2.2.2.1 (2 * t) (by omega)
          have f1 : S.F (2 * t + 1) ≤ 9999 := hI.2.2.2.2.1 (2 * t + 1) (by omega)
          apply hP2
          unfold bd_L_told_460
          rw [dgN_4 f0, dgN_4 f1]
          refine bq_t (by decide) ?_
          refine us_tile hX htt (w := 0) (by omega) (fun v1 hX1 => bn_t rfl ?_)
          refine us_tile hX1 htt (w := 1) (by omega) (fun v2 hX2 => bn_t rfl ?_)
          refine us_tile hX2 htt (w := 2) (by omega) (fun v3 hX3 => sp_L_where h hI (by omega) (bq_t rfl (fun x14 hx14 => ?_)))
          rw [nI_1] at hx14
          subst hx14
          exact ih (t + 1) (by omega) v3 hX3
        | succ d ih2 =>
          intro j hj
          have nx := ih2 (j + 1) (by omega)
          have g0 := h.tl htt (f := 0) (k := j) (by omega) (by omega)
          have g1 := h.tl htt (f := 1) (k := j) (by omega) (by omega)
          have e0 : 8 * t + 4 * 0 + j = 8 * t + j := by omega
          have e1 : 8 * t + 4 * 1 + j = 8 * t + 4 + j := by omega
          rw [e0] at g0
          rw [e1] at g1
          have g0 : ti (8 * t + j) = nI (dig (S.F (2 * t)) j) := g0
          apply hP2
          unfold bd_L_told_460
          refine bq_f (fun z => by rw [nn_lit 4, nI_leI (by omega) (by omega)] at z; omega) ?_
          rw [nn_lit 8, pk_mul, nn_lit 4, nI_add, nI_add, nI_add, nI_clamp (n := 8 * t + j) (by omega), nI_clamp (n := 8 * t + 4 + j) (by omega), g0, g1]
          refine ⟨vp_in_nI (by omega) (by omega), fun x15 hx15 => ⟨vp_in_nI (by omega) (by omega), fun x16 hx16 x17 hx17 => ?_⟩⟩
          rw [nn_lit 10, pk_mul, nI_add] at hx15 hx16
          rw [nI_1] at hx17
          subst hx15 hx16 hx17
          exact nx
      exact k2 4 0 rfl
  exact key S.t 0 (by omega) v hX
/-! the search, the sums, the counts -/
set_option maxRecDepth 100000 in
theorem dm_ok : ∀ a, a < 49 → (okF (FP.dmul FP.dconst1 (FP.i2d (nI a))) && decide (FP.dmul FP.dconst1 (FP.i2d (nI a)) = FP.i2d (nI a))) = true := by decide +kernel
theorem dv_go {S : AS} (hI : Inv S) (h0 : ¬ pairsA S = 0) : Op.cmpValue (FP.dcmp (dvF (likeA S false + likeA S true) (pairsA S)) (dvF (likeA S false + likeA S true) (pairsA S))) .l = 0 := by
  have h1 := pairsA_le hI
  have h2 := like_le_pairs S false
  have h3 := like_le_pairs S true
  rcases dv_ok (pairsA S) (by omega) (likeA S false + likeA S true) (by omega) with h | h | h
  · omega
  · omega
  · rw [Bool.and_eq_true] at h
    have g := h.2
    unfold goF at g
    rw [Bool.and_eq_true] at g
    exact of_decide_eq_true g.1
theorem td_700 (hX : RX v S L B) (h : lbB b ti S) {t0 t1 : UInt64} (e : (Op.cmpValue (FP.dcmp t0 t1) .l) = 0) (hQ : ∀ v', RX v' S L B → Q 1 v' b ti) : wp_L_told_700 Q v b ti se (nI (empties S)) (nI (fixA S)) (nI (likeA S false)) (nI (likeA S true)) (nI (misA S)) (hintV S) t0 t1 := by
  obtain ⟨b0, b1, b2, b3, -⟩ := h
  unfold wp_L_told_700
  refine bq_t e (sp_X6_hint hX (fun v1 hX1 => bn_t rfl ?_))
  refine us_count hX1 (w := 0) (by omega) (fun v2 hX2 => bn_t b0.symm ?_)
  refine us_count hX2 (w := 1) (by omega) (fun v3 hX3 => bn_t b1.symm ?_)
  refine us_count hX3 (w := 2) (by omega) (fun v4 hX4 => bn_t b3.symm ?_)
  refine us_count hX4 (w := 3) (by omega) (fun v5 hX5 => bn_t rfl ?_)
  refine us_count hX5 (w := 4) (by omega) (fun v6 hX6 => bn_t rfl ?_)
  refine us_count hX6 (w := 5) (by omega) (fun v7 hX7 => bn_t b2.symm ?_)
  refine us_count hX7 (w := 6) (by omega) (fun v8 hX8 => bn_t rfl ?_)
  refine us_count hX8 (w := 7) (by omega) (fun v9 hX9 => bn_t rfl ?_)
  exact us_count hX9 (w := 8) (by omega) (fun v10 hX10 => bn_t rfl (hQ v10 hX10))
theorem td_609 {x1 : Int32} (hX : RX v S L B) (h : lbB b ti S) (hs : lbS S) (hQ : ∀ v' b', RX v' S L B → lbB b' ti S → Q 1 v' b' ti) : wp_L_told_609 Q v b ti se x1 (nI (empties S)) (nI (fixA S)) (nI (pairsA S)) (nI (likeA S false)) (nI (likeA S true)) (nI (misA S)) (hintV S) := by
  have hI := hX.2.1
  have h24 := pairsA_le hI
  have l2 := like_le_pairs S false
  have l3 := like_le_pairs S true
  unfold wp_L_told_609
  refine sp_L_at (n := 4) (by omega) (by omega) (fun m hm x14 hx14 => ?_)
  rw [nn_lit 1, nI_add] at hx14
  subst hx14
  refine sp_L_search h hI hs (by omega) (by omega) (fun b' se' hb' e0 e1 e2 _ => ?_)
  refine us_layings hX (w := 0) (by omega) (by omega) (by omega) (fun v1 hX1 => bn_t e0.symm ?_)
  refine us_layings hX1 (w := 1) (by omega) (by omega) (by omega) (fun v2 hX2 => bn_t e1.symm ?_)
  refine us_layings hX2 (w := 2) (by omega) (by omega) (by omega) (fun v3 hX3 => bq_t e2.symm ?_)
  refine sp_X6_fitting hX3 (fun v4 hX4 => ?_)
  have fv : fitV S = if pairsA S = 0 then FP.dconst1 else dvF (likeA S false + likeA S true) (pairsA S) := rfl
  refine bn_if (nn_eq0 (by omega)) (fun e => ?_) (fun e => ?_)
  · rw [if_pos e] at fv
    rw [fv]
    exact td_700 hX4 hb' (by decide +kernel) (fun v' hX' => hQ v' b' hX' hb')
  · rw [if_neg e] at fv
    have g := dm_ok (likeA S false + likeA S true) (by omega)
    rw [Bool.and_eq_true] at g
    have g2 := of_decide_eq_true g.2
    have ev : FP.ddiv (FP.i2d (nI (likeA S false + likeA S true))) (FP.i2d (nI (2 * pairsA S))) = dvF (likeA S false + likeA S true) (pairsA S) := rfl
    rw [nI_add, nn_lit 2, pk_mul, fv]
    refine ⟨okF_n g.1, ?_⟩
    rw [g2, ev]
    exact ⟨dv_n hI e, td_700 hX4 hb' (dv_go hI e) (fun v' hX' => hQ v' b' hX' hb')⟩
theorem sp_L_told {x : Int32} (hX : RX v S L B) (h : lbB b ti S) (hs : lbS S) (hQ : ∀ v' b', RX v' S L B → lbB b' ti S → Q 1 v' b' ti) : wp_L_told v b ti x Q := by
  have hI := hX.2.1
  have hn1 := hI.n1
  have hn6 := hs.n6
  have ht6 := hs.2.2
  unfold wp_L_told
  rw [h.1, h.2.1, pk_mul]
  intro x5 hx5
  have hx5 : x5 = nI S.n := hx5
  subst hx5
  refine td_43 hX h hs (fun v1 hX1 => td_443 hX1 h hs (fun v2 hX2 => ?_))
  have b3 : b 3 = nI S.t := h.2.2.2.1
  rw [b3]
  refine ek_if (nI_leI (b := 0) (by omega) (by omega)) (fun e => td_609 hX2 h hs hQ) (fun e => ?_)
  rw [nn_lit 8, pk_mul]
  refine sp_L_at (by omega) (by omega) (fun p hp => sp_L_at (by omega) (by omega) (fun k hk => ?_))
  refine us_why hX2 hk hp (fun v3 hX3 => sp_L_why h hI hs hk hp (bq_t rfl (td_609 hX3 h hs hQ)))
end T2
