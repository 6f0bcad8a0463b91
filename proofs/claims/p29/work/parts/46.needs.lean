/-! what a cell asks: the class's Needs -/
def ra (S : AS) : Nat := if S.ru = 0 then 0 else 15
def rb (S : AS) : Nat := if S.ru = 2 then 15 else 0
theorem ra_lt (S : AS) : ra S < 16 := by unfold ra; split <;> omega
theorem rb_lt (S : AS) : rb S < 16 := by unfold rb; split <;> omega
/-- the placing of the neighbor at a side -/
def nq (S : AS) (k s : Nat) : Option Nat := match nb S.r S.c k s with
  | none => none
  | some j => S.P j
theorem shown_nq (S : AS) (k s : Nat) (b : Bool) : shown S k s b = (match nq S k s with
  | none => none
  | some q => some (col S.F q ((s + 2) % 4) b)) := by
  unfold shown nq
  cases nb S.r S.c k s with
  | none => rfl
  | some j => cases S.P j <;> rfl
theorem nq_96 {S : AS} (hI : Inv S) {k s q : Nat} (h : nq S k s = some q) : q < 96 := by
  unfold nq at h
  split at h
  · cases h
  · exact (hI.p96 h).2
def mz1 (S : AS) (k j : Nat) : Nat := if nb S.r S.c k (j % 4) = none then (if j < 4 then ra S else rb S) else 0
def ma1 (S : AS) (k j : Nat) : Nat := if nq S k (j % 4) = none then 0 else 15
def wt1 (S : AS) (k j : Nat) : Nat := match nq S k (j % 4) with
  | none => 0
  | some q => if j < 4 then col S.F q ((j % 4 + 2) % 4) false else col S.F q ((j % 4 + 2) % 4) true
def bz1 (S : AS) (k s : Nat) : Bool := match nq S k s with
  | none => false
  | some q => decide (0 < S.ru) && (col S.F q ((s + 2) % 4) false == 0 || (S.ru == 2 && col S.F q ((s + 2) % 4) true == 0))
theorem mz1_lt (S : AS) (k j : Nat) : mz1 S k j < 16 := by
  have h1 := ra_lt S
  have h2 := rb_lt S
  unfold mz1
  split
  · split
    · exact h1
    · exact h2
  · omega
theorem ma1_lt (S : AS) (k j : Nat) : ma1 S k j < 16 := by
  unfold ma1
  split <;> omega
theorem wt1_lt {S : AS} (hI : Inv S) (k j : Nat) : wt1 S k j < 16 := by
  unfold wt1
  split
  · omega
  · next q hq =>
    have h1 := col_lt hI.2.2.2.2.1 (nq_96 hI hq) ((j % 4 + 2) % 4) false
    have h2 := col_lt hI.2.2.2.2.1 (nq_96 hI hq) ((j % 4 + 2) % 4) true
    split <;> omega
def cutF (s : Nat) (f : Nat → Nat) (j : Nat) : Nat := if j % 4 < s then f j else 0
theorem ctF_lt {f : Nat → Nat} (hf : ∀ j, f j < 16) (s j : Nat) : cutF s f j < 16 := by
  unfold cutF
  split
  · exact hf j
  · omega
theorem ctF_step {f : Nat → Nat} {s : Nat} (hs : s < 4) {j : Nat} (hj : j < 8) : cutF (s + 1) f j = (cutF s f j ||| sh2 s (f s) (f (s + 4)) j) := by
  unfold cutF sh2
  rcases (show s = 0 ∨ s = 1 ∨ s = 2 ∨ s = 3 by omega) with rfl | rfl | rfl | rfl <;> rcases lt8 hj with rfl | rfl | rfl | rfl | rfl | rfl | rfl | rfl <;> simp
theorem ctF_skip {f : Nat → Nat} {s : Nat} (hs : s < 4) (h0 : f s = 0) (h4 : f (s + 4) = 0) {j : Nat} (hj : j < 8) : cutF (s + 1) f j = cutF s f j := by
  rw [ctF_step hs hj]
  unfold sh2
  rw [h0, h4, ite_self, ite_self, Nat.or_zero]
theorem ctF_4 (f : Nat → Nat) (j : Nat) : cutF 4 f j = f j := if_pos (Nat.mod_lt _ (by omega))
def nvS (S : AS) (k s : Nat) : NV := (nI (pkN 8 (cutF s (mz1 S k))), nI (pkN 8 (cutF s (ma1 S k))), nI (pkN 8 (cutF s (wt1 S k))), nI (anyN (bz1 S k) s).toNat)
def nvA (S : AS) (k : Nat) : NV := (nI (pkN 8 (mz1 S k)), nI (pkN 8 (ma1 S k)), nI (pkN 8 (wt1 S k)), nI (anyN (bz1 S k) 4).toNat)
theorem nvS_4 (S : AS) (k : Nat) : nvS S k 4 = nvA S k := by
  unfold nvS nvA
  rw [row_congr (fun j _ => ctF_4 (mz1 S k) j), row_congr (fun j _ => ctF_4 (ma1 S k) j), row_congr (fun j _ => ctF_4 (wt1 S k) j)]
theorem sp_X3_ruledColors {S : AS} (hI : Inv S) {Q : Int32 → Prop} (h : Q (nI (ra S + 65536 * rb S))) : wp_X3_ruledColors (nI S.ru) Q := by
  have hru := hI.2.2.1
  unfold wp_X3_ruledColors
  unfold ra rb at h
  rcases (show S.ru = 0 ∨ S.ru = 1 ∨ S.ru = 2 by omega) with e | e | e
  · rw [e] at h ⊢
    exact bn_t rfl h
  · rw [e] at h ⊢
    exact bn_f (by decide) (bn_t rfl h)
  · rw [e] at h ⊢
    exact bn_f (by decide) (bn_f (by decide) h)
theorem hi_and {a b : Nat} (ha : a < 16) (hb : b < 16) : nI (a + 65536 * b) &&& 983040 = nI (65536 * b) := by
  have h := nh_and (a := a) (b := 0) ha (by omega) b 15
  rw [Nat.and_zero, nb_15 hb, Nat.zero_add, Nat.zero_add] at h
  rw [nn_lit 983040, nn_and]
  exact congrArg nI h
theorem sp_X3_readNeighbor {z : Int32} {f g : Nat → Nat} (hf : ∀ j, j < 8 → f j < 16) (hg : ∀ j, j < 8 → g j < 16) {c : Bool} {a b s x y : Nat} (ha : a < 16) (hb : b < 16) (hs : s < 4) (hx : x < 16) (hy : y < 16) {Q : NV → Prop}
    (h : Q (z, nI (pkN 8 (fun j => f j ||| sh2 s 15 15 j)), nI (pkN 8 (fun j => g j ||| sh2 s a b j)), nI ((c || (x != 0 && a == 0)) || (y != 0 && b == 0)).toNat)) : wp_X3_readNeighbor (z, nI (pkN 8 f), nI (pkN 8 g), nI c.toNat) (nI (a + 65536 * b)) (nI s) (nI (x + 65536 * y)) Q := by
  intro f1 e1 f2 e2
  have e1 : f1 = nI (pkN 8 f) ||| jshl (nI (15 + 65536 * 15)) (4 * nI s) := e1
  have e2 : f2 = nI (pkN 8 g) ||| jshl (nI (a + 65536 * b)) (4 * nI s) := e2
  rw [sh2_row (by omega) (by omega) hs, or_row hf (fun j _ => sh2_lt (by omega) (by omega) j)] at e1
  rw [sh2_row ha hb hs, or_row hg (fun j _ => sh2_lt ha hb j)] at e2
  subst e1 e2
  have last : ∀ c1 : Bool, Q (z, nI (pkN 8 (fun j => f j ||| sh2 s 15 15 j)), nI (pkN 8 (fun j => g j ||| sh2 s a b j)), nI (c1 || (y != 0 && b == 0)).toNat) → wp_X3_readNeighbor_48 Q (z, nI (pkN 8 (fun j => f j ||| sh2 s 15 15 j)), nI (pkN 8 (fun j => g j ||| sh2 s a b j)), nI c1.toNat) (nI (a + 65536 * b)) (nI (x + 65536 * y)) := by
    intro c1 h1
    unfold wp_X3_readNeighbor_48
    rw [hi_and ha hb, hi_and hx hy]
    refine ek_if (nn_eq0 (by omega)) (fun e => ?_) (fun e => bn_if (nn_eq0 (by omega)) (fun e2 => ?_) (fun e2 => ?_))
    · rw [show (y != 0 && b == 0) = false by rw [show y = 0 by omega]; rfl, Bool.or_false] at h1
      exact h1
    · rw [show (y != 0 && b == 0) = true by rw [show b = 0 by omega, show (y != 0) = true from bne_iff_ne.mpr (by omega)]; rfl, Bool.or_true] at h1
      exact h1
    · rw [show (y != 0 && b == 0) = false by rw [show (b == 0) = false from beq_eq_false_iff_ne.mpr (by omega), Bool.and_false], Bool.or_false] at h1
      exact h1
  rw [lo15 ha hb, lo15 hx hy]
  refine ek_if (nn_eq0 (by omega)) (fun e => last c ?_) (fun e => bn_if (nn_eq0 (by omega)) (fun e2 => last true ?_) (fun e2 => last c ?_))
  · rw [show (x != 0 && a == 0) = false by rw [show x = 0 by omega]; rfl, Bool.or_false] at h
    exact h
  · rw [show (x != 0 && a == 0) = true by rw [show a = 0 by omega, show (x != 0) = true from bne_iff_ne.mpr (by omega)]; rfl, Bool.or_true] at h
    exact h
  · rw [show (x != 0 && a == 0) = false by rw [show (a == 0) = false from beq_eq_false_iff_ne.mpr (by omega), Bool.and_false], Bool.or_false] at h
    exact h
theorem sp_X3_read {v : BV} {S : AS} (hv : RB v S) (hI : Inv S) {k : Nat} (hk : k < S.n) {vN : NV} {Q : NV → BV → Prop} (h : Q (nvA S k) v) : wp_X3_read vN v (nI k) Q := by
  have hn := hI.n12
  have hF := hI.2.2.2.2.1
  unfold wp_X3_read
  rw [hv.1.2.2.1]
  refine sp_X3_ruledColors hI ?_
  intro P hP
  have hm : ∀ s j, j < 8 → cutF s (mz1 S k) j < 16 := fun s j _ => ctF_lt (fun j => mz1_lt S k j) s j
  have hma : ∀ s j, j < 8 → cutF s (ma1 S k) j < 16 := fun s j _ => ctF_lt (fun j => ma1_lt S k j) s j
  have hw : ∀ s j, j < 8 → cutF s (wt1 S k) j < 16 := fun s j _ => ctF_lt (fun j => wt1_lt hI k j) s j
  have key : ∀ d s : Nat, s + d = 4 → P (nvS S k s) v (nI k) (nI (ra S + 65536 * rb S)) (nI s) := by
    intro d
    induction d with
    | zero =>
      intro s hs
      obtain rfl : s = 4 := by omega
      rw [nvS_4]
      exact hP _ _ _ _ _ (bq_t (by decide) h)
    | succ d ih =>
      intro s hs
      have hnx := ih (s + 1) (by omega)
      have s4 : s % 4 = s := Nat.mod_eq_of_lt (by omega)
      have s8 : (s + 4) % 4 = s := by omega
      have fin : ∀ m a w f : Int32, m = nI (pkN 8 (cutF (s + 1) (mz1 S k))) → a = nI (pkN 8 (cutF (s + 1) (ma1 S k))) → w = nI (pkN 8 (cutF (s + 1) (wt1 S k))) → f = nI (anyN (bz1 S k) (s + 1)).toNat → wp_X3_read_100 P Q ((m, a, w, f) : NV) v (nI k) (nI (ra S + 65536 * rb S)) (nI s) := by
        intro m a w f h1 h2 h3 h4 y hy
        rw [nI_1] at hy
        subst h1 h2 h3 h4 hy
        exact hnx
      have bzn : nq S k s = none → (anyN (bz1 S k) (s + 1)) = anyN (bz1 S k) s := fun e => by
        show (anyN (bz1 S k) s || bz1 S k s) = _
        rw [show bz1 S k s = false by unfold bz1; rw [e], Bool.or_false]
      have man : nq S k s = none → nI (pkN 8 (cutF s (ma1 S k))) = nI (pkN 8 (cutF (s + 1) (ma1 S k))) := fun e => row_congr (fun j hj => (ctF_skip (by omega) (by unfold ma1; rw [s4, if_pos e]) (by unfold ma1; rw [s8, if_pos e]) hj).symm)
      have wtn : nq S k s = none → nI (pkN 8 (cutF s (wt1 S k))) = nI (pkN 8 (cutF (s + 1) (wt1 S k))) := fun e => row_congr (fun j hj => (ctF_skip (by omega) (by unfold wt1; rw [s4, e]) (by unfold wt1; rw [s8, e]) hj).symm)
      have mzn : nb S.r S.c k s ≠ none → nI (pkN 8 (cutF s (mz1 S k))) = nI (pkN 8 (cutF (s + 1) (mz1 S k))) := fun e => row_congr (fun j hj => (ctF_skip (by omega) (by unfold mz1; rw [s4, if_neg e]) (by unfold mz1; rw [s8, if_neg e]) hj).symm)
      apply hP
      unfold bd_X3_read_31
      refine bq_f (fun z => by rw [nn_lit 4, nI_leI (by omega) (by omega)] at z; omega) (sp_X0_neighbor hv hI hk (by omega) ?_)
      cases e : nb S.r S.c k s with
      | none =>
        have eq : nq S k s = none := by unfold nq; rw [e]
        refine bn_t rfl (fun f hf => ?_)
        have hf : f = nI (pkN 8 (cutF s (mz1 S k))) ||| jshl (nI (ra S + 65536 * rb S)) (4 * nI s) := hf
        rw [sh2_row (ra_lt S) (rb_lt S) (by omega), or_row (hm s) (fun j _ => sh2_lt (ra_lt S) (rb_lt S) j)] at hf
        refine fin _ _ _ _ (hf.trans (row_congr (fun j hj => ?_))) (man eq) (wtn eq) (by rw [bzn eq] <;> rfl)
        rw [ctF_step (by omega) hj]
        rw [show mz1 S k s = ra S by unfold mz1; rw [s4, if_pos e, if_pos (by omega)], show mz1 S k (s + 4) = rb S by unfold mz1; rw [s8, if_pos e, if_neg (by omega)]]
      | some j =>
        have hj : j < S.n := nb_lt hk e
        have ene : nb S.r S.c k s ≠ none := by rw [e]; exact fun z => nomatch z
        refine bn_f (nn_ne_m1 (by omega)) (sp_X0_isEmpty hv hI (by omega) (fun e2 => bn_f (by decide) ?_) (fun q e2 => bn_t (by decide) ?_))
        · have eq : nq S k s = none := by unfold nq; rw [e]; exact e2
          exact fin _ _ _ _ (mzn ene) (man eq) (wtn eq) (by rw [bzn eq] <;> rfl)
        · have eq : nq S k s = some q := by unfold nq; rw [e]; exact e2
          have q9 := (hI.p96 e2).2
          have c1 := col_lt hF q9 ((s + 2) % 4) false
          have c2 := col_lt hF q9 ((s + 2) % 4) true
          refine sp_X0_lookIn hv hI e2 (sp_X6_opposite (by omega) (sp_X6_colorsAt (fun j _ => lk_lt hF q9 j) (by omega) ?_))
          rw [lk_low (s := (s + 2) % 4) (by omega), lk_high]
          refine sp_X3_readNeighbor (z := nI (pkN 8 (cutF s (mz1 S k)))) (f := cutF s (ma1 S k)) (g := cutF s (wt1 S k)) (c := anyN (bz1 S k) s) (hma s) (hw s) (by omega) (by omega) (by omega) (ra_lt S) (rb_lt S) ?_
          refine fin _ _ _ _ (mzn ene) (row_congr (fun j hj => ?_)) (row_congr (fun j hj => ?_)) ?_
          · rw [ctF_step (by omega) hj, show ma1 S k s = 15 by unfold ma1; rw [s4, eq]; rfl, show ma1 S k (s + 4) = 15 by unfold ma1; rw [s8, eq]; rfl]
          · rw [ctF_step (by omega) hj, show wt1 S k s = col S.F q ((s + 2) % 4) false by
              unfold wt1
              rw [s4, eq]
              exact if_pos (by omega), show wt1 S k (s + 4) = col S.F q ((s + 2) % 4) true by
              unfold wt1
              rw [s8, eq]
              exact if_neg (by omega)]
          · show _ = nI (anyN (bz1 S k) s || bz1 S k s).toNat
            rw [show bz1 S k s = (decide (0 < S.ru) && (col S.F q ((s + 2) % 4) false == 0 || (S.ru == 2 && col S.F q ((s + 2) % 4) true == 0))) by unfold bz1; rw [eq]]
            have hru := hI.2.2.1
            unfold ra rb
            rcases (show S.ru = 0 ∨ S.ru = 1 ∨ S.ru = 2 by omega) with e9 | e9 | e9
            · rw [e9]; simp
            · rw [e9]; simp
            · rw [e9]; simp [Bool.or_assoc]
  have e0 : nvS S k 0 = ((0, 0, 0, 0) : NV) := rfl
  have := key 4 0 rfl
  rw [e0] at this
  exact this
