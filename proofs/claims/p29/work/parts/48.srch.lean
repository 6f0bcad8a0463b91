/-! the class's search -/
def SLC (most : Nat) (R : SR) (v : SV) : Prop := RB (SV.trial v) R.2.2.2.2 ∧ SV.found v = nI R.1 ∧ SV.most v = nI most ∧ SV.steps v = nI R.2.1 ∧ SV.tooManySteps v = nI R.2.2.1.toNat ∧ SV.over v = nI R.2.2.2.1.toNat
theorem tryA_skip {rec : AS → Nat → Nat → SR} {k : Nat} {S : AS} {f st : Nat} : ∀ (m n p : Nat), (∀ q, p ≤ q → q < p + m → ¬ why S k q = 0) → tryA rec k (n + m) p S f st = tryA rec k n (p + m) S f st
  | 0, n, p, _ => rfl
  | m + 1, n, p, h => by
    rw [show n + (m + 1) = (n + m) + 1 by omega, tryA_s, if_neg (h p (by omega) (by omega)), tryA_skip m n (p + 1) (fun q h1 h2 => h q (by omega) (by omega)), show p + 1 + m = p + (m + 1) by omega]
/-- the loops of one cell: over already, or going on at placing p -/
def LSc (most : Nat) (ks : List Nat) (k : Nat) (S : AS) (R : SR) (p : Nat) (v : SV) : Prop :=
  (SLC most R v ∧ R.2.2.2.1 = true) ∨ ∃ f st, SLC most (f, st, false, false, S) v ∧ f ≤ st ∧ st ≤ 600 ∧ R = tryA (fillA most ks) k (8 * S.t - p) p S f st
def STC (most : Nat) (ks : List Nat) (k : Nat) (S : AS) (R : SR) (w : Nat → NV) (p : Nat) (v : SV) : Prop := LSc most ks k S R p v ∧ SV.needs v k = nvA S k ∧ ∀ j, j < k → SV.needs v j = w j
section SC
variable {F : SV → Int32 → (SV → Prop) → Prop} {most k : Nat} {ks : List Nat} {S : AS} {R : SR} {w : Nat → NV}
theorem fill_place (hI : Inv S) (hk : k < S.n) (hno : S.P k = none)
    (child : ∀ (q f st : Nat) (v1 : SV), why S k q = 0 → q < 8 * S.t → f ≤ st → st < 600 → SLC most (f, st + 1, false, false, S.put k (some q)) v1 → ∀ Q : SV → Prop, (∀ v', SLC most (fillA most ks (S.put k (some q)) f (st + 1)) v' → (∀ j, j < k + 1 → SV.needs v' j = SV.needs v1 j) → Q v') → F v1 (nI (k + 1)) Q)
    {p f st : Nat} (hp : p < 8 * S.t) (hw : why S k p = 0) (hf : f ≤ st) (hst : st ≤ 600) (hR : R = tryA (fillA most ks) k (8 * S.t - p) p S f st) {v : SV} (hv : SLC most (f, st, false, false, S) v) (h1 : SV.needs v k = nvA S k) (h2 : ∀ j, j < k → SV.needs v j = w j) {Q : SV → Prop} (h : ∀ v', STC most ks k S R w (p + 1) v' → Q v') : wp_X4_tryPlacing F v (nI k) (nI p) Q := by
  have hn := hI.n12
  have ht := hI.2.2.2.1
  obtain ⟨v1, v2, v3, v4, v5, v6⟩ := hv
  obtain ⟨w1, w2, w3⟩ := why_0 hw
  rw [show 8 * S.t - p = (8 * S.t - (p + 1)) + 1 by omega, tryA_s, if_pos hw] at hR
  have v4 : SV.steps v = nI st := v4
  unfold wp_X4_tryPlacing
  rw [v4]
  refine ek_if (nI_ltI (b := 600) (by omega) (by omega)) (fun e f1 hf1 => ?_) (fun e => ?_)
  · rw [if_neg (by omega)] at hR
    rw [nI_1] at hf1
    subst hf1
    have hT := hI.put hk hp hw
    refine sp_X0_put v1 hI hk hp hno w2 hT (fun vB hB => ?_)
    rw [nI_1]
    refine child p f st (SV.s_steps (SV.s_trial v vB) (nI (st + 1))) hw hp hf e ⟨hB, v2, v3, rfl, v5, v6⟩ _ (fun v' hv' hj => ?_)
    have hb := fillA_b (most := most) ks (S.put k (some p)) f (st + 1) (by omega) (by omega)
    have hj : ∀ j, j < k + 1 → SV.needs v' j = SV.needs v j := hj
    have g1 : SV.needs v' k = nvA S k := (hj k (by omega)).trans h1
    have g2 : ∀ j, j < k → SV.needs v' j = w j := fun j e2 => (hj j (by omega)).trans (h2 j e2)
    cases ho : (fillA most ks (S.put k (some p)) f (st + 1)).2.2.2.1 with
    | true =>
      rw [if_pos ho] at hR
      have hov := hv'.2.2.2.2.2
      rw [ho] at hov
      rw [hov]
      exact bn_f (by decide) (h v' ⟨Or.inl ⟨by rw [hR]; exact hv', by rw [hR]; exact ho⟩, g1, g2⟩)
    | false =>
      rw [if_neg (by rw [ho]; exact Bool.false_ne_true)] at hR
      obtain ⟨s1, s2⟩ := fillA_same ho
      obtain ⟨u1, u2, u3, u4, u5, u6⟩ := hv'
      rw [s1] at u1
      rw [s2] at u5
      rw [ho] at u6
      rw [u6]
      refine bn_t rfl ?_
      refine sp_X0_remove u1 hT (put_at S k (some p)) (fun vC hC => ?_)
      rw [put_self _ hno] at hC
      exact h _ ⟨Or.inr ⟨_, _, ⟨hC, u2, u3, u4, u5, u6⟩, hb.1, hb.2, hR⟩, g1, g2⟩
  · have e6 : st = 600 := by omega
    rw [if_pos e6] at hR
    exact h _ ⟨Or.inl ⟨by rw [hR]; exact ⟨v1, v2, v3, v4, rfl, rfl⟩, by rw [hR]⟩, h1, h2⟩
theorem fill_tile (hI : Inv S) (hk : k < S.n) (hno : S.P k = none)
    (child : ∀ (q f st : Nat) (v1 : SV), why S k q = 0 → q < 8 * S.t → f ≤ st → st < 600 → SLC most (f, st + 1, false, false, S.put k (some q)) v1 → ∀ Q : SV → Prop, (∀ v', SLC most (fillA most ks (S.put k (some q)) f (st + 1)) v' → (∀ j, j < k + 1 → SV.needs v' j = SV.needs v1 j) → Q v') → F v1 (nI (k + 1)) Q)
    {tile : Nat} (ht : tile < S.t) (hc : cellOf S tile = none) {Q : SV → Prop} {K : SV → Int32 → Int32 → Prop} (h : ∀ v', STC most ks k S R w (8 * (tile + 1)) v' → K v' (nI k) (nI tile)) {v : SV} (hv : STC most ks k S R w (8 * tile) v) : wp_X4_fillFrom_139 F Q K v (nI k) (nI tile) (nI (8 * (tile + 1))) (nI (8 * tile)) := by
  have hn := hI.n12
  have ht12 := hI.2.2.2.1
  intro P hP
  have key : ∀ m p : Nat, p + m = 8 * (tile + 1) → 8 * tile ≤ p → ∀ v : SV, STC most ks k S R w p v → P v (nI k) (nI tile) (nI (8 * (tile + 1))) (nI p) := by
    intro m
    induction m with
    | zero =>
      intro p hp _ v hv
      obtain rfl : p = 8 * (tile + 1) := by omega
      exact hP _ _ _ _ _ (bq_t ((nI_leI (by omega) (by omega)).mpr (Nat.le_refl _)) (h v hv))
    | succ m ih =>
      intro p hp hp8 v hv
      obtain ⟨hL, h1, h2⟩ := hv
      apply hP
      unfold bd_X4_fillFrom_139
      refine bq_f (fun z => by rw [nI_leI (by omega) (by omega)] at z; omega) ?_
      rcases hL with ⟨g1, g2⟩ | ⟨f, st, g1, hf, hst, hR⟩
      · have hov := g1.2.2.2.2.2
        rw [g2] at hov
        rw [hov]
        exact bn_f (by decide) (h v ⟨Or.inl ⟨g1, g2⟩, h1, h2⟩)
      · have hov : SV.over v = nI 0 := g1.2.2.2.2.2
        rw [hov]
        refine bn_t rfl ⟨vp_in_nI (by omega) (by omega), fun j hj ej => ?_⟩
        obtain rfl : k = j := (nI_eq (by omega) (by omega)).mp ej
        rw [h1, nI_clamp (by omega), show BV.looks (SV.trial v) p = nI (pkN 8 (lk S.F p)) from g1.1.2.2.2.2 p (by show p < 8 * S.t; omega)]
        refine ⟨vp_in_nI (by omega) (by omega), sp_X3_reasonAgainst hI (by omega) ?_⟩
        have hwm : why S k p = misfit S k p := by
          unfold why
          rw [hno, show p / 8 = tile by omega, hc]
          rfl
        have hm := misfit_le S k p
        have n1 : upE (SV.needs v) k (nvA S k) k = nvA S k := if_pos rfl
        have n2 : ∀ j, j < k → upE (SV.needs v) k (nvA S k) j = w j := fun j e => (if_neg (by omega)).trans (h2 j e)
        refine bn_if (nn_eq0 (by omega)) (fun e => ?_) (fun e => ?_)
        · refine fill_place hI hk hno child (R := R) (w := w) (by omega) (hwm.trans e) hf hst hR (v := SV.s_needs v (upE (SV.needs v) k (nvA S k))) g1 n1 n2 (fun v' hv' y hy => ?_)
          rw [nI_1] at hy
          subst hy
          exact ih (p + 1) (by omega) (by omega) v' hv'
        · intro y hy
          rw [nI_1] at hy
          subst hy
          refine ih (p + 1) (by omega) (by omega) _ ⟨Or.inr ⟨f, st, g1, hf, hst, ?_⟩, n1, n2⟩
          rw [show 8 * S.t - p = (8 * S.t - (p + 1)) + 1 by omega, tryA_s, if_neg (by rw [hwm]; exact e)] at hR
          exact hR
  exact key 8 (8 * tile) (by omega) (Nat.le_refl _) v hv
theorem fill_cell (hI : Inv S) (hk : k < S.n) (hno : S.P k = none)
    (child : ∀ (q f st : Nat) (v1 : SV), why S k q = 0 → q < 8 * S.t → f ≤ st → st < 600 → SLC most (f, st + 1, false, false, S.put k (some q)) v1 → ∀ Q : SV → Prop, (∀ v', SLC most (fillA most ks (S.put k (some q)) f (st + 1)) v' → (∀ j, j < k + 1 → SV.needs v' j = SV.needs v1 j) → Q v') → F v1 (nI (k + 1)) Q)
    {Q : SV → Prop} (h : ∀ v', SLC most R v' → (∀ j, j < k → SV.needs v' j = w j) → Q v') {v : SV} (hv : STC most ks k S R w 0 v) : wp_X4_fillFrom_88 F Q v (nI k) 0 := by
  have hn := hI.n12
  have ht12 := hI.2.2.2.1
  intro P hP
  have key : ∀ m tile : Nat, tile + m = S.t → ∀ v : SV, STC most ks k S R w (8 * tile) v → P v (nI k) (nI tile) := by
    intro m
    induction m with
    | zero =>
      intro tile hp v hv
      obtain rfl : tile = S.t := by omega
      obtain ⟨hL, h1, h2⟩ := hv
      apply hP
      unfold bd_X4_fillFrom_88
      rcases hL with ⟨g1, g2⟩ | ⟨f, st, g1, hf, hst, hR⟩
      · refine ⟨fun _ => h v g1 h2, fun _ => ?_⟩
        have hov := g1.2.2.2.2.2
        rw [g2] at hov
        rw [hov]
        exact bn_f (by decide) (h v g1 h2)
      · rw [Nat.sub_self] at hR
        have hR : R = (f, st, false, false, S) := hR
        have ett : BV.tiles (SV.trial v) = nI S.t := g1.1.1.2.2.2
        rw [ett]
        exact bq_t ((nI_leI (by omega) (by omega)).mpr (Nat.le_refl _)) (h v (by rw [hR]; exact g1) h2)
    | succ m ih =>
      intro tile hp v hv
      obtain ⟨hL, h1, h2⟩ := hv
      have nxt : ∀ v' : SV, STC most ks k S R w (8 * (tile + 1)) v' → ∀ y : Int32, y = nI tile + 1 → P v' (nI k) y := fun v' hv' y hy => by
        rw [nI_1] at hy
        subst hy
        exact ih (tile + 1) (by omega) v' hv'
      apply hP
      unfold bd_X4_fillFrom_88
      rcases hL with ⟨g1, g2⟩ | ⟨f, st, g1, hf, hst, hR⟩
      · refine ⟨fun _ => h v g1 h2, fun _ => ?_⟩
        have hov := g1.2.2.2.2.2
        rw [g2] at hov
        rw [hov]
        exact bn_f (by decide) (h v g1 h2)
      · have ett : BV.tiles (SV.trial v) = nI S.t := g1.1.1.2.2.2
        have hov : SV.over v = nI 0 := g1.2.2.2.2.2
        have hB : RB (SV.trial v) S := g1.1
        rw [ett, hov]
        refine bq_f (fun z => by rw [nI_leI (by omega) (by omega)] at z; omega) (bn_t rfl (fun x4 hx4 => ?_))
        rw [nn_lit 8, pk_mul] at hx4
        subst hx4
        refine sp_X0_isLaid hB hI (by omega) (fun c hc => bq_f (by decide) ?_) (fun hc => bq_t rfl ?_)
        · -- laid: none of its placings is tried
          refine fun P2 hP2 => hP2 _ _ _ _ _ (bq_t ((nI_leI (by omega) (by omega)).mpr (Nat.le_refl _)) ?_)
          refine nxt _ ⟨Or.inr ⟨f, st, g1, hf, hst, ?_⟩, h1, h2⟩
          rw [show 8 * S.t - 8 * tile = (8 * S.t - 8 * (tile + 1)) + 8 by omega, tryA_skip 8 _ _ (fun q q1 q2 => by
            unfold why
            rw [hno, show q / 8 = tile by omega, hc]
            exact fun z => absurd z (show ¬ (2 : Nat) = 0 by omega))] at hR
          exact hR
        · have e8 : nI (8 * tile) + 8 = nI (8 * (tile + 1)) := by rw [nn_lit 8, nI_add, show 8 * tile + 8 = 8 * (tile + 1) by omega]
          rw [e8]
          exact fill_tile hI hk hno child (by omega) hc (fun v' hv' => nxt v' hv') ⟨Or.inr ⟨f, st, g1, hf, hst, hR⟩, h1, h2⟩
  exact key S.t 0 (by omega) v hv
end SC
/-- the open cells from k on, d cells looked at -/
def opR (S : AS) : Nat → Nat → List Nat
  | 0, _ => []
  | d + 1, k => if (S.P k).isNone = true then k :: opR S d (k + 1) else opR S d (k + 1)
theorem opR_none {S : AS} {d k : Nat} (h : S.P k = none) : opR S (d + 1) k = k :: opR S d (k + 1) := by
  show (if (S.P k).isNone = true then k :: opR S d (k + 1) else opR S d (k + 1)) = _
  rw [h]
  rfl
theorem opR_some {S : AS} {d k p : Nat} (h : S.P k = some p) : opR S (d + 1) k = opR S d (k + 1) := by
  show (if (S.P k).isNone = true then k :: opR S d (k + 1) else opR S d (k + 1)) = _
  rw [h]
  rfl
theorem opR_congr {S T : AS} : ∀ (d k : Nat), (∀ j, k ≤ j → T.P j = S.P j) → opR T d k = opR S d k
  | 0, _, _ => rfl
  | d + 1, k, h => by
    show (if (T.P k).isNone = true then k :: opR T d (k + 1) else opR T d (k + 1)) = (if (S.P k).isNone = true then k :: opR S d (k + 1) else opR S d (k + 1))
    rw [h k (Nat.le_refl k), opR_congr d (k + 1) (fun j hj => h j (by omega))]
theorem opR_len (S : AS) : ∀ (d k : Nat), (opR S d k).length ≤ d
  | 0, _ => Nat.le_refl 0
  | d + 1, k => by
    have := opR_len S d (k + 1)
    show (if (S.P k).isNone = true then k :: opR S d (k + 1) else opR S d (k + 1)).length ≤ d + 1
    split
    · rw [List.length_cons]; omega
    · omega
theorem opR_range (S : AS) : ∀ (d k : Nat), (List.range' k d).filter (fun k => (S.P k).isNone) = opR S d k
  | 0, _ => rfl
  | d + 1, k => by
    rw [List.range'_succ, List.filter_cons, opR_range S d (k + 1)]
    rfl
theorem opens_R (S : AS) : opens S = opR S S.n 0 := by
  unfold opens opensN
  rw [List.range_eq_range']
  exact opR_range S S.n 0
theorem sp_X4_fillFrom {most : Nat} (hm : most ≤ 50) : ∀ (dd d k : Nat) (S : AS) (f st : Nat) (v : SV), Inv S → k + d = S.n → (opR S d k).length < dd → f ≤ st → st ≤ 600 → SLC most (f, st, false, false, S) v → ∀ Q : SV → Prop, (∀ v', SLC most (fillA most (opR S d k) S f st) v' → (∀ j, j < k → SV.needs v' j = SV.needs v j) → Q v') → wp_X4_fillFrom dd v (nI k) Q := by
  intro dd
  induction dd with
  | zero => exact fun d k S f st v _ _ hl => absurd hl (Nat.not_lt_zero _)
  | succ dd ihd =>
    intro d k S f st v hI hkd hlen hf hst hv Q h
    have hn := hI.n12
    have hB : RB (SV.trial v) S := hv.1
    show wp_X4_fillFromF (wp_X4_fillFrom dd) v (nI k) Q
    intro P hP
    have key : ∀ d' k' : Nat, k' + d' = S.n → k ≤ k' → opR S d k = opR S d' k' → P v (nI k') := by
      intro d'
      induction d' with
      | zero =>
        intro k' hk' hkk ho
        obtain rfl : k' = S.n := by omega
        have ho : opR S d k = [] := ho
        rw [ho] at h
        apply hP
        unfold bd_X4_fillFrom_2
        refine sp_X0_cells hB (bq_t ((nI_leI (by omega) (by omega)).mpr (Nat.le_refl _)) ?_)
        refine sp_X0_cells hB (bq_f (fun z => by rw [nI_ltI (by omega) (by omega)] at z; omega) (fun f40 hf40 => ?_))
        obtain ⟨v1, v2, v3, v4, v5, v6⟩ := hv
        have hf40 : f40 = nI f + 1 := by rw [hf40]; exact congrArg (· + 1) v2
        rw [nI_1] at hf40
        subst hf40
        rw [show SV.most v = nI most from v3]
        refine ek_if (nI_ltI (by omega) (by omega)) (fun e => ⟨isB_0, ?_⟩) (fun e => ⟨isB_1, ?_⟩)
        · exact h _ ⟨v1, rfl, v3, v4, v5, by show (0 : Int32) = nI (decide (most ≤ f + 1)).toNat; rw [decide_eq_false (by omega)]; rfl⟩ (fun j hj => rfl)
        · exact h _ ⟨v1, rfl, v3, v4, v5, by show (1 : Int32) = nI (decide (most ≤ f + 1)).toNat; rw [decide_eq_true (by omega)]; rfl⟩ (fun j hj => rfl)
      | succ d' ih =>
        intro k' hk' hkk ho
        apply hP
        unfold bd_X4_fillFrom_2
        refine sp_X0_cells hB (bq_f (fun z => by rw [nI_leI (by omega) (by omega)] at z; omega) ?_)
        refine sp_X0_isEmpty hB hI (by omega) (fun e => bn_f (by decide) ?_) (fun p e => bn_t rfl (fun y hy => ?_))
        · rw [opR_none e] at ho
          refine sp_X0_cells hB (bq_t ((nI_ltI (by omega) (by omega)).mpr (by omega)) ⟨vp_in_nI (by omega) (by omega), fun j hj ej => ?_⟩)
          obtain rfl : k' = j := (nI_eq (by omega) (by omega)).mp ej
          refine sp_X3_read hB hI (by omega) ?_
          refine fill_cell (most := most) (k := k') (ks := opR S d' (k' + 1)) (S := S) (R := fillA most (opR S d k) S f st) (w := SV.needs v) hI (by omega) e ?_ (fun v' hv' hw => h v' hv' (fun j hj => hw j (by omega))) ⟨Or.inr ⟨f, st, hv, hf, hst, ?_⟩, if_pos rfl, fun j hj => if_neg (by omega)⟩
          · intro q f2 st2 v1 hw hq hf2 hst2 hv1 Q2 hQ2
            have hw0 := why_0 hw
            have hT := hI.put (by omega) hq hw
            have hoc : opR (S.put k' (some q)) d' (k' + 1) = opR S d' (k' + 1) := opR_congr d' (k' + 1) (fun j hj => put_ne _ _ (by omega))
            refine ihd d' (k' + 1) (S.put k' (some q)) f2 (st2 + 1) v1 hT (by show k' + 1 + d' = S.n; omega) ?_ (by omega) (by omega) hv1 Q2 (fun v' hv' hj => hQ2 v' ?_ hj)
            · rw [hoc]
              rw [ho, List.length_cons] at hlen
              omega
            · rw [hoc] at hv'
              exact hv'
          · rw [ho, Nat.sub_zero]
            rfl
        · rw [nI_1] at hy
          subst hy
          rw [opR_some e] at ho
          exact ih (k' + 1) (by omega) (by omega) ho
    exact key d k hkd (Nat.le_refl k) rfl
theorem sp_X4_runTrial {most : Nat} (hm : most ≤ 50) {v : SV} {S : AS} (hB : RB (SV.trial v) S) (hI : Inv S) {Q : SV → Prop} (h : ∀ v', SLC most (srch S most) v' → Q v') : wp_X4_runTrial v (nI most) Q := by
  have hn := hI.n12
  have hl := opR_len S S.n 0
  have e : srch S most = fillA most (opR S S.n 0) S 0 0 := by
    unfold srch
    rw [opens_R]
  unfold wp_X4_runTrial
  refine sp_X4_fillFrom hm 13 S.n 0 S 0 0 (SV.s_over (SV.s_tooManySteps (SV.s_steps (SV.s_most (SV.s_found v 0) (nI most)) 0) 0) 0) hI (by omega) (by omega) (Nat.le_refl 0) (by omega) ⟨hB, rfl, rfl, rfl, rfl, rfl⟩ _ (fun v' hv' _ => h v' ?_)
  rw [e]
  exact hv'
theorem sp_X4_run {most : Nat} (hm : most ≤ 50) {v : SV} {w : BV} {S : AS} (hB : RB w S) (hI : Inv S) {Q : SV → BV → Prop} (h : ∀ v', SLC most (srch S most) v' → Q v' w) : wp_X4_run v w (nI most) Q := by
  unfold wp_X4_run
  exact sp_X0_copyFrom hB hI (fun vB hvB => sp_X4_runTrial hm hvB hI (fun v' hv' => h v' hv'))
theorem sp_X4_result {S : AS} {most w : Nat} {v : SV} (hv : SLC most (srch S most) v) (hw : w < 3) {Q : Int32 → SV → Prop} (h : Q (nI (srV S most w)) v) : wp_X4_result v (nI w) Q := by
  obtain ⟨v1, v2, v3, v4, v5, v6⟩ := hv
  unfold wp_X4_result
  unfold srV at h
  rw [v2, v4, v5]
  rcases (show w = 0 ∨ w = 1 ∨ w = 2 by omega) with rfl | rfl | rfl
  · exact ⟨fun _ => h, fun z => absurd z (by decide), fun z => absurd rfl z⟩
  · exact ⟨fun z => absurd z (by decide), fun _ => h, fun _ z => absurd rfl z⟩
  · refine ⟨fun z => absurd z (by decide), fun z => absurd z (by decide), fun _ _ => ?_⟩
    rw [if_neg (by decide), if_neg (by decide)] at h
    cases hx : (srch S most).2.2.1 with
    | false => rw [hx] at h; exact bq_t rfl h
    | true => rw [hx] at h; exact bq_f (by decide) h
