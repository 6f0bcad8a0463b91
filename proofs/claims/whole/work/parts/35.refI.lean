/-! the reference: what count tells -/
def sm (f : Nat → Nat) : Nat → Nat
  | 0 => 0
  | n + 1 => sm f n + f n
theorem sm_le {f : Nat → Nat} {c : Nat} (h : ∀ k, f k ≤ c) : ∀ n, sm f n ≤ c * n
  | 0 => Nat.le_refl 0
  | n + 1 => by
    have h1 := sm_le h n
    have h2 := h n
    show sm f n + f n ≤ c * (n + 1)
    rw [Nat.mul_succ]
    omega
def isPair (S : AS) (k s : Nat) : Bool := (S.P k).isSome && (shown S k s false).isSome
def isLike (S : AS) (b : Bool) (k s : Nat) : Bool := match S.P k with
  | none => false
  | some p => match shown S k s b with
    | none => false
    | some x => x == col S.F p s b
def isMis (S : AS) (k : Nat) : Bool := match S.P k with
  | none => false
  | some p => decide (0 < misfit S k p)
def pairsA (S : AS) : Nat := sm (fun k => (isPair S k 1).toNat + (isPair S k 2).toNat) S.n
def likeA (S : AS) (b : Bool) : Nat := sm (fun k => (isLike S b k 1).toNat + (isLike S b k 2).toNat) S.n
def misA (S : AS) : Nat := sm (fun k => (isMis S k).toNat) S.n
def fixA (S : AS) : Nat := sm (fun k => (S.X k).toNat) S.n
theorem pairsA_le {S : AS} (hI : Inv S) : pairsA S ≤ 24 := by
  have h := sm_le (f := fun k => (isPair S k 1).toNat + (isPair S k 2).toNat) (c := 2) (fun k => by
    have h1 := Bool.toNat_le (isPair S k 1)
    have h2 := Bool.toNat_le (isPair S k 2)
    show (isPair S k 1).toNat + (isPair S k 2).toNat ≤ 2
    omega) S.n
  have h2 := hI.n12
  unfold pairsA
  omega
theorem likeA_le {S : AS} (hI : Inv S) (b : Bool) : likeA S b ≤ 24 := by
  have h := sm_le (f := fun k => (isLike S b k 1).toNat + (isLike S b k 2).toNat) (c := 2) (fun k => by
    have h1 := Bool.toNat_le (isLike S b k 1)
    have h2 := Bool.toNat_le (isLike S b k 2)
    show (isLike S b k 1).toNat + (isLike S b k 2).toNat ≤ 2
    omega) S.n
  have h2 := hI.n12
  unfold likeA
  omega
theorem sp_X7_pairs {M : MV} {S : AS} (hz : RZ (MV.z M) S) (hI : Inv S) {Q : Int32 → MV → Prop} (h : Q (nI (pairsA S)) M) : wp_X7_pairs M Q := by
  have hn := hI.n12
  have inn : ∀ (K : MV → Int32 → Int32 → Prop) (k x : Nat), k < S.n → K M (nI (x + (isPair S k 1).toNat + (isPair S k 2).toNat)) (nI k) → wp_X7_pairs_14 Q K M (nI x) (nI k) 1 := by
    intro K k x hk hK P hP
    have step : ∀ s x : Nat, s < 3 → P M (nI (x + (isPair S k s).toNat)) (nI k) (nI (s + 1)) → P M (nI x) (nI k) (nI s) := by
      intro s x hs hnx
      have fin : ∀ b : Bool, b = isPair S k s → wp_X7_pairs_49 P K Q M (nI k) (nI s) (nI x) (nI b.toNat) := by
        intro b hb y hy y2 hy2
        rw [nI_add] at hy
        rw [nI_1] at hy2
        subst hy hy2 hb
        exact hnx
      apply hP
      unfold bd_X7_pairs_14
      rw [nn_lit 28, nI_add, nI_clamp (by omega), hz.2.2.2.2.2.1 k (by omega)]
      refine bq_f (fun z => by rw [nn_lit 3, nI_leI (by omega) (by omega)] at z; omega) ⟨vp_in_nI (by omega) (by omega), ?_⟩
      cases hp : S.P k with
      | none => exact bq_t rfl (fin false (by unfold isPair; rw [hp]; rfl))
      | some p =>
        have h9 := hI.p96 hp
        refine bq_f (nn_ne_m1 (by omega)) (sp_X7_shown hz hI hk (by omega) false ?_)
        cases hx : shown S k s false with
        | none => exact bq_t rfl (fin false (by unfold isPair; rw [hp, hx]; rfl))
        | some y =>
          have := shown_lt hI hx
          exact bq_f (nn_ne_m1 (by omega)) (fin true (by unfold isPair; rw [hp, hx]; rfl))
    exact step 1 x (by omega) (step 2 _ (by omega) (hP _ _ _ _ (bq_t (by decide) hK)))
  unfold wp_X7_pairs
  intro P hP
  have key : ∀ d k : Nat, k + d = S.n → P M (nI (sm (fun k => (isPair S k 1).toNat + (isPair S k 2).toNat) k)) (nI k) := by
    intro d
    induction d with
    | zero =>
      intro k hk
      apply hP
      unfold bd_X7_pairs_4
      refine sp_X7_cells hz ?_
      obtain rfl : k = S.n := by omega
      exact bq_t ((nI_leI (by omega) (by omega)).mpr (by omega)) h
    | succ d ih =>
      intro k hk
      have hnx := ih (k + 1) (by omega)
      apply hP
      unfold bd_X7_pairs_4
      refine sp_X7_cells hz ?_
      refine bq_f (fun z => by rw [nI_leI (by omega) (by omega)] at z; omega) (inn _ k _ (by omega) ?_)
      intro y hy
      rw [nI_1] at hy
      subst hy
      rw [Nat.add_assoc]
      exact hnx
  exact key S.n 0 (by omega)
theorem sp_X7_likePairs {M : MV} {S : AS} (hz : RZ (MV.z M) S) (hI : Inv S) (b : Bool) {Q : Int32 → MV → Prop} (h : Q (nI (likeA S b)) M) : wp_X7_likePairs M (nI b.toNat) Q := by
  have hn := hI.n12
  have inn : ∀ (K : MV → Int32 → Int32 → Int32 → Prop) (k x : Nat), k < S.n → K M (nI b.toNat) (nI (x + (isLike S b k 1).toNat + (isLike S b k 2).toNat)) (nI k) → wp_X7_likePairs_15 Q K M (nI b.toNat) (nI x) (nI k) 1 := by
    intro K k x hk hK P hP
    have step : ∀ s x : Nat, s < 3 → P M (nI b.toNat) (nI (x + (isLike S b k s).toNat)) (nI k) (nI (s + 1)) → P M (nI b.toNat) (nI x) (nI k) (nI s) := by
      intro s x hs hnx
      have fin : ∀ c : Bool, c = isLike S b k s → wp_X7_likePairs_67 P K Q M (nI b.toNat) (nI k) (nI s) (nI x) (nI c.toNat) := by
        intro c hc y hy y2 hy2
        rw [nI_add] at hy
        rw [nI_1] at hy2
        subst hy hy2 hc
        exact hnx
      apply hP
      unfold bd_X7_likePairs_15
      rw [nn_lit 28, nI_add, nI_clamp (by omega), hz.2.2.2.2.2.1 k (by omega)]
      refine bq_f (fun z => by rw [nn_lit 3, nI_leI (by omega) (by omega)] at z; omega) ⟨vp_in_nI (by omega) (by omega), ?_⟩
      cases hp : S.P k with
      | none => exact bq_t rfl (fin false (by unfold isLike; simp only [hp]))
      | some p =>
        have h9 := hI.p96 hp
        refine bq_f (nn_ne_m1 (by omega)) (sp_X7_shown hz hI hk (by omega) b ⟨vp_in_nI (by omega) (by omega), ?_⟩)
        rw [hz.2.2.2.2.2.1 k (by omega), hp]
        refine sp_X7_colorOf hz hI (by omega) (by omega) b ?_
        have hc := col_lt hI.2.2.2.2.1 (p := p) (by omega) s b
        cases hx : shown S k s b with
        | none => exact bn_f (nn_m1_ne (by omega)) (fin false (by unfold isLike; simp only [hp, hx]))
        | some y =>
          have := shown_lt hI hx
          refine bn_if (nI_eq (by omega) (by omega)) (fun e => fin true ?_) (fun e => fin false ?_)
          · unfold isLike; simp only [hp, hx]; rw [e]; simp
          · unfold isLike; simp only [hp, hx]; simp [e]
    exact step 1 x (by omega) (step 2 _ (by omega) (hP _ _ _ _ _ (bq_t (by decide) hK)))
  unfold wp_X7_likePairs
  intro P hP
  have key : ∀ d k : Nat, k + d = S.n → P M (nI b.toNat) (nI (sm (fun k => (isLike S b k 1).toNat + (isLike S b k 2).toNat) k)) (nI k) := by
    intro d
    induction d with
    | zero =>
      intro k hk
      apply hP
      unfold bd_X7_likePairs_4
      refine sp_X7_cells hz ?_
      obtain rfl : k = S.n := by omega
      exact bq_t ((nI_leI (by omega) (by omega)).mpr (by omega)) h
    | succ d ih =>
      intro k hk
      have hnx := ih (k + 1) (by omega)
      apply hP
      unfold bd_X7_likePairs_4
      refine sp_X7_cells hz ?_
      refine bq_f (fun z => by rw [nI_leI (by omega) (by omega)] at z; omega) (inn _ k _ (by omega) ?_)
      intro y hy
      rw [nI_1] at hy
      subst hy
      rw [Nat.add_assoc]
      exact hnx
  exact key S.n 0 (by omega)
theorem sp_X7_misfits {M : MV} {S : AS} (hz : RZ (MV.z M) S) (hI : Inv S) {Q : Int32 → MV → Prop} (h : Q (nI (misA S)) M) : wp_X7_misfits M Q := by
  have hn := hI.n12
  unfold wp_X7_misfits
  intro P hP
  have key : ∀ d k : Nat, k + d = S.n → P M (nI (sm (fun k => (isMis S k).toNat) k)) (nI k) := by
    intro d
    induction d with
    | zero =>
      intro k hk
      apply hP
      unfold bd_X7_misfits_4
      refine sp_X7_cells hz ?_
      obtain rfl : k = S.n := by omega
      exact bq_t ((nI_leI (by omega) (by omega)).mpr (by omega)) h
    | succ d ih =>
      intro k hk
      have hnx := ih (k + 1) (by omega)
      have fin : ∀ c : Bool, c = isMis S k → wp_X7_misfits_48 P Q M (nI k) (nI (sm (fun k => (isMis S k).toNat) k)) (nI c.toNat) := by
        intro c hc y hy y2 hy2
        rw [nI_add] at hy
        rw [nI_1] at hy2
        subst hy hy2 hc
        exact hnx
      apply hP
      unfold bd_X7_misfits_4
      refine sp_X7_cells hz ?_
      rw [nn_lit 28, nI_add, nI_clamp (by omega), hz.2.2.2.2.2.1 k (by omega)]
      refine bq_f (fun z => by rw [nI_leI (by omega) (by omega)] at z; omega) ⟨vp_in_nI (by omega) (by omega), ?_⟩
      cases hp : S.P k with
      | none => exact bq_t rfl (fin false (by unfold isMis; simp only [hp]))
      | some p =>
        have h9 := hI.p96 hp
        have hm := misfit_le S k p
        refine bq_f (nn_ne_m1 (by omega)) ⟨vp_in_nI (by omega) (by omega), sp_X7_misfit hz hI (by omega) (by omega) ?_⟩
        rw [nn_lit 0]
        refine ek_if (nI_leI (by omega) (by omega)) (fun e => fin false ?_) (fun e => fin true ?_)
        · unfold isMis; simp only [hp]; exact (decide_eq_false (by omega)).symm
        · unfold isMis; simp only [hp]; exact (decide_eq_true (by omega)).symm
  exact key S.n 0 (by omega)
theorem sp_X7_fixedMany {M : MV} {S : AS} (hz : RZ (MV.z M) S) (hI : Inv S) {Q : Int32 → MV → Prop} (h : Q (nI (fixA S)) M) : wp_X7_fixedMany M Q := by
  have hn := hI.n12
  unfold wp_X7_fixedMany
  intro P hP
  have key : ∀ d k : Nat, k + d = S.n → P M (nI (sm (fun k => (S.X k).toNat) k)) (nI k) := by
    intro d
    induction d with
    | zero =>
      intro k hk
      apply hP
      unfold bd_X7_fixedMany_4
      refine sp_X7_cells hz ?_
      obtain rfl : k = S.n := by omega
      exact bq_t ((nI_leI (by omega) (by omega)).mpr (by omega)) h
    | succ d ih =>
      intro k hk
      have hnx := ih (k + 1) (by omega)
      apply hP
      unfold bd_X7_fixedMany_4
      refine sp_X7_cells hz ?_
      rw [nn_lit 40, nI_add, nI_clamp (by omega), hz.2.2.2.2.2.2 k (by omega)]
      refine bq_f (fun z => by rw [nI_leI (by omega) (by omega)] at z; omega) ⟨vp_in_nI (by omega) (by omega), fun y hy y2 hy2 => ?_⟩
      rw [nI_add] at hy
      rw [nI_1] at hy2
      subst hy hy2
      exact hnx
  exact key S.n 0 (by omega)
def cntV (S : AS) (h w : Nat) : Nat := match w with
  | 0 => S.r
  | 1 => S.c
  | 2 => S.t
  | 3 => empties S
  | 4 => fixA S
  | 5 => S.ru
  | 6 => likeA S false
  | 7 => likeA S true
  | 8 => misA S
  | _ => h
theorem sp_X7_counted {M : MV} {S : AS} {L : List AS} {B : List Nat} (hM : RM M S L B) {w : Nat} (hw : w < 10) {Q : Int32 → MV → Prop} (h : Q (nI (cntV S L.length w)) M) : wp_X7_counted M (nI w) Q := by
  obtain ⟨hz, hI, hH, -, -⟩ := hM
  unfold wp_X7_counted
  have ne : ∀ a : Nat, a < 10 → ¬ w = a → ¬ nI w = (OfNat.ofNat a : Int32) := fun a ha e z => e ((nI_eq (by omega) (by omega)).mp z)
  rcases (show w = 0 ∨ w = 1 ∨ w = 2 ∨ w = 3 ∨ w = 4 ∨ w = 5 ∨ w = 6 ∨ w = 7 ∨ w = 8 ∨ w = 9 by omega) with rfl | rfl | rfl | rfl | rfl | rfl | rfl | rfl | rfl | rfl
  all_goals refine ⟨fun z => ?_, fun z => ?_, fun z => ?_, fun z => ?_, fun z => ?_, fun z => ?_, fun z => ?_, fun z => ?_, fun z => ?_, fun z0 z1 z2 z3 z4 z5 z6 z7 z8 => ?_⟩
  all_goals first
    | exact absurd z (by decide)
    | exact absurd rfl z0
    | exact absurd rfl z1
    | exact absurd rfl z2
    | exact absurd rfl z3
    | exact absurd rfl z4
    | exact absurd rfl z5
    | exact absurd rfl z6
    | exact absurd rfl z7
    | exact absurd rfl z8
    | (rw [hz.1]; exact h)
    | (rw [hz.2.1]; exact h)
    | (rw [hz.2.2.2.1]; exact h)
    | exact sp_X7_empties hz hI h
    | exact sp_X7_fixedMany hz hI h
    | (rw [hz.2.2.1]; exact h)
    | exact sp_X7_likePairs hz hI false h
    | exact sp_X7_likePairs hz hI true h
    | exact sp_X7_misfits hz hI h
    | (rw [hH.1]; exact h)
theorem sp_X7_count {M : MV} {S : AS} {L : List AS} {B : List Nat} (hM : RM M S L B) {a : Int32} {Q : Int32 → MV → Prop}
    (h0 : ∀ w : Nat, w < 10 → a = nI w → ∀ M', RM M' S L B → MV.thrown M' = 0 → Q (nI (cntV S L.length w)) M')
    (h1 : ¬ (0 ≤ a ∧ a ≤ 9) → ∀ M', RM M' S L B → MV.thrown M' = 1 → Q 0 M') : wp_X7_count M a Q := by
  unfold wp_X7_count
  refine sp_X7_within ?_
  unfold bI
  by_cases ea : 0 ≤ a ∧ a ≤ 9
  · rw [if_pos ea]
    obtain ⟨w, -, w2, rfl⟩ := nI_rng (a := 0) (b := 9) (by omega) (by omega) ea
    exact ⟨fun z => absurd z (by decide), fun _ => ⟨fun _ => sp_X7_counted (hM.thrown 0) (by omega) (h0 w (by omega) rfl _ (hM.thrown 0) rfl), fun z => absurd (by decide) z⟩⟩
  · rw [if_neg ea]
    exact ⟨fun _ => ⟨fun z => absurd z (by decide), fun _ => h1 ea _ (hM.thrown 1) rfl⟩, fun z => absurd rfl z⟩
