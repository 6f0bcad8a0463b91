/-! the reference: its tests of arguments; tiles and rule -/
theorem sp_X7_isCell {M : MV} {S : AS} (hz : RZ (MV.z M) S) (hI : Inv S) {x : Int32} {Q : Int32 → MV → Prop} (h1 : ∀ k, k < S.n → x = nI k → Q 1 M) (h0 : ¬ (∃ k, k < S.n ∧ x = nI k) → Q 0 M) : wp_X7_isCell M x Q := by
  have hn := hI.n12
  have hn1 := hI.n1
  refine sp_X7_cells hz (sp_X7_within ?_)
  obtain ⟨m, hm⟩ : ∃ m, S.n = m + 1 := ⟨S.n - 1, by omega⟩
  rw [hm, nI_pred]
  unfold bI
  by_cases e : 0 ≤ x ∧ x ≤ nI m
  · rw [if_pos e]
    obtain ⟨k, -, k2, hk⟩ := nI_rng (a := 0) (b := m) (by omega) (by omega) e
    exact ⟨isB_1, h1 k (by omega) hk⟩
  · rw [if_neg e]
    refine ⟨isB_0, h0 (fun ⟨k, k1, hk⟩ => e ?_)⟩
    rw [hk]
    exact ⟨nI_pos' (by omega), (nI_leI (by omega) (by omega)).mpr (by omega)⟩
theorem sp_X7_isTile {M : MV} {S : AS} (hz : RZ (MV.z M) S) (hI : Inv S) {x : Int32} {Q : Int32 → MV → Prop} (h1 : ∀ k, k < S.t → x = nI k → Q 1 M) (h0 : ¬ (∃ k, k < S.t ∧ x = nI k) → Q 0 M) : wp_X7_isTile M x Q := by
  have ht := hI.2.2.2.1
  unfold wp_X7_isTile
  rw [hz.2.2.2.1]
  refine sp_X7_within ?_
  unfold bI
  cases hm : S.t with
  | zero =>
    rw [if_neg (fun z => by
      have g1 := Int32.le_iff_toInt_le.mp z.1
      have g2 := Int32.le_iff_toInt_le.mp z.2
      rw [show (nI 0 - 1).toInt = -1 by decide] at g2
      rw [show (0 : Int32).toInt = 0 by decide] at g1
      omega)]
    exact ⟨isB_0, h0 (fun ⟨k, k1, _⟩ => by omega)⟩
  | succ m =>
    rw [nI_pred]
    by_cases e : 0 ≤ x ∧ x ≤ nI m
    · rw [if_pos e]
      obtain ⟨k, -, k2, hk⟩ := nI_rng (a := 0) (b := m) (by omega) (by omega) e
      exact ⟨isB_1, h1 k (by omega) hk⟩
    · rw [if_neg e]
      refine ⟨isB_0, h0 (fun ⟨k, k1, hk⟩ => e ?_)⟩
      rw [hk]
      exact ⟨nI_pos' (by omega), (nI_leI (by omega) (by omega)).mpr (by omega)⟩
theorem sp_X7_isPlacing {M : MV} {S : AS} (hz : RZ (MV.z M) S) (hI : Inv S) {x : Int32} {Q : Int32 → MV → Prop} (h1 : ∀ p, p < 8 * S.t → x = nI p → Q 1 M) (h0 : ¬ (∃ p, p < 8 * S.t ∧ x = nI p) → Q 0 M) : wp_X7_isPlacing M x Q := by
  have ht := hI.2.2.2.1
  unfold wp_X7_isPlacing
  refine ⟨fun c => h0 (fun ⟨p, p1, hp⟩ => ?_), fun c => ?_⟩
  · rw [hp] at c
    exact nI_pos (by omega) c
  · obtain ⟨p, hp, rfl⟩ := nI_of c
    rw [nn_lit 8, pk_div (by omega) (by omega) (by omega)]
    refine sp_X7_isTile hz hI (fun k hk e => ?_) (fun e => ?_)
    · rw [nI_eq (by omega) (by omega)] at e
      exact ⟨fun z => absurd z (by decide), fun _ => h1 p (by omega) rfl⟩
    · refine ⟨fun _ => h0 (fun ⟨q, q1, hq⟩ => e ⟨p / 8, ?_, rfl⟩), fun z => absurd rfl z⟩
      rw [nI_eq hp (by omega)] at hq
      omega
def ruS (S : AS) (x : Nat) : AS := (S.r, S.c, x, S.t, S.F, S.P, S.X)
def tS (S : AS) (x : Nat) : AS := (S.r, S.c, S.ru, x, S.F, S.P, S.X)
def addF (S : AS) (f o : Nat) : AS := (S.r, S.c, S.ru, S.t + 1, fun i => if i = 2 * S.t then f else if i = 2 * S.t + 1 then o else S.F i, S.P, S.X)
theorem sp_X7_setRule {M : MV} {S : AS} {L : List AS} {B : List Nat} (hM : RM M S L B) {a : Int32} {Q : Int32 → MV → Prop}
    (h0 : ∀ x : Nat, x ≤ 2 → a = nI x → ∀ M', RM M' (ruS S x) (pushS L S) B → MV.thrown M' = 0 → Q (nI S.ru) M')
    (h1 : ¬ (0 ≤ a ∧ a ≤ 2) → ∀ M', RM M' S L B → MV.thrown M' = 1 → Q 0 M') : wp_X7_setRule M a Q := by
  unfold wp_X7_setRule
  refine sp_X7_within ?_
  unfold bI
  by_cases ea : 0 ≤ a ∧ a ≤ 2
  · rw [if_pos ea]
    refine ⟨fun z => absurd z (by decide), fun _ => ⟨fun _ => ?_, fun z => absurd (by decide) z⟩⟩
    obtain ⟨x, -, x2, rfl⟩ := nI_rng (a := 0) (b := 2) (by omega) (by omega) ea
    refine rm_save (hM.thrown 0) (fun M' hM' ht y hy z4 hz4 => ?_)
    obtain ⟨⟨k0, k1, k2, k3, k4, k5, k6⟩, ⟨i1, i2, i3, i4, i5, i6, i7, i8⟩, g3, g4, g5⟩ := hM'
    rw [hy, k2]
    have hz : RZ z4 (ruS S x) := by
      rw [hz4]
      refine ⟨?_, ?_, ?_, ?_, fun i hi => ?_, fun k hk => ?_, fun k hk => ?_⟩
      · rw [pk_un (by omega)]; exact k0
      · rw [pk_un (by omega)]; exact k1
      · rw [pk_us]; rfl
      · rw [pk_un (by omega)]; exact k3
      · rw [pk_un (by omega)]; exact k4 i hi
      · rw [pk_un (by omega)]; exact k5 k hk
      · rw [pk_un (by omega)]; exact k6 k hk
    exact h0 x x2 rfl _ ⟨hz, ⟨i1, i2, x2, i4, i5, i6, i7, i8⟩, g3, g4, g5⟩ ht
  · rw [if_neg ea]
    exact ⟨fun _ => ⟨fun z => absurd z (by decide), fun _ => h1 ea _ (hM.thrown 1) rfl⟩, fun z => absurd rfl z⟩
theorem sp_X7_dropTile {M : MV} {S : AS} {L : List AS} {B : List Nat} (hM : RM M S L B) {Q : Int32 → MV → Prop}
    (h0 : ∀ n : Nat, S.t = n + 1 → cellOf S n = none → ∀ M', RM M' (tS S n) (pushS L S) B → MV.thrown M' = 0 → Q (nI n) M')
    (h1 : ¬ (∃ n, S.t = n + 1 ∧ cellOf S n = none) → ∀ M', RM M' S L B → MV.thrown M' = 1 → Q 0 M') : wp_X7_dropTile M Q := by
  have hM0 := hM
  obtain ⟨gz, gI, -, -, -⟩ := hM
  have ht := gI.2.2.2.1
  have bad : ¬ (∃ n, S.t = n + 1 ∧ cellOf S n = none) → wp_X7_dropTile_30 Q M := fun e => ⟨fun z => absurd z (by decide), fun _ => h1 e _ (hM0.thrown 1) rfl⟩
  unfold wp_X7_dropTile
  rw [gz.2.2.2.1, nn_lit 0]
  cases hm : S.t with
  | zero => exact bq_t (by decide) (bad (fun ⟨n, e, _⟩ => by omega))
  | succ n =>
    refine bq_f (fun z => by rw [nI_leI (by omega) (by omega)] at z; omega) ?_
    rw [nI_pred]
    refine sp_X7_cellOf gz gI (by omega) ?_
    cases hc : cellOf S n with
    | some k =>
      have hk := cellOfN_lt hc
      have h12 := gI.n12
      exact bn_f (nn_ne_m1 (by omega)) (bad (fun ⟨n', e, e2⟩ => by
        have : n' = n := by omega
        rw [this, hc] at e2
        cases e2))
    | none =>
      refine bn_t rfl ⟨fun _ => ?_, fun z => absurd (by decide) z⟩
      refine rm_save (hM0.thrown 0) (fun M' hM' hth f hf z3 hz3 => ?_)
      obtain ⟨⟨k0, k1, k2, k3, k4, k5, k6⟩, ⟨i1, i2, i3, i4, i5, i6, i7, i8⟩, g3, g4, g5⟩ := hM'
      rw [k3, hm, nI_pred] at hf
      subst hf
      have hz : RZ z3 (tS S n) := by
        rw [hz3]
        refine ⟨?_, ?_, ?_, ?_, fun i hi => ?_, fun k hk => ?_, fun k hk => ?_⟩
        · rw [pk_un (by omega)]; exact k0
        · rw [pk_un (by omega)]; exact k1
        · rw [pk_un (by omega)]; exact k2
        · rw [pk_us]; rfl
        · rw [pk_un (by omega)]; exact k4 i hi
        · rw [pk_un (by omega)]; exact k5 k hk
        · rw [pk_un (by omega)]; exact k6 k hk
      rw [hz.2.2.2.1]
      refine h0 n hm hc _ ⟨hz, ?_, g3, g4, g5⟩ hth
      refine ⟨i1, i2, i3, by show n ≤ 12; omega, i5, fun k p e => ?_, i7, i8⟩
      have h8 := i6 k p e
      have h9 := cellOfN_none hc k p h8.1 e
      refine ⟨h8.1, ?_⟩
      show p < 8 * n
      omega
