/-! the reference: tile, hint -/
def anyN (f : Nat → Bool) : Nat → Bool
  | 0 => false
  | n + 1 => anyN f n || f n
def allN (f : Nat → Bool) : Nat → Bool
  | 0 => true
  | n + 1 => allN f n && f n
theorem anyN_t {f : Nat → Bool} {j : Nat} (h : f j = true) : ∀ {n}, j < n → anyN f n = true
  | 0, hj => absurd hj (Nat.not_lt_zero _)
  | n + 1, hj => by
    show (anyN f n || f n) = true
    by_cases e : j = n
    · rw [← e, h, Bool.or_true]
    · rw [anyN_t h (n := n) (by omega), Bool.true_or]
theorem allN_t {f : Nat → Bool} (h : ∀ j, f j = true) : ∀ n, allN f n = true
  | 0 => rfl
  | n + 1 => by show (allN f n && f n) = true; rw [allN_t h n, h n]; rfl
def sideEq (F : Nat → Nat) (p q s : Nat) : Bool := col F p s false == col F q s false && col F p s true == col F q s true
def lks (F : Nat → Nat) (p q : Nat) : Bool := allN (sideEq F p q) 4
def lk8 (F : Nat → Nat) (x o : Nat) : Bool := anyN (fun k => lks F (8 * x + k) (8 * o)) 8
theorem lk8_self (F : Nat → Nat) (t : Nat) : lk8 F t t = true := anyN_t (j := 0) (allN_t (fun s => by unfold sideEq; simp) 4) (by omega)
def fstF (f : Nat → Bool) : Nat → Nat → Nat
  | 0, k => k
  | d + 1, k => if f k = true then k else fstF f d (k + 1)
def lowA (S : AS) (t : Nat) : Nat := fstF (fun k => lk8 S.F k t) t 0
theorem fstF_le (f : Nat → Bool) : ∀ d k, fstF f d k ≤ k + d
  | 0, k => Nat.le_refl k
  | d + 1, k => by
    unfold fstF
    split
    · omega
    · have := fstF_le f d (k + 1)
      omega
theorem sp_X7_looksLike {M : MV} {S : AS} (hz : RZ (MV.z M) S) (hI : Inv S) {x o : Nat} (hx : x < 12) (ho : o < 12) {Q : Int32 → MV → Prop} (h : Q (nI (lk8 S.F x o).toNat) M) : wp_X7_looksLike M (nI x) (nI o) Q := by
  have hF := hI.2.2.2.2.1
  have inn : ∀ (K : MV → Int32 → Int32 → Int32 → Int32 → Prop) (k : Nat), k < 8 → K M (nI x) (nI o) (nI k) (nI (lks S.F (8 * x + k) (8 * o)).toNat) → wp_X7_looksLike_14 Q K M (nI x) (nI o) (nI k) 1 0 := by
    intro K k hk hK P hP
    have key : ∀ d s : Nat, s + d = 4 → P M (nI x) (nI o) (nI k) (nI (allN (sideEq S.F (8 * x + k) (8 * o)) s).toNat) (nI s) := by
      intro d
      induction d with
      | zero =>
        intro s hs
        obtain rfl : s = 4 := by omega
        exact hP _ _ _ _ _ _ (bq_t (by decide) hK)
      | succ d ih =>
        intro s hs
        have hnx := ih (s + 1) (by omega)
        have fin : ∀ c : Bool, c = (allN (sideEq S.F (8 * x + k) (8 * o)) s && sideEq S.F (8 * x + k) (8 * o) s) → wp_X7_looksLike_84 P K Q M (nI x) (nI o) (nI k) (nI s) (nI c.toNat) := by
          intro c hc y hy
          rw [nI_1] at hy
          subst hy hc
          exact hnx
        have c1 := col_lt hF (p := 8 * x + k) (by omega) s false
        have c2 := col_lt hF (p := 8 * o) (by omega) s false
        have c3 := col_lt hF (p := 8 * x + k) (by omega) s true
        have c4 := col_lt hF (p := 8 * o) (by omega) s true
        apply hP
        unfold bd_X7_looksLike_14
        rw [nn_lit 8, pk_mul, pk_mul, nI_add]
        refine bq_f (fun z => by rw [nn_lit 4, nI_leI (by omega) (by omega)] at z; omega) ?_
        cases ha : allN (sideEq S.F (8 * x + k) (8 * o)) s with
        | false => exact bq_t rfl (fin false (by rw [ha]; rfl))
        | true =>
          refine bq_f (by decide) (sp_X7_colorOf hz hI (by omega) (by omega) false (sp_X7_colorOf hz hI (by omega) (by omega) false ?_))
          refine bn_if (nI_eq (by omega) (by omega)) (fun e1 => ?_) (fun e1 => ?_)
          · refine sp_X7_colorOf hz hI (by omega) (by omega) true (sp_X7_colorOf hz hI (by omega) (by omega) true ?_)
            refine bn_if (nI_eq (by omega) (by omega)) (fun e2 => fin true ?_) (fun e2 => fin false ?_)
            · rw [ha]; unfold sideEq; simp [e1, e2]
            · rw [ha]; unfold sideEq; simp [e1, e2]
          · exact fin false (by rw [ha]; unfold sideEq; simp [e1])
    exact key 4 0 rfl
  unfold wp_X7_looksLike
  intro P hP
  have key : ∀ d k : Nat, k + d = 8 → anyN (fun k => lks S.F (8 * x + k) (8 * o)) k = false → P M (nI x) (nI o) (nI k) := by
    intro d
    induction d with
    | zero =>
      intro k hk hno
      obtain rfl : k = 8 := by omega
      unfold lk8 at h
      rw [hno] at h
      exact hP _ _ _ _ (bq_t (by decide) h)
    | succ d ih =>
      intro k hk hno
      apply hP
      unfold bd_X7_looksLike_2
      refine bq_f (fun z => by rw [nn_lit 8, nI_leI (by omega) (by omega)] at z; omega) (inn _ k (by omega) ?_)
      cases e : lks S.F (8 * x + k) (8 * o) with
      | true =>
        have h1 : lk8 S.F x o = true := anyN_t (j := k) e (by omega)
        rw [h1] at h
        exact bq_f (by decide) h
      | false =>
        refine bq_t rfl (fun y hy => ?_)
        rw [nI_1] at hy
        subst hy
        refine ih (k + 1) (by omega) ?_
        show (anyN _ k || lks S.F (8 * x + k) (8 * o)) = false
        rw [hno, e]
        rfl
  exact key 8 0 rfl rfl
def tileV (S : AS) (t w : Nat) : Int32 := if w < 2 then nI (S.F (2 * t + w)) else if w = 2 then enc (cellOf S t) else nI (lowA S t)
theorem sp_X7_tileNow {M : MV} {S : AS} (hz : RZ (MV.z M) S) (hI : Inv S) {t w : Nat} (ht : t < 12) (hw : w < 4) {Q : Int32 → MV → Prop} (h : Q (tileV S t w) M) : wp_X7_tileNow M (nI t) (nI w) Q := by
  unfold tileV at h
  unfold wp_X7_tileNow
  rw [nn_lit 2, nn_lit 4, pk_mul, nI_add, nI_add]
  refine ek_if (nI_leI (by omega) (by omega)) (fun e => ?_) (fun e => ?_)
  · rw [if_neg (by omega)] at h
    refine bn_if (nI_eq (by omega) (by omega)) (fun e2 => ?_) (fun e2 => ?_)
    · rw [if_pos e2] at h
      exact sp_X7_cellOf hz hI (by omega) h
    · rw [if_neg e2] at h
      intro P hP
      have key : ∀ d k : Nat, k + d = t → Q (nI (fstF (fun k => lk8 S.F k t) d k)) M → P M (nI t) (nI k) := by
        intro d
        induction d with
        | zero =>
          intro k hk hq
          obtain rfl : k = t := by omega
          apply hP
          unfold bd_X7_tileNow_31
          refine sp_X7_looksLike hz hI (by omega) ht ?_
          rw [lk8_self]
          exact bn_f (by decide) hq
        | succ d ih =>
          intro k hk hq
          apply hP
          unfold bd_X7_tileNow_31
          refine sp_X7_looksLike hz hI (by omega) ht ?_
          unfold fstF at hq
          cases e : lk8 S.F k t with
          | true =>
            rw [if_pos e] at hq
            exact bn_f (by decide) hq
          | false =>
            rw [if_neg (by rw [e]; exact Bool.false_ne_true)] at hq
            refine bn_t rfl (fun y hy => ?_)
            rw [nI_1] at hy
            subst hy
            exact ih (k + 1) (by omega) hq
      exact key t 0 (by omega) h
  · rw [if_pos (by omega)] at h
    rw [nI_clamp (by omega)]
    refine ⟨vp_in_nI (by omega) (by omega), ?_⟩
    rw [show 4 + 2 * t + w = 4 + (2 * t + w) by omega, hz.2.2.2.2.1 (2 * t + w) (by omega)]
    exact h
theorem sp_X7_tile {M : MV} {S : AS} {L : List AS} {B : List Nat} (hM : RM M S L B) {a b : Int32} {Q : Int32 → MV → Prop}
    (h0 : ∀ t w : Nat, t < S.t → w < 4 → a = nI t → b = nI w → ∀ M', RM M' S L B → MV.thrown M' = 0 → Q (tileV S t w) M')
    (h1 : ¬ (∃ t, t < S.t ∧ a = nI t) → ∀ M', RM M' S L B → MV.thrown M' = 1 → Q 0 M')
    (h2 : ∀ t : Nat, t < S.t → a = nI t → ¬ (0 ≤ b ∧ b ≤ 3) → ∀ M', RM M' S L B → MV.thrown M' = 2 → Q 0 M') : wp_X7_tile M a b Q := by
  have hM0 := hM
  obtain ⟨gz, gI, -, -, -⟩ := hM
  have ht12 := gI.2.2.2.1
  unfold wp_X7_tile
  refine sp_X7_isTile gz gI (fun t ht ea => ⟨fun _ => sp_X7_within ?_, fun z => absurd z (by decide)⟩) (fun e => ⟨fun z => absurd rfl z, fun _ => ⟨fun z => absurd z (by decide), fun _ => h1 e _ (hM0.thrown 1) rfl⟩⟩)
  subst ea
  unfold bI
  by_cases eb : 0 ≤ b ∧ b ≤ 3
  · rw [if_pos eb]
    obtain ⟨w, -, w2, rfl⟩ := nI_rng (a := 0) (b := 3) (by omega) (by omega) eb
    exact ⟨fun z => absurd z (by decide), fun _ => ⟨fun _ => sp_X7_tileNow (M := MV.s_thrown M 0) gz gI (by omega) (by omega) (h0 t w ht (by omega) rfl rfl _ (hM0.thrown 0) rfl), fun z => absurd (by decide) z⟩⟩
  · rw [if_neg eb]
    exact ⟨fun _ => ⟨fun z => absurd z (by decide), fun _ => h2 t ht rfl eb _ (hM0.thrown 2) rfl⟩, fun z => absurd rfl z⟩
