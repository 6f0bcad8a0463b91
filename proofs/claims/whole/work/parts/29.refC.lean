/-! the reference: its state as a whole; undo, begin -/
def RT (M : MV) (B : List Nat) : Prop := MV.length M = nI B.length ∧ B.length ≤ 60 ∧ ∀ (i c : Nat), B[i]? = some c → MV.text M i = nI c
def RM (M : MV) (S : AS) (L : List AS) (B : List Nat) : Prop := RZ (MV.z M) S ∧ Inv S ∧ RH M L ∧ (∀ T ∈ L, Inv T) ∧ RT M B
theorem RM.thrown {M : MV} {S : AS} {L : List AS} {B : List Nat} (h : RM M S L B) (x : Int32) : RM (MV.s_thrown M x) S L B := h
theorem pushS_inv {L : List AS} {S : AS} (hL : ∀ T ∈ L, Inv T) (hS : Inv S) : ∀ T ∈ pushS L S, Inv T := by
  intro T hT
  unfold pushS at hT
  rcases List.mem_append.mp hT with h | h
  · split at h
    · exact hL T (List.mem_of_mem_drop h)
    · exact hL T h
  · rw [List.mem_singleton.mp h]; exact hS
theorem rm_save {M : MV} {S : AS} {L : List AS} {B : List Nat} (h : RM M S L B) {Q : MV → Prop} (k : ∀ M', RM M' S (pushS L S) B → MV.thrown M' = MV.thrown M → Q M') : wp_X7_save M Q := by
  obtain ⟨h1, h2, h3, h4, h5⟩ := h
  exact sp_X7_save h1 h3 (fun f x hh => k _ ⟨h1, h2, hh, pushS_inv h4 h2, h5⟩ rfl)
theorem sp_X7_restore {M : MV} {L : List AS} {T : AS} (hh : RH M (L ++ [T])) {Q : MV → Prop} (h : ∀ z' : Nat → Int32, RZ z' T → RH (MV.s_z (MV.s_saves M (nI L.length)) z') L → Q (MV.s_z (MV.s_saves M (nI L.length)) z')) : wp_X7_restore M Q := by
  obtain ⟨h1, h2, h3⟩ := hh
  have hl : (L ++ [T]).length = L.length + 1 := by rw [List.length_append]; rfl
  rw [hl] at h1 h2
  intro f hf
  rw [h1, nI_pred] at hf
  subst hf
  intro P hP
  have key : ∀ d i : Nat, i + d = 52 → P (MV.s_z (MV.s_saves M (nI L.length)) (cp2 (MV.z M) (fun k => MV.saved M (52 * L.length + k)) 0 i)) (nI i) := by
    intro d
    induction d with
    | zero =>
      intro i hi
      obtain rfl : i = 52 := by omega
      apply hP
      unfold bd_X7_restore_12
      refine bq_t (by decide) (h _ ?_ ⟨rfl, by omega, fun i T' hi => ?_⟩)
      · refine (h3 L.length T (by rw [List.getElem?_append_right (Nat.le_refl _), Nat.sub_self]; rfl)).congr (fun k hk => ?_)
        unfold cp2
        rw [if_pos (by omega)]
        rfl
      · have h9 := (List.getElem?_eq_some_iff.mp hi).1
        exact h3 i T' (by rw [List.getElem?_append_left h9]; exact hi)
    | succ d ih =>
      intro i hi
      have hnx := ih (i + 1) (by omega)
      apply hP
      unfold bd_X7_restore_12
      refine bq_f (fun z => by rw [nn_lit 52, nI_leI (by omega) (by omega)] at z; omega) ?_
      have e : 52 * nI L.length + nI i = nI (52 * L.length + i) := by rw [nn_lit 52, pk_mul, nI_add]
      show vp_in (52 * nI L.length + nI i) 416 ∧ ∀ f3 : Int32, f3 = MV.saved M (Int32.toNatClampNeg (52 * nI L.length + nI i)) → vp_in (nI i) 52 ∧ ∀ z5 : Nat → Int32, z5 = upd (cp2 (MV.z M) (fun k => MV.saved M (52 * L.length + k)) 0 i) (Int32.toNatClampNeg (nI i)) f3 → ∀ y : Int32, y = nI i + 1 → P (MV.s_z (MV.s_saves M (nI L.length)) z5) y
      rw [e, nI_clamp (by omega), nI_clamp (by omega)]
      refine ⟨vp_in_nI (by omega) (by omega), fun f3 hf3 => ⟨vp_in_nI (by omega) (by omega), fun z5 hz5 y hy => ?_⟩⟩
      have hst := cp2_step (MV.z M) (fun k => MV.saved M (52 * L.length + k)) 0 i
      rw [Nat.zero_add] at hst
      rw [hf3] at hz5
      rw [nI_1] at hy
      have hz5 := hz5.trans hst
      subst hz5 hy
      exact hnx
  have := key 52 0 (by omega)
  rw [cp2_0] at this
  exact this
theorem sp_X7_undo {M : MV} {S : AS} {L : List AS} {B : List Nat} (hM : RM M S L B) {Q : Int32 → MV → Prop} (h1 : L = [] → ∀ M', RM M' S L B → MV.thrown M' = 1 → Q 0 M') (h0 : ∀ L0 T, L = L0 ++ [T] → ∀ M', RM M' T L0 B → MV.thrown M' = 0 → Q (nI L0.length) M') : wp_X7_undo M Q := by
  have hM0 := hM
  obtain ⟨g1, g2, g3, g4, g5⟩ := hM
  have hs := g3.1
  have hl := g3.2.1
  unfold wp_X7_undo
  rw [hs, nn_lit 0]
  rcases List.eq_nil_or_concat L with e | ⟨L0, T, e⟩
  · refine bq_t ((nI_leI (by omega) (by omega)).mpr (by rw [e]; exact Nat.le_refl 0)) ⟨fun z => absurd z (by decide), fun _ => h1 e _ hM0 rfl⟩
  · rw [List.concat_eq_append] at e
    have e2 : L.length = L0.length + 1 := by rw [e, List.length_append]; rfl
    refine bq_f (fun z => by rw [nI_leI (by omega) (by omega)] at z; omega) ⟨fun _ => ?_, fun z => absurd (by decide) z⟩
    have g3' : RH (MV.s_thrown M 0) (L0 ++ [T]) := by rw [← e]; exact g3
    refine sp_X7_restore g3' (fun z' hz hr => ?_)
    exact h0 L0 T e _ ⟨hz, g4 T (by rw [e]; simp), hr, fun T' hT' => g4 T' (by rw [e]; exact List.mem_append_left _ hT'), g5⟩ rfl

theorem nI_rng {x : Int32} {a b : Nat} (ha : a < 2 ^ 31) (hb : b < 2 ^ 31) (h : nI a ≤ x ∧ x ≤ nI b) : ∃ n, a ≤ n ∧ n ≤ b ∧ x = nI n := by
  have h1 := Int32.le_iff_toInt_le.mp h.1
  have h3 := Int32.le_iff_toInt_le.mp h.2
  rw [nI_toInt ha] at h1
  rw [nI_toInt hb] at h3
  have h0 : ¬ x < 0 := fun z => by
    have h2 := Int32.lt_iff_toInt_lt.mp z
    have h4 : (0 : Int32).toInt = 0 := by decide
    rw [h4] at h2
    omega
  obtain ⟨n, hn, rfl⟩ := nI_of h0
  rw [nI_toInt hn] at h1 h3
  exact ⟨n, by omega, by omega, rfl⟩
theorem RZ.emp {z : Nat → Int32} {S : AS} (h : RZ z S) (r c : Nat) : RZ (emz (upd (upd z 0 (nI r)) 1 (nI c)) 12) ((r, c, S.ru, S.t, S.F, fun _ => none, fun _ => false) : AS) := by
  obtain ⟨h0, h1, h2, h3, h4, h5, h6⟩ := h
  have e : ∀ k, k < 28 → emz (upd (upd z 0 (nI r)) 1 (nI c)) 12 k = upd (upd z 0 (nI r)) 1 (nI c) k := fun k hk => by
    unfold emz
    rw [if_neg (by omega), if_neg (by omega)]
  refine ⟨?_, ?_, ?_, ?_, fun i hi => ?_, fun k hk => ?_, fun k hk => ?_⟩
  · rw [e _ (by omega), pk_un (by omega), pk_us]
  · rw [e _ (by omega), pk_us]
  · rw [e _ (by omega), pk_un (by omega), pk_un (by omega)]; exact h2
  · rw [e _ (by omega), pk_un (by omega), pk_un (by omega)]; exact h3
  · rw [e _ (by omega), pk_un (by omega), pk_un (by omega)]; exact h4 i hi
  · unfold emz
    rw [if_pos (by omega)]
    rfl
  · unfold emz
    rw [if_neg (by omega), if_pos (by omega)]
    rfl
theorem Inv.emp {S : AS} (h : Inv S) {r c : Nat} (hr : 1 ≤ r ∧ r ≤ 3) (hc : 1 ≤ c ∧ c ≤ 4) : Inv ((r, c, S.ru, S.t, S.F, fun _ => none, fun _ => false) : AS) := by
  obtain ⟨h1, h2, h3, h4, h5, h6, h7⟩ := h
  exact ⟨hr, hc, h3, h4, h5, fun k p e => (nomatch e), fun k k' p p' e => (nomatch e), fun k e => (nomatch e)⟩
theorem sp_X7_begin {M : MV} {S : AS} {L : List AS} {B : List Nat} (hM : RM M S L B) {a b : Int32} {Q : Int32 → MV → Prop}
    (h0 : ∀ r c : Nat, (1 ≤ r ∧ r ≤ 3) → (1 ≤ c ∧ c ≤ 4) → a = nI r → b = nI c → ∀ M', RM M' ((r, c, S.ru, S.t, S.F, fun _ => none, fun _ => false) : AS) (pushS L S) B → MV.thrown M' = 0 → Q (nI (r * c)) M')
    (h1 : ¬ ((1 ≤ a ∧ a ≤ 3) ∧ (1 ≤ b ∧ b ≤ 4)) → ∀ M', RM M' S L B → MV.thrown M' = 1 → Q 0 M') : wp_X7_begin M a b Q := by
  have bad : ¬ ((1 ≤ a ∧ a ≤ 3) ∧ (1 ≤ b ∧ b ≤ 4)) → wp_X7_begin_24 Q M a b 1 := fun e => ⟨fun z => absurd z (by decide), fun _ => h1 e _ (hM.thrown 1) rfl⟩
  unfold wp_X7_begin
  refine sp_X7_within ?_
  unfold bI
  by_cases ea : 1 ≤ a ∧ a ≤ 3
  · rw [if_pos ea]
    refine ⟨fun z => absurd z (by decide), fun _ => sp_X7_within ?_⟩
    unfold bI
    by_cases eb : 1 ≤ b ∧ b ≤ 4
    · rw [if_pos eb]
      refine ⟨fun z => absurd z (by decide), fun _ => ⟨fun _ => ?_, fun z => absurd (by decide) z⟩⟩
      obtain ⟨r, r1, r2, rfl⟩ := nI_rng (a := 1) (b := 3) (by omega) (by omega) ea
      obtain ⟨c, c1, c2, rfl⟩ := nI_rng (a := 1) (b := 4) (by omega) (by omega) eb
      refine rm_save (hM.thrown 0) (fun M' hM' ht z3 hz3 z4 hz4 => ?_)
      obtain ⟨g1, g2, g3, g4, g5⟩ := hM'
      refine sp_X7_emptyBoard ?_
      have hz : RZ (emz z4 12) ((r, c, S.ru, S.t, S.F, fun _ => none, fun _ => false) : AS) := by
        rw [hz4, hz3]
        exact g1.emp r c
      refine sp_X7_cells (S := ((r, c, S.ru, S.t, S.F, fun _ => none, fun _ => false) : AS)) hz ?_
      exact h0 r c ⟨r1, r2⟩ ⟨c1, c2⟩ rfl rfl _ ⟨hz, g2.emp ⟨r1, r2⟩ ⟨c1, c2⟩, g3, g4, g5⟩ ht
    · rw [if_neg eb]
      exact ⟨fun _ => bad (fun z => eb z.2), fun z => absurd rfl z⟩
  · rw [if_neg ea]
    exact ⟨fun _ => bad (fun z => ea z.1), fun z => absurd rfl z⟩
