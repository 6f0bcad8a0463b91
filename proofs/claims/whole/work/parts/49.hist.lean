/-! the class: its saved states, its buffer, its state as a whole -/
def RHc (v : HV) (L : List AS) : Prop := HV.kept v = nI L.length ∧ L.length ≤ 8 ∧ ∃ o, o < 8 ∧ HV.oldest v = nI o ∧ ∀ (i : Nat) (T : AS), L[i]? = some T → RB (HV.states v ((o + i) % 8)) T
theorem rhc_push {st : Nat → BV} {o : Nat} {L : List AS} {S : AS} {vB : BV} (hl : L.length ≤ 7) (hB : RB vB S) (h : ∀ (i : Nat) (T : AS), L[i]? = some T → RB (st ((o + i) % 8)) T) : ∀ (i : Nat) (T : AS), (L ++ [S])[i]? = some T → RB (upE st ((o + L.length) % 8) vB ((o + i) % 8)) T := by
  intro i T hi
  by_cases e : i < L.length
  · rw [List.getElem?_append_left e] at hi
    have g : upE st ((o + L.length) % 8) vB ((o + i) % 8) = st ((o + i) % 8) := if_neg (by omega)
    rw [g]
    exact h i T hi
  · have e2 : i = L.length := by
      have h9 := (List.getElem?_eq_some_iff.mp hi).1
      rw [List.length_append, List.length_singleton] at h9
      omega
    subst e2
    rw [List.getElem?_append_right (Nat.le_refl _), Nat.sub_self] at hi
    cases hi
    have g : upE st ((o + L.length) % 8) vB ((o + L.length) % 8) = vB := if_pos rfl
    rw [g]
    exact hB
theorem sp_X2_save_32 {v : HV} {w : BV} {S : AS} {L : List AS} {o : Nat} (hk : HV.kept v = nI L.length) (hl : L.length ≤ 7) (ho : o < 8) (hd : HV.oldest v = nI o) (hs : ∀ (i : Nat) (T : AS), L[i]? = some T → RB (HV.states v ((o + i) % 8)) T) (hB : RB w S) (hI : Inv S) {Q : HV → BV → Prop} (h : ∀ v', RHc v' (L ++ [S]) → Q v' w) : wp_X2_save_32 Q v w := by
  unfold wp_X2_save_32
  rw [hk, hd, nI_add, nn_lit 8, nn_rem (by omega) (by omega) (by omega)]
  refine ⟨vp_in_nI (by omega) (by omega), fun j hj ej => ?_⟩
  obtain rfl : (o + L.length) % 8 = j := (nI_eq (by omega) (by omega)).mp ej
  refine sp_X0_copyFrom hB hI (fun vB hvB f hf => ?_)
  rw [nI_1] at hf
  subst hf
  refine h _ ⟨?_, ?_, o, ho, hd, rhc_push hl hvB hs⟩
  · show nI (L.length + 1) = _
    rw [List.length_append]
    rfl
  · rw [List.length_append, List.length_singleton]
    omega
theorem sp_X2_save {v : HV} {w : BV} {S : AS} {L : List AS} (hH : RHc v L) (hB : RB w S) (hI : Inv S) {Q : HV → BV → Prop} (h : ∀ v', RHc v' (pushS L S) → Q v' w) : wp_X2_save v w Q := by
  obtain ⟨hk, hl, o, ho, hd, hs⟩ := hH
  unfold wp_X2_save
  rw [hk]
  refine ek_if (nI_ltI (b := 8) (by omega) (by omega)) (fun e => ?_) (fun e f8 hf8 f9 hf9 => ?_)
  · refine sp_X2_save_32 hk (by omega) ho hd hs hB hI (fun v' hv' => h v' ?_)
    unfold pushS
    rw [if_neg (by omega)]
    exact hv'
  · have el : L.length = 8 := by omega
    rw [hd, nI_1, nn_lit 8, nn_rem (by omega) (by omega) (by omega)] at hf8
    rw [el] at hf9
    have hf9 : f9 = nI 7 := hf9.trans (by decide)
    subst hf8 hf9
    have hl7 : (L.drop 1).length = 7 := by rw [List.length_drop]; omega
    refine sp_X2_save_32 (L := L.drop 1) (o := (o + 1) % 8) (by rw [hl7]) (by omega) (by omega) rfl (fun i T hi => ?_) hB hI (fun v' hv' => h v' ?_)
    · rw [List.getElem?_drop] at hi
      have g := hs (1 + i) T hi
      rw [show ((o + 1) % 8 + i) % 8 = (o + (1 + i)) % 8 by omega]
      exact g
    · unfold pushS
      rw [if_pos el]
      exact hv'
theorem sp_X2_restore {v : HV} {w : BV} {L : List AS} {T : AS} (hH : RHc v (L ++ [T])) (hT : Inv T) {Q : HV → BV → Prop} (h : ∀ v' w', RHc v' L → RB w' T → Q v' w') : wp_X2_restore v w Q := by
  obtain ⟨hk, hl, o, ho, hd, hs⟩ := hH
  have el : (L ++ [T]).length = L.length + 1 := by rw [List.length_append]; rfl
  rw [el] at hk hl
  intro f hf
  rw [hk, nI_pred] at hf
  subst hf
  rw [hd, nI_add, nn_lit 8, nn_rem (by omega) (by omega) (by omega)]
  refine ⟨vp_in_nI (by omega) (by omega), fun j hj ej => ?_⟩
  obtain rfl : (o + L.length) % 8 = j := (nI_eq (by omega) (by omega)).mp ej
  have hB : RB (HV.states v ((o + L.length) % 8)) T := hs L.length T (by rw [List.getElem?_append_right (Nat.le_refl _), Nat.sub_self]; rfl)
  refine sp_X0_copyFrom hB hT (fun vB hvB => h _ vB ⟨rfl, by omega, o, ho, hd, fun i T' hi => ?_⟩ hvB)
  have h9 := (List.getElem?_eq_some_iff.mp hi).1
  show RB (upE (HV.states v) ((o + L.length) % 8) (HV.states v ((o + L.length) % 8)) ((o + i) % 8)) T'
  have g : upE (HV.states v) ((o + L.length) % 8) (HV.states v ((o + L.length) % 8)) ((o + i) % 8) = HV.states v ((o + i) % 8) := if_neg (by omega)
  rw [g]
  exact hs i T' (by rw [List.getElem?_append_left h9]; exact hi)
def RTc (v : TV) (B : List Nat) : Prop := TV.length v = nI B.length ∧ B.length ≤ 60 ∧ (∀ (i c : Nat), B[i]? = some c → TV.codes v i = nI c) ∧ ∀ c ∈ B, 33 ≤ c ∧ c ≤ 126
def RX (v : XV) (S : AS) (L : List AS) (B : List Nat) : Prop := RB (XV.board v) S ∧ Inv S ∧ RHc (XV.history v) L ∧ (∀ T ∈ L, Inv T) ∧ RTc (XV.text v) B
/-- a state of the class: what changes between two calls, and what doesn't -/
theorem rx_save {v : XV} {S : AS} {L : List AS} {B : List Nat} (hX : RX v S L B) {Q : HV → BV → Prop} (k : ∀ vH, RHc vH (pushS L S) → Q vH (XV.board v)) : wp_X2_save (XV.history v) (XV.board v) Q := sp_X2_save hX.2.2.1 hX.1 hX.2.1 (fun v' hv' => k v' hv')
theorem tv_at {v : TV} {B : List Nat} (hT : RTc v B) {i : Nat} (hi : i < B.length) : TV.codes v i = nI (B.getD i 48) ∧ 33 ≤ B.getD i 48 ∧ B.getD i 48 ≤ 126 := by
  have e : B[i]? = some (B.getD i 48) := by
    rw [List.getD_eq_getElem?_getD, List.getElem?_eq_getElem hi]
    rfl
  have hm := hT.2.2.2 _ (List.mem_of_getElem? e)
  exact ⟨hT.2.2.1 i _ e, hm⟩
theorem sp_X5_isRight {v : TV} {B : List Nat} (hT : RTc v B) {i : Nat} (hi : i < B.length) {Q : Int32 → TV → Prop} (h : Q (nI (rightC i (B.getD i 48)).toNat) v) : wp_X5_isRight v (nI i) Q := by
  obtain ⟨hc, h33, h126⟩ := tv_at hT hi
  have h60 := hT.2.1
  unfold wp_X5_isRight
  rw [nI_clamp (by omega), hc]
  refine ⟨vp_in_nI (by omega) (by omega), fun x2 hx2 sw hsw => ?_⟩
  rw [nn_lit 10, nn_rem (by omega) (by omega) (by omega)] at hsw
  subst hx2 hsw
  have rc : rightC i (B.getD i 48) = if i % 10 = 4 then B.getD i 48 == 47 else if i % 10 = 9 then B.getD i 48 == 59 else decide (48 ≤ B.getD i 48 ∧ B.getD i 48 ≤ 57) := rfl
  refine ⟨fun e => ?_, fun e => ?_, fun e4 e9 => ?_⟩
  · rw [nn_lit 4, nI_eq (by omega) (by omega)] at e
    rw [rc, if_pos e] at h
    refine bn_if (nI_eq (b := 47) (by omega) (by omega)) (fun e2 => ?_) (fun e2 => ?_)
    · rw [e2] at h; exact h
    · rw [beq_eq_false_iff_ne.mpr e2] at h; exact h
  · rw [nn_lit 9, nI_eq (by omega) (by omega)] at e
    rw [rc, if_neg (by omega), if_pos e] at h
    refine bn_if (nI_eq (b := 59) (by omega) (by omega)) (fun e2 => ?_) (fun e2 => ?_)
    · rw [e2] at h; exact h
    · rw [beq_eq_false_iff_ne.mpr e2] at h; exact h
  · rw [nn_lit 4, nI_eq (by omega) (by omega)] at e4
    rw [nn_lit 9, nI_eq (by omega) (by omega)] at e9
    rw [rc, if_neg e4, if_neg e9] at h
    refine ek_if (nI_ltI (b := 48) (by omega) (by omega)) (fun e2 => ?_) (fun e2 => ek_if (nI_ltI (a := 57) (by omega) (by omega)) (fun e3 => ?_) (fun e3 => ?_))
    · rw [decide_eq_false (by omega)] at h; exact h
    · rw [decide_eq_false (by omega)] at h; exact h
    · rw [decide_eq_true (by omega)] at h; exact h
theorem sp_X5_firstWrong {v : TV} {B : List Nat} (hT : RTc v B) {Q : Int32 → TV → Prop} (h : Q (nI (fwB B)) v) : wp_X5_firstWrong v Q := by
  have h60 := hT.2.1
  unfold wp_X5_firstWrong
  intro P hP
  have key : ∀ d k : Nat, k + d = B.length → fwB B = fwr (B.drop k) k → P v (nI k) := by
    intro d
    induction d with
    | zero =>
      intro k hk hw
      obtain rfl : k = B.length := by omega
      have e : fwB B = B.length := by rw [hw, List.drop_length]; rfl
      rw [e] at h
      apply hP
      unfold bd_X5_firstWrong_2
      rw [hT.1]
      exact bq_t ((nI_leI (by omega) (by omega)).mpr (Nat.le_refl _)) h
    | succ d ih =>
      intro k hk hw
      obtain ⟨c, hd⟩ : ∃ c, B.drop k = c :: B.drop (k + 1) := ⟨B[k], List.drop_eq_getElem_cons (by omega)⟩
      have hcd : B.getD k 48 = c := by
        have h1 : (B.drop k)[0]? = some c := by rw [hd]; rfl
        rw [List.getElem?_drop] at h1
        have h1 : B[k]? = some c := h1
        rw [List.getD_eq_getElem?_getD, h1]; rfl
      rw [hd] at hw
      have hw : fwB B = if rightC k c = true then fwr (B.drop (k + 1)) (k + 1) else k := hw
      apply hP
      unfold bd_X5_firstWrong_2
      rw [hT.1]
      refine bq_f (fun z => by rw [nI_leI (by omega) (by omega)] at z; omega) (sp_X5_isRight hT (by omega) ?_)
      rw [hcd]
      cases e : rightC k c with
      | true =>
        rw [if_pos e] at hw
        refine bn_f (by decide) (fun y hy => ?_)
        rw [nI_1] at hy
        subst hy
        exact ih (k + 1) (by omega) hw
      | false =>
        rw [if_neg (by rw [e]; exact Bool.false_ne_true)] at hw
        rw [hw] at h
        exact bn_t rfl h
  exact key B.length 0 (by omega) rfl
theorem fwr_le : ∀ (B : List Nat) (k : Nat), fwr B k ≤ k + B.length
  | [], k => Nat.le_refl k
  | c :: cs, k => by
    unfold fwr
    split
    · have := fwr_le cs (k + 1)
      rw [List.length_cons]
      omega
    · omega
theorem fwB_le (B : List Nat) : fwB B ≤ B.length := by
  have := fwr_le B 0
  unfold fwB
  omega
theorem sp_X5_isComplete {v : TV} {B : List Nat} (hT : RTc v B) {Q : Int32 → TV → Prop} (h1 : fwB B = B.length → B.length % 10 = 9 → Q 1 v) (h0 : ¬ (fwB B = B.length ∧ B.length % 10 = 9) → Q 0 v) : wp_X5_isComplete v Q := by
  have h60 := hT.2.1
  have hle := fwB_le B
  unfold wp_X5_isComplete
  rw [hT.1, nn_lit 10, nn_rem (by omega) (by omega) (by omega)]
  refine bn_if (nI_eq (b := 9) (by omega) (by omega)) (fun e => ?_) (fun e => h0 (fun z => e z.2))
  refine sp_X5_firstWrong hT ?_
  rw [hT.1]
  exact bn_if (nI_eq (by omega) (by omega)) (fun e2 => h1 e2 e) (fun e2 => h0 (fun z => e2 z.1))
theorem sp_X5_tilesTold {v : TV} {B : List Nat} (hT : RTc v B) {Q : Int32 → TV → Prop} (h : Q (nI ((B.length + 1) / 10)) v) : wp_X5_tilesTold v Q := by
  have h60 := hT.2.1
  unfold wp_X5_tilesTold
  rw [hT.1, nI_1, nn_lit 10, pk_div (by omega) (by omega) (by omega)]
  exact h
