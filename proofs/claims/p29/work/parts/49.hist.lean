/-! the class: its saved states, its buffer, its state as a whole -/
def RHc (v : HV) (L : List AS) : Prop := HV.kept v = nI L.length ∧ L.length ≤ 8 ∧ ∃ o, o < 8 ∧ HV.oldest v = nI o ∧ ∀ (i : Nat) (T : AS), L[i]? = some T → RB (HV.states v ((o + i) % 8)) T
theorem rhc_push {st : Nat → BV} {o : Nat} {L : List AS} {S : AS} {vB : BV} (hl : L.length ≤ 7) (hB : RB vB S) (h : ∀ (i : Nat) (T : AS), L[i]? = some T → RB (st ((o + i) % 8)) T) : ∀ (i : Nat) (T : AS), (L ++ [S])[i]? = some T → RB (upE st ((o + L.length) % 8) vB ((o + i) % 8)) T := by
  intro i T hi
  by_cases e : i < L.length
  · rw [List.getElem?_append_left e] at hi
    have g : upE st ((o + L.length) % 8) vB ((o + i) % 8) = st ((o + i) % 8) := if_neg (by omega)
    rw [g]
    exact h i T hi
  · have e2 : i = L.length := by
      have h9 := (List.getElem?_eq_some_iff.mp hi).1
      rw [List.length_append, List.length_singleton] at h9
      omega
    subst e2
    rw [List.getElem?_append_right (Nat.le_refl _), Nat.sub_self] at hi
    cases hi
    have g : upE st ((o + L.length) % 8) vB ((o + L.length) % 8) = vB := if_pos rfl
    rw [g]
    exact hB
theorem sp_X2_save_32 {v : HV} {w : BV} {S : AS} {L : List AS} {o : Nat} (hk : HV.kept v = nI L.length) (hl : L.length ≤ 7) (ho : o < 8) (hd : HV.oldest v = nI o) (hs : ∀ (i : Nat) (T : AS), L[i]? = some T → RB (HV.states v ((o + i) % 8)) T) (hB : RB w S) (hI : Inv S) {Q : HV → BV → Prop} (h : ∀ v', RHc v' (L ++ [S]) → Q v' w) : wp_X2_save_32 Q v w := by
  unfold wp_X2_save_32
  rw [hk, hd, nI_add, nn_lit 8, nn_rem (by omega) (by omega) (by omega)]
  refine ⟨vp_in_nI (by omega) (by omega), fun j hj ej => ?_⟩
  obtain rfl : (o + L.length) % 8 = j := (nI_eq (by omega) (by omega)).mp ej
  refine sp_X0_copyFrom hB hI (fun vB hvB f hf => ?_)
  rw [nI_1] at hf
  subst hf
  refine h _ ⟨?_, ?_, o, ho, hd, rhc_push hl hvB hs⟩
  · show nI (L.length + 1) = _
    rw [List.length_append]
    rfl
  · rw [List.length_append, List.length_singleton]
    omega
theorem sp_X2_save {v : HV} {w : BV} {S : AS} {L : List AS} (hH : RHc v L) (hB : RB w S) (hI : Inv S) {Q : HV → BV → Prop} (h : ∀ v', RHc v' (pushS L S) → Q v' w) : wp_X2_save v w Q := by
  obtain ⟨hk, hl, o, ho, hd, hs⟩ := hH
  unfold wp_X2_save
  rw [hk]
  refine ek_if (nI_ltI (b := 8) (by omega) (by omega)) (fun e => ?_) (fun e f8 hf8 f9 hf9 => ?_)
  · refine sp_X2_save_32 hk (by omega) ho hd hs hB hI (fun v' hv' => h v' ?_)
    unfold pushS
    rw [if_neg (by omega)]
    exact hv'
  · have el : L.length = 8 := by omega
    rw [hd, nI_1, nn_lit 8, nn_rem (by omega) (by omega) (by omega)] at hf8
    rw [el] at hf9
    have hf9 : f9 = nI 7 := hf9.trans (by decide)
    subst hf8 hf9
    have hl7 : (L.drop 1).length = 7 := by rw [List.length_drop]; omega
    refine sp_X2_save_32 (L := L.drop 1) (o := (o + 1) % 8) (by rw [hl7]) (by omega) (by omega) rfl (fun i T hi => ?_) hB hI (fun v' hv' => h v' ?_)
    · rw [List.getElem?_drop] at hi
      have g := hs (1 + i) T hi
      rw [show ((o + 1) % 8 + i) % 8 = (o + (1 + i)) % 8 by omega]
      exact g
    · unfold pushS
      rw [if_pos el]
      exact hv'
theorem sp_X2_restore {v : HV} {w : BV} {L : List AS} {T : AS} (hH : RHc v (L ++ [T])) (hT : Inv T) {Q : HV → BV → Prop} (h : ∀ v' w', RHc v' L → RB w' T → Q v' w') : wp_X2_restore v w Q := by
  obtain ⟨hk, hl, o, ho, hd, hs⟩ := hH
  have el : (L ++ [T]).length = L.length + 1 := by rw [List.length_append]; rfl
  rw [el] at hk hl
  intro f hf
  rw [hk, nI_pred] at hf
  subst hf
  rw [hd, nI_add, nn_lit 8, nn_rem (by omega) (by omega) (by omega)]
  refine ⟨vp_in_nI (by omega) (by omega), fun j hj ej => ?_⟩
  obtain rfl : (o + L.length) % 8 = j := (nI_eq (by omega) (by omega)).mp ej
  have hB : RB (HV.states v ((o + L.length) % 8)) T := hs L.length T (by rw [List.getElem?_append_right (Nat.le_refl _), Nat.sub_self]; rfl)
  refine sp_X0_copyFrom hB hT (fun vB hvB => h _ vB ⟨rfl, by omega, o, ho, hd, fun i T' hi => ?_⟩ hvB)
  have h9 := (List.getElem?_eq_some_iff.mp hi).1
  show RB (upE (HV.states v) ((o + L.length) % 8) (HV.states v ((o + L.length) % 8)) ((o + i) % 8)) T'
  have g : upE (HV.states v) ((o + L.length) % 8) (HV.states v ((o + L.length) % 8)) ((o + i) % 8) = HV.states v ((o + i) % 8) := if_neg (by omega)
  rw [g]
  exact hs i T' (by rw [List.getElem?_append_left h9]; exact hi)
def RTc (v : TV) (B : List Nat) : Prop := TV.length v = nI B.length ∧ B.length ≤ 60 ∧ (∀ (i c : Nat), B[i]? = some c → TV.codes v i = nI c) ∧ ∀ c ∈ B, 33 ≤ c ∧ c ≤ 126
def RX (v : XV) (S : AS) (L : List AS) (B : List Nat) : Prop := RB (XV.board v) S ∧ Inv S ∧ RHc (XV.history v) L ∧ (∀ T ∈ L, Inv T) ∧ RTc (XV.text v) B
/-- a state of the class: what changes between two calls, and what doesn't -/
theorem rx_save {v : XV} {S : AS} {L : List AS} {B : List Nat} (hX : RX v S L B) {Q : HV → BV → Prop} (k : ∀ vH, RHc vH (pushS L S) → Q vH (XV.board v)) : wp_X2_save (XV.history v) (XV.board v) Q := sp_X2_save hX.2.2.1 hX.1 hX.2.1 (fun v' hv' => k v' hv')
