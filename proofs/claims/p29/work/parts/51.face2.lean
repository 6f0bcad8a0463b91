/-! the class's calls: clear, solve, the buffer, undo -/
theorem mask_clr {S : AS} (hI : Inv S) {m : Nat} (h : ∀ k, k < 12 → bitN m k = (S.X k).toNat) : maskS S m = clrS S S.n := AS.ext' rfl rfl rfl rfl rfl (fun j => by
  have hn := hI.n12
  show (if bitN m j = 1 then S.P j else none) = (if j < S.n ∧ S.X j = false then none else S.P j)
  by_cases hj : j < S.n
  · rw [h j (by omega)]
    cases hx : S.X j with
    | true => rw [if_pos (show true.toNat = 1 from rfl), if_neg (fun z => absurd z.2 (by decide))]
    | false => rw [if_neg (show ¬ false.toNat = 1 by decide), if_pos ⟨hj, rfl⟩]
  · rw [out_none hI hj, ite_self, ite_self]) rfl
theorem rmB_clr {S : AS} (hI : Inv S) {m : Nat} (h : ∀ k, k < 12 → bitN m k = (S.X k).toNat) : sm (fun j => (rmB S m j).toNat) S.n = sm (fun j => (clrB S j).toNat) S.n := sm_congr _ (fun k hk => by
  have hn := hI.n12
  unfold rmB clrB
  rw [h k (by omega)]
  cases S.X k <;> rfl)
theorem sp_X6_clear {v : XV} {S : AS} {L : List AS} {B : List Nat} (hX : RX v S L B) {Q : Int32 → XV → Prop} (h : ∀ v', RX v' (clrS S S.n) (pushS L S) B → Q (nI (sm (fun j => (clrB S j).toNat) S.n)) v') : wp_X6_clear v Q := by
  have hI := hX.2.1
  obtain ⟨m, m1, m2, m3⟩ := hX.1.2.1
  unfold wp_X6_clear
  refine rx_save hX (fun vH hH => ?_)
  rw [m2]
  refine sp_X0_removeAllBut hX.1 hI (by omega) (fun vB hB => ?_)
  rw [mask_clr hI m3] at hB
  rw [rmB_clr hI m3]
  exact h _ (hX.put hB (hI.clr _) hH (pushS_inv hX.2.2.2.1 hI))
theorem tryA_1 {rec : AS → Nat → Nat → SR} {k : Nat} (hr : ∀ S st, (rec S 0 st).1 = 0 ∨ ((rec S 0 st).1 = 1 ∧ (rec S 0 st).2.2.2.1 = true)) : ∀ (n p : Nat) (S : AS) (st : Nat), (tryA rec k n p S 0 st).1 = 0 ∨ ((tryA rec k n p S 0 st).1 = 1 ∧ (tryA rec k n p S 0 st).2.2.2.1 = true)
  | 0, p, S, st => Or.inl rfl
  | n + 1, p, S, st => by
    rw [tryA_s]
    by_cases e : why S k p = 0
    · rw [if_pos e]
      by_cases e2 : st = 600
      · rw [if_pos e2]; exact Or.inl rfl
      · rw [if_neg e2]
        by_cases e3 : (rec (S.put k (some p)) 0 (st + 1)).2.2.2.1 = true
        · rw [if_pos e3]; exact hr _ _
        · rw [if_neg e3]
          have e4 : (rec (S.put k (some p)) 0 (st + 1)).1 = 0 := by
            rcases hr (S.put k (some p)) (st + 1) with g | g
            · exact g
            · exact absurd g.2 e3
          rw [e4]
          exact tryA_1 hr n (p + 1) S _
    · rw [if_neg e]
      exact tryA_1 hr n (p + 1) S st
theorem fillA_1 : ∀ (ks : List Nat) (S : AS) (st : Nat), (fillA 1 ks S 0 st).1 = 0 ∨ ((fillA 1 ks S 0 st).1 = 1 ∧ (fillA 1 ks S 0 st).2.2.2.1 = true)
  | [], S, st => Or.inr ⟨rfl, rfl⟩
  | k :: ks, S, st => tryA_1 (fillA_1 ks) _ _ S st
theorem srch_1 (S : AS) : (srch S 1).1 ≤ 1 := by
  rcases fillA_1 (opens S) S 0 with g | g
  · show (fillA 1 (opens S) S 0 0).1 ≤ 1
    omega
  · show (fillA 1 (opens S) S 0 0).1 ≤ 1
    omega
theorem srch_inv {S : AS} (hI : Inv S) (most : Nat) : Inv (srch S most).2.2.2.2 := (fillA_only (most := most) (opens S) S 0 0 hI (fun j hj => (opensN_mem.mp hj).1)).2
theorem sp_X6_solve {v : XV} {S : AS} {L : List AS} {B : List Nat} (hX : RX v S L B) {Q : Int32 → XV → Prop} {XQ : String → XV → Prop}
    (h0 : (srch S 1).1 = 1 → ∀ v', RX v' (srch S 1).2.2.2.2 (pushS L S) B → Q (nI (empties S)) v')
    (h1 : ¬ (srch S 1).1 = 1 → ∀ v', RX v' S L B → XQ "java/lang/IllegalStateException" v') : wp_X6_solve v Q XQ := by
  have hI := hX.2.1
  have hb := srch_1 S
  unfold wp_X6_solve
  refine sp_X4_run (most := 1) (by omega) hX.1 hI (fun vS hS => ?_)
  have hT := srch_inv hI 1
  rw [hS.2.1]
  refine ek_if (nI_leI (a := 1) (by omega) (by omega)) (fun e => ?_) (fun e => h1 (by omega) _ hX)
  refine sp_X2_save hX.2.2.1 hX.1 hI (fun vH hH => sp_X0_emptyCells hX.1 hI (sp_X0_copyFrom hS.1 hT (fun vB hB => ?_)))
  exact h0 (by omega) _ (hX.put hB hT hH (pushS_inv hX.2.2.2.1 hI))
theorem sp_X6_undo {v : XV} {S : AS} {L : List AS} {B : List Nat} (hX : RX v S L B) {Q : Int32 → XV → Prop} {XQ : String → XV → Prop} (h1 : L = [] → XQ "java/lang/IllegalStateException" v) (h0 : ∀ L0 T, L = L0 ++ [T] → ∀ v', RX v' T L0 B → Q (nI L0.length) v') : wp_X6_undo v Q XQ := by
  obtain ⟨g1, g2, g3, g4, g5⟩ := hX
  have hl := g3.2.1
  unfold wp_X6_undo
  rw [g3.1]
  rcases List.eq_nil_or_concat L with e | ⟨L0, T, e⟩
  · have el : L.length = 0 := by rw [e]; rfl
    rw [el]
    exact bq_f (by decide) (h1 e)
  · rw [List.concat_eq_append] at e
    have e2 : L.length = L0.length + 1 := by rw [e, List.length_append]; rfl
    refine bq_t ((nI_leI (a := 1) (by omega) (by omega)).mpr (by omega)) ?_
    have g3' : RHc (XV.history v) (L0 ++ [T]) := by rw [← e]; exact g3
    have hT : Inv T := g4 T (by rw [e]; simp)
    refine sp_X2_restore g3' hT (fun vH vB hH hB => ?_)
    rw [hH.1]
    exact h0 L0 T e _ ⟨hB, hT, hH, fun T' hT' => g4 T' (by rw [e]; exact List.mem_append_left _ hT'), g5⟩
