/-! the reference's search as a whole -/
def opensN (S : AS) (n : Nat) : List Nat := (List.range n).filter (fun k => (S.P k).isNone)
def opens (S : AS) : List Nat := opensN S S.n
theorem opensN_1 {S : AS} {n : Nat} (h : S.P n = none) : opensN S (n + 1) = opensN S n ++ [n] := by
  unfold opensN
  rw [List.range_succ, List.filter_append]
  simp [h]
theorem opensN_0 {S : AS} {n p : Nat} (h : S.P n = some p) : opensN S (n + 1) = opensN S n := by
  unfold opensN
  rw [List.range_succ, List.filter_append]
  simp [h]
theorem opensN_len (S : AS) (n : Nat) : (opensN S n).length ≤ n := by
  have := List.length_filter_le (fun k => (S.P k).isNone) (List.range n)
  rw [List.length_range] at this
  exact this
theorem opensN_mem {S : AS} {n j : Nat} : j ∈ opensN S n ↔ j < n ∧ S.P j = none := by
  unfold opensN
  rw [List.mem_filter, List.mem_range, Option.isNone_iff_eq_none]
theorem opensN_nodup (S : AS) (n : Nat) : (opensN S n).Nodup := List.Pairwise.filter _ List.nodup_range
def srch (S : AS) (most : Nat) : SR := fillA most (opens S) S 0 0
theorem srch_b (S : AS) (most : Nat) : (srch S most).1 ≤ 601 ∧ (srch S most).2.1 ≤ 600 := by
  unfold srch
  cases opens S with
  | nil => exact ⟨by show 0 + 1 ≤ 601; omega, Nat.zero_le _⟩
  | cons k ks =>
    have := tryA_b (rec := fillA most ks) (k := k) (fillA_b ks) (n := 8 * S.t) (p := 0) (S := S) (f := 0) (st := 0) (by omega) (by omega)
    exact ⟨by show (tryA (fillA most ks) k (8 * S.t) 0 S 0 0).1 ≤ 601; omega, this.2⟩
theorem sr_end {M0 : MV} {ks : List Nat} {S : AS} {most f st : Nat} {cut : Bool} {x2 : Int32} {Q : MV → Prop} (hm : ks.length ≤ 12) (hno : ∀ j ∈ ks, j < 12 ∧ S.P j = none) (hf : f ≤ 601) (h50 : most ≤ 50) (hs : ¬ (¬ x2 = 0 ∧ f = most)) (hq : ∀ M', SLS M0 ks S f st cut M' → Q M') {T : AS} {M1 : MV} (hO : Only ks S T) (hL : SLS M0 ks T f st cut M1) : wp_X7_search_290 Q M1 (nI most) x2 (nI ks.length) 0 := by
  intro P hP
  have key : ∀ d i : Nat, i + d = ks.length → ∀ (T : AS) (M1 : MV), Only (ks.drop i) S T → SLS M0 ks T f st cut M1 → P M1 (nI most) x2 (nI ks.length) (nI i) := by
    intro d
    induction d with
    | zero =>
      intro i hi T M1 hO hL
      apply hP
      unfold bd_X7_search_290
      refine bq_t ((nI_leI (by omega) (by omega)).mpr (by omega)) (hq M1 ?_)
      obtain ⟨g1, g2, g3, g4, g5, g6, g7⟩ := hO
      have e : T = S := AS.ext' g1 g2 g3 g4 g5 (fun j => g7 j (by rw [List.drop_eq_nil_of_le (by omega)]; exact List.not_mem_nil)) g6
      rw [e] at hL
      exact hL
    | succ d ih =>
      intro i hi T M1 hO hL
      obtain ⟨k, hk⟩ : ∃ k, ks.drop i = k :: ks.drop (i + 1) := ⟨ks[i], List.drop_eq_getElem_cons (by omega)⟩
      have hkd := drop_getD hk
      have hkm : k ∈ ks := List.mem_of_mem_drop (i := i) (by rw [hk]; exact List.mem_cons_self)
      obtain ⟨hk12, hkn⟩ := hno k hkm
      have hL0 := hL
      obtain ⟨k1, k2, k3, k4, k5, k6⟩ := hL
      obtain ⟨g1, g2, g3, g4, g5, g6, g7⟩ := hO
      have go : wp_X7_search_308 P Q M1 (nI most) x2 (nI ks.length) (nI i) := by
        refine ⟨vp_in_nI (by omega) (by omega), ?_⟩
        rw [nI_clamp (by omega), k3 i (by omega), hkd, nn_lit 28, nI_add]
        refine ⟨vp_in_nI (by omega) (by omega), ?_⟩
        rw [nI_clamp (by omega)]
        intro z hz y hy
        rw [nI_1] at hy
        subst hy
        have hz2 : RZ z (T.put k none) := by rw [hz]; exact k2.put hk12 none
        refine ih (i + 1) (by omega) (T.put k none) _ ⟨g1, g2, g3, g4, g5, g6, fun j hj => ?_⟩ ⟨k1, hz2, k3, k4, k5, k6⟩
        by_cases e : j = k
        · rw [e, put_at, hkn]
        · rw [put_ne _ _ e]
          exact g7 j (by rw [hk]; intro z; rcases List.mem_cons.mp z with z | z; exact e z; exact hj z)
      apply hP
      unfold bd_X7_search_290
      refine bq_f (fun z => by rw [nI_leI (by omega) (by omega)] at z; omega) ⟨fun _ => go, fun z => ⟨fun z2 => ?_, fun _ => go⟩⟩
      rw [k4, nI_eq (by omega) (by omega)] at z2
      exact absurd ⟨z, z2⟩ hs
  exact key ks.length 0 (by omega) T M1 hO hL
theorem sp_X7_search {M : MV} {S : AS} (hz : RZ (MV.z M) S) (hI : Inv S) {most : Nat} (h1 : 1 ≤ most) (h50 : most ≤ 50) (stays : Bool) {Q : MV → Prop}
    (h : ∀ M' : MV, KM M M' → RZ (MV.z M') (if stays = true ∧ (srch S most).1 = most then (srch S most).2.2.2.2 else S) → MV.found M' = nI (srch S most).1 → MV.steps M' = nI (srch S most).2.1 → MV.isCut M' = nI (srch S most).2.2.1.toNat → Q M') : wp_X7_search M (nI most) (nI stays.toNat) Q := by
  have hn := hI.n12
  have hb := srch_b S most
  -- how it ends
  have hend : ∀ (T : AS) (f st : Nat) (cut : Bool) (M1 : MV), f = (srch S most).1 → st = (srch S most).2.1 → cut = (srch S most).2.2.1 → T = (srch S most).2.2.2.2 → Only (opens S) S T → SLS M (opens S) T f st cut M1 → 0 < (opens S).length → wp_X7_search_290 Q M1 (nI most) (nI stays.toNat) (nI (opens S).length) 0 := by
    intro T f st cut M1 hf hst hc hT hO hL hl
    have hlen : (opens S).length ≤ 12 := Nat.le_trans (opensN_len S S.n) hn
    by_cases e : stays = true ∧ (srch S most).1 = most
    · intro P hP
      apply hP
      unfold bd_X7_search_290
      obtain ⟨k1, k2, k3, k4, k5, k6⟩ := hL
      refine bq_f (fun z => by rw [nn_lit 0, nI_leI (by omega) (by omega)] at z; omega) ⟨fun z => ?_, fun z => ⟨fun z2 => ?_, fun z2 => ?_⟩⟩
      · rw [e.1] at z; exact absurd z (by decide)
      · rw [if_pos e] at h
        exact h M1 k1 (by rw [← hT]; exact k2) (by rw [k4, hf]) (by rw [k5, hst]) (by rw [k6, hc])
      · exact absurd (by rw [k4, hf, e.2]) z2
    · rw [if_neg e] at h
      refine sr_end hlen (fun j hj => ?_) (by omega) h50 (fun z => e ?_) (fun M' hL' => ?_) hO hL
      · have := opensN_mem.mp hj
        exact ⟨by omega, this.2⟩
      · refine ⟨?_, by rw [← hf]; exact z.2⟩
        cases stays with
        | true => rfl
        | false => exact absurd rfl z.1
      · obtain ⟨k1, k2, k3, k4, k5, k6⟩ := hL'
        exact h M' k1 k2 (by rw [k4, hf]) (by rw [k5, hst]) (by rw [k6, hc])
  have fin : ∀ M' : MV, KM M M' → RZ (MV.z M') S → (∀ i, i < (opens S).length → MV.opn M' i = nI ((opens S).getD i 0)) → (¬ nI (opens S).length = 0 → wp_X7_search_55 Q M' (nI most) (nI stays.toNat) (nI (opens S).length) 0) ∧ (nI (opens S).length = 0 → wp_X7_search_55 Q M' (nI most) (nI stays.toNat) (nI (opens S).length) 1) := by
    intro M' hK hz' ho
    cases hks : opens S with
    | nil =>
      have hs : srch S most = (0 + 1, 0, false, decide (most ≤ 0 + 1), S) := by unfold srch; rw [hks]; rfl
      refine bn_t rfl ⟨fun _ => ?_, fun z => absurd (by decide) z⟩
      intro P hP
      refine hP _ _ _ _ _ _ _ (bq_t rfl ?_)
      intro P2 hP2
      refine hP2 _ _ _ _ _ (bq_t (by decide) ?_)
      rw [hs] at h
      refine h _ hK ?_ rfl rfl rfl
      rw [ite_self]
      exact hz'
    | cons k suf =>
      have hl : (opens S).length = suf.length + 1 := by rw [hks]; rfl
      have hlen : (opens S).length ≤ 12 := Nat.le_trans (opensN_len S S.n) hn
      rw [← hks]
      refine bn_f (fun z => by rw [nn_eq0 (by omega)] at z; omega) ⟨fun z => ?_, fun _ => ?_⟩
      · rw [nn_lit 0, nI_leI (by omega) (by omega)] at z; omega
      · intro P hP
        have hnd := opensN_nodup S S.n
        have hmem : ∀ j ∈ k :: suf, j < S.n ∧ S.P j = none := fun j hj => opensN_mem.mp (by rw [← hks] at hj; exact hj)
        have hs : srch S most = tryA (fillA most suf) k (8 * S.t - 0) 0 S 0 0 := by unfold srch; rw [hks]; rfl
        have hon := fillA_only (most := most) (opens S) S 0 0 hI (fun j hj => (opensN_mem.mp hj).1)
        refine sr_key (ks := opens S) (n0 := S.n) (M0 := M) hP hlen hn h50 suf 0 k (by rw [List.drop_zero, hks]) (fun j hj => (hmem j hj).1) (by rw [← hks]; exact hnd) (8 * S.t) 0 S 0 0 _ (Nat.le_refl _) (Nat.zero_le _) hI rfl ⟨hK, hz', ho, rfl, rfl, rfl⟩ (Nat.le_refl 0) (Nat.zero_le _) (fun j hj => (hmem j hj).2) (fun hov M1 hL => ?_) (fun hov M1 x5 hL x4 hx4 => ?_)
        · rw [← hs] at hL
          exact hend _ _ _ _ M1 rfl rfl rfl rfl hon.1 hL (by omega)
        · rw [← hs] at hov hL
          have hsm := fillA_same (most := most) (ks := opens S) (S := S) (f := 0) (st := 0) hov
          refine ⟨fun _ => ⟨fun _ => ?_, fun z => absurd rfl z⟩, fun z => absurd (by rw [hx4]; decide) z⟩
          show P _ _ _ _ _ _ _
          refine hP _ _ _ _ _ _ _ (bq_t rfl ?_)
          exact hend S _ _ _ M1 rfl rfl hsm.2.symm hsm.1.symm Only.rf hL (by omega)
  unfold wp_X7_search
  intro P hP
  have key : ∀ d k : Nat, k + d = S.n → ∀ M' : MV, KM M M' → RZ (MV.z M') S → (∀ i, i < (opensN S k).length → MV.opn M' i = nI ((opensN S k).getD i 0)) → P M' (nI most) (nI stays.toNat) (nI (opensN S k).length) (nI k) := by
    intro d
    induction d with
    | zero =>
      intro k hk M' hK hz' ho
      apply hP
      unfold bd_X7_search_5
      refine sp_X7_cells hz' ?_
      obtain rfl : k = S.n := by omega
      exact bq_t ((nI_leI (by omega) (by omega)).mpr (by omega)) (fin M' hK hz' ho)
    | succ d ih =>
      intro k hk M' hK hz' ho
      have hlen := opensN_len S k
      apply hP
      unfold bd_X7_search_5
      refine sp_X7_cells hz' ?_
      refine bq_f (fun z => by rw [nI_leI (by omega) (by omega)] at z; omega) ?_
      rw [nn_lit 28, nI_add, nI_clamp (by omega), hz'.2.2.2.2.2.1 k (by omega)]
      refine ⟨vp_in_nI (by omega) (by omega), ?_⟩
      cases hp : S.P k with
      | none =>
        refine bn_t rfl ⟨vp_in_nI (by omega) (by omega), ?_⟩
        rw [nI_clamp (by omega)]
        intro o hoo y hy x hx
        rw [nI_1] at hy hx
        subst hy hx
        have hnx := ih (k + 1) (by omega) (MV.s_opn M' o) hK hz'
        rw [opensN_1 hp] at hnx
        rw [List.length_append, List.length_singleton] at hnx
        refine hnx (fun i hi => ?_)
        show o i = _
        rw [hoo]
        by_cases e : i = (opensN S k).length
        · rw [e, pk_us, List.getD_eq_getElem?_getD, List.getElem?_append_right (Nat.le_refl _), Nat.sub_self]
          rfl
        · rw [pk_un e, ho i (by omega), List.getD_eq_getElem?_getD, List.getD_eq_getElem?_getD, List.getElem?_append_left (by omega)]
      | some p =>
        have hp9 := hI.p96 hp
        refine bn_f (nn_ne_m1 (by omega)) ?_
        intro y hy
        rw [nI_1] at hy
        subst hy
        have hnx := ih (k + 1) (by omega) M' hK hz'
        rw [opensN_0 hp] at hnx
        exact hnx ho
  exact key S.n 0 (by omega) M KM.rf hz (fun i hi => absurd hi (Nat.not_lt_zero i))
