/-! THE LAW'S SEARCH: placings counted up, cell by cell -/
theorem lbB.put {b ti : IV} {S : AS} (h : lbB b ti S) {k : Nat} (hk : k < 12) (o : Option Nat) : lbB (upd b (4 + k) (enc o)) ti (S.put k o) := by
  obtain ⟨h0, h1, h2, h3, h4, h5, h6⟩ := h
  refine ⟨?_, ?_, ?_, ?_, fun j hj => ?_, fun j hj => ?_, h6⟩
  · rw [pk_un (by omega)]; exact h0
  · rw [pk_un (by omega)]; exact h1
  · rw [pk_un (by omega)]; exact h2
  · rw [pk_un (by omega)]; exact h3
  · by_cases e : j = k
    · rw [e, pk_us, put_at]
    · rw [put_ne _ _ e, pk_un (by omega)]; exact h4 j hj
  · rw [pk_un (by omega)]; exact h5 j hj
theorem tryA_lt {rec : AS → Nat → Nat → SR} {k most : Nat} (hr : ∀ S f st, f < most → (rec S f st).2.2.2.1 = false → (rec S f st).1 < most) : ∀ {n p : Nat} {S : AS} {f st : Nat}, f < most → (tryA rec k n p S f st).2.2.2.1 = false → (tryA rec k n p S f st).1 < most
  | 0, p, S, f, st, h1, h2 => h1
  | n + 1, p, S, f, st, h1, h2 => by
    rw [tryA_s] at h2 ⊢
    by_cases w : why S k p = 0
    · rw [if_pos w] at h2 ⊢
      by_cases e : st = 600
      · rw [if_pos e]; exact h1
      · rw [if_neg e] at h2 ⊢
        by_cases e2 : (rec (S.put k (some p)) f (st + 1)).2.2.2.1 = true
        · rw [if_pos e2] at h2
          rw [e2] at h2; cases h2
        · rw [if_neg e2] at h2 ⊢
          exact tryA_lt hr (hr _ _ _ h1 (Bool.not_eq_true _ ▸ e2)) h2
    · rw [if_neg w] at h2 ⊢
      exact tryA_lt hr h1 h2
theorem fillA_lt {most : Nat} : ∀ (ks : List Nat) (S : AS) (f st : Nat), f < most → (fillA most ks S f st).2.2.2.1 = false → (fillA most ks S f st).1 < most
  | [], S, f, st, h1, h2 => Nat.not_le.mp (of_decide_eq_false h2)
  | k :: ks, S, f, st, h1, h2 => tryA_lt (fillA_lt ks) h1 h2
/-- within: the board, what is counted -/
def lsR (ti : IV) (S : AS) (f st : Nat) (b se : IV) : Prop := lbB b ti S ∧ se 0 = nI f ∧ se 1 = nI st ∧ se 2 = 0
/-- at the end -/
def lsE (S9 : AS) (ks : List Nat) (ti : IV) (R : SR) (b se : IV) : Prop := (∃ T, Only ks S9 T ∧ lbB b ti T) ∧ se 0 = nI R.1 ∧ se 1 = nI R.2.1 ∧ se 2 = nI R.2.2.1.toNat ∧ (R.1 = 1 → R.2.2.1 = false → R.2.2.2.1 = true → ∀ j ∈ ks, se (3 + j) = enc (R.2.2.2.2.P j))
theorem Only.put {ks : List Nat} {S T : AS} (h : Only ks S T) {k : Nat} (hk : k ∈ ks) (o : Option Nat) : Only ks S (T.put k o) := by
  obtain ⟨h1, h2, h3, h4, h5, h6, h7⟩ := h
  refine ⟨h1, h2, h3, h4, h5, h6, fun j hj => ?_⟩
  rw [put_ne _ _ (fun e => hj (by rw [e]; exact hk))]
  exact h7 j hj
section SK
variable {Q : IV → IV → IV → Prop} {P : IV → IV → IV → IV → IV → Int32 → Int32 → Int32 → Prop} {K277 K176 : IV → IV → IV → IV → IV → Int32 → Prop} {ti op : IV} {S9 : AS} {ks : List Nat} {most n0 : Nat} {G : IV → IV → IV → Prop}
theorem sk_step (hP : ∀ (b ti se tr op : IV) (x0 x6 x7 : Int32), bd_L_search_79 Q P K277 K176 b ti se tr op x0 x6 x7 → P b ti se tr op x0 x6 x7)
    (k2 : ∀ b se tr, G b (upd se 2 1) tr → K176 b ti se tr op (nI ks.length))
    (hop : ∀ i, i < ks.length → op i = nI (ks.getD i 0)) (hm : ks.length ≤ 6) (h6 : n0 ≤ 6) (hmo : most ≤ 50) {d k : Nat} {suf : List Nat} (hd : d < ks.length) (hkd : ks.getD d 0 = k) (hk0 : k < n0)
    (child : ∀ (S : AS) (f st q : Nat) (b1 se1 tr1 : IV), Inv S → lbS S → S.n = n0 → Only ks S9 S → why S k q = 0 → q < 8 * S.t → (∀ j ∈ k :: suf, S.P j = none) → f ≤ st → st < 600 → f < most → lsR ti (S.put k (some q)) f (st + 1) b1 se1 → tr1 d = nI (q + 1) → (∀ j, d < j → j < ks.length → tr1 j = 0) →
      ((fillA most suf (S.put k (some q)) f (st + 1)).2.2.2.1 = true → ∀ b' se' tr', lsE S9 ks ti (fillA most suf (S.put k (some q)) f (st + 1)) b' se' → G b' se' tr') →
      ((fillA most suf (S.put k (some q)) f (st + 1)).2.2.2.1 = false → ∀ b' se' tr', lsR ti S (fillA most suf (S.put k (some q)) f (st + 1)).1 (fillA most suf (S.put k (some q)) f (st + 1)).2.1 b' se' → (fillA most suf (S.put k (some q)) f (st + 1)).1 < most → (∀ j, j < d → tr' j = tr1 j) → tr' d = nI (q + 1) → (∀ j, d < j → j < ks.length → tr' j = 0) → P b' ti se' tr' op (nI most) (nI ks.length) (nI d)) →
      ((nI ks.length ≤ (nI d + 1) → ∀ f_36 : Int32, f_36 = ((se1 0) + 1) → ∀ o_37 : Nat → Int32, o_37 = upd se1 0 f_36 → (¬ (o_37 0) = 1 → wp_L_search_264 P K277 K176 Q b1 ti o_37 tr1 op (nI most) (nI ks.length) (nI d)) ∧ ((o_37 0) = 1 → wp_L_search_233 Q (fun (b : IV) (ti : IV) (se : IV) (tr : IV) (op : IV) (x0 : Int32) (x6 : Int32) (x7 : Int32) => wp_L_search_264 P K277 K176 Q b ti se tr op x0 x6 x7) b1 ti o_37 tr1 op (nI most) (nI ks.length) (nI d) 0)) ∧ (¬ nI ks.length ≤ (nI d + 1) → ∀ x7_58 : Int32, x7_58 = nI d + 1 → P b1 ti se1 tr1 op (nI most) (nI ks.length) x7_58))) :
    ∀ (N p : Nat) (S : AS) (f st : Nat) (b se tr : IV), 8 * S.t - p ≤ N → p ≤ 8 * S.t → Inv S → lbS S → S.n = n0 → Only ks S9 S → lsR ti S f st b se → tr d = nI p → (∀ j, d < j → j < ks.length → tr j = 0) → f ≤ st → st ≤ 600 → f < most → (∀ j ∈ k :: suf, S.P j = none) →
      ∀ R : SR, R = tryA (fillA most suf) k (8 * S.t - p) p S f st → (R.2.2.2.1 = true → ∀ b' se' tr', lsE S9 ks ti R b' se' → G b' se' tr') →
      (R.2.2.2.1 = false → ∀ b' se' tr', lsR ti S R.1 R.2.1 b' se' → R.1 < most → (∀ j, j < d → tr' j = tr j) → (∀ j, d ≤ j → j < ks.length → tr' j = 0) → ∀ x : Int32, x = nI d + (-1) → (x < 0 → P b' ti se' tr' op (nI most) (nI ks.length) x) ∧ (¬ x < 0 → vp_in x 12 ∧ vp_in (4 + (op (Int32.toNatClampNeg x))) 28 ∧ ∀ o_67 : Nat → Int32, o_67 = upd b' (Int32.toNatClampNeg (4 + (op (Int32.toNatClampNeg x)))) (-1) → P o_67 ti se' tr' op (nI most) (nI ks.length) x)) →
      P b ti se tr op (nI most) (nI ks.length) (nI d) := by
  have last : ∀ (S : AS) (f st : Nat) (b se tr : IV), lbS S → lsR ti S f st b se → tr d = nI (8 * S.t) → (∀ j, d < j → j < ks.length → tr j = 0) → f < most →
      (∀ b' se' tr', lsR ti S f st b' se' → f < most → (∀ j, j < d → tr' j = tr j) → (∀ j, d ≤ j → j < ks.length → tr' j = 0) → ∀ x : Int32, x = nI d + (-1) → (x < 0 → P b' ti se' tr' op (nI most) (nI ks.length) x) ∧ (¬ x < 0 → vp_in x 12 ∧ vp_in (4 + (op (Int32.toNatClampNeg x))) 28 ∧ ∀ o_67 : Nat → Int32, o_67 = upd b' (Int32.toNatClampNeg (4 + (op (Int32.toNatClampNeg x)))) (-1) → P o_67 ti se' tr' op (nI most) (nI ks.length) x)) →
      P b ti se tr op (nI most) (nI ks.length) (nI d) := by
    intro S f st b se tr hs hL htd ht0 hfm hX
    have ht6 := hs.2.2
    have hL0 := hL
    obtain ⟨l1, l2, l3, l4⟩ := hL
    apply hP
    unfold bd_L_search_79
    refine bq_f (fun z => by rw [nn_lit 0, nI_leI (by omega) (by omega)] at z; omega) (bq_f (nI_pos (by omega)) (bq_f (fun z => by rw [l2, nI_leI (by omega) (by omega)] at z; omega) ?_))
    rw [nI_clamp (n := d) (by omega), htd, l1.2.2.2.1]
    refine ⟨vp_in_nI (by omega) (by omega), bn_t (by rw [nn_lit 8, pk_mul]) ⟨vp_in_nI (by omega) (by omega), fun o ho x hx => ?_⟩⟩
    refine hX b se o hL0 hfm (fun j hj => by rw [ho, pk_un (by omega)]) (fun j hj1 hj2 => ?_) x hx
    rw [ho]
    by_cases e : j = d
    · rw [e, pk_us]
    · rw [pk_un e]; exact ht0 j (by omega) hj2
  intro N
  induction N with
  | zero =>
    intro p S f st b se tr hN hp hI hs hn hO hL htd ht0 hf hst hfm hno R hR hE hX
    obtain rfl : p = 8 * S.t := by omega
    rw [Nat.sub_self] at hR
    have hR : R = (f, st, false, false, S) := hR
    subst hR
    exact last S f st b se tr hs hL htd ht0 hfm (hX rfl)
  | succ N ih =>
    intro p S f st b se tr hN hp hI hs hn hO hL htd ht0 hf hst hfm hno R hR hE hX
    by_cases e8 : p = 8 * S.t
    · subst e8
      rw [Nat.sub_self] at hR
      have hR : R = (f, st, false, false, S) := hR
      subst hR
      exact last S f st b se tr hs hL htd ht0 hfm (hX rfl)
    have hp8 : p < 8 * S.t := by omega
    have ht6 := hs.2.2
    have eR : 8 * S.t - p = (8 * S.t - (p + 1)) + 1 := by omega
    rw [eR, tryA_s] at hR
    have hL0 := hL
    obtain ⟨l1, l2, l3, l4⟩ := hL
    apply hP
    unfold bd_L_search_79
    refine bq_f (fun z => by rw [nn_lit 0, nI_leI (by omega) (by omega)] at z; omega) (bq_f (nI_pos (by omega)) (bq_f (fun z => by rw [l2, nI_leI (by omega) (by omega)] at z; omega) ?_))
    rw [nI_clamp (n := d) (by omega), hop d hd, hkd, htd, l1.2.2.2.1]
    refine ⟨vp_in_nI (by omega) (by omega), bn_f (fun z => by rw [nn_lit 8, pk_mul, nI_eq (by omega) (by omega)] at z; omega) ⟨vp_in_nI (by omega) (by omega), fun q23 hq23 f24 hf24 => ⟨vp_in_nI (by omega) (by omega), fun o26 ho26 => ⟨vp_in_nI (by omega) (by omega), ?_⟩⟩⟩⟩
    subst hq23
    rw [nI_1] at hf24
    subst hf24
    have tr1d : o26 d = nI (p + 1) := by rw [ho26, pk_us]
    have tr1o : ∀ j, j ≠ d → o26 j = tr j := fun j hj => by rw [ho26, pk_un hj]
    have tr10 : ∀ j, d < j → j < ks.length → o26 j = 0 := fun j h1 h2 => (tr1o j (by omega)).trans (ht0 j h1 h2)
    refine sp_L_why l1 hI hs (by omega) hp8 ?_
    have hw := why_le S k p
    by_cases w : why S k p = 0
    · rw [w]
      rw [if_pos w] at hR
      refine bq_t (by decide) ?_
      rw [l3]
      by_cases e6 : st = 600
      · rw [if_pos e6] at hR
        subst hR
        refine bn_t (by rw [e6]; rfl) (k2 _ _ _ (hE rfl _ _ _ ⟨⟨S, hO, l1⟩, ?_, ?_, ?_, fun _ z => by cases z⟩))
        · rw [pk_un (by omega)]; exact l2
        · rw [pk_un (by omega)]; exact l3
        · rw [pk_us]; rfl
      · rw [if_neg e6] at hR
        refine bn_f (fun z => by rw [nn_lit 600, nI_eq (by omega) (by omega)] at z; omega) (fun f31 hf31 o32 ho32 => ?_)
        rw [nI_1] at hf31
        subst hf31
        rw [nn_lit 4, nI_add, nI_clamp (n := 4 + k) (by omega)]
        refine ⟨vp_in_nI (by omega) (by omega), vp_in_nI (by omega) (by omega), fun o35 ho35 => ?_⟩
        have hb1 : lbB o35 ti (S.put k (some p)) := by rw [ho35]; exact l1.put (by omega) (some p)
        have hb := fillA_b (most := most) suf (S.put k (some p)) f (st + 1) (by omega) (by omega)
        refine child S f st p o35 o32 o26 hI hs hn hO w hp8 hno hf (by omega) hfm ⟨hb1, by rw [ho32, pk_un (by omega)]; exact l2, by rw [ho32, pk_us], by rw [ho32, pk_un (by omega)]; exact l4⟩ tr1d tr10 (fun ho b' se' tr' h => ?_) (fun ho b' se' tr' hL' hfm' t1 t2 t3 => ?_)
        · rw [if_pos ho] at hR
          subst hR
          exact hE ho b' se' tr' h
        · rw [if_neg (by rw [ho]; decide)] at hR
          exact ih (p + 1) S _ _ b' se' tr' (by omega) (by omega) hI hs hn hO hL' t2 t3 hb.1 hb.2 hfm' hno R hR hE (fun ho2 b'' se'' tr'' g1 g2 g3 g4 => hX ho2 b'' se'' tr'' g1 g2 (fun j hj => by rw [g3 j hj, t1 j hj, tr1o j (by omega)]) g4)
    · rw [if_neg w] at hR
      refine bq_f (fun z => by rw [nn_lit 0, nI_leI (by omega) (by omega)] at z; omega) ?_
      exact ih (p + 1) S f st b se o26 (by omega) (by omega) hI hs hn hO hL0 tr1d tr10 hf hst hfm hno R hR hE (fun ho2 b'' se'' tr'' g1 g2 g3 g4 => hX ho2 b'' se'' tr'' g1 g2 (fun j hj => by rw [g3 j hj, tr1o j (by omega)]) g4)
/-- the first laying is written down -/
theorem sk_rec {K : IV → IV → IV → IV → IV → Int32 → Int32 → Int32 → Prop} {b se tr : IV} {x0 x7 : Int32} (hop : ∀ i, i < ks.length → op i = nI (ks.getD i 0)) (hm : ks.length ≤ 6) (hlt : ∀ j ∈ ks, j < 12)
    (h : ∀ se', se' 0 = se 0 → se' 1 = se 1 → se' 2 = se 2 → (∀ j ∈ ks, se' (3 + j) = b (4 + j)) → K b ti se' tr op x0 (nI ks.length) x7) : wp_L_search_233 Q K b ti se tr op x0 (nI ks.length) x7 0 := by
  intro P hP
  have key : ∀ d i : Nat, i + d = ks.length → ∀ se' : IV, se' 0 = se 0 → se' 1 = se 1 → se' 2 = se 2 → (∀ i', i' < i → se' (3 + ks.getD i' 0) = b (4 + ks.getD i' 0)) → P b ti se' tr op x0 (nI ks.length) x7 (nI i) := by
    intro d
    induction d with
    | zero =>
      intro i hi se' h0 h1 h2 h3
      apply hP
      unfold bd_L_search_233
      refine bq_t ((nI_leI (by omega) (by omega)).mpr (by omega)) (h se' h0 h1 h2 (fun j hj => ?_))
      obtain ⟨i', hi', e⟩ := List.getElem_of_mem hj
      have := h3 i' (by omega)
      rw [List.getD_eq_getElem?_getD, List.getElem?_eq_getElem hi'] at this
      rw [← e]
      exact this
    | succ d ih =>
      intro i hi se' h0 h1 h2 h3
      have hi2 : i < ks.length := by omega
      have hj : ks.getD i 0 < 12 := by
        rw [List.getD_eq_getElem?_getD, List.getElem?_eq_getElem hi2]
        exact hlt _ (List.getElem_mem hi2)
      apply hP
      unfold bd_L_search_233
      refine bq_f (fun z => by rw [nI_leI (by omega) (by omega)] at z; omega) ?_
      rw [nI_clamp (n := i) (by omega), hop i hi2, nn_lit 4, nn_lit 3, nI_add, nI_add, nI_clamp (n := 4 + ks.getD i 0) (by omega), nI_clamp (n := 3 + ks.getD i 0) (by omega)]
      refine ⟨vp_in_nI (by omega) (by omega), vp_in_nI (by omega) (by omega), vp_in_nI (by omega) (by omega), fun f hf => ⟨vp_in_nI (by omega) (by omega), fun o ho x hx => ?_⟩⟩
      rw [nI_1] at hx
      subst hx
      refine ih (i + 1) (by omega) o (by rw [ho, pk_un (by omega)]; exact h0) (by rw [ho, pk_un (by omega)]; exact h1) (by rw [ho, pk_un (by omega)]; exact h2) (fun i' hi' => ?_)
      rw [ho]
      by_cases e : ks.getD i' 0 = ks.getD i 0
      · rw [e, pk_us, hf]
      · rw [pk_un (by omega)]
        exact h3 i' (by rcases Nat.lt_or_ge i' i with g | g; exact g; exact absurd (by rw [show i' = i by omega]) e)
  exact key ks.length 0 (by omega) se rfl rfl rfl (fun i' hi' => absurd hi' (Nat.not_lt_zero _))
theorem sk_key (hP : ∀ (b ti se tr op : IV) (x0 x6 x7 : Int32), bd_L_search_79 Q P K277 K176 b ti se tr op x0 x6 x7 → P b ti se tr op x0 x6 x7)
    (k1 : ∀ b se tr, G b se tr → K277 b ti se tr op (nI ks.length)) (k2 : ∀ b se tr, G b (upd se 2 1) tr → K176 b ti se tr op (nI ks.length))
    (hop : ∀ i, i < ks.length → op i = nI (ks.getD i 0)) (hm : ks.length ≤ 6) (h6 : n0 ≤ 6) (hmo : most ≤ 50) (hlt : ∀ j ∈ ks, j < 12) : ∀ (suf : List Nat) (d k : Nat), ks.drop d = k :: suf → (∀ j ∈ k :: suf, j < n0) → (k :: suf).Nodup →
    ∀ (N p : Nat) (S : AS) (f st : Nat) (b se tr : IV), 8 * S.t - p ≤ N → p ≤ 8 * S.t → Inv S → lbS S → S.n = n0 → Only ks S9 S → lsR ti S f st b se → tr d = nI p → (∀ j, d < j → j < ks.length → tr j = 0) → f ≤ st → st ≤ 600 → f < most → (∀ j ∈ k :: suf, S.P j = none) →
      ∀ R : SR, R = tryA (fillA most suf) k (8 * S.t - p) p S f st → (R.2.2.2.1 = true → ∀ b' se' tr', lsE S9 ks ti R b' se' → G b' se' tr') →
      (R.2.2.2.1 = false → ∀ b' se' tr', lsR ti S R.1 R.2.1 b' se' → R.1 < most → (∀ j, j < d → tr' j = tr j) → (∀ j, d ≤ j → j < ks.length → tr' j = 0) → ∀ x : Int32, x = nI d + (-1) → (x < 0 → P b' ti se' tr' op (nI most) (nI ks.length) x) ∧ (¬ x < 0 → vp_in x 12 ∧ vp_in (4 + (op (Int32.toNatClampNeg x))) 28 ∧ ∀ o_67 : Nat → Int32, o_67 = upd b' (Int32.toNatClampNeg (4 + (op (Int32.toNatClampNeg x)))) (-1) → P o_67 ti se' tr' op (nI most) (nI ks.length) x)) →
      P b ti se tr op (nI most) (nI ks.length) (nI d) := by
  intro suf
  induction suf with
  | nil =>
    intro d k hdr hl0 hnd
    have hlen : ks.length - d = 1 := by rw [← List.length_drop, hdr]; rfl
    have hkd : ks.getD d 0 = k := drop_getD hdr
    have hk0 : k < n0 := hl0 k List.mem_cons_self
    have hkm : k ∈ ks := List.mem_of_mem_drop (i := d) (by rw [hdr]; exact List.mem_cons_self)
    refine sk_step hP k2 hop hm h6 hmo (by omega) hkd hk0 ?_
    intro S f st q b1 se1 tr1 hI hs hn hO hw hq hno hf hst hfm hL htd ht0 hE hC
    obtain ⟨l1, l2, l3, l4⟩ := hL
    have fA : fillA most [] (S.put k (some q)) f (st + 1) = (f + 1, st + 1, false, decide (most ≤ f + 1), S.put k (some q)) := rfl
    rw [fA] at hE hC
    -- behind the leaf
    have back : ∀ se' : IV, se' 0 = nI (f + 1) → se' 1 = nI (st + 1) → se' 2 = 0 → (f = 0 → ∀ j ∈ ks, se' (3 + j) = enc ((S.put k (some q)).P j)) → wp_L_search_264 P K277 K176 Q b1 ti se' tr1 op (nI most) (nI ks.length) (nI d) := by
      intro se' g0 g1 g2 g3
      unfold wp_L_search_264
      rw [nI_clamp (n := d) (by omega), hop d (by omega), hkd, nn_lit 4, nI_add, nI_clamp (n := 4 + k) (by omega)]
      refine ⟨vp_in_nI (by omega) (by omega), vp_in_nI (by omega) (by omega), fun o40 ho40 => ?_⟩
      have hb : lbB o40 ti S := by
        have := l1.put (k := k) (by omega) none
        rw [put_self _ (hno k List.mem_cons_self)] at this
        rw [ho40]
        exact this
      by_cases e : most ≤ f + 1
      · have hg := hE (decide_eq_true e) o40 se' tr1 ⟨⟨S, hO, hb⟩, g0, g1, g2, fun h1 _ _ => g3 (by have h1 : f + 1 = 1 := h1; omega)⟩
        apply hP
        unfold bd_L_search_79
        refine bq_f (fun z => by rw [nn_lit 0, nI_leI (by omega) (by omega)] at z; omega) (bq_f (nI_pos (by omega)) (bq_t (by rw [g0]; exact (nI_leI (by omega) (by omega)).mpr e) (k1 _ _ _ hg)))
      · exact hC (decide_eq_false e) o40 se' tr1 ⟨hb, g0, g1, g2⟩ (by show f + 1 < most; omega) (fun j _ => rfl) htd ht0
    refine ⟨fun _ f36 hf36 o37 ho37 => ?_, fun z => absurd (by rw [nI_1]; exact (nI_leI (by omega) (by omega)).mpr (by omega)) z⟩
    rw [l2, nI_1] at hf36
    subst hf36
    have s0 : o37 0 = nI (f + 1) := by rw [ho37, pk_us]
    have s1 : o37 1 = nI (st + 1) := by rw [ho37, pk_un (by omega)]; exact l3
    have s2 : o37 2 = 0 := by rw [ho37, pk_un (by omega)]; exact l4
    rw [s0]
    refine bn_if (nI_eq (b := 1) (by omega) (by omega)) (fun e => ?_) (fun e => back o37 s0 s1 s2 (fun z => absurd (by omega) e))
    refine sk_rec hop hm hlt (fun se' g0 g1 g2 g3 => back se' (g0.trans s0) (g1.trans s1) (g2.trans s2) (fun _ j hj => ?_))
    rw [g3 j hj]
    exact l1.2.2.2.2.1 j (hlt j hj)
  | cons k2' suf ih =>
    intro d k hdr hl0 hnd
    have hlen : ks.length - d = suf.length + 2 := by rw [← List.length_drop, hdr]; rfl
    have hkd : ks.getD d 0 = k := drop_getD hdr
    have hk0 : k < n0 := hl0 k List.mem_cons_self
    have hkm : k ∈ ks := List.mem_of_mem_drop (i := d) (by rw [hdr]; exact List.mem_cons_self)
    have hdr2 : ks.drop (d + 1) = k2' :: suf := by rw [← List.drop_drop, hdr]; rfl
    refine sk_step hP k2 hop hm h6 hmo (by omega) hkd hk0 ?_
    intro S f st q b1 se1 tr1 hI hs hn hO hw hq hno hf hst hfm hL htd ht0 hE hC
    have hnk : ∀ j ∈ k2' :: suf, j ≠ k := fun j hj e => (List.nodup_cons.mp hnd).1 (by rw [← e]; exact hj)
    refine ⟨fun z => by rw [nI_1, nI_leI (by omega) (by omega)] at z; omega, fun _ x hx => ?_⟩
    rw [nI_1] at hx
    subst hx
    refine ih (d + 1) k2' hdr2 (fun j hj => hl0 j (List.mem_cons_of_mem _ hj)) (List.nodup_cons.mp hnd).2 (8 * S.t) 0 (S.put k (some q)) f (st + 1) b1 se1 tr1 (Nat.sub_le _ _) (Nat.zero_le _) (hI.put (by omega) hq hw) hs hn (hO.put hkm _) hL (ht0 (d + 1) (by omega) (by omega)) (fun j h1 h2 => ht0 j (by omega) h2) (by omega) (by omega) hfm (fun j hj => (put_ne _ _ (hnk j hj)).trans (hno j (List.mem_cons_of_mem _ hj))) _ rfl hE ?_
    intro ho b' se' tr' hL' hfm' t1 t2 x hx
    rw [pk_m1] at hx
    subst hx
    refine ⟨fun z => absurd z (nI_pos (by omega)), fun _ => ?_⟩
    rw [nI_clamp (n := d) (by omega), hop d (by omega), hkd, nn_lit 4, nI_add, nI_clamp (n := 4 + k) (by omega)]
    refine ⟨vp_in_nI (by omega) (by omega), vp_in_nI (by omega) (by omega), fun o67 ho67 => ?_⟩
    obtain ⟨m1, m2, m3, m4⟩ := hL'
    have hb : lbB o67 ti S := by
      have := m1.put (k := k) (by omega) none
      rw [put_self _ (hno k List.mem_cons_self)] at this
      rw [ho67]
      exact this
    exact hC ho o67 se' tr' ⟨hb, m2, m3, m4⟩ hfm' (fun j hj => t1 j (by omega)) ((t1 d (by omega)).trans htd) (fun j h1 h2 => t2 j (by omega) h2)
/-- all open cells are emptied again -/
theorem sk_end (hop : ∀ i, i < ks.length → op i = nI (ks.getD i 0)) (hm : ks.length ≤ 6) (hno : ∀ j ∈ ks, j < 12 ∧ S9.P j = none) {se : IV} (hq : ∀ b', lbB b' ti S9 → Q b' ti se) {T : AS} {b tr : IV} (hO : Only ks S9 T) (hL : lbB b ti T) : wp_L_search_277 Q b ti se tr op (nI ks.length) := by
  unfold wp_L_search_277
  intro P hP
  have key : ∀ d i : Nat, i + d = ks.length → ∀ (T : AS) (b : IV), Only (ks.drop i) S9 T → lbB b ti T → P b ti se tr op (nI ks.length) (nI i) := by
    intro d
    induction d with
    | zero =>
      intro i hi T b hO hL
      apply hP
      unfold bd_L_search_280
      refine bq_t ((nI_leI (by omega) (by omega)).mpr (by omega)) (hq b ?_)
      obtain ⟨g1, g2, g3, g4, g5, g6, g7⟩ := hO
      have e : T = S9 := AS.ext' g1 g2 g3 g4 g5 (fun j => g7 j (by rw [List.drop_eq_nil_of_le (by omega)]; exact List.not_mem_nil)) g6
      rw [e] at hL
      exact hL
    | succ d ih =>
      intro i hi T b hO hL
      obtain ⟨k, hk⟩ : ∃ k, ks.drop i = k :: ks.drop (i + 1) := ⟨ks[i], List.drop_eq_getElem_cons (by omega)⟩
      have hkd := drop_getD hk
      have hkm : k ∈ ks := List.mem_of_mem_drop (i := i) (by rw [hk]; exact List.mem_cons_self)
      obtain ⟨hk12, hkn⟩ := hno k hkm
      obtain ⟨g1, g2, g3, g4, g5, g6, g7⟩ := hO
      apply hP
      unfold bd_L_search_280
      refine bq_f (fun z => by rw [nI_leI (by omega) (by omega)] at z; omega) ?_
      rw [nI_clamp (n := i) (by omega), hop i (by omega), hkd, nn_lit 4, nI_add, nI_clamp (n := 4 + k) (by omega)]
      refine ⟨vp_in_nI (by omega) (by omega), vp_in_nI (by omega) (by omega), fun o ho x hx => ?_⟩
      rw [nI_1] at hx
      subst hx
      refine ih (i + 1) (by omega) (T.put k none) o ⟨g1, g2, g3, g4, g5, g6, fun j hj => ?_⟩ (by rw [ho]; exact hL.put hk12 none)
      by_cases e : j = k
      · rw [e, put_at, hkn]
      · rw [put_ne _ _ e]
        exact g7 j (by rw [hk]; intro z; rcases List.mem_cons.mp z with z | z; exact e z; exact hj z)
  exact key ks.length 0 (by omega) T b (by rw [List.drop_zero]; exact hO) hL
end SK
theorem sp_L_search {b ti se : IV} {S : AS} (h : lbB b ti S) (hI : Inv S) (hs : lbS S) {most : Nat} (h1 : 1 ≤ most) (h50 : most ≤ 50) {Q : IV → IV → IV → Prop}
    (hQ : ∀ b' se', lbB b' ti S → se' 0 = nI (srch S most).1 → se' 1 = nI (srch S most).2.1 → se' 2 = nI (srch S most).2.2.1.toNat → ((srch S most).1 = 1 → (srch S most).2.2.1 = false → (srch S most).2.2.2.1 = true → ∀ j ∈ opens S, se' (3 + j) = enc ((srch S most).2.2.2.2.P j)) → Q b' ti se') : wp_L_search b ti se (nI most) Q := by
  have hn6 := hs.n6
  have ht6 := hs.2.2
  have hlen : (opens S).length ≤ 6 := Nat.le_trans (opensN_len S S.n) hn6
  have hno : ∀ j ∈ opens S, j < 12 ∧ S.P j = none := fun j hj => by
    have := opensN_mem.mp hj
    exact ⟨by omega, this.2⟩
  have fin : ∀ (b' op : IV), lbB b' ti S → (∀ i, i < (opens S).length → op i = nI ((opens S).getD i 0)) → (¬ nI (opens S).length = 0 → wp_L_search_67 Q b' ti se (fun _ => 0) op (nI most) (nI (opens S).length) 0 0) ∧ (nI (opens S).length = 0 → wp_L_search_67 Q b' ti se (fun _ => 0) op (nI most) (nI (opens S).length) 0 1) := by
    intro b' op hb hop
    -- the end out of what was counted
    have endE : ∀ (R : SR) (b'' se'' tr : IV), R = srch S most → lsE S (opens S) ti R b'' se'' → wp_L_search_277 Q b'' ti se'' tr op (nI (opens S).length) := by
      intro R b'' se'' tr hR hE
      subst hR
      obtain ⟨⟨T, hO, hT⟩, e0, e1, e2, e3⟩ := hE
      exact sk_end hop hlen hno (fun b9 hb9 => hQ b9 se'' hb9 e0 e1 e2 e3) hO hT
    have start : ∀ t2 : Int32, (∀ se3 : IV, se3 0 = t2 → se3 1 = 0 → se3 2 = 0 → wp_L_search_79 Q (fun (b : IV) (ti : IV) (se : IV) (tr : IV) (op : IV) (x6 : Int32) => wp_L_search_277 Q b ti se tr op x6) (fun (b : IV) (ti : IV) (se : IV) (tr : IV) (op : IV) (x6 : Int32) => ∀ o_90 : Nat → Int32, o_90 = upd se 2 1 → wp_L_search_277 Q b ti o_90 tr op x6) b' ti se3 (fun _ => 0) op (nI most) (nI (opens S).length) 0) → wp_L_search_67 Q b' ti se (fun _ => 0) op (nI most) (nI (opens S).length) 0 t2 := by
      intro t2 hg
      unfold wp_L_search_67
      refine ⟨vpl rfl, fun o18 h18 o19 h19 o20 h20 => hg o20 ?_ ?_ ?_⟩
      · rw [h20, pk_un (by omega), h19, pk_un (by omega), h18]; rfl
      · rw [h20, pk_un (by omega), h19, pk_us]
      · rw [h20, pk_us]
    cases hks : opens S with
    | nil =>
      have hsr : srch S most = (0 + 1, 0, false, decide (most ≤ 0 + 1), S) := by unfold srch; rw [hks]; rfl
      refine bn_t rfl ?_
      have st := start 1
      rw [hks] at st
      refine st (fun se3 g0 g1 g2 P hP => ?_)
      refine hP _ _ _ _ _ _ _ _ (bq_t (by decide) ?_)
      have := endE _ b' se3 (fun _ => 0) hsr.symm ⟨⟨S, Only.rf, hb⟩, g0, g1, g2, fun _ _ _ j hj => by rw [hks] at hj; exact absurd hj List.not_mem_nil⟩
      rw [hks] at this
      exact this
    | cons k suf =>
      have hl : (opens S).length = suf.length + 1 := by rw [hks]; rfl
      rw [← hks]
      refine bn_f (fun z => by rw [nn_eq0 (by omega)] at z; omega) (start 0 (fun se3 g0 g1 g2 P hP => ?_))
      have hnd := opensN_nodup S S.n
      have hmem : ∀ j ∈ k :: suf, j < S.n ∧ S.P j = none := fun j hj => opensN_mem.mp (by rw [← hks] at hj; exact hj)
      have hsr : srch S most = tryA (fillA most suf) k (8 * S.t - 0) 0 S 0 0 := by unfold srch; rw [hks]; rfl
      refine sk_key (S9 := S) (ks := opens S) (n0 := S.n) (G := fun b se tr => wp_L_search_277 Q b ti se tr op (nI (opens S).length)) hP (fun _ _ _ h => h) (fun _ _ _ h o ho => by rw [ho]; exact h) hop hlen hn6 h50 (fun j hj => (hno j hj).1) suf 0 k (by rw [List.drop_zero, hks]) (fun j hj => (hmem j hj).1) (by rw [← hks]; exact hnd) (8 * S.t) 0 S 0 0 b' se3 _ (Nat.sub_le _ _) (Nat.zero_le _) hI hs rfl Only.rf ⟨hb, g0, g1, g2⟩ rfl (fun j _ _ => rfl) (Nat.le_refl 0) (Nat.zero_le _) (by omega) (fun j hj => (hmem j hj).2) _ hsr (fun ho b'' se'' tr'' hE => endE _ _ _ _ rfl hE) (fun ho b'' se'' tr'' hL _ _ _ x hx => ?_)
      refine ⟨fun _ => ?_, fun z => absurd (by rw [hx]; decide) z⟩
      obtain ⟨m1, m2, m3, m4⟩ := hL
      have hsm := fillA_same (most := most) (ks := opens S) (S := S) (f := 0) (st := 0) ho
      refine hP _ _ _ _ _ _ _ _ (bq_f (fun z => by rw [nn_lit 0, nI_leI (by omega) (by omega)] at z; omega) (bq_t (by rw [hx]; decide) ?_))
      have hcut : (srch S most).2.2.1 = false := hsm.2
      exact endE _ _ _ _ rfl ⟨⟨S, Only.rf, m1⟩, m2, m3, by rw [m4, hcut]; rfl, fun _ _ z => by have z2 := ho.symm.trans z; cases z2⟩
  unfold wp_L_search
  intro P hP
  have key : ∀ d k : Nat, k + d = S.n → ∀ (b' op : IV), lbB b' ti S → (∀ i, i < (opensN S k).length → op i = nI ((opensN S k).getD i 0)) → P b' ti se (fun _ => 0) op (nI most) (nI (opensN S k).length) (nI k) := by
    intro d
    induction d with
    | zero =>
      intro k hk b' op hb ho
      obtain rfl : k = S.n := by omega
      apply hP
      unfold bd_L_search_18
      rw [hb.1, hb.2.1, pk_mul]
      refine bq_t ((nI_leI (a := S.r * S.c) (b := S.n) (by show S.n < _; omega) (by omega)).mpr (Nat.le_refl _)) ?_
      exact fin b' op hb ho
    | succ d ih =>
      intro k hk b' op hb ho
      have hlk := opensN_len S k
      apply hP
      unfold bd_L_search_18
      rw [hb.1, hb.2.1, pk_mul]
      refine bq_f (fun z => by rw [nI_leI (a := S.r * S.c) (by show S.n < _; omega) (by omega)] at z; have z : S.n ≤ k := z; omega) ?_
      rw [nn_lit 4, nI_add, nI_clamp (n := 4 + k) (by omega), hb.2.2.2.2.1 k (by omega)]
      refine ⟨vp_in_nI (by omega) (by omega), ?_⟩
      cases hp : S.P k with
      | none =>
        refine bq_f (by decide) (fun y hy => ⟨vp_in_nI (by omega) (by omega), fun o hoo x hx => ?_⟩)
        rw [nI_1] at hy hx
        subst hy hx
        rw [nI_clamp (n := (opensN S k).length) (by omega)] at hoo
        have hnx := ih (k + 1) (by omega) b' o hb
        rw [opensN_1 hp] at hnx
        rw [List.length_append, List.length_singleton] at hnx
        refine hnx (fun i hi => ?_)
        rw [hoo]
        by_cases e : i = (opensN S k).length
        · rw [e, pk_us, List.getD_eq_getElem?_getD, List.getElem?_append_right (Nat.le_refl _), Nat.sub_self]
          rfl
        · rw [pk_un e, ho i (by omega), List.getD_eq_getElem?_getD, List.getD_eq_getElem?_getD, List.getElem?_append_left (by omega)]
      | some p =>
        have hp9 := hI.p96 hp
        refine bq_t (nI_pos' (by omega)) (fun x hx => ?_)
        rw [nI_1] at hx
        subst hx
        have hnx := ih (k + 1) (by omega) b' op hb
        rw [opensN_0 hp] at hnx
        exact hnx ho
  exact key S.n 0 (by omega) b (fun _ => 0) h (fun i hi => absurd hi (Nat.not_lt_zero i))
