/-! cut: the reference -/
theorem sp_X7_drawColor {M : MV} {seed col e : Nat} (hs : seed ≤ 999999999) (hc1 : 1 ≤ col) (hc9 : col ≤ 9) (he : e ≤ seed) (hd : MV.digits M = nI e) {Q : Int32 → MV → Prop} (h : Q (nI (drC seed col e)) (MV.s_digits M (nI (drE seed e)))) : wp_X7_drawColor M (nI seed) (nI col) Q := by
  unfold wp_X7_drawColor
  rw [hd]
  have go : ∀ r : Nat, r ≤ 999999999 → r = (if e = 0 then seed else e) → wp_X7_drawColor_16 Q M (nI col) (nI r) := by
    intro r hr hre x3 hx3 f hf
    rw [nn_lit 10, nn_rem (by omega) (by omega) (by omega)] at hx3
    rw [nn_lit 10, pk_div (by omega) (by omega) (by omega)] at hf
    subst hx3 hf
    refine ⟨fun z => by rw [nn_eq0 (by omega)] at z; omega, ?_⟩
    rw [nn_rem (by omega) (by omega) (by omega), nn_lit 1, nI_add]
    have e1 : drC seed col e = 1 + r % 10 % col := by unfold drC; rw [← hre]
    have e2 : drE seed e = r / 10 := by unfold drE; rw [← hre]
    rw [e1, e2] at h
    exact h
  exact bn_if (nn_eq0 (by omega)) (fun z => go seed hs (by rw [if_pos z])) (fun z => go e (by omega) (by rw [if_neg z]))
theorem rd_set {d : Nat → Int32} {D : Nat → Nat} (h : ∀ i, i < 96 → d i = nI (D i)) (i x : Nat) : ∀ j, j < 96 → upd d i (nI x) j = nI (setD D i x j) := fun j hj => by
  by_cases e : j = i
  · rw [e, pk_us, setD_s]
  · rw [pk_un e, setD_n _ _ e]
    exact h j hj
theorem sp_X7_drawSide {M : MV} {S : AS} (hz : RZ (MV.z M) S) (hI : Inv S) {k s : Nat} (hk : k < S.n) (hs4 : s < 4) {seed col : Nat} (hs : seed ≤ 999999999) (hc1 : 1 ≤ col) (hc9 : col ≤ 9) {C : CS} (he : C.2 ≤ seed) (hd : MV.digits M = nI C.2) (hD : ∀ i, i < 96 → MV.drawn M i = nI (C.1 i)) {Q : MV → Prop}
    (h : ∀ M' : MV, KL M M' → MV.z M' = MV.z M → MV.digits M' = nI (sideS S.r S.c seed col k s C).2 → (∀ i, i < 96 → MV.drawn M' i = nI ((sideS S.r S.c seed col k s C).1 i)) → Q M') : wp_X7_drawSide M (nI k) (nI s) (nI seed) (nI col) Q := by
  have hn := hI.n12
  unfold wp_X7_drawSide
  refine sp_X7_beyond hz hI hk hs4 ?_
  intro P hP
  cases e : nb S.r S.c k s with
  | none =>
    have es : sideS S.r S.c seed col k s C = C := by unfold sideS; rw [e]
    rw [es] at h
    apply hP
    exact bq_f (by decide) (bq_t rfl (h M ⟨rfl, rfl, rfl, rfl, rfl⟩ rfl hd hD))
  | some j =>
    have hj : j < S.n := nb_lt hk e
    have es : sideS S.r S.c seed col k s C = (putS C.1 k s j (drC seed col C.2) (drC seed col (drE seed C.2)), drE seed (drE seed C.2)) := by unfold sideS; rw [e]
    rw [es] at h
    have stp : ∀ (x : Nat) (M1 : MV) (D1 : Nat → Nat) (e1 : Nat), x ≤ 4 → e1 ≤ seed → MV.digits M1 = nI e1 → (∀ i, i < 96 → MV.drawn M1 i = nI (D1 i)) → (∀ d8 : Nat → Int32, (∀ i, i < 96 → d8 i = nI (setD (setD D1 (8 * k + x + s) (drC seed col e1)) (8 * j + x + (s + 2) % 4) (drC seed col e1) i)) → P (MV.s_drawn (MV.s_digits M1 (nI (drE seed e1))) d8) (nI k) (nI s) (nI seed) (nI col) (enc (some j)) (nI (x + 4))) → P M1 (nI k) (nI s) (nI seed) (nI col) (enc (some j)) (nI x) := by
      intro x M1 D1 e1 hx he1 hd1 hD1 hnx
      apply hP
      unfold bd_X7_drawSide_11
      refine bq_f (fun z => by rw [nn_lit 8, nI_leI (by omega) (by omega)] at z; omega) (bq_f (nn_ne_m1 (by omega)) (sp_X7_drawColor hs hc1 hc9 he1 hd1 ?_))
      rw [enc_some, nn_lit 8, nn_lit 2, nn_lit 4, pk_mul, pk_mul, nI_add, nI_add, nI_add, nI_add, nn_rem (by omega) (by omega) (by omega), nI_add, nI_clamp (by omega), nI_clamp (by omega)]
      refine ⟨vp_in_nI (by omega) (by omega), fun d6 h6 => ⟨vp_in_nI (by omega) (by omega), fun d8 h8 y hy => ?_⟩⟩
      rw [nI_add] at hy
      subst hy
      refine hnx d8 (fun i hi => ?_)
      rw [h8]
      refine rd_set (fun i hi => ?_) _ _ i hi
      rw [h6]
      exact rd_set hD1 _ _ i hi
    refine stp 0 M C.1 C.2 (by omega) he hd hD (fun d8 h8 => ?_)
    refine stp 4 _ _ (drE seed C.2) (by omega) (drE_le he) rfl h8 (fun d9 h9 => ?_)
    apply hP
    exact bq_t (by decide) (h _ ⟨rfl, rfl, rfl, rfl, rfl⟩ rfl rfl h9)
theorem KL.tr {M M1 M2 : MV} (h : KL M M1) (k : KL M1 M2) : KL M M2 := ⟨k.1.trans h.1, k.2.1.trans h.2.1, k.2.2.1.trans h.2.2.1, k.2.2.2.1.trans h.2.2.2.1, k.2.2.2.2.trans h.2.2.2.2⟩
theorem cutN_n (S : AS) (D : Nat → Nat) (n : Nat) : (cutN S D n).n = S.n := by
  obtain ⟨e1, e2, -⟩ := cutN_rc S D n
  show (cutN S D n).r * (cutN S D n).c = S.r * S.c
  rw [e1, e2]
theorem sp_X7_cut_130 {M : MV} {D : Nat → Nat} (hD : ∀ i, i < 96 → MV.drawn M i = nI (D i)) (h9 : ∀ i, D i ≤ 9) {k : Nat} (hk : k < 12) {Q : Int32 → MV → Prop} {K : MV → Int32 → Int32 → Int32 → Prop} (h : K M (nI k) (nI (fcA D k)) (nI (fcB D k))) : wp_X7_cut_130 Q K M (nI k) 0 0 0 := by
  intro P hP
  have step : ∀ x a b : Nat, x < 4 → P M (nI k) (nI (10 * a + D (8 * k + x))) (nI (10 * b + D (8 * k + 4 + (4 - x) % 4))) (nI (x + 1)) → P M (nI k) (nI a) (nI b) (nI x) := by
    intro x a b hx hnx
    apply hP
    unfold bd_X7_cut_130
    rw [nn_lit 8, nn_lit 4, nn_lit 10, pk_mul, nI_add, nI_add, pk_sub (by omega), nn_rem (by omega) (by omega) (by omega), nI_add, nI_clamp (by omega), nI_clamp (by omega), hD _ (by omega), hD _ (by omega), pk_mul, pk_mul, nI_add, nI_add]
    refine bq_f (fun z => by rw [nI_leI (by omega) (by omega)] at z; omega) ⟨vp_in_nI (by omega) (by omega), fun y hy => ⟨vp_in_nI (by omega) (by omega), fun y2 hy2 y3 hy3 => ?_⟩⟩
    rw [nI_1] at hy3
    subst hy hy2 hy3
    exact hnx
  exact step 0 0 0 (by omega) (step 1 _ _ (by omega) (step 2 _ _ (by omega) (step 3 _ _ (by omega) (hP _ _ _ _ _ (bq_t (by decide) h)))))
theorem sp_X7_cut {M : MV} {S : AS} {L : List AS} {B : List Nat} (hM : RM M S L B) {a b : Int32} {Q : Int32 → MV → Prop}
    (h0 : ∀ seed col : Nat, (1 ≤ seed ∧ seed ≤ 999999999) → (1 ≤ col ∧ col ≤ 9) → a = nI seed → b = nI col → ∀ M', RM M' (cutA S seed col) (pushS L S) B → MV.thrown M' = 0 → Q (nI S.n) M')
    (h1 : ¬ ((1 ≤ a ∧ a ≤ 999999999) ∧ (1 ≤ b ∧ b ≤ 9)) → ∀ M', RM M' S L B → MV.thrown M' = 1 → Q 0 M') : wp_X7_cut M a b Q := by
  have bad : ¬ ((1 ≤ a ∧ a ≤ 999999999) ∧ (1 ≤ b ∧ b ≤ 9)) → wp_X7_cut_25 Q M a b := fun e => ⟨fun z => absurd z (by decide), fun _ => h1 e _ (hM.thrown 1) rfl⟩
  unfold wp_X7_cut
  refine sp_X7_within ?_
  unfold bI
  by_cases ea : 1 ≤ a ∧ a ≤ 999999999
  · rw [if_pos ea]
    refine ⟨fun z => absurd z (by decide), fun _ => sp_X7_within ?_⟩
    unfold bI
    by_cases eb : 1 ≤ b ∧ b ≤ 9
    · rw [if_pos eb]
      refine ⟨fun z => absurd z (by decide), fun _ => ⟨fun _ => ?_, fun z => absurd (by decide) z⟩⟩
      obtain ⟨seed, s1, s2, rfl⟩ := nI_rng (a := 1) (b := 999999999) (by omega) (by omega) ea
      obtain ⟨col, c1, c2, rfl⟩ := nI_rng (a := 1) (b := 9) (by omega) (by omega) eb
      refine rm_save (hM.thrown 0) (fun M1 hM1 hth => sp_X7_emptyBoard ?_)
      have gI := hM.2.1
      have hn := gI.n12
      have g1 := hM1.1
      -- the empty board
      have hz0 : RZ (emz (MV.z M1) 12) ((S.r, S.c, S.ru, S.t, S.F, fun _ => none, fun _ => false) : AS) := by
        have e : upd (upd (MV.z M1) 0 (nI S.r)) 1 (nI S.c) = MV.z M1 := by
          funext j
          by_cases j1 : j = 1
          · rw [j1, pk_us]; exact g1.2.1.symm
          · rw [pk_un j1]
            by_cases j0 : j = 0
            · rw [j0, pk_us]; exact g1.1.symm
            · rw [pk_un j0]
        have := g1.emp S.r S.c
        rw [e] at this
        exact this
      have hJ : Inv ((S.r, S.c, S.ru, S.t, S.F, fun _ => none, fun _ => false) : AS) := gI.emp gI.1 gI.2.1
      -- the tiles
      have tiles : ∀ M2 : MV, KL M1 M2 → RZ (MV.z M2) ((S.r, S.c, S.ru, S.t, S.F, fun _ => none, fun _ => false) : AS) → (∀ i, i < 96 → MV.drawn M2 i = nI ((runC S.r S.c seed col S.n).1 i)) → ∀ z : Nat → Int32, z = upd (MV.z M2) 3 0 → wp_X7_cut_113 Q (MV.s_z M2 z) 0 := by
        intro M2 hk2 hz2 hD2 z hz P hP
        have h9 := (runC_9 (r := S.r) (c := S.c) (seed := seed) c1 c2 S.n).1
        have key : ∀ d k : Nat, k + d = S.n → ∀ zk : Nat → Int32, RZ zk (cutN S (runC S.r S.c seed col S.n).1 k) → P (MV.s_z M2 zk) (nI k) := by
          intro d
          induction d with
          | zero =>
            intro k hk zk hzk
            obtain rfl : k = S.n := by omega
            apply hP
            unfold bd_X7_cut_113
            refine sp_X7_cells (M := MV.s_z M2 zk) hzk ?_
            rw [cutN_n]
            have e3 : MV.z (MV.s_z M2 zk) 3 = nI S.n := hzk.2.2.2.1.trans (by rw [cutN_t])
            rw [e3]
            refine bq_t ((nI_leI (by omega) (by omega)).mpr (Nat.le_refl _)) ?_
            exact h0 seed col ⟨s1, s2⟩ ⟨c1, c2⟩ rfl rfl _ (hM1.kl (M' := MV.s_z M2 zk) hk2 hzk (cutN_inv gI h9 S.n hn)) (hk2.1.trans hth)
          | succ d ih =>
            intro k hk zk hzk
            apply hP
            unfold bd_X7_cut_113
            refine sp_X7_cells (M := MV.s_z M2 zk) hzk ?_
            rw [cutN_n]
            refine bq_f (fun y => by rw [nI_leI (by omega) (by omega)] at y; omega) (sp_X7_cut_130 (M := MV.s_z M2 zk) (D := (runC S.r S.c seed col S.n).1) hD2 h9 (by omega) ?_)
            refine sp_X7_bring (S := cutN S (runC S.r S.c seed col S.n).1 k) hzk (by rw [cutN_t]; omega) (fun z' hz' y hy => ?_)
            rw [nI_1] at hy
            subst hy
            exact ih (k + 1) (by omega) z' hz'
        refine key S.n 0 (by omega) z ?_
        obtain ⟨k0, k1, k2, k3, k4, k5, k6⟩ := hz2
        rw [hz]
        refine ⟨?_, ?_, ?_, ?_, fun i hi => ?_, fun i hi => ?_, fun i hi => ?_⟩
        · rw [pk_un (by omega)]; exact k0
        · rw [pk_un (by omega)]; exact k1
        · rw [pk_un (by omega)]; exact k2
        · rw [pk_us]; rfl
        · rw [pk_un (by omega)]; exact k4 i hi
        · rw [pk_un (by omega)]; exact k5 i hi
        · rw [pk_un (by omega)]; exact k6 i hi
      -- the draws
      have draws : ∀ M2 : MV, KL M1 M2 → RZ (MV.z M2) ((S.r, S.c, S.ru, S.t, S.F, fun _ => none, fun _ => false) : AS) → MV.digits M2 = nI 0 → (∀ i, i < 96 → MV.drawn M2 i = nI 0) → wp_X7_cut_74 Q (fun (vM_17 : MV) => ∀ z_18 : Nat → Int32, z_18 = upd (MV.z vM_17) 3 0 → wp_X7_cut_113 Q (MV.s_z vM_17 z_18) 0) M2 (nI seed) (nI col) 0 := by
        intro M2 hk2 hz2 hd2 hD2 P hP
        have key : ∀ d k : Nat, k + d = S.n → ∀ M3 : MV, KL M1 M3 → RZ (MV.z M3) ((S.r, S.c, S.ru, S.t, S.F, fun _ => none, fun _ => false) : AS) → MV.digits M3 = nI (runC S.r S.c seed col k).2 → (∀ i, i < 96 → MV.drawn M3 i = nI ((runC S.r S.c seed col k).1 i)) → P M3 (nI seed) (nI col) (nI k) := by
          intro d
          induction d with
          | zero =>
            intro k hk M3 k1 k2 k3 k4
            obtain rfl : k = S.n := by omega
            apply hP
            unfold bd_X7_cut_74
            exact sp_X7_cells k2 (bq_t ((nI_leI (a := S.n) (b := S.n) (by omega) (by omega)).mpr (Nat.le_refl _)) (tiles M3 k1 k2 k4))
          | succ d ih =>
            intro k hk M3 k1 k2 k3 k4
            have h9 := runC_9 (r := S.r) (c := S.c) (seed := seed) c1 c2 k
            have h9' := sideS_9 (r := S.r) (c := S.c) (k := k) (s := 1) c1 c2 h9.1 h9.2
            have hkn : k < AS.n ((S.r, S.c, S.ru, S.t, S.F, fun _ => none, fun _ => false) : AS) := by
              show k < S.n
              omega
            apply hP
            unfold bd_X7_cut_74
            refine sp_X7_cells k2 (bq_f (fun y => by
              have y : nI S.n ≤ nI k := y
              rw [nI_leI (by omega) (by omega)] at y; omega) ?_)
            refine sp_X7_drawSide (s := 1) (C := runC S.r S.c seed col k) k2 hJ hkn (by omega) s2 c1 c2 h9.2 k3 k4 (fun M4 l1 l2 l3 l4 => ?_)
            refine sp_X7_drawSide (s := 2) (C := sideS S.r S.c seed col k 1 (runC S.r S.c seed col k)) (by rw [l2]; exact k2) hJ hkn (by omega) s2 c1 c2 h9'.2 l3 l4 (fun M5 m1 m2 m3 m4 y hy => ?_)
            rw [nI_1] at hy
            subst hy
            exact ih (k + 1) (by omega) M5 ((k1.tr l1).tr m1) (by rw [m2, l2]; exact k2) m3 m4
        exact key S.n 0 (by omega) M2 hk2 hz2 hd2 hD2
      -- the drawn colors begin as 0
      intro P hP
      have key : ∀ d i : Nat, i + d = 96 → ∀ dr : Nat → Int32, (∀ j, j < i → dr j = 0) → P (MV.s_drawn (MV.s_digits (MV.s_z M1 (emz (MV.z M1) 12)) 0) dr) (nI seed) (nI col) (nI i) := by
        intro d
        induction d with
        | zero =>
          intro i hi dr hdr
          obtain rfl : i = 96 := by omega
          apply hP
          unfold bd_X7_cut_53
          exact bq_t (by decide) (draws _ ⟨rfl, rfl, rfl, rfl, rfl⟩ hz0 rfl hdr)
        | succ d ih =>
          intro i hi dr hdr
          apply hP
          unfold bd_X7_cut_53
          refine bq_f (fun z => by rw [nn_lit 96, nI_leI (by omega) (by omega)] at z; omega) ⟨vp_in_nI (by omega) (by omega), fun d5 h5 y hy => ?_⟩
          rw [nI_clamp (by omega)] at h5
          rw [nI_1] at hy
          subst hy
          refine ih (i + 1) (by omega) d5 (fun j hj => ?_)
          rw [h5]
          by_cases e : j = i
          · rw [e, pk_us]
          · rw [pk_un e]; exact hdr j (by omega)
      exact key 96 0 rfl (MV.drawn M1) (fun j hj => absurd hj (Nat.not_lt_zero j))
    · rw [if_neg eb]
      exact ⟨fun _ => bad (fun z => eb z.2), fun z => absurd rfl z⟩
  · rw [if_neg ea]
    exact ⟨fun _ => bad (fun z => ea z.1), fun z => absurd rfl z⟩
