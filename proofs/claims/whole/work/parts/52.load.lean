/-! load, on both sides -/
theorem fwr_all : ∀ (B : List Nat) (k : Nat), fwr B k = k + B.length → ∀ i, i < B.length → rightC (k + i) (B.getD i 48) = true
  | [], k, _, i, hi => absurd hi (Nat.not_lt_zero i)
  | c :: cs, k, h, i, hi => by
    have h : (if rightC k c = true then fwr cs (k + 1) else k) = k + (cs.length + 1) := h
    by_cases e : rightC k c = true
    · rw [if_pos e] at h
      cases i with
      | zero => exact e
      | succ i =>
        have hi : i + 1 < cs.length + 1 := hi
        have g := fwr_all cs (k + 1) (by omega) i (by omega)
        rw [show k + 1 + i = k + (i + 1) by omega] at g
        exact g
    · rw [if_neg e] at h
      omega
theorem right_all {B : List Nat} (h : fwB B = B.length) {i : Nat} (hi : i < B.length) : rightC i (B.getD i 48) = true := by
  have g := fwr_all B 0 (by rw [Nat.zero_add]; exact h) i hi
  rw [Nat.zero_add] at g
  exact g
theorem right_dig {B : List Nat} (h : fwB B = B.length) {i : Nat} (hi : i < B.length) (h5 : i % 5 ≠ 4) : 48 ≤ B.getD i 48 ∧ B.getD i 48 ≤ 57 := by
  have g := right_all h hi
  unfold rightC at g
  rw [if_neg (by omega), if_neg (by omega)] at g
  exact of_decide_eq_true g
theorem pv_4 (B : List Nat) (m : Nat) : pv B m 4 = 10 * (10 * (10 * (10 * 0 + (B.getD (5 * m + 0) 48 - 48)) + (B.getD (5 * m + 1) 48 - 48)) + (B.getD (5 * m + 2) 48 - 48)) + (B.getD (5 * m + 3) 48 - 48) := rfl
theorem pv_le {B : List Nat} (h : fwB B = B.length) {m : Nat} (hm : 5 * m + 4 ≤ B.length) : pv B m 4 ≤ 9999 := by
  have g0 := right_dig h (i := 5 * m + 0) (by omega) (by omega)
  have g1 := right_dig h (i := 5 * m + 1) (by omega) (by omega)
  have g2 := right_dig h (i := 5 * m + 2) (by omega) (by omega)
  have g3 := right_dig h (i := 5 * m + 3) (by omega) (by omega)
  rw [pv_4]
  omega
/-- the first n tiles of the text are added -/
def addN (S : AS) (B : List Nat) : Nat → AS
  | 0 => S
  | n + 1 => addF (addN S B n) (pv B (2 * n) 4) (pv B (2 * n + 1) 4)
theorem addN_t (S : AS) (B : List Nat) : ∀ n, (addN S B n).t = S.t + n
  | 0 => rfl
  | n + 1 => by
    show (addN S B n).t + 1 = _
    rw [addN_t S B n]
    rfl
theorem addN_inv {S : AS} (hI : Inv S) {B : List Nat} (h : fwB B = B.length) : ∀ n, 10 * n ≤ B.length + 1 → S.t + n ≤ 12 → Inv (addN S B n)
  | 0, _, _ => hI
  | n + 1, hn, ht => (addN_inv hI h n (by omega) (by omega)).addF (by rw [addN_t]; omega) (pv_le h (by omega)) (pv_le h (by omega))
theorem sp_X5_faceTold {v : TV} {B : List Nat} (hT : RTc v B) (hw : fwB B = B.length) {n f : Nat} (hf : f < 2) (hn : 10 * n + 10 ≤ B.length + 1) {Q : Int32 → TV → Prop} (h : Q (nI (pv B (2 * n + f) 4)) v) : wp_X5_faceTold v (nI n) (nI f) Q := by
  have h60 := hT.2.1
  intro x3 hx3
  rw [nn_lit 10, nn_lit 5, pk_mul, pk_mul, nI_add, show 10 * n + 5 * f = 5 * (2 * n + f) by omega] at hx3
  subst hx3
  intro P hP
  have step : ∀ j x : Nat, j < 4 → x ≤ 9999 → P v (nI (5 * (2 * n + f))) (nI (10 * x + (B.getD (5 * (2 * n + f) + j) 48 - 48))) (nI (5 * (2 * n + f) + (j + 1))) → P v (nI (5 * (2 * n + f))) (nI x) (nI (5 * (2 * n + f) + j)) := by
    intro j x hj hx hnx
    obtain ⟨hc, -, -⟩ := tv_at hT (i := 5 * (2 * n + f) + j) (by omega)
    have hd := right_dig hw (i := 5 * (2 * n + f) + j) (by omega) (by omega)
    apply hP
    unfold bd_X5_faceTold_15
    rw [nn_lit 4, nI_add, hT.1, nI_clamp (by omega), hc]
    refine bq_f (fun z => by rw [nI_leI (by omega) (by omega)] at z; omega) (bq_f (fun z => by rw [nI_leI (by omega) (by omega)] at z; omega) ⟨vp_in_nI (by omega) (by omega), fun y hy y2 hy2 => ?_⟩)
    rw [nn_lit 10, pk_mul, nI_add, nn_lit 48, nI_sub (by omega), show 10 * x + B.getD (5 * (2 * n + f) + j) 48 - 48 = 10 * x + (B.getD (5 * (2 * n + f) + j) 48 - 48) by omega] at hy
    rw [nI_1] at hy2
    subst hy hy2
    exact hnx
  have g0 := right_dig hw (i := 5 * (2 * n + f) + 0) (by omega) (by omega)
  have g1 := right_dig hw (i := 5 * (2 * n + f) + 1) (by omega) (by omega)
  have g2 := right_dig hw (i := 5 * (2 * n + f) + 2) (by omega) (by omega)
  refine step 0 0 (by omega) (by omega) (step 1 _ (by omega) (by omega) (step 2 _ (by omega) (by omega) (step 3 _ (by omega) (by omega) (hP _ _ _ _ ?_))))
  unfold bd_X5_faceTold_15
  rw [nn_lit 4, nI_add]
  refine bq_t ((nI_leI (by omega) (by omega)).mpr (Nat.le_refl _)) ?_
  rw [pv_4] at h
  exact h
theorem sp_X6_load {v : XV} {S : AS} {L : List AS} {B : List Nat} (hX : RX v S L B) {Q : Int32 → XV → Prop} {XQ : String → XV → Prop}
    (h0 : fwB B = B.length → B.length % 10 = 9 → S.t + (B.length + 1) / 10 ≤ 12 → ∀ v', RX v' (addN S B ((B.length + 1) / 10)) (pushS L S) [] → Q (nI (S.t + (B.length + 1) / 10)) v')
    (h1 : ¬ (fwB B = B.length ∧ B.length % 10 = 9) → XQ "java/lang/IllegalArgumentException" v)
    (h2 : fwB B = B.length → B.length % 10 = 9 → ¬ S.t + (B.length + 1) / 10 ≤ 12 → XQ "java/lang/IllegalStateException" v) : wp_X6_load v Q XQ := by
  have hI := hX.2.1
  have ht := hI.2.2.2.1
  have hT := hX.2.2.2.2
  have h60 := hT.2.1
  unfold wp_X6_load
  refine sp_X5_isComplete hT (fun e1 e2 => bn_f (by decide) ?_) (fun e => bn_t rfl (h1 e))
  refine sp_X5_tilesTold hT ?_
  have et : BV.tiles (XV.board v) = nI S.t := hX.1.1.2.2.2
  rw [et, nI_add]
  refine ek_if (nI_leI (b := 12) (by omega) (by omega)) (fun e => ?_) (fun e => h2 e1 e2 e)
  refine rx_save hX (fun vH hH P hP => ?_)
  have key : ∀ d n : Nat, n + d = (B.length + 1) / 10 → ∀ w : XV, RB (XV.board w) (addN S B n) → XV.history w = vH → XV.text w = XV.text v → P w (nI n) := by
    intro d
    induction d with
    | zero =>
      intro n hn w hB e3 e4
      obtain rfl : n = (B.length + 1) / 10 := by omega
      have hTw : RTc (XV.text w) B := by rw [e4]; exact hT
      apply hP
      unfold bd_X6_load_63
      refine sp_X5_tilesTold hTw (bq_t ((nI_leI (by omega) (by omega)).mpr (Nat.le_refl _)) ?_)
      have ew : BV.tiles (XV.board w) = nI (S.t + (B.length + 1) / 10) := by
        have := hB.1.2.2.2
        rw [addN_t] at this
        exact this
      have g := h0 e1 e2 e (XV.s_text w (TV.s_length (XV.text w) 0)) ⟨hB, addN_inv hI e1 _ (by omega) e, by rw [show XV.history (XV.s_text w (TV.s_length (XV.text w) 0)) = vH from e3]; exact hH, pushS_inv hX.2.2.2.1 hI, ⟨rfl, Nat.zero_le _, fun i c hi => (nomatch hi), fun c hc => (nomatch hc)⟩⟩
      rw [← ew] at g
      exact g
    | succ d ih =>
      intro n hn w hB e3 e4
      have hTw : RTc (XV.text w) B := by rw [e4]; exact hT
      have hJ := addN_inv hI e1 n (by omega) (by omega)
      apply hP
      unfold bd_X6_load_63
      refine sp_X5_tilesTold hTw (bq_f (fun z => by rw [nI_leI (by omega) (by omega)] at z; omega) ?_)
      refine sp_X5_faceTold (f := 0) hTw e1 (by omega) (by omega) (sp_X5_faceTold (f := 1) hTw e1 (by omega) (by omega) ?_)
      refine sp_X0_addFaces hB hJ (by rw [addN_t]; omega) (pv_le e1 (by omega)) (pv_le e1 (by omega)) (fun vB hvB y hy => ?_)
      rw [nI_1] at hy
      subst hy
      exact ih (n + 1) (by omega) _ hvB e3 e4
  exact key ((B.length + 1) / 10) 0 (by omega) _ hX.1 rfl rfl
theorem sp_X7_load {M : MV} {S : AS} {L : List AS} {B : List Nat} (hM : RM M S L B) (h33 : ∀ c ∈ B, 33 ≤ c ∧ c ≤ 126) {Q : Int32 → MV → Prop}
    (h0 : fwB B = B.length → B.length % 10 = 9 → S.t + (B.length + 1) / 10 ≤ 12 → ∀ M', RM M' (addN S B ((B.length + 1) / 10)) (pushS L S) [] → MV.thrown M' = 0 → Q (nI (S.t + (B.length + 1) / 10)) M')
    (h1 : ¬ (fwB B = B.length ∧ B.length % 10 = 9) → ∀ M', RM M' S L B → MV.thrown M' = 1 → Q 0 M')
    (h2 : fwB B = B.length → B.length % 10 = 9 → ¬ S.t + (B.length + 1) / 10 ≤ 12 → ∀ M', RM M' S L B → MV.thrown M' = 2 → Q 0 M') : wp_X7_load M Q := by
  have hM0 := hM
  obtain ⟨gz, gI, gH, gL, gT⟩ := hM
  have ht := gI.2.2.2.1
  have h60 := gT.2.1
  have hle := fwB_le B
  unfold wp_X7_load
  refine sp_X7_readText gT h33 (fun x f hr => ?_)
  have hlen : MV.length (MV.s_read (MV.s_numbers M x) f) = nI B.length := gT.1
  have hM1 : RM (MV.s_read (MV.s_numbers M x) f) S L B := hM0
  have bad : ¬ (fwB B = B.length ∧ B.length % 10 = 9) → wp_X7_load_27 Q (MV.s_read (MV.s_numbers M x) f) := fun e => bn_t rfl ⟨fun z => absurd z (by decide), fun _ => h1 e _ (hM1.thrown 1) rfl⟩
  rw [hlen]
  refine bn_if (nI_eq (by omega) (by omega)) (fun e1 => ?_) (fun e1 => bad (fun z => e1 z.1))
  rw [nn_lit 10, nn_rem (by omega) (by omega) (by omega)]
  refine bn_if (nI_eq (b := 9) (by omega) (by omega)) (fun e2 => ?_) (fun e2 => bad (fun z => e2 z.2))
  obtain ⟨r1, r2⟩ := hr e1
  have ex : x = nI (2 * ((B.length + 1) / 10)) := by rw [r1, show (B.length + 4) / 5 = 2 * ((B.length + 1) / 10) by omega]
  have er : ∀ m, m < 2 * ((B.length + 1) / 10) → f m = nI (pv B m 4) := fun m hm => by
    rw [r2 m (by omega), show min 4 (B.length - 5 * m) = 4 by omega]
  have e3 : MV.z (MV.s_read (MV.s_numbers M x) f) 3 = nI S.t := gz.2.2.2.1
  refine bn_f (by decide) ?_
  rw [e3, show MV.numbers (MV.s_read (MV.s_numbers M x) f) = nI (2 * ((B.length + 1) / 10)) from ex, nn_lit 2, pk_div (by omega) (by omega) (by omega), nI_add, show 2 * ((B.length + 1) / 10) / 2 = (B.length + 1) / 10 by omega]
  refine ek_if (nI_leI (b := 12) (by omega) (by omega)) (fun e => ⟨fun _ => ?_, fun z => absurd (by decide) z⟩) (fun e => ⟨fun z => absurd z (by decide), fun _ => h2 e1 e2 e _ (hM1.thrown 2) rfl⟩)
  refine sp_X7_save (M := MV.s_thrown (MV.s_read (MV.s_numbers M x) f) 0) (S := S) (L := L) gz gH (fun sf sx hh P hP => ?_)
  have key : ∀ d n : Nat, n + d = (B.length + 1) / 10 → ∀ z : Nat → Int32, RZ z (addN S B n) → P (MV.s_z (MV.s_saves (MV.s_saved (MV.s_thrown (MV.s_read (MV.s_numbers M x) f) 0) sf) sx) z) (nI (2 * n)) := by
    intro d
    induction d with
    | zero =>
      intro n hn z hz
      obtain rfl : n = (B.length + 1) / 10 := by omega
      apply hP
      unfold bd_X7_load_79
      rw [show MV.numbers (MV.s_z (MV.s_saves (MV.s_saved (MV.s_thrown (MV.s_read (MV.s_numbers M x) f) 0) sf) sx) z) = nI (2 * ((B.length + 1) / 10)) from ex]
      refine bq_t ((nI_leI (by omega) (by omega)).mpr (Nat.le_refl _)) ?_
      have g := h0 e1 e2 e (MV.s_length (MV.s_z (MV.s_saves (MV.s_saved (MV.s_thrown (MV.s_read (MV.s_numbers M x) f) 0) sf) sx) z) 0) ⟨hz, addN_inv gI e1 _ (by omega) e, hh, pushS_inv gL gI, ⟨rfl, Nat.zero_le _, fun i c hi => (nomatch hi)⟩⟩ rfl
      have e9 : z 3 = nI (S.t + (B.length + 1) / 10) := by
        have := hz.2.2.2.1
        rw [addN_t] at this
        exact this
      rw [← e9] at g
      exact g
    | succ d ih =>
      intro n hn z hz
      apply hP
      unfold bd_X7_load_79
      rw [show MV.numbers (MV.s_z (MV.s_saves (MV.s_saved (MV.s_thrown (MV.s_read (MV.s_numbers M x) f) 0) sf) sx) z) = nI (2 * ((B.length + 1) / 10)) from ex]
      refine bq_f (fun y => by rw [nI_leI (by omega) (by omega)] at y; omega) ?_
      rw [nI_1, nI_clamp (by omega), nI_clamp (by omega), show MV.read (MV.s_z (MV.s_saves (MV.s_saved (MV.s_thrown (MV.s_read (MV.s_numbers M x) f) 0) sf) sx) z) = f from rfl, er (2 * n) (by omega), er (2 * n + 1) (by omega)]
      refine ⟨vp_in_nI (by omega) (by omega), vp_in_nI (by omega) (by omega), ?_⟩
      refine sp_X7_bring (S := addN S B n) hz (by rw [addN_t]; omega) (fun z' hz' y hy => ?_)
      rw [nn_lit 2, nI_add, show 2 * n + 2 = 2 * (n + 1) by omega] at hy
      subst hy
      exact ih (n + 1) (by omega) z' hz'
  exact key ((B.length + 1) / 10) 0 (by omega) (MV.z M) gz
