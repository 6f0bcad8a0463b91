/-! digest, on both sides -/
def hN (f : Nat → Int32) : Nat → Int64 → Int64
  | 0, h => h
  | n + 1, h => (31 * hN f n h) + Int32.toInt64 (f n)
theorem hN_0 (f : Nat → Int32) (h : Int64) : hN f 0 h = h := rfl
theorem hN_s (f : Nat → Int32) (n : Nat) (h : Int64) : hN f (n + 1) h = (31 * hN f n h) + Int32.toInt64 (f n) := rfl
theorem hN_congr {f g : Nat → Int32} : ∀ (n : Nat) (h : Int64), (∀ k, k < n → f k = g k) → hN f n h = hN g n h
  | 0, _, _ => rfl
  | n + 1, h, e => by rw [hN_s, hN_s, hN_congr n h (fun k hk => e k (by omega)), e n (by omega)]
def colF (S : AS) (k s : Nat) : Int32 := colV S k (s % 4) (decide (3 < s))
def tilF (S : AS) (k : Nat) : Int32 := tileV S (k / 4) (k % 4)
def hCell (S : AS) (k : Nat) (h : Int64) : Int64 := hN (colF S k) 8 (hN (cellV S k) 4 h)
def hCs (S : AS) : Nat → Int64 → Int64
  | 0, h => h
  | k + 1, h => hCell S k (hCs S k h)
def dg1 (S : AS) (l : Nat) : Int64 := hN (fun w => nI (cntV S l w)) 10 2137
def dg2 (S : AS) (l : Nat) : Int64 := hCs S S.n (dg1 S l)
def dg3 (S : AS) (l : Nat) : Int64 := hN (tilF S) (4 * S.t) (dg2 S l)
def dg4 (S : AS) (l : Nat) : Int64 := hN (fun w => nI (srV S 3 w)) 3 (dg3 S l)
def dg5 (S : AS) (l : Nat) : Int64 := (31 * dg4 S l) + Int32.toInt64 (hintV S)
def dg6 (S : AS) (l : Nat) : Int64 := (31 * dg5 S l) + UInt64.toInt64 (fitV S)
def dg7 (S : AS) (l : Nat) (B : List Nat) : Int64 := (31 * dg6 S l) + Int32.toInt64 (nI B.length)
def dgA (S : AS) (l : Nat) (B : List Nat) : Int64 := hN (fun i => nI (B.getD i 48)) B.length (dg7 S l B)
theorem rt_at {M : MV} {B : List Nat} (hT : RT M B) {i : Nat} (hi : i < B.length) : MV.text M i = nI (B.getD i 48) := by
  have e : B[i]? = some (B.getD i 48) := by
    rw [List.getD_eq_getElem?_getD, List.getElem?_eq_getElem hi]
    rfl
  exact hT.2.2 i _ e
/-- a state of the reference in the midst of its digest -/
def RD (M : MV) (S : AS) (L : List AS) (B : List Nat) (h : Int64) : Prop := RM M S L B ∧ MV.thrown M = 0 ∧ MV.h M = h
theorem sp_mix {M : MV} {S : AS} {L : List AS} {B : List Nat} {h0 p : Int64} (hM : RD M S L B h0) {Q : MV → Prop} (h : ∀ M', RD M' S L B ((31 * h0) + p) → Q M') : wp_X7_mix M p Q := by
  intro f hf
  obtain ⟨h1, h2, h3⟩ := hM
  rw [h3] at hf
  exact h _ ⟨h1, h2, hf⟩
theorem sp_X7_mixCell {M : MV} {S : AS} {L : List AS} {B : List Nat} {h0 : Int64} (hM : RD M S L B h0) {k : Nat} (hk : k < S.n) {Q : MV → Prop} (h : ∀ M', RD M' S L B (hCell S k h0) → Q M') : wp_X7_mixCell M (nI k) Q := by
  have hI := hM.1.2.1
  unfold wp_X7_mixCell
  have snd : ∀ M1 : MV, RD M1 S L B (hN (cellV S k) 4 h0) → wp_X7_mixCell_26 Q M1 (nI k) 0 := by
    intro M1 hM1 P hP
    have key : ∀ d s : Nat, s + d = 8 → ∀ M2 : MV, RD M2 S L B (hN (colF S k) s (hN (cellV S k) 4 h0)) → P M2 (nI k) (nI s) := by
      intro d
      induction d with
      | zero =>
        intro s hs M2 hM2
        obtain rfl : s = 8 := by omega
        exact hP _ _ _ (bq_t (by decide) (h M2 hM2))
      | succ d ih =>
        intro s hs M2 hM2
        have go : ∀ b : Bool, b = decide (3 < s) → wp_X7_mixCell_48 P Q M2 (nI k) (nI s) (nI k) (jrem (nI s) 4) (nI b.toNat) := by
          intro b hb
          unfold wp_X7_mixCell_48
          rw [nn_lit 4, nn_rem (by omega) (by omega) (by omega)]
          refine sp_X7_colorNow hM2.1.1 hI hk (by omega) b (sp_mix hM2 (fun M3 hM3 y hy => ?_))
          rw [nI_1] at hy
          subst hy
          refine ih (s + 1) (by omega) M3 ?_
          rw [hN_s]
          unfold colF
          rw [← hb]
          exact hM3
        apply hP
        unfold bd_X7_mixCell_26
        refine bq_f (fun z => by rw [nn_lit 8, nI_leI (by omega) (by omega)] at z; omega) ?_
        refine ek_if (nI_leI (b := 3) (by omega) (by omega)) (fun e => go false ?_) (fun e => go true ?_)
        · exact (decide_eq_false (by omega)).symm
        · exact (decide_eq_true (by omega)).symm
    exact key 8 0 rfl M1 hM1
  intro P hP
  have key : ∀ d w : Nat, w + d = 4 → ∀ M2 : MV, RD M2 S L B (hN (cellV S k) w h0) → P M2 (nI k) (nI w) := by
    intro d
    induction d with
    | zero =>
      intro w hw M2 hM2
      obtain rfl : w = 4 := by omega
      exact hP _ _ _ (bq_t (by decide) (snd M2 hM2))
    | succ d ih =>
      intro w hw M2 hM2
      apply hP
      unfold bd_X7_mixCell_2
      refine bq_f (fun z => by rw [nn_lit 4, nI_leI (by omega) (by omega)] at z; omega) (sp_X7_cellNow hM2.1.1 hI hk (by omega) (sp_mix hM2 (fun M3 hM3 y hy => ?_)))
      rw [nI_1] at hy
      subst hy
      exact ih (w + 1) (by omega) M3 hM3
  exact key 4 0 rfl M hM
theorem d7_buf {M : MV} {S : AS} {L : List AS} {B : List Nat} (hM : RM M S L B) {Q : Int64 → MV → Prop} (h : ∀ M', RM M' S L B → MV.thrown M' = 0 → Q (dgA S L.length B) M') : ∀ M1 : MV, RD M1 S L B (dg7 S L.length B) → wp_X7_digest_147 Q M1 0 := by
  have hI := hM.2.1
  have hn := hI.n12
  have ht := hI.2.2.2.1
  have h60 := hM.2.2.2.2.2.1
  have hgo := fitV_go hI
  intro M1 hM1 P hP
  have key : ∀ d i : Nat, i + d = B.length → ∀ M2 : MV, RD M2 S L B (hN (fun i => nI (B.getD i 48)) i (dg7 S L.length B)) → P M2 (nI i) := by
    intro d
    induction d with
    | zero =>
      intro i hi M2 hM2
      obtain rfl : i = B.length := by omega
      apply hP
      unfold bd_X7_digest_147
      rw [hM2.1.2.2.2.2.1, hM2.2.2]
      exact bq_t ((nI_leI (by omega) (by omega)).mpr (Nat.le_refl _)) (h M2 hM2.1 hM2.2.1)
    | succ d ih =>
      intro i hi M2 hM2
      apply hP
      unfold bd_X7_digest_147
      rw [hM2.1.2.2.2.2.1, nI_clamp (by omega), rt_at hM2.1.2.2.2.2 (by omega)]
      refine bq_f (fun z => by rw [nI_leI (by omega) (by omega)] at z; omega) ⟨vp_in_nI (by omega) (by omega), sp_mix hM2 (fun M3 hM3 y hy => ?_)⟩
      rw [nI_1] at hy
      subst hy
      exact ih (i + 1) (by omega) M3 hM3
  exact key B.length 0 (by omega) M1 hM1
theorem d7_rest {M : MV} {S : AS} {L : List AS} {B : List Nat} (hM : RM M S L B) {Q : Int64 → MV → Prop} (h : ∀ M', RM M' S L B → MV.thrown M' = 0 → Q (dgA S L.length B) M') : ∀ M1 : MV, RD M1 S L B (dg4 S L.length) → wp_X7_hintNow M1 (fun (r_26 : Int32) (vM_25 : MV) => wp_X7_mix vM_25 (Int32.toInt64 r_26) (fun (vM_27 : MV) => wp_X7_fittingNow vM_27 (fun (r_29 : UInt64) (vM_28 : MV) => wp_Jxe99ae_doubleToLongBits_ccdee r_29 (fun (r_30 : Int64) => wp_X7_mix vM_28 r_30 (fun (vM_31 : MV) => wp_X7_mix vM_31 (Int32.toInt64 (MV.length vM_31)) (fun (vM_32 : MV) => wp_X7_digest_147 Q vM_32 0)))))) := by
  have hI := hM.2.1
  have hn := hI.n12
  have ht := hI.2.2.2.1
  have h60 := hM.2.2.2.2.2.1
  have hgo := fitV_go hI
  have buf := d7_buf hM h
  intro M1 hM1
  refine sp_X7_hintNow hM1.1.1 hI (sp_mix hM1 (fun M2 hM2 => sp_X7_fittingNow hM2.1.1 hI (sp_dtlb hgo (sp_mix hM2 (fun M3 hM3 => ?_)))))
  rw [hM3.1.2.2.2.2.1]
  exact sp_mix hM3 (fun M4 hM4 => buf M4 hM4)
theorem d7_srs {S : AS} {L : List AS} {B : List Nat} {Q : Int64 → MV → Prop} (K : MV → Prop) (hK : ∀ M1, RD M1 S L B (dg4 S L.length) → K M1) : ∀ M1 : MV, RD M1 S L B (dg3 S L.length) → wp_X7_digest_94 Q K M1 0 := by
  intro M1 hM1 P hP
  have key : ∀ d w : Nat, w + d = 3 → ∀ M2 : MV, RD M2 S L B (hN (fun w => nI (srV S 3 w)) w (dg3 S L.length)) → P M2 (nI w) := by
    intro d
    induction d with
    | zero =>
      intro w hw M2 hM2
      obtain rfl : w = 3 := by omega
      exact hP _ _ (bq_t (by decide) (hK M2 hM2))
    | succ d ih =>
      intro w hw M2 hM2
      apply hP
      unfold bd_X7_digest_94
      refine bq_f (fun z => by rw [nn_lit 3, nI_leI (by omega) (by omega)] at z; omega) (sp_X7_searched (most := 3) hM2.1 (by omega) (by omega) (by omega) (fun M3 hk hM3 => ?_))
      refine sp_mix (h0 := hN (fun w => nI (srV S 3 w)) w (dg3 S L.length)) ⟨hM3, hk.1.trans hM2.2.1, hk.2.2.2.2.2.2.trans hM2.2.2⟩ (fun M4 hM4 y hy => ?_)
      rw [nI_1] at hy
      subst hy
      exact ih (w + 1) (by omega) M4 hM4
  exact key 3 0 rfl M1 (by rw [hN_0]; exact hM1)
theorem sp_X7_digest {M : MV} {S : AS} {L : List AS} {B : List Nat} (hM : RM M S L B) {Q : Int64 → MV → Prop} (h : ∀ M', RM M' S L B → MV.thrown M' = 0 → Q (dgA S L.length B) M') : wp_X7_digest M Q := by
  have hI := hM.2.1
  have hn := hI.n12
  have ht := hI.2.2.2.1
  have h60 := hM.2.2.2.2.2.1
  have hgo := fitV_go hI
  have buf := d7_buf hM h
  have rest := d7_rest hM h
  unfold wp_X7_digest
  -- the buffer
  -- what stands behind the searches
  -- the searches
  -- the tiles
  have tls : ∀ (K : MV → Prop), (∀ M1, RD M1 S L B (dg3 S L.length) → K M1) → ∀ M1 : MV, RD M1 S L B (dg2 S L.length) → wp_X7_digest_59 Q K M1 0 := by
    intro K hK M1 hM1 P hP
    have key : ∀ d k : Nat, k + d = 4 * S.t → ∀ M2 : MV, RD M2 S L B (hN (tilF S) k (dg2 S L.length)) → P M2 (nI k) := by
      intro d
      induction d with
      | zero =>
        intro k hk M2 hM2
        obtain rfl : k = 4 * S.t := by omega
        apply hP
        unfold bd_X7_digest_59
        rw [hM2.1.1.2.2.2.1, nn_lit 4, pk_mul]
        exact bq_t ((nI_leI (by omega) (by omega)).mpr (Nat.le_refl _)) (hK M2 hM2)
      | succ d ih =>
        intro k hk M2 hM2
        apply hP
        unfold bd_X7_digest_59
        rw [hM2.1.1.2.2.2.1, nn_lit 4, pk_mul, pk_div (by omega) (by omega) (by omega), nn_rem (by omega) (by omega) (by omega)]
        refine bq_f (fun z => by rw [nI_leI (by omega) (by omega)] at z; omega) (sp_X7_tileNow hM2.1.1 hI (by omega) (by omega) (sp_mix hM2 (fun M3 hM3 y hy => ?_)))
        rw [nI_1] at hy
        subst hy
        exact ih (k + 1) (by omega) M3 hM3
    exact key (4 * S.t) 0 (by omega) M1 hM1
  -- the cells
  have cls : ∀ (K : MV → Prop), (∀ M1, RD M1 S L B (dg2 S L.length) → K M1) → ∀ M1 : MV, RD M1 S L B (dg1 S L.length) → wp_X7_digest_38 Q K M1 0 := by
    intro K hK M1 hM1 P hP
    have key : ∀ d k : Nat, k + d = S.n → ∀ M2 : MV, RD M2 S L B (hCs S k (dg1 S L.length)) → P M2 (nI k) := by
      intro d
      induction d with
      | zero =>
        intro k hk M2 hM2
        obtain rfl : k = S.n := by omega
        apply hP
        unfold bd_X7_digest_38
        exact sp_X7_cells hM2.1.1 (bq_t ((nI_leI (by omega) (by omega)).mpr (Nat.le_refl _)) (hK M2 hM2))
      | succ d ih =>
        intro k hk M2 hM2
        apply hP
        unfold bd_X7_digest_38
        refine sp_X7_cells hM2.1.1 (bq_f (fun z => by rw [nI_leI (by omega) (by omega)] at z; omega) (sp_X7_mixCell hM2 (by omega) (fun M3 hM3 y hy => ?_)))
        rw [nI_1] at hy
        subst hy
        exact ih (k + 1) (by omega) M3 hM3
    exact key S.n 0 (by omega) M1 hM1
  intro P hP
  have key : ∀ d w : Nat, w + d = 10 → ∀ M2 : MV, RD M2 S L B (hN (fun w => nI (cntV S L.length w)) w 2137) → P M2 (nI w) := by
    intro d
    induction d with
    | zero =>
      intro w hw M2 hM2
      obtain rfl : w = 10 := by omega
      exact hP _ _ (bq_t (by decide) (cls _ (fun M3 hM3 => tls _ (fun M4 hM4 => d7_srs _ (fun M5 hM5 => rest M5 hM5) M4 hM4) M3 hM3) M2 hM2))
    | succ d ih =>
      intro w hw M2 hM2
      apply hP
      unfold bd_X7_digest_14
      refine bq_f (fun z => by rw [nn_lit 10, nI_leI (by omega) (by omega)] at z; omega) (sp_X7_counted hM2.1 (by omega) (sp_mix hM2 (fun M3 hM3 y hy => ?_)))
      rw [nI_1] at hy
      subst hy
      exact ih (w + 1) (by omega) M3 hM3
  exact key 10 0 rfl _ ⟨hM, rfl, rfl⟩
theorem sp_X6_hashCells {v : XV} {S : AS} {L : List AS} {B : List Nat} (hX : RX v S L B) {h0 : Int64} {Q : Int64 → XV → Prop} (h : ∀ v', RX v' S L B → Q (hCs S S.n h0) v') : wp_X6_hashCells v h0 Q := by
  have hI := hX.2.1
  have hn := hI.n12
  unfold wp_X6_hashCells
  intro P hP
  have cell : ∀ (k : Nat) (x : Int64), k < S.n → (∀ w : XV, RX w S L B → P w (hCell S k x) (nI (k + 1))) → ∀ w : XV, RX w S L B → wp_X6_hashCells_20 Q (fun (vX_8 : XV) (x3_9 : Int64) (x5_10 : Int32) => wp_X6_hashCells_51 Q (fun (vX_16 : XV) (x3_17 : Int64) (x5_18 : Int32) => wp_X6_hashCells_83 Q (fun (vX_24 : XV) (x3_25 : Int64) (x5_26 : Int32) => ∀ x5_27 : Int32, x5_27 = x5_26 + 1 → P vX_24 x3_25 x5_27) vX_16 x3_17 x5_18 0) vX_8 x3_9 x5_10 0) w x (nI k) 0 := by
    intro k x hk hnx w hw
    have three : ∀ w : XV, RX w S L B → wp_X6_hashCells_83 Q (fun (vX_24 : XV) (x3_25 : Int64) (x5_26 : Int32) => ∀ x5_27 : Int32, x5_27 = x5_26 + 1 → P vX_24 x3_25 x5_27) w (hN (colF S k) 4 (hN (cellV S k) 4 x)) (nI k) 0 := by
      intro w hw P2 hP2
      have key : ∀ d s : Nat, s + d = 4 → ∀ w : XV, RX w S L B → P2 w (hN (colF S k) (4 + s) (hN (cellV S k) 4 x)) (nI k) (nI s) := by
        intro d
        induction d with
        | zero =>
          intro s hs w hw
          obtain rfl : s = 4 := by omega
          refine hP2 _ _ _ _ (bq_t (by decide) (fun y hy => ?_))
          rw [nI_1] at hy
          subst hy
          exact hnx w hw
        | succ d ih =>
          intro s hs w hw
          apply hP2
          unfold bd_X6_hashCells_83
          refine bq_f (fun z => by rw [nn_lit 4, nI_leI (by omega) (by omega)] at z; omega) (sp_X6_colorAt hw hk (by omega) true (fun w' hw' y hy y2 hy2 => ?_))
          rw [nI_1] at hy2
          subst hy hy2
          have g := ih (s + 1) (by omega) w' hw'
          have e : colF S k (4 + s) = colV S k s true := by
            unfold colF
            rw [show (4 + s) % 4 = s by omega, decide_eq_true (show 3 < 4 + s by omega)]
          rw [← Nat.add_assoc, hN_s, e] at g
          exact g
      exact key 4 0 rfl w hw
    have two : ∀ w : XV, RX w S L B → wp_X6_hashCells_51 Q (fun (vX_16 : XV) (x3_17 : Int64) (x5_18 : Int32) => wp_X6_hashCells_83 Q (fun (vX_24 : XV) (x3_25 : Int64) (x5_26 : Int32) => ∀ x5_27 : Int32, x5_27 = x5_26 + 1 → P vX_24 x3_25 x5_27) vX_16 x3_17 x5_18 0) w (hN (cellV S k) 4 x) (nI k) 0 := by
      intro w hw P2 hP2
      have key : ∀ d s : Nat, s + d = 4 → ∀ w : XV, RX w S L B → P2 w (hN (colF S k) s (hN (cellV S k) 4 x)) (nI k) (nI s) := by
        intro d
        induction d with
        | zero =>
          intro s hs w hw
          obtain rfl : s = 4 := by omega
          exact hP2 _ _ _ _ (bq_t (by decide) (three w hw))
        | succ d ih =>
          intro s hs w hw
          apply hP2
          unfold bd_X6_hashCells_51
          refine bq_f (fun z => by rw [nn_lit 4, nI_leI (by omega) (by omega)] at z; omega) (sp_X6_colorAt hw hk (by omega) false (fun w' hw' y hy y2 hy2 => ?_))
          rw [nI_1] at hy2
          subst hy hy2
          have g := ih (s + 1) (by omega) w' hw'
          have e : colF S k s = colV S k s false := by
            unfold colF
            rw [show s % 4 = s by omega, decide_eq_false (show ¬ 3 < s by omega)]
          rw [hN_s, e] at g
          exact g
      exact key 4 0 rfl w hw
    intro P2 hP2
    have key : ∀ d s : Nat, s + d = 4 → ∀ w : XV, RX w S L B → P2 w (hN (cellV S k) s x) (nI k) (nI s) := by
      intro d
      induction d with
      | zero =>
        intro s hs w hw
        obtain rfl : s = 4 := by omega
        exact hP2 _ _ _ _ (bq_t (by decide) (two w hw))
      | succ d ih =>
        intro s hs w hw
        apply hP2
        unfold bd_X6_hashCells_20
        refine bq_f (fun z => by rw [nn_lit 4, nI_leI (by omega) (by omega)] at z; omega) (sp_X6_cellProperty hw hk (by omega) (fun w' hw' y hy y2 hy2 => ?_))
        rw [nI_1] at hy2
        subst hy hy2
        exact ih (s + 1) (by omega) w' hw'
    exact key 4 0 rfl w hw
  have key : ∀ d k : Nat, k + d = S.n → ∀ w : XV, RX w S L B → P w (hCs S k h0) (nI k) := by
    intro d
    induction d with
    | zero =>
      intro k hk w hw
      obtain rfl : k = S.n := by omega
      apply hP
      unfold bd_X6_hashCells_5
      exact sp_X0_cells hw.1 (bq_t ((nI_leI (by omega) (by omega)).mpr (Nat.le_refl _)) (h _ hw))
    | succ d ih =>
      intro k hk w hw
      apply hP
      unfold bd_X6_hashCells_5
      refine sp_X0_cells hw.1 (bq_f (fun z => by rw [nI_leI (by omega) (by omega)] at z; omega) ?_)
      exact cell k _ (by omega) (fun w' hw' => ih (k + 1) (by omega) w' hw') _ hw
  exact key S.n 0 (by omega) v hX
theorem sp_X6_hashTiles {v : XV} {S : AS} {L : List AS} {B : List Nat} (hX : RX v S L B) {h0 : Int64} {Q : Int64 → XV → Prop} (h : ∀ v', RX v' S L B → Q (hN (tilF S) (4 * S.t) h0) v') : wp_X6_hashTiles v h0 Q := by
  have hI := hX.2.1
  have ht := hI.2.2.2.1
  unfold wp_X6_hashTiles
  intro P hP
  have key : ∀ d t : Nat, t + d = S.t → ∀ w : XV, RX w S L B → P w (hN (tilF S) (4 * t) h0) (nI t) := by
    intro d
    induction d with
    | zero =>
      intro t htt w hw
      obtain rfl : t = S.t := by omega
      apply hP
      unfold bd_X6_hashTiles_5
      rw [hw.1.1.2.2.2]
      exact bq_t ((nI_leI (by omega) (by omega)).mpr (Nat.le_refl _)) (h _ hw)
    | succ d ih =>
      intro t htt w hw
      apply hP
      unfold bd_X6_hashTiles_5
      rw [hw.1.1.2.2.2]
      refine bq_f (fun z => by rw [nI_leI (by omega) (by omega)] at z; omega) (fun P2 hP2 => ?_)
      have key2 : ∀ d s : Nat, s + d = 4 → ∀ w : XV, RX w S L B → P2 w (hN (tilF S) (4 * t + s) h0) (nI t) (nI s) := by
        intro d
        induction d with
        | zero =>
          intro s hs w hw
          obtain rfl : s = 4 := by omega
          refine hP2 _ _ _ _ (bq_t (by decide) (fun y hy => ?_))
          rw [nI_1] at hy
          subst hy
          exact ih (t + 1) (by omega) w hw
        | succ d ih2 =>
          intro s hs w hw
          apply hP2
          unfold bd_X6_hashTiles_20
          refine bq_f (fun z => by rw [nn_lit 4, nI_leI (by omega) (by omega)] at z; omega) (sp_X6_tileProperty hw (by omega) (by omega) (fun w' hw' y hy y2 hy2 => ?_))
          rw [nI_1] at hy2
          subst hy hy2
          have g := ih2 (s + 1) (by omega) w' hw'
          have e : tilF S (4 * t + s) = tileV S t s := by
            unfold tilF
            rw [show (4 * t + s) / 4 = t by omega, show (4 * t + s) % 4 = s by omega]
          rw [← Nat.add_assoc, hN_s, e] at g
          exact g
      exact key2 4 0 rfl w hw
  exact key S.t 0 (by omega) v hX
theorem d6_buf {v : XV} {S : AS} {L : List AS} {B : List Nat} (hX : RX v S L B) {Q : Int64 → XV → Prop} (h : ∀ v', RX v' S L B → Q (dgA S L.length B) v') : ∀ w : XV, RX w S L B → wp_X6_digest_127 Q w (dg7 S L.length B) 0 := by
  have hI := hX.2.1
  have h60 := hX.2.2.2.2.2.1
  have hgo := fitV_go hI
  have hbo : boF (fitV S) = some (UInt64.toInt64 (fitV S)) := by
    unfold goF at hgo
    rw [Bool.and_eq_true] at hgo
    exact of_decide_eq_true hgo.2
  intro w hw P hP
  have key : ∀ d i : Nat, i + d = B.length → ∀ w : XV, RX w S L B → P w (hN (fun i => nI (B.getD i 48)) i (dg7 S L.length B)) (nI i) := by
    intro d
    induction d with
    | zero =>
      intro i hi w hw
      obtain rfl : i = B.length := by omega
      apply hP
      unfold bd_X6_digest_127
      rw [hw.2.2.2.2.1]
      exact bq_t ((nI_leI (by omega) (by omega)).mpr (Nat.le_refl _)) (h w hw)
    | succ d ih =>
      intro i hi w hw
      apply hP
      unfold bd_X6_digest_127
      rw [hw.2.2.2.2.1, nI_clamp (by omega), (tv_at hw.2.2.2.2 (by omega)).1]
      refine bq_f (fun z => by rw [nI_leI (by omega) (by omega)] at z; omega) ⟨vp_in_nI (by omega) (by omega), fun y hy y2 hy2 => ?_⟩
      rw [nI_1] at hy2
      subst hy hy2
      exact ih (i + 1) (by omega) w hw
  exact key B.length 0 (by omega) w hw
theorem d6_rest {v : XV} {S : AS} {L : List AS} {B : List Nat} (hX : RX v S L B) {Q : Int64 → XV → Prop} (h : ∀ v', RX v' S L B → Q (dgA S L.length B) v') : ∀ w : XV, RX w S L B → wp_X6_bestStep w (fun (r_22 : Int32) (vX_21 : XV) => ∀ x1_23 : Int64, x1_23 = ((31 * dg4 S L.length) + (Int32.toInt64 r_22)) → wp_X6_fittingPart vX_21 (fun (r_25 : UInt64) (vX_24 : XV) => wp_X6_bitsOf r_25 (fun (r_26 : Int64) => ∀ x1_27 : Int64, x1_27 = ((31 * x1_23) + r_26) → ∀ x1_28 : Int64, x1_28 = ((31 * x1_27) + (Int32.toInt64 (TV.length (XV.text vX_24)))) → wp_X6_digest_127 Q vX_24 x1_28 0))) := by
  have hI := hX.2.1
  have h60 := hX.2.2.2.2.2.1
  have hgo := fitV_go hI
  have hbo : boF (fitV S) = some (UInt64.toInt64 (fitV S)) := by
    unfold goF at hgo
    rw [Bool.and_eq_true] at hgo
    exact of_decide_eq_true hgo.2
  have buf := d6_buf hX h
  intro w hw
  refine sp_X6_bestStep hw (fun w1 hw1 y hy => ?_)
  subst hy
  refine sp_X6_fittingPart hw1 (fun w2 hw2 => sp_X6_bitsOf hbo (fun y hy y2 hy2 => ?_))
  rw [hw2.2.2.2.2.1] at hy2
  subst hy hy2
  exact buf w2 hw2
theorem d6_srs {S : AS} {L : List AS} {B : List Nat} {Q : Int64 → XV → Prop} (K : XV → Int64 → Prop) (hK : ∀ w : XV, RX w S L B → K w (dg4 S L.length)) : ∀ w : XV, RX w S L B → SLC 3 (srch S 3) (XV.search w) → wp_X6_digest_57 Q K w (dg3 S L.length) 0 := by
  intro w hw hs P hP
  have key : ∀ d i : Nat, i + d = 3 → ∀ w : XV, RX w S L B → SLC 3 (srch S 3) (XV.search w) → P w (hN (fun w => nI (srV S 3 w)) i (dg3 S L.length)) (nI i) := by
    intro d
    induction d with
    | zero =>
      intro i hi w hw hs
      obtain rfl : i = 3 := by omega
      exact hP _ _ _ (bq_t (by decide) (hK w hw))
    | succ d ih =>
      intro i hi w hw hs
      apply hP
      unfold bd_X6_digest_57
      refine bq_f (fun z => by rw [nn_lit 3, nI_leI (by omega) (by omega)] at z; omega) (sp_X4_result hs (by omega) (fun y hy y2 hy2 => ?_))
      rw [nI_1] at hy2
      subst hy hy2
      exact ih (i + 1) (by omega) _ hw hs
  have g := key 3 0 rfl w hw hs
  rw [hN_0] at g
  exact g
theorem sp_X6_digest {v : XV} {S : AS} {L : List AS} {B : List Nat} (hX : RX v S L B) {Q : Int64 → XV → Prop} (h : ∀ v', RX v' S L B → Q (dgA S L.length B) v') : wp_X6_digest v Q := by
  have hI := hX.2.1
  have h60 := hX.2.2.2.2.2.1
  have hgo := fitV_go hI
  have hbo : boF (fitV S) = some (UInt64.toInt64 (fitV S)) := by
    unfold goF at hgo
    rw [Bool.and_eq_true] at hgo
    exact of_decide_eq_true hgo.2
  have buf := d6_buf hX h
  have rest := d6_rest hX h
  unfold wp_X6_digest
  -- the buffer
  intro P hP
  have key : ∀ d i : Nat, i + d = 10 → ∀ w : XV, RX w S L B → P w (hN (fun w => nI (cntV S L.length w)) i 2137) (nI i) := by
    intro d
    induction d with
    | zero =>
      intro i hi w hw
      obtain rfl : i = 10 := by omega
      refine hP _ _ _ (bq_t (by decide) (sp_X6_hashCells hw (fun w1 hw1 => sp_X6_hashTiles hw1 (fun w2 hw2 => sp_X4_run (most := 3) (by omega) hw2.1 hI (fun vS hS => ?_)))))
      exact d6_srs _ (fun w3 hw3 => rest w3 hw3) _ hw2 hS
    | succ d ih =>
      intro i hi w hw
      apply hP
      unfold bd_X6_digest_6
      refine bq_f (fun z => by rw [nn_lit 10, nI_leI (by omega) (by omega)] at z; omega) (sp_X6_number hw (by omega) (fun w' hw' y hy y2 hy2 => ?_))
      rw [nI_1] at hy2
      subst hy hy2
      exact ih (i + 1) (by omega) w' hw'
  exact key 10 0 rfl v hX
