/-! fitting, on both sides, and the bits of its answer -/
def dvF (a m : Nat) : UInt64 := FP.ddiv (FP.i2d (nI a)) (FP.i2d (nI (2 * m)))
def okF (x : UInt64) : Bool := decide (x &&& 0x7fffffffffffffff ≤ 0x7ff0000000000000)
theorem okF_n {x : UInt64} (h : okF x = true) : vf_n64 x := by
  unfold okF at h
  have g := of_decide_eq_true h
  exact g
def endF (x : UInt64) (e : Int64) : Option Int64 := if (okF (FP.dsub x FP.dconst1) && okF (FP.dmul (FP.dsub x FP.dconst1) 4841369599423283200)) = true then some ((jlshl e 52) + FP.d2l (FP.dmul (FP.dsub x FP.dconst1) 4841369599423283200)) else none
def lpF : Nat → UInt64 → Int64 → Option Int64
  | 0, _, _ => none
  | n + 1, x, e => if 0 ≤ (Op.cmpValue (FP.dcmp x FP.dconst1) .g) then endF x e else if (lg_cmp e 1) ≤ 0 then endF x e else if okF (FP.dmul x 4611686018427387904) = true then lpF n (FP.dmul x 4611686018427387904) (e - 1) else none
def boF (x : UInt64) : Option Int64 := if 0 < (Op.cmpValue (FP.dcmp x FP.dconst0) .l) then lpF 12 x 1023 else some 0
theorem endF_sp {x : UInt64} {e r : Int64} (h : endF x e = some r) {Q : Int64 → Prop} (hq : Q r) : wp_X6_bitsOf_43 Q x e := by
  unfold endF at h
  split at h
  · next c =>
    rw [Bool.and_eq_true] at c
    refine ⟨okF_n c.1, okF_n c.2, fun x6 h6 => ?_⟩
    subst h6
    cases h
    exact hq
  · cases h
theorem lpF_sp {Q : Int64 → Prop} {P : UInt64 → Int64 → Prop} (hP : ∀ (x2 : UInt64) (x4 : Int64), bd_X6_bitsOf_15 Q P (fun (x2_6 : UInt64) (x4_7 : Int64) => wp_X6_bitsOf_43 Q x2_6 x4_7) x2 x4 → P x2 x4) : ∀ (n : Nat) (x : UInt64) (e r : Int64), lpF n x e = some r → Q r → P x e
  | 0, x, e, r, h, _ => by cases h
  | n + 1, x, e, r, h, hq => by
    unfold lpF at h
    apply hP
    unfold bd_X6_bitsOf_15
    by_cases c1 : 0 ≤ (Op.cmpValue (FP.dcmp x FP.dconst1) .g)
    · rw [if_pos c1] at h
      exact bq_t c1 (endF_sp h hq)
    · rw [if_neg c1] at h
      refine bq_f c1 ?_
      by_cases c2 : (lg_cmp e 1) ≤ 0
      · rw [if_pos c2] at h
        exact bq_t c2 (endF_sp h hq)
      · rw [if_neg c2] at h
        refine bq_f c2 ?_
        by_cases c3 : okF (FP.dmul x 4611686018427387904) = true
        · rw [if_pos c3] at h
          refine ⟨okF_n c3, fun x2 h2 x4 h4 => ?_⟩
          subst h2 h4
          exact lpF_sp hP n _ _ r h hq
        · rw [if_neg c3] at h
          cases h
theorem sp_X6_bitsOf {x : UInt64} {r : Int64} (h : boF x = some r) {Q : Int64 → Prop} (hq : Q r) : wp_X6_bitsOf x Q := by
  unfold boF at h
  unfold wp_X6_bitsOf
  by_cases c : 0 < (Op.cmpValue (FP.dcmp x FP.dconst0) .l)
  · rw [if_pos c] at h
    refine bq_t c (fun P hP => ?_)
    exact lpF_sp hP 12 x 1023 r h hq
  · rw [if_neg c] at h
    refine bq_f c ?_
    cases h
    exact hq
/-- what holds of an answer of fitting -/
def goF (x : UInt64) : Bool := decide ((Op.cmpValue (FP.dcmp x x) .l) = 0) && decide (boF x = some (UInt64.toInt64 x))
set_option maxRecDepth 100000 in
theorem dv_ok : ∀ m, m < 25 → ∀ a, a < 49 → m = 0 ∨ 2 * m < a ∨ (okF (dvF a m) && goF (dvF a m)) = true := by decide +kernel
set_option maxRecDepth 100000 in
theorem one_ok : goF FP.dconst1 = true := by decide +kernel
set_option maxRecDepth 100000 in
theorem mul_ok : ∀ a, a < 49 → (okF (FP.dmul FP.dconst1 (FP.i2d (nI a))) && decide (FP.dmul FP.dconst1 (FP.i2d (nI a)) = FP.i2d (nI a))) = true := by decide +kernel
theorem isLike_pair {S : AS} {b : Bool} {k s : Nat} : (isLike S b k s).toNat ≤ (isPair S k s).toNat := by
  cases h : isLike S b k s with
  | false => exact Nat.zero_le _
  | true =>
    have e : isPair S k s = true := by
      unfold isLike at h
      unfold isPair
      rw [shown_nq] at h ⊢
      cases hp : S.P k with
      | none => rw [hp] at h; cases h
      | some p =>
        cases hq : nq S k s with
        | none => simp only [hp, hq] at h; cases h
        | some q => rfl
    rw [e]
    exact Nat.le_refl _
theorem sm_mono {f g : Nat → Nat} (h : ∀ k, f k ≤ g k) : ∀ n, sm f n ≤ sm g n
  | 0 => Nat.le_refl 0
  | n + 1 => Nat.add_le_add (sm_mono h n) (h n)
theorem like_le_pairs (S : AS) (b : Bool) : likeA S b ≤ pairsA S := sm_mono (fun k => Nat.add_le_add isLike_pair isLike_pair) S.n
def fitV (S : AS) : UInt64 := if pairsA S = 0 then FP.dconst1 else dvF (likeA S false + likeA S true) (pairsA S)
theorem fitV_go {S : AS} (hI : Inv S) : goF (fitV S) = true := by
  unfold fitV
  have h1 := pairsA_le hI
  have h2 := like_le_pairs S false
  have h3 := like_le_pairs S true
  split
  · exact one_ok
  · rcases dv_ok (pairsA S) (by omega) (likeA S false + likeA S true) (by omega) with h | h | h
    · omega
    · omega
    · rw [Bool.and_eq_true] at h
      exact h.2
theorem dv_n {S : AS} (hI : Inv S) (h0 : ¬ pairsA S = 0) : vf_n64 (dvF (likeA S false + likeA S true) (pairsA S)) := by
  have h1 := pairsA_le hI
  have h2 := like_le_pairs S false
  have h3 := like_le_pairs S true
  rcases dv_ok (pairsA S) (by omega) (likeA S false + likeA S true) (by omega) with h | h | h
  · omega
  · omega
  · rw [Bool.and_eq_true] at h
    exact okF_n h.1
theorem sp_X6_fittingPart {v : XV} {S : AS} {L : List AS} {B : List Nat} (hX : RX v S L B) {Q : UInt64 → XV → Prop} (h : ∀ v', RX v' S L B → Q (fitV S) v') : wp_X6_fittingPart v Q := by
  have hI := hX.2.1
  have h1 := pairsA_le hI
  unfold wp_X6_fittingPart
  refine sp_X0_pairs0 hX.1 hI ?_
  unfold fitV at h
  refine ek_if (nI_leI (a := 1) (by omega) (by omega)) (fun e => ?_) (fun e => ?_)
  · rw [if_neg (by omega)] at h
    refine sp_X0_pairs15 hX.1 hI (sp_X0_pairsHi hX.1 hI (fun x2 h2 => ?_))
    rw [nI_add] at h2
    subst h2
    rw [nn_lit 2, pk_mul]
    exact ⟨dv_n hI (by omega), h _ hX⟩
  · rw [if_pos (by omega)] at h
    exact h _ hX
theorem sp_X6_fitting {v : XV} {S : AS} {L : List AS} {B : List Nat} (hX : RX v S L B) {Q : UInt64 → XV → Prop} (h : ∀ v', RX v' S L B → Q (fitV S) v') : wp_X6_fitting v Q := by
  unfold wp_X6_fitting
  exact sp_X6_fittingPart hX (fun v' hv' => h v' hv')
theorem sp_X7_fittingNow {M : MV} {S : AS} (hz : RZ (MV.z M) S) (hI : Inv S) {Q : UInt64 → MV → Prop} (h : Q (fitV S) M) : wp_X7_fittingNow M Q := by
  have h1 := pairsA_le hI
  have h2 := like_le_pairs S false
  have h3 := like_le_pairs S true
  unfold wp_X7_fittingNow
  refine sp_X7_pairs hz hI ?_
  unfold fitV at h
  refine bn_if (nn_eq0 (by omega)) (fun e => ?_) (fun e => ?_)
  · rw [if_pos e] at h
    exact h
  · rw [if_neg e] at h
    refine sp_X7_likePairs hz hI false (sp_X7_likePairs hz hI true ?_)
    have hm := mul_ok (likeA S false + likeA S true) (by omega)
    rw [Bool.and_eq_true] at hm
    have hm2 := of_decide_eq_true hm.2
    have hm1 := okF_n hm.1
    rw [nI_add, nn_lit 2, pk_mul]
    rw [hm2] at hm1
    rw [hm2]
    exact ⟨hm1, dv_n hI e, h⟩
theorem sp_X7_fitting {M : MV} {S : AS} {L : List AS} {B : List Nat} (hM : RM M S L B) {Q : UInt64 → MV → Prop} (h : ∀ M', RM M' S L B → MV.thrown M' = 0 → Q (fitV S) M') : wp_X7_fitting M Q := by
  unfold wp_X7_fitting
  exact sp_X7_fittingNow (M := MV.s_thrown M 0) hM.1 hM.2.1 (h _ (hM.thrown 0) rfl)
theorem sp_dtlb {x : UInt64} (h : goF x = true) {Q : Int64 → Prop} (hq : Q (UInt64.toInt64 x)) : wp_Jxe99ae_doubleToLongBits_ccdee x Q := by
  unfold goF at h
  rw [Bool.and_eq_true] at h
  unfold wp_Jxe99ae_doubleToLongBits_ccdee wp_Jxe99ae_isNaN_b9ae7
  exact bq_t (of_decide_eq_true h.1) (bn_t rfl hq)
