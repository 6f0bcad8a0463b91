/-! fitting, on both sides, and the bits of its answer -/
def dvF (a m : Nat) : UInt64 := FP.ddiv (FP.i2d (nI a)) (FP.i2d (nI (2 * m)))
def okF (x : UInt64) : Bool := decide (x &&& 0x7fffffffffffffff ≤ 0x7ff0000000000000)
theorem okF_n {x : UInt64} (h : okF x = true) : vf_n64 x := by
  unfold okF at h
  have g := of_decide_eq_true h
  exact g
def endF (x : UInt64) (e : Int64) : Option Int64 := if (okF (FP.dsub x FP.dconst1) && okF (FP.dmul (FP.dsub x FP.dconst1) 4841369599423283200)) = true then some ((jlshl e 52) + FP.d2l (FP.dmul (FP.dsub x FP.dconst1) 4841369599423283200)) else none
def lpF : Nat → UInt64 → Int64 → Option Int64
  | 0, _, _ => none
  | n + 1, x, e => if 0 ≤ (Op.cmpValue (FP.dcmp x FP.dconst1) .g) then endF x e else if (lg_cmp e 1) ≤ 0 then endF x e else if okF (FP.dmul x 4611686018427387904) = true then lpF n (FP.dmul x 4611686018427387904) (e - 1) else none
def boF (x : UInt64) : Option Int64 := if 0 < (Op.cmpValue (FP.dcmp x FP.dconst0) .l) then lpF 12 x 1023 else some 0
/-- what holds of an answer of fitting -/
def goF (x : UInt64) : Bool := decide ((Op.cmpValue (FP.dcmp x x) .l) = 0) && decide (boF x = some (UInt64.toInt64 x))
set_option maxRecDepth 100000 in
theorem dv_ok : ∀ m, m < 25 → ∀ a, a < 49 → m = 0 ∨ 2 * m < a ∨ (okF (dvF a m) && goF (dvF a m)) = true := by decide +kernel
theorem isLike_pair {S : AS} {b : Bool} {k s : Nat} : (isLike S b k s).toNat ≤ (isPair S k s).toNat := by
  cases h : isLike S b k s with
  | false => exact Nat.zero_le _
  | true =>
    have e : isPair S k s = true := by
      unfold isLike at h
      unfold isPair
      rw [shown_nq] at h ⊢
      cases hp : S.P k with
      | none => rw [hp] at h; cases h
      | some p =>
        cases hq : nq S k s with
        | none => simp only [hp, hq] at h; cases h
        | some q => rfl
    rw [e]
    exact Nat.le_refl _
theorem sm_mono {f g : Nat → Nat} (h : ∀ k, f k ≤ g k) : ∀ n, sm f n ≤ sm g n
  | 0 => Nat.le_refl 0
  | n + 1 => Nat.add_le_add (sm_mono h n) (h n)
theorem like_le_pairs (S : AS) (b : Bool) : likeA S b ≤ pairsA S := sm_mono (fun k => Nat.add_le_add isLike_pair isLike_pair) S.n
def fitV (S : AS) : UInt64 := if pairsA S = 0 then FP.dconst1 else dvF (likeA S false + likeA S true) (pairsA S)
theorem dv_n {S : AS} (hI : Inv S) (h0 : ¬ pairsA S = 0) : vf_n64 (dvF (likeA S false + likeA S true) (pairsA S)) := by
  have h1 := pairsA_le hI
  have h2 := like_le_pairs S false
  have h3 := like_le_pairs S true
  rcases dv_ok (pairsA S) (by omega) (likeA S false + likeA S true) (by omega) with h | h | h
  · omega
  · omega
  · rw [Bool.and_eq_true] at h
    exact okF_n h.1
theorem sp_X6_fittingPart {v : XV} {S : AS} {L : List AS} {B : List Nat} (hX : RX v S L B) {Q : UInt64 → XV → Prop} (h : ∀ v', RX v' S L B → Q (fitV S) v') : wp_X6_fittingPart v Q := by
  have hI := hX.2.1
  have h1 := pairsA_le hI
  unfold wp_X6_fittingPart
  refine sp_X0_pairs0 hX.1 hI ?_
  unfold fitV at h
  refine ek_if (nI_leI (a := 1) (by omega) (by omega)) (fun e => ?_) (fun e => ?_)
  · rw [if_neg (by omega)] at h
    refine sp_X0_pairs15 hX.1 hI (sp_X0_pairsHi hX.1 hI (fun x2 h2 => ?_))
    rw [nI_add] at h2
    subst h2
    rw [nn_lit 2, pk_mul]
    exact ⟨dv_n hI (by omega), h _ hX⟩
  · rw [if_pos (by omega)] at h
    exact h _ hX
theorem sp_X6_fitting {v : XV} {S : AS} {L : List AS} {B : List Nat} (hX : RX v S L B) {Q : UInt64 → XV → Prop} (h : ∀ v', RX v' S L B → Q (fitV S) v') : wp_X6_fitting v Q := by
  unfold wp_X6_fitting
  exact sp_X6_fittingPart hX (fun v' hv' => h v' hv')
