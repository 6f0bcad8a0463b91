/-! NUMBERS, in the words of nI: small rows -/
theorem nn_lit (n : Nat) : (OfNat.ofNat n : Int32) = nI n := rfl
theorem nn_m1i : (-1 : Int32).toInt = -1 := by decide
theorem nn_ne_m1 {n : Nat} (h : n < 2 ^ 31) : ¬ nI n = -1 := fun e => by
  have h1 := congrArg Int32.toInt e
  rw [nI_toInt h, nn_m1i] at h1
  omega
theorem nn_m1_ne {n : Nat} (h : n < 2 ^ 31) : ¬ (-1 : Int32) = nI n := fun e => nn_ne_m1 h e.symm
theorem nn_rem {a d : Nat} (ha : a < 2 ^ 31) (h0 : 0 < d) (hd : d < 2 ^ 31) : jrem (nI a) (nI d) = nI (a % d) := pk_rem ha h0 hd
theorem nn_smod : ∀ n : Nat, n < 32 → (((nI n) &&& 31).toBitVec.smod 32).toNat = n := by decide +kernel
theorem nn_ussm : ∀ n : Nat, n < 32 → (((nI n).toUInt32 &&& Int32.toUInt32 31).toBitVec % 32).toNat = n := by decide +kernel
theorem nn_shl {n k : Nat} (hk : k < 32) (h : n * 2 ^ k < 2 ^ 32) : jshl (nI n) (nI k) = nI (n * 2 ^ k) := pk_shlN ((nI k) &&& 31) k (nn_smod k hk) h
theorem nn_shr {n k : Nat} (hk : k < 32) (h : n < 2 ^ 31) : jshr (nI n) (nI k) = nI (n / 2 ^ k) := pk_shrN h ((nI k) &&& 31) k (nn_smod k hk)
theorem nn_ushr {n k : Nat} (hk : k < 32) (h : n < 2 ^ 32) : ushr (nI n) (nI k) = nI (n / 2 ^ k) := pk_ushrN h (nI k) k (nn_ussm k hk)
theorem nn_bv (n : Nat) : (nI n).toBitVec = BitVec.ofNat 32 n := rfl
theorem nn_ext {x y : Int32} (h : x.toBitVec = y.toBitVec) : x = y := Int32.toBitVec_inj.mp h
theorem nn_and (a b : Nat) : nI a &&& nI b = nI (a &&& b) := by
  apply nn_ext
  rw [Int32.toBitVec_and, nn_bv, nn_bv, nn_bv, BitVec.ofNat_and]
theorem nn_or (a b : Nat) : nI a ||| nI b = nI (a ||| b) := by
  apply nn_ext
  rw [Int32.toBitVec_or, nn_bv, nn_bv, nn_bv, BitVec.ofNat_or]
theorem nn_xor (a b : Nat) : nI a ^^^ nI b = nI (a ^^^ b) := by
  apply nn_ext
  rw [Int32.toBitVec_xor, nn_bv, nn_bv, nn_bv, BitVec.ofNat_xor]
theorem nn_eq32 {a b : Nat} (ha : a < 2 ^ 32) (hb : b < 2 ^ 32) : nI a = nI b ↔ a = b := by
  refine ⟨fun e => ?_, fun e => by rw [e]⟩
  have h1 := congrArg (fun x : Int32 => x.toBitVec.toNat) e
  rw [pk_tn ha, pk_tn hb] at h1
  exact h1
/-- an option of a number, as the programs hold it -/
def enc : Option Nat → Int32
  | none => -1
  | some p => nI p
theorem enc_none : enc none = -1 := rfl
theorem enc_some (p : Nat) : enc (some p) = nI p := rfl
theorem enc_m1 {o : Option Nat} (h : ∀ p, o = some p → p < 2 ^ 31) : enc o = -1 ↔ o = none := by
  cases o with
  | none => exact ⟨fun _ => rfl, fun _ => rfl⟩
  | some p => exact ⟨fun e => absurd e (nn_ne_m1 (h p rfl)), fun e => nomatch e⟩
theorem enc_inj {o q : Option Nat} (h : ∀ p, o = some p → p < 2 ^ 31) (h2 : ∀ p, q = some p → p < 2 ^ 31) : enc o = enc q ↔ o = q := by
  cases o with
  | none =>
    cases q with
    | none => exact ⟨fun _ => rfl, fun _ => rfl⟩
    | some p => exact ⟨fun e => absurd e.symm (nn_ne_m1 (h2 p rfl)), fun e => nomatch e⟩
  | some p =>
    cases q with
    | none => exact ⟨fun e => absurd e (nn_ne_m1 (h p rfl)), fun e => nomatch e⟩
    | some p2 => exact ⟨fun e => by rw [(nI_eq (h p rfl) (h2 p2 rfl)).mp e], fun e => by rw [Option.some.inj e]⟩
/-! branches -/
theorem bq_t {c A B : Prop} (h : c) (f : A) : (c → A) ∧ (¬ c → B) := ⟨fun _ => f, fun z => absurd h z⟩
theorem bq_f {c A B : Prop} (h : ¬ c) (g : B) : (c → A) ∧ (¬ c → B) := ⟨fun z => absurd z h, fun _ => g⟩
theorem br_n {c A B : Prop} (f : c → A) (g : ¬ c → B) : (c → A) ∧ (¬ c → B) := ⟨f, g⟩
/-- the branch that is taken first when a test fails -/
theorem bn_t {c A B : Prop} (h : c) (f : B) : (¬ c → A) ∧ (c → B) := ⟨fun z => absurd h z, fun _ => f⟩
theorem bn_f {c A B : Prop} (h : ¬ c) (g : A) : (¬ c → A) ∧ (c → B) := ⟨fun _ => g, fun z => absurd z h⟩
theorem bn_if {c d A B : Prop} (e : c ↔ d) (f : d → B) (g : ¬ d → A) : (¬ c → A) ∧ (c → B) := ⟨fun z => g (fun y => z (e.mpr y)), fun z => f (e.mp z)⟩
theorem bn_n {c A B : Prop} (g : ¬ c → A) (f : c → B) : (¬ c → A) ∧ (c → B) := ⟨g, f⟩
theorem nn_eq0 {a : Nat} (ha : a < 2 ^ 31) : nI a = 0 ↔ a = 0 := nI_eq (b := 0) ha (by omega)
theorem b2n_b (b : Bool) : isB (nI b.toNat) := by
  cases b
  · exact isB_0
  · exact isB_1
/-- a truth as an int -/
def bI (p : Prop) [Decidable p] : Int32 := if p then 1 else 0
