/-! the reference: the buffer read -/
def rightC (i c : Nat) : Bool := if i % 10 = 4 then c == 47 else if i % 10 = 9 then c == 59 else decide (48 ≤ c ∧ c ≤ 57)
def fwr : List Nat → Nat → Nat
  | [], k => k
  | c :: cs, k => if rightC k c = true then fwr cs (k + 1) else k
def fwB (B : List Nat) : Nat := fwr B 0
/-- the first j digits of the m-th number -/
def pv (B : List Nat) (m : Nat) : Nat → Nat
  | 0 => 0
  | j + 1 => 10 * pv B m j + (B.getD (5 * m + j) 48 - 48)
theorem nI_sub {a b : Nat} (h : b ≤ a) : nI a - nI b = nI (a - b) := by
  have e : nI a = nI (a - b) + nI b := by rw [nI_add, Nat.sub_add_cancel h]
  rw [e, Int32.add_sub_cancel]
/-- what is read before k -/
def RR (B : List Nat) (k : Nat) (x : Int32) (f : Nat → Int32) : Prop := x = nI ((k + 4) / 5) ∧ ∀ m, m < (k + 4) / 5 → f m = nI (pv B m (min 4 (k - 5 * m)))
theorem rd_112 {P : MV → Int32 → Prop} {Q : Int32 → MV → Prop} {M : MV} {B : List Nat} {k c q j : Nat} {f : Nat → Int32} (hk : k = 5 * q + j) (hj : j ≤ 3) (hk60 : k < 60) (hc : B.getD k 48 = c) (hc48 : 48 ≤ c) (hf : ∀ m, m < q → f m = nI (pv B m 4)) (hq : f q = nI (pv B q j))
    (h : ∀ f', RR B (k + 1) (nI (q + 1)) f' → P (MV.s_read (MV.s_numbers M (nI (q + 1))) f') (nI (k + 1))) : wp_X7_readText_112 P Q (MV.s_read (MV.s_numbers M (nI (q + 1))) f) (nI k) (nI (k % 10)) (nI c) := by
  unfold wp_X7_readText_112
  refine bq_f (fun z => by rw [nn_lit 4, nI_eq (by omega) (by omega)] at z; omega) (bq_f (fun z => by rw [nn_lit 9, nI_eq (by omega) (by omega)] at z; omega) ?_)
  show vp_in (nI (q + 1) - 1) 16 ∧ ∀ f1 : Int32, f1 = ((10 * f (Int32.toNatClampNeg (nI (q + 1) - 1))) + nI c) - 48 → vp_in (nI (q + 1) - 1) 16 ∧ ∀ r1 : Nat → Int32, r1 = upd f (Int32.toNatClampNeg (nI (q + 1) - 1)) f1 → ∀ y : Int32, y = nI k + 1 → P (MV.s_read (MV.s_numbers M (nI (q + 1))) r1) y
  rw [nI_pred, nI_clamp (by omega), hq, nn_lit 10, pk_mul, nI_add, nn_lit 48, nI_sub (by omega)]
  refine ⟨vp_in_nI (by omega) (by omega), fun f1 hf1 => ⟨vp_in_nI (by omega) (by omega), fun r1 hr1 y hy => ?_⟩⟩
  rw [nI_1] at hy
  subst hy
  refine h r1 ⟨by rw [show (k + 1 + 4) / 5 = q + 1 by omega], fun m hm => ?_⟩
  rw [hr1]
  by_cases e : m = q
  · rw [e, pk_us, hf1, show min 4 (k + 1 - 5 * q) = j + 1 by omega]
    show nI (10 * pv B q j + c - 48) = nI (10 * pv B q j + (B.getD (5 * q + j) 48 - 48))
    rw [← hk, hc]
    congr 1
    omega
  · rw [pk_un e, hf m (by omega), show min 4 (k + 1 - 5 * m) = 4 by omega]
theorem sp_X7_readText {M : MV} {B : List Nat} (hT : RT M B) (h33 : ∀ c ∈ B, 33 ≤ c ∧ c ≤ 126) {Q : Int32 → MV → Prop} (h : ∀ (x : Int32) (f : Nat → Int32), (fwB B = B.length → RR B B.length x f) → Q (nI (fwB B)) (MV.s_read (MV.s_numbers M x) f)) : wp_X7_readText M Q := by
  obtain ⟨t1, t2, t3⟩ := hT
  unfold wp_X7_readText
  intro P hP
  have key : ∀ d k : Nat, k + d = B.length → ∀ (x : Int32) (f : Nat → Int32), fwB B = fwr (B.drop k) k → RR B k x f → P (MV.s_read (MV.s_numbers M x) f) (nI k) := by
    intro d
    induction d with
    | zero =>
      intro k hk x f hw hr
      obtain rfl : k = B.length := by omega
      have e : fwB B = B.length := by rw [hw, List.drop_length]; rfl
      apply hP
      unfold bd_X7_readText_7
      show (MV.length M ≤ nI B.length → Q (MV.length M) _) ∧ _
      rw [t1]
      have := h x f (fun _ => hr)
      rw [e] at this
      exact bq_t ((nI_leI (by omega) (by omega)).mpr (Nat.le_refl _)) this
    | succ d ih =>
      intro k hk x f hw hr
      obtain ⟨c, hd⟩ : ∃ c, B.drop k = c :: B.drop (k + 1) := ⟨B[k], List.drop_eq_getElem_cons (by omega)⟩
      have hkc : B[k]? = some c := by
        have h1 : (B.drop k)[0]? = some c := by rw [hd]; rfl
        rw [List.getElem?_drop] at h1
        exact h1
      have hcd : B.getD k 48 = c := by rw [List.getD_eq_getElem?_getD, hkc]; rfl
      have hcm := h33 c (List.mem_of_getElem? hkc)
      obtain ⟨r1, r2⟩ := hr
      rw [hd] at hw
      unfold fwr at hw
      -- the two ends of a test
      have no : rightC k c = false → wp_X7_readText_74 P Q (MV.s_read (MV.s_numbers M x) f) (nI k) (nI (k % 10)) (nI c) 0 := by
        intro e
        rw [e, if_neg Bool.false_ne_true] at hw
        refine bn_t rfl ?_
        have := h x f (fun z => by omega)
        rw [hw] at this
        exact this
      have yes : rightC k c = true → wp_X7_readText_74 P Q (MV.s_read (MV.s_numbers M x) f) (nI k) (nI (k % 10)) (nI c) 1 := by
        intro e
        rw [e, if_pos rfl] at hw
        have hnx := ih (k + 1) (by omega)
        refine bn_f (by decide) ?_
        obtain ⟨q, j, hq, hj⟩ : ∃ q j, k = 5 * q + j ∧ j < 5 := ⟨k / 5, k % 5, by omega, Nat.mod_lt _ (by omega)⟩
        by_cases e4 : j = 4
        · -- a sign between
          refine bq_f (fun z => by rw [nn_lit 0, nI_eq (by omega) (by omega)] at z; omega) (bn_f (fun z => by rw [nn_lit 5, nI_eq (by omega) (by omega)] at z; omega) ?_)
          have go : ∀ y : Int32, y = nI k + 1 → P (MV.s_read (MV.s_numbers M x) f) y := by
            intro y hy
            rw [nI_1] at hy
            subst hy
            refine hnx x f hw ⟨by rw [r1, show (k + 1 + 4) / 5 = (k + 4) / 5 by omega], fun m hm => ?_⟩
            rw [r2 m (by omega), show min 4 (k + 1 - 5 * m) = min 4 (k - 5 * m) by omega]
          unfold wp_X7_readText_112
          by_cases e10 : k % 10 = 4
          · exact bq_t (by rw [e10]; rfl) go
          · refine bq_f (fun z => by rw [nn_lit 4, nI_eq (by omega) (by omega)] at z; omega) (bq_t (by rw [show k % 10 = 9 by omega]; rfl) go)
        · have hc48 : 48 ≤ c := by
            unfold rightC at e
            rw [if_neg (by omega), if_neg (by omega)] at e
            exact (of_decide_eq_true e).1
          by_cases e0 : j = 0
          · -- a number begins
            have go : wp_X7_readText_92 P Q (MV.s_read (MV.s_numbers M x) f) (nI k) (nI (k % 10)) (nI c) := by
              have ex : x = nI q := by rw [r1, show (k + 4) / 5 = q by omega]
              subst ex
              show vp_in (nI q) 16 ∧ ∀ r6 : Nat → Int32, r6 = upd f (Int32.toNatClampNeg (nI q)) 0 → ∀ f7 : Int32, f7 = nI q + 1 → wp_X7_readText_112 P Q (MV.s_read (MV.s_numbers M f7) r6) (nI k) (nI (k % 10)) (nI c)
              refine ⟨vp_in_nI (by omega) (by omega), fun r6 hr6 f7 hf7 => ?_⟩
              rw [nI_clamp (by omega)] at hr6
              rw [nI_1] at hf7
              subst hf7
              refine rd_112 (q := q) (j := j) hq (by omega) (by omega) hcd hc48 (fun m hm => ?_) ?_ (fun f' hf' => hnx _ f' hw hf')
              · rw [hr6, pk_un (by omega), r2 m (by omega), show min 4 (k - 5 * m) = 4 by omega]
              · rw [hr6, pk_us, e0]; rfl
            by_cases e10 : k % 10 = 0
            · exact bq_t (by rw [e10]; rfl) go
            · exact bq_f (fun z => by rw [nn_lit 0, nI_eq (by omega) (by omega)] at z; omega) (bn_t (by rw [show k % 10 = 5 by omega]; rfl) go)
          · -- a number goes on
            refine bq_f (fun z => by rw [nn_lit 0, nI_eq (by omega) (by omega)] at z; omega) (bn_f (fun z => by rw [nn_lit 5, nI_eq (by omega) (by omega)] at z; omega) ?_)
            have ex : x = nI (q + 1) := by rw [r1, show (k + 4) / 5 = q + 1 by omega]
            subst ex
            refine rd_112 (q := q) (j := j) hq (by omega) (by omega) hcd hc48 (fun m hm => ?_) ?_ (fun f' hf' => hnx _ f' hw hf')
            · rw [r2 m (by omega), show min 4 (k - 5 * m) = 4 by omega]
            · rw [r2 q (by omega), show min 4 (k - 5 * q) = j by omega]
      apply hP
      unfold bd_X7_readText_7
      refine bq_f (fun z => by
        have z : MV.length M ≤ nI k := z
        rw [t1, nI_leI (by omega) (by omega)] at z
        omega) ?_
      intro x2 hx2
      rw [nn_lit 10, nn_rem (by omega) (by omega) (by omega)] at hx2
      refine ⟨vp_in_nI (by omega) (by omega), fun x3 hx3 => ?_⟩
      have hx3 : x3 = MV.text M (Int32.toNatClampNeg (nI k)) := hx3
      rw [nI_clamp (by omega), t3 k c hkc] at hx3
      subst hx2 hx3
      have rc : rightC k c = if k % 10 = 4 then c == 47 else if k % 10 = 9 then c == 59 else decide (48 ≤ c ∧ c ≤ 57) := rfl
      refine bn_if (nI_eq (b := 4) (by omega) (by omega)) (fun e4 => ?_) (fun e4 => ?_)
      · rw [if_pos e4] at rc
        refine bn_if (nI_eq (b := 47) (by omega) (by omega)) (fun e => yes (by rw [rc, e]; rfl)) (fun e => no (by rw [rc]; exact beq_eq_false_iff_ne.mpr e))
      · rw [if_neg e4] at rc
        refine bn_if (nI_eq (b := 9) (by omega) (by omega)) (fun e9 => ?_) (fun e9 => ?_)
        · rw [if_pos e9] at rc
          refine bn_if (nI_eq (b := 59) (by omega) (by omega)) (fun e => yes (by rw [rc, e]; rfl)) (fun e => no (by rw [rc]; exact beq_eq_false_iff_ne.mpr e))
        · rw [if_neg e9] at rc
          refine sp_X7_within ?_
          unfold bI
          by_cases e : (48 : Int32) ≤ nI c ∧ nI c ≤ 57
          · rw [if_pos e]
            rw [nn_lit 48, nn_lit 57, nI_leI (by omega) (by omega), nI_leI (by omega) (by omega)] at e
            exact yes (by rw [rc]; exact decide_eq_true e)
          · rw [if_neg e]
            rw [nn_lit 48, nn_lit 57, nI_leI (by omega) (by omega), nI_leI (by omega) (by omega)] at e
            exact no (by rw [rc]; exact decide_eq_false e)
  have := key B.length 0 (by omega) 0 (MV.read M) rfl ⟨rfl, fun m hm => absurd hm (by omega)⟩
  exact this
