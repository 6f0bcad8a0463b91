/-! cut: the model -/
def drC (seed col e : Nat) : Nat := 1 + (if e = 0 then seed else e) % 10 % col
def drE (seed e : Nat) : Nat := (if e = 0 then seed else e) / 10
abbrev CS : Type := (Nat → Nat) × Nat
def setD (D : Nat → Nat) (i x : Nat) : Nat → Nat := fun j => if j = i then x else D j
theorem setD_s (D : Nat → Nat) (i x : Nat) : setD D i x i = x := if_pos rfl
theorem setD_n (D : Nat → Nat) {i j : Nat} (x : Nat) (h : j ≠ i) : setD D i x j = D j := if_neg h
def putS (D : Nat → Nat) (k s j a b : Nat) : Nat → Nat := setD (setD (setD (setD D (8 * k + 0 + s) a) (8 * j + 0 + (s + 2) % 4) a) (8 * k + 4 + s) b) (8 * j + 4 + (s + 2) % 4) b
def sideS (r c seed col k s : Nat) (C : CS) : CS := match nb r c k s with
  | none => C
  | some j => (putS C.1 k s j (drC seed col C.2) (drC seed col (drE seed C.2)), drE seed (drE seed C.2))
def runC (r c seed col : Nat) : Nat → CS
  | 0 => (fun _ => 0, 0)
  | k + 1 => sideS r c seed col k 2 (sideS r c seed col k 1 (runC r c seed col k))
def fcA (D : Nat → Nat) (k : Nat) : Nat := 10 * (10 * (10 * (10 * 0 + D (8 * k + 0)) + D (8 * k + 1)) + D (8 * k + 2)) + D (8 * k + 3)
def fcB (D : Nat → Nat) (k : Nat) : Nat := 10 * (10 * (10 * (10 * 0 + D (8 * k + 4 + 0)) + D (8 * k + 4 + 3)) + D (8 * k + 4 + 2)) + D (8 * k + 4 + 1)
def cutN (S : AS) (D : Nat → Nat) : Nat → AS
  | 0 => (S.r, S.c, S.ru, 0, S.F, fun _ => none, fun _ => false)
  | k + 1 => addF (cutN S D k) (fcA D k) (fcB D k)
def cutA (S : AS) (seed col : Nat) : AS := cutN S (runC S.r S.c seed col S.n).1 S.n
theorem drC_le {seed col e : Nat} (h1 : 1 ≤ col) (h9 : col ≤ 9) : drC seed col e ≤ 9 := by
  have := Nat.mod_lt ((if e = 0 then seed else e) % 10) (show 0 < col by omega)
  unfold drC
  omega
theorem drE_le {seed e : Nat} (h : e ≤ seed) : drE seed e ≤ seed := by
  unfold drE
  split <;> omega
theorem putS_9 {D : Nat → Nat} (h : ∀ i, D i ≤ 9) {a b : Nat} (ha : a ≤ 9) (hb : b ≤ 9) (k s j i : Nat) : putS D k s j a b i ≤ 9 := by
  have st : ∀ (E : Nat → Nat) (x y : Nat), (∀ i, E i ≤ 9) → y ≤ 9 → ∀ i, setD E x y i ≤ 9 := fun E x y hE hy i => by
    unfold setD
    split
    · exact hy
    · exact hE i
  exact st _ _ _ (st _ _ _ (st _ _ _ (st _ _ _ h ha) ha) hb) hb i
theorem sideS_9 {r c seed col k s : Nat} (h1 : 1 ≤ col) (h9 : col ≤ 9) {C : CS} (h : ∀ i, C.1 i ≤ 9) (he : C.2 ≤ seed) : (∀ i, (sideS r c seed col k s C).1 i ≤ 9) ∧ (sideS r c seed col k s C).2 ≤ seed := by
  unfold sideS
  split
  · exact ⟨h, he⟩
  · exact ⟨fun i => putS_9 h (drC_le h1 h9) (drC_le h1 h9) _ _ _ i, drE_le (drE_le he)⟩
theorem runC_9 {r c seed col : Nat} (h1 : 1 ≤ col) (h9 : col ≤ 9) : ∀ k, (∀ i, (runC r c seed col k).1 i ≤ 9) ∧ (runC r c seed col k).2 ≤ seed
  | 0 => ⟨fun i => Nat.zero_le _, Nat.zero_le _⟩
  | k + 1 => by
    have h := runC_9 (r := r) (c := c) (seed := seed) h1 h9 k
    have h2 := sideS_9 (r := r) (c := c) (k := k) (s := 1) h1 h9 h.1 h.2
    exact sideS_9 (r := r) (c := c) (k := k) (s := 2) h1 h9 h2.1 h2.2
theorem fcA_le {D : Nat → Nat} (h : ∀ i, D i ≤ 9) (k : Nat) : fcA D k ≤ 9999 := by
  have h0 := h (8 * k + 0); have h1 := h (8 * k + 1); have h2 := h (8 * k + 2); have h3 := h (8 * k + 3)
  unfold fcA
  omega
theorem fcB_le {D : Nat → Nat} (h : ∀ i, D i ≤ 9) (k : Nat) : fcB D k ≤ 9999 := by
  have h0 := h (8 * k + 4 + 0); have h1 := h (8 * k + 4 + 1); have h2 := h (8 * k + 4 + 2); have h3 := h (8 * k + 4 + 3)
  unfold fcB
  omega
theorem cutN_t (S : AS) (D : Nat → Nat) : ∀ k, (cutN S D k).t = k
  | 0 => rfl
  | k + 1 => by
    show (cutN S D k).t + 1 = k + 1
    rw [cutN_t S D k]
theorem cutN_inv {S : AS} (hI : Inv S) {D : Nat → Nat} (h : ∀ i, D i ≤ 9) : ∀ k, k ≤ 12 → Inv (cutN S D k)
  | 0, _ => by
    obtain ⟨h1, h2, h3, h4, h5, h6, h7⟩ := hI
    exact ⟨h1, h2, h3, Nat.zero_le _, h5, fun k p e => (nomatch e), fun k k' p p' e => (nomatch e), fun k e => (nomatch e)⟩
  | k + 1, hk => (cutN_inv hI h k (by omega)).addF (by rw [cutN_t]; omega) (fcA_le h k) (fcB_le h k)
theorem cutN_F (S : AS) (D : Nat → Nat) : ∀ n k, k < n → (cutN S D n).F (2 * k) = fcA D k ∧ (cutN S D n).F (2 * k + 1) = fcB D k
  | 0, k, h => absurd h (Nat.not_lt_zero k)
  | n + 1, k, h => by
    have e1 : (cutN S D (n + 1)).F (2 * k) = if 2 * k = 2 * (cutN S D n).t then fcA D n else if 2 * k = 2 * (cutN S D n).t + 1 then fcB D n else (cutN S D n).F (2 * k) := rfl
    have e2 : (cutN S D (n + 1)).F (2 * k + 1) = if 2 * k + 1 = 2 * (cutN S D n).t then fcA D n else if 2 * k + 1 = 2 * (cutN S D n).t + 1 then fcB D n else (cutN S D n).F (2 * k + 1) := rfl
    rw [cutN_t] at e1 e2
    rw [e1, e2]
    by_cases e : k = n
    · subst e
      rw [if_pos rfl, if_neg (by omega), if_pos rfl]
      exact ⟨rfl, rfl⟩
    · rw [if_neg (by omega), if_neg (by omega), if_neg (by omega), if_neg (by omega)]
      exact cutN_F S D n k (by omega)
theorem cutN_P (S : AS) (D : Nat → Nat) (j : Nat) : ∀ n, (cutN S D n).P j = none ∧ (cutN S D n).X j = false
  | 0 => ⟨rfl, rfl⟩
  | n + 1 => cutN_P S D j n
theorem cutN_rc (S : AS) (D : Nat → Nat) : ∀ n, (cutN S D n).r = S.r ∧ (cutN S D n).c = S.c ∧ (cutN S D n).ru = S.ru
  | 0 => ⟨rfl, rfl, rfl⟩
  | n + 1 => cutN_rc S D n
/-- the look of a cut tile -/
theorem cutN_lk (S : AS) {D : Nat → Nat} (h : ∀ i, D i ≤ 9) {n k : Nat} (hk : k < n) {j : Nat} (hj : j < 8) : lk (cutN S D n).F (8 * k) j = D (8 * k + j) := by
  obtain ⟨e1, e2⟩ := cutN_F S D n k hk
  rw [lk_0, e1, e2]
  have g : ∀ f x, dig f x = if x = 0 then f / 1000 else if x = 1 then f / 100 % 10 else if x = 2 then f / 10 % 10 else f % 10 := fun f x => rfl
  have h0 := h (8 * k + 0); have h1 := h (8 * k + 1); have h2 := h (8 * k + 2); have h3 := h (8 * k + 3)
  have h4 := h (8 * k + 4 + 0); have h5 := h (8 * k + 4 + 1); have h6 := h (8 * k + 4 + 2); have h7 := h (8 * k + 4 + 3)
  unfold rowA fcA fcB
  rcases lt8 hj with rfl | rfl | rfl | rfl | rfl | rfl | rfl | rfl
  · rw [if_pos (by omega), g, if_pos rfl]; omega
  · rw [if_pos (by omega), g, if_neg (by omega), if_pos rfl]; omega
  · rw [if_pos (by omega), g, if_neg (by omega), if_neg (by omega), if_pos rfl]; omega
  · rw [if_pos (by omega), g, if_neg (by omega), if_neg (by omega), if_neg (by omega)]; omega
  · rw [if_neg (by omega), g, if_pos (by omega)]
    show _ = D (8 * k + 4 + 0)
    omega
  · rw [if_neg (by omega), g, if_neg (by omega), if_neg (by omega), if_neg (by omega)]
    show _ = D (8 * k + 4 + 1)
    omega
  · rw [if_neg (by omega), g, if_neg (by omega), if_neg (by omega), if_pos (by omega)]
    show _ = D (8 * k + 4 + 2)
    omega
  · rw [if_neg (by omega), g, if_neg (by omega), if_pos (by omega)]
    show _ = D (8 * k + 4 + 3)
    omega
/-- the sides that aren't drawn yet are 0 -/
def ZD (c : Nat) (k : Nat) (D : Nat → Nat) : Prop := (∀ q, k ≤ q → D (8 * q + 0 + 1) = 0 ∧ D (8 * q + 4 + 1) = 0 ∧ D (8 * q + 0 + 2) = 0 ∧ D (8 * q + 4 + 2) = 0) ∧ (∀ q, k < q → D (8 * q + 0 + 3) = 0 ∧ D (8 * q + 4 + 3) = 0) ∧ (∀ q, k + c ≤ q → D (8 * q + 0 + 0) = 0 ∧ D (8 * q + 4 + 0) = 0)
def ZE (c : Nat) (k : Nat) (D : Nat → Nat) : Prop := (∀ q, k < q → D (8 * q + 0 + 1) = 0 ∧ D (8 * q + 4 + 1) = 0) ∧ (∀ q, k ≤ q → D (8 * q + 0 + 2) = 0 ∧ D (8 * q + 4 + 2) = 0) ∧ (∀ q, k + 1 < q → D (8 * q + 0 + 3) = 0 ∧ D (8 * q + 4 + 3) = 0) ∧ (∀ q, k + c ≤ q → D (8 * q + 0 + 0) = 0 ∧ D (8 * q + 4 + 0) = 0)
theorem putS_o {D : Nat → Nat} {k s j a b i : Nat} (h1 : i ≠ 8 * k + 0 + s) (h2 : i ≠ 8 * j + 0 + (s + 2) % 4) (h3 : i ≠ 8 * k + 4 + s) (h4 : i ≠ 8 * j + 4 + (s + 2) % 4) : putS D k s j a b i = D i := by
  unfold putS
  rw [setD_n _ _ h4, setD_n _ _ h3, setD_n _ _ h2, setD_n _ _ h1]
theorem nb_1 {r c k j : Nat} (h : nb r c k 1 = some j) : j = k + 1 := by
  unfold nb at h
  rw [if_neg (by omega), if_pos rfl] at h
  split at h
  · cases h; rfl
  · cases h
theorem nb_2 {r c k j : Nat} (h : nb r c k 2 = some j) : j = k + c := by
  unfold nb at h
  rw [if_neg (by omega), if_neg (by omega), if_pos rfl] at h
  split at h
  · cases h; rfl
  · cases h
theorem ZD.one {r c seed col k : Nat} (hc : 1 ≤ c) {C : CS} (h : ZD c k C.1) : ZE c k (sideS r c seed col k 1 C).1 := by
  obtain ⟨z1, z2, z3⟩ := h
  unfold sideS
  split
  · exact ⟨fun q hq => ⟨(z1 q (by omega)).1, (z1 q (by omega)).2.1⟩, fun q hq => ⟨(z1 q hq).2.2.1, (z1 q hq).2.2.2⟩, fun q hq => z2 q (by omega), z3⟩
  · next j e =>
    have ej := nb_1 e
    subst ej
    refine ⟨fun q hq => ⟨?_, ?_⟩, fun q hq => ⟨?_, ?_⟩, fun q hq => ⟨?_, ?_⟩, fun q hq => ⟨?_, ?_⟩⟩
    · exact (putS_o (by omega) (by omega) (by omega) (by omega)).trans ((z1 q (by omega)).1)
    · exact (putS_o (by omega) (by omega) (by omega) (by omega)).trans ((z1 q (by omega)).2.1)
    · exact (putS_o (by omega) (by omega) (by omega) (by omega)).trans ((z1 q hq).2.2.1)
    · exact (putS_o (by omega) (by omega) (by omega) (by omega)).trans ((z1 q hq).2.2.2)
    · exact (putS_o (by omega) (by omega) (by omega) (by omega)).trans ((z2 q (by omega)).1)
    · exact (putS_o (by omega) (by omega) (by omega) (by omega)).trans ((z2 q (by omega)).2)
    · exact (putS_o (by omega) (by omega) (by omega) (by omega)).trans ((z3 q hq).1)
    · exact (putS_o (by omega) (by omega) (by omega) (by omega)).trans ((z3 q hq).2)
theorem ZE.two {r c seed col k : Nat} (hc : 1 ≤ c) {C : CS} (h : ZE c k C.1) : ZD c (k + 1) (sideS r c seed col k 2 C).1 := by
  obtain ⟨z1, z2, z3, z4⟩ := h
  unfold sideS
  split
  · exact ⟨fun q hq => ⟨(z1 q (by omega)).1, (z1 q (by omega)).2, (z2 q (by omega)).1, (z2 q (by omega)).2⟩, z3, fun q hq => z4 q (by omega)⟩
  · next j e =>
    have ej := nb_2 e
    subst ej
    refine ⟨fun q hq => ⟨?_, ?_, ?_, ?_⟩, fun q hq => ⟨?_, ?_⟩, fun q hq => ⟨?_, ?_⟩⟩
    · exact (putS_o (by omega) (by omega) (by omega) (by omega)).trans ((z1 q (by omega)).1)
    · exact (putS_o (by omega) (by omega) (by omega) (by omega)).trans ((z1 q (by omega)).2)
    · exact (putS_o (by omega) (by omega) (by omega) (by omega)).trans ((z2 q (by omega)).1)
    · exact (putS_o (by omega) (by omega) (by omega) (by omega)).trans ((z2 q (by omega)).2)
    · exact (putS_o (by omega) (by omega) (by omega) (by omega)).trans ((z3 q (by omega)).1)
    · exact (putS_o (by omega) (by omega) (by omega) (by omega)).trans ((z3 q (by omega)).2)
    · exact (putS_o (by omega) (by omega) (by omega) (by omega)).trans ((z4 q (by omega)).1)
    · exact (putS_o (by omega) (by omega) (by omega) (by omega)).trans ((z4 q (by omega)).2)
theorem runC_Z {r c seed col : Nat} (hc : 1 ≤ c) : ∀ k, ZD c k (runC r c seed col k).1
  | 0 => ⟨fun q _ => ⟨rfl, rfl, rfl, rfl⟩, fun q _ => ⟨rfl, rfl⟩, fun q _ => ⟨rfl, rfl⟩⟩
  | k + 1 => ((runC_Z (r := r) (seed := seed) (col := col) hc k).one hc).two hc
