/-! THE LAW'S ACTIONS: each on its own board, and the class's call beside it -/
theorem lbB.fx {b ti : IV} {S : AS} (h : lbB b ti S) {k : Nat} (hk : k < 12) (x : Bool) : lbB (upd b (16 + k) (nI x.toNat)) ti (xS S k x) := by
  obtain ⟨h0, h1, h2, h3, h4, h5, h6⟩ := h
  refine ⟨?_, ?_, ?_, ?_, fun j hj => ?_, fun j hj => ?_, h6⟩
  · rw [pk_un (by omega)]; exact h0
  · rw [pk_un (by omega)]; exact h1
  · rw [pk_un (by omega)]; exact h2
  · rw [pk_un (by omega)]; exact h3
  · rw [pk_un (by omega)]; exact h4 j hj
  · show upd b (16 + k) (nI x.toNat) (16 + j) = nI (if j = k then x else S.X j).toNat
    by_cases e : j = k
    · rw [e, pk_us, if_pos rfl]
    · rw [pk_un (by omega), if_neg e]; exact h5 j hj
theorem lbB.rul {b ti : IV} {S : AS} (h : lbB b ti S) (x : Nat) : lbB (upd b 2 (nI x)) ti (ruS S x) := by
  obtain ⟨h0, h1, h2, h3, h4, h5, h6⟩ := h
  refine ⟨?_, ?_, ?_, ?_, fun j hj => ?_, fun j hj => ?_, h6⟩
  · rw [pk_un (by omega)]; exact h0
  · rw [pk_un (by omega)]; exact h1
  · rw [pk_us]; rfl
  · rw [pk_un (by omega)]; exact h3
  · rw [pk_un (by omega)]; exact h4 j hj
  · rw [pk_un (by omega)]; exact h5 j hj
theorem lbB.til {b ti : IV} {S : AS} (h : lbB b ti S) {n : Nat} (hn : n ≤ S.t) : lbB (upd b 3 (nI n)) ti (tS S n) := by
  obtain ⟨h0, h1, h2, h3, h4, h5, h6⟩ := h
  refine ⟨?_, ?_, ?_, ?_, fun j hj => ?_, fun j hj => ?_, fun t k ht hk => h6 t k (Nat.lt_of_lt_of_le ht hn) hk⟩
  · rw [pk_un (by omega)]; exact h0
  · rw [pk_un (by omega)]; exact h1
  · rw [pk_un (by omega)]; exact h2
  · rw [pk_us]; rfl
  · rw [pk_un (by omega)]; exact h4 j hj
  · rw [pk_un (by omega)]; exact h5 j hj
/-- what an action leaves: a state of the class, the law's board beside it, no save, one, or two -/
def actP (B : List Nat) (L : List AS) (S : AS) (Q : Int32 → XV → IV → IV → Prop) : Prop := ∀ v' b' ti' S' L', RX v' S' L' B → lbB b' ti' S' → lbS S' → (L' = L ∨ L' = pushS L S ∨ ∃ T, L' = pushS (pushS L S) T) → Q 1 v' b' ti'
section AC
variable {v : XV} {b ti : IV} {S : AS} {L : List AS} {B : List Nat} {Q : Int32 → XV → IV → IV → Prop}
theorem actP.same (hQ : actP B L S Q) (hX : RX v S L B) (h : lbB b ti S) (hs : lbS S) : Q 1 v b ti := hQ _ _ _ _ _ hX h hs (Or.inl rfl)
theorem actP.one (hQ : actP B L S Q) {v' : XV} {b' ti' : IV} {S' : AS} (hX : RX v' S' (pushS L S) B) (h : lbB b' ti' S') (hs : lbS S') : Q 1 v' b' ti' := hQ _ _ _ _ _ hX h hs (Or.inr (Or.inl rfl))
theorem ac_54 {K : XV → IV → IV → Int32 → Prop} {x3 : Int32} (hK : ∀ b', b' 0 = b 0 → b' 1 = b 1 → b' 2 = b 2 → b' 3 = b 3 → (∀ j, j < 12 → b' (4 + j) = -1 ∧ b' (16 + j) = 0) → K v b' ti x3) : wp_L_act_54 Q K v b ti x3 0 := by
  intro P hP
  have key : ∀ d i : Nat, i + d = 12 → ∀ b', b' 0 = b 0 → b' 1 = b 1 → b' 2 = b 2 → b' 3 = b 3 → (∀ j, j < i → b' (4 + j) = -1 ∧ b' (16 + j) = 0) → P v b' ti x3 (nI i) := by
    intro d
    induction d with
    | zero =>
      intro i hi b' g0 g1 g2 g3 g4
      obtain rfl : i = 12 := by omega
      exact hP _ _ _ _ _ (bq_t (by decide) (hK b' g0 g1 g2 g3 g4))
    | succ d ih =>
      intro i hi b' g0 g1 g2 g3 g4
      apply hP
      unfold bd_L_act_54
      refine bq_f (fun z => by rw [nn_lit 12, nI_leI (by omega) (by omega)] at z; omega) ?_
      rw [nn_lit 4, nn_lit 16, nI_add, nI_add, nI_clamp (n := 4 + i) (by omega), nI_clamp (n := 16 + i) (by omega)]
      refine ⟨vp_in_nI (by omega) (by omega), fun o ho => ⟨vp_in_nI (by omega) (by omega), fun o2 ho2 x hx => ?_⟩⟩
      rw [nI_1] at hx
      subst hx
      have ne : ∀ j, j ≠ 4 + i → j ≠ 16 + i → o2 j = b' j := fun j h1 h2 => by rw [ho2, pk_un h2, ho, pk_un h1]
      refine ih (i + 1) (by omega) o2 ((ne 0 (by omega) (by omega)).trans g0) ((ne 1 (by omega) (by omega)).trans g1) ((ne 2 (by omega) (by omega)).trans g2) ((ne 3 (by omega) (by omega)).trans g3) (fun j hj => ?_)
      by_cases e : j = i
      · subst e
        exact ⟨by rw [ho2, pk_un (by omega), ho, pk_us], by rw [ho2, pk_us]⟩
      · have h9 := g4 j (by omega)
        exact ⟨(ne _ (by omega) (by omega)).trans h9.1, (ne _ (by omega) (by omega)).trans h9.2⟩
  exact key 12 0 (by omega) b rfl rfl rfl rfl (fun j hj => absurd hj (Nat.not_lt_zero j))
theorem ac_begin (hX : RX v S L B) (h : lbB b ti S) (hs : lbS S) (hQ : actP B L S Q) {x2 x3 : Int32} : wp_L_act_27 Q v b ti x2 x3 := by
  have ht6 := hs.2.2
  obtain ⟨b0, b1, b2, b3, b4, b5, b6⟩ := h
  unfold wp_L_act_27
  refine sp_L_at (n := 2) (by omega) (by omega) (fun m hm f3 hf3 o4 ho4 => sp_L_at (n := 3) (by omega) (by omega) (fun m2 hm2 f6 hf6 o7 ho7 => ?_))
  rw [nn_lit 1, nI_add] at hf3 hf6
  subst hf3 hf6
  refine ac_54 (fun b' g0 g1 g2 g3 g4 => ?_)
  have e0 : b' 0 = nI (1 + m) := by rw [g0, ho7, pk_un (by omega), ho4, pk_us]
  have e1 : b' 1 = nI (1 + m2) := by rw [g1, ho7, pk_us]
  have e2 : b' 2 = nI S.ru := by rw [g2, ho7, pk_un (by omega), ho4, pk_un (by omega), b2]
  have e3 : b' 3 = nI S.t := by rw [g3, ho7, pk_un (by omega), ho4, pk_un (by omega), b3]
  have hb : lbB b' ti ((1 + m, 1 + m2, S.ru, S.t, S.F, fun _ => none, fun _ => false) : AS) := ⟨e0, e1, e2, e3, fun j hj => (g4 j hj).1, fun j hj => (g4 j hj).2, b6⟩
  rw [e0, e1, pk_mul]
  refine us_begin hX (by omega) (by omega) (fun v1 hX1 => bq_t rfl ?_)
  have hs1 : lbS ((1 + m, 1 + m2, S.ru, S.t, S.F, fun _ => none, fun _ => false) : AS) := ⟨by show 1 + m ≤ 2; omega, by show 1 + m2 ≤ 3; omega, ht6⟩
  refine sp_L_at (n := 99999999) (by omega) (by omega) (fun m3 hm3 x7 hx7 => sp_L_at (n := 4) (by omega) (by omega) (fun m4 hm4 x8 hx8 => ?_))
  rw [nn_lit 1, nI_add] at hx7 hx8
  subst hx7 hx8
  refine sp_L_cut hb hX1.2.1 hs1 (by omega) (by omega) (fun b'' ti'' hb'' => us_cut hX1 (by omega) (by omega) (fun v2 hX2 => ?_))
  have rc := cutN_rc ((1 + m, 1 + m2, S.ru, S.t, S.F, fun _ => none, fun _ => false) : AS) (runC (1 + m) (1 + m2) (1 + m3) (1 + m4) ((1 + m) * (1 + m2))).1 ((1 + m) * (1 + m2))
  have k0 : b'' 0 = nI (1 + m) := hb''.1.trans (congrArg nI rc.1)
  have k1 : b'' 1 = nI (1 + m2) := hb''.2.1.trans (congrArg nI rc.2.1)
  rw [k0, k1, pk_mul]
  have hn := hs1.n6
  have kt : (cutA ((1 + m, 1 + m2, S.ru, S.t, S.F, fun _ => none, fun _ => false) : AS) (1 + m3) (1 + m4)).t = AS.n ((1 + m, 1 + m2, S.ru, S.t, S.F, fun _ => none, fun _ => false) : AS) := cutN_t _ _ _
  have hs2 : lbS (cutA ((1 + m, 1 + m2, S.ru, S.t, S.F, fun _ => none, fun _ => false) : AS) (1 + m3) (1 + m4)) := ⟨by have := rc.1; show (cutA _ _ _).r ≤ 2; exact this ▸ hs1.1, by have := rc.2.1; show (cutA _ _ _).c ≤ 3; exact this ▸ hs1.2.1, by rw [kt]; exact hn⟩
  exact bn_t rfl (hQ _ _ _ _ _ hX2 hb'' hs2 (Or.inr (Or.inr ⟨_, rfl⟩)))
/-! lay -/
theorem ac_254 {K : XV → IV → IV → Int32 → Int32 → Int32 → Prop} {x7 x9 : Int32} {T : AS} (hI : Inv T) (hs : lbS T) (h : lbB b ti T) (hK : K v b ti x7 x9 (nI (empties T))) : wp_L_act_254 Q K v b ti (nI T.n) x7 x9 0 0 := by
  have hn6 := hs.n6
  intro P hP
  have key : ∀ d i : Nat, i + d = T.n → P v b ti (nI T.n) x7 x9 (nI (cnt (fun k => (T.P k).isNone) i)) (nI i) := by
    intro d
    induction d with
    | zero =>
      intro i hi
      obtain rfl : i = T.n := by omega
      exact hP _ _ _ _ _ _ _ _ (bq_t ((nI_leI (a := T.n) (b := T.n) (by omega) (by omega)).mpr (Nat.le_refl _)) hK)
    | succ d ih =>
      intro i hi
      have nx := ih (i + 1) (by omega)
      have e0 : cnt (fun k => (T.P k).isNone) (i + 1) = cnt (fun k => (T.P k).isNone) i + ((T.P i).isNone).toNat := rfl
      rw [e0] at nx
      apply hP
      unfold bd_L_act_254
      refine bq_f (fun z => by rw [nI_leI (by omega) (by omega)] at z; omega) ?_
      rw [nn_lit 4, nI_add, nI_clamp (n := 4 + i) (by omega), h.2.2.2.2.1 i (by omega)]
      refine ⟨vp_in_nI (by omega) (by omega), ?_⟩
      cases hp : T.P i with
      | none =>
        rw [hp] at nx
        refine bq_f (by decide) (fun x10 hx10 x11 hx11 => ?_)
        rw [nI_1] at hx10 hx11
        subst hx10 hx11
        exact nx
      | some p =>
        have hp9 := hI.p96 hp
        rw [hp] at nx
        refine bq_t (nI_pos' (by omega)) (fun x10 hx10 x11 hx11 => ?_)
        rw [Int32.add_zero] at hx10
        rw [nI_1] at hx11
        subst hx10 hx11
        exact nx
  exact key T.n 0 (by omega)
theorem ac_lay (hX : RX v S L B) (h : lbB b ti S) (hs : lbS S) (hQ : actP B L S Q) {x3 : Int32} {k : Nat} (hk : k < S.n) {K : XV → IV → IV → Int32 → Int32 → Int32 → Prop}
    (hK : ∀ q, q < 8 * S.t → why S k q = 0 → K v b ti (nI S.n) (nI k) (nI q)) : wp_L_act_186 Q K v b ti x3 (nI S.n) (nI k) 0 := by
  have hI := hX.2.1
  have ht6 := hs.2.2
  intro P hP
  have key : ∀ d i : Nat, i + d = 8 * S.t → P v b ti x3 (nI S.n) (nI k) (nI i) := by
    intro d
    induction d with
    | zero =>
      intro i hi
      apply hP
      unfold bd_L_act_186
      rw [h.2.2.2.1, nn_lit 8, pk_mul]
      exact bq_t ((nI_leI (by omega) (by omega)).mpr (by omega)) (hQ.same hX h hs)
    | succ d ih =>
      intro i hi
      apply hP
      unfold bd_L_act_186
      rw [h.2.2.2.1, nn_lit 8, pk_mul]
      refine bq_f (fun z => by rw [nI_leI (by omega) (by omega)] at z; omega) ?_
      refine sp_L_at (by omega) (by omega) (fun m hm => ⟨fun z => by rw [nn_eq0 (by omega)] at z; omega, fun x9 hx9 => ?_⟩)
      rw [nI_add, nn_rem (by omega) (by omega) (by omega)] at hx9
      subst hx9
      have hq : (m + i) % (8 * S.t) < 8 * S.t := Nat.mod_lt _ (by omega)
      have hw := why_le S k ((m + i) % (8 * S.t))
      refine sp_L_why h hI hs hk hq (ek_if (nI_leI (b := 0) (by omega) (by omega)) (fun e => hK _ hq (by omega)) (fun e x hx => ?_))
      rw [nI_1] at hx
      subst hx
      exact ih (i + 1) (by omega)
  exact key (8 * S.t) 0 (by omega)
/-! clear -/
theorem clrS_up {S : AS} {i : Nat} (h : S.P i = none ∨ S.X i = true) : clrS S (i + 1) = clrS S i := AS.ext' rfl rfl rfl rfl rfl (fun j => by
  show (if j < i + 1 ∧ S.X j = false then none else S.P j) = (if j < i ∧ S.X j = false then none else S.P j)
  by_cases e : j = i
  · subst e
    rw [if_neg (c := j < j ∧ S.X j = false) (by omega)]
    by_cases e2 : S.X j = false
    · rw [if_pos ⟨by omega, e2⟩]
      rcases h with h | h
      · exact h.symm
      · rw [h] at e2; cases e2
    · rw [if_neg (fun z => e2 z.2)]
  · by_cases e2 : j < i ∧ S.X j = false
    · rw [if_pos e2, if_pos ⟨by omega, e2.2⟩]
    · rw [if_neg e2, if_neg (fun z => e2 ⟨by omega, z.2⟩)]) rfl
theorem clrS_put {S : AS} {i : Nat} (h : S.X i = false) : (clrS S i).put i none = clrS S (i + 1) := AS.ext' rfl rfl rfl rfl rfl (fun j => by
  by_cases e : j = i
  · subst e
    rw [put_at]
    show none = (if j < j + 1 ∧ S.X j = false then none else S.P j)
    rw [if_pos ⟨by omega, h⟩]
  · rw [put_ne _ _ e]
    show (if j < i ∧ S.X j = false then none else S.P j) = (if j < i + 1 ∧ S.X j = false then none else S.P j)
    by_cases e2 : j < i ∧ S.X j = false
    · rw [if_pos e2, if_pos ⟨by omega, e2.2⟩]
    · rw [if_neg e2, if_neg (fun z => e2 ⟨by omega, z.2⟩)]) rfl
theorem clrS_0 (S : AS) : clrS S 0 = S := AS.ext' rfl rfl rfl rfl rfl (fun j => by
  show (if j < 0 ∧ S.X j = false then none else S.P j) = S.P j
  rw [if_neg (by omega)]) rfl
theorem ac_clear (hI : Inv S) (h : lbB b ti S) (hs : lbS S) {K : XV → IV → IV → Int32 → Prop} (hK : ∀ b', lbB b' ti (clrS S S.n) → K v b' ti (nI (sm (fun j => (clrB S j).toNat) S.n))) : wp_L_act_496 Q K v b ti (nI S.n) 0 0 := by
  have hn6 := hs.n6
  intro P hP
  have key : ∀ d i : Nat, i + d = S.n → ∀ b', lbB b' ti (clrS S i) → P v b' ti (nI S.n) (nI (sm (fun j => (clrB S j).toNat) i)) (nI i) := by
    intro d
    induction d with
    | zero =>
      intro i hi b' hb
      obtain rfl : i = S.n := by omega
      exact hP _ _ _ _ _ _ (bq_t ((nI_leI (a := S.n) (b := S.n) (by omega) (by omega)).mpr (Nat.le_refl _)) (hK b' hb))
    | succ d ih =>
      intro i hi b' hb
      have e0 : sm (fun j => (clrB S j).toNat) (i + 1) = sm (fun j => (clrB S j).toNat) i + (clrB S i).toNat := rfl
      have ep : (clrS S i).P i = S.P i := if_neg (by omega)
      have hp4 := hb.2.2.2.2.1 i (by omega)
      have hp5 : b' (16 + i) = nI (S.X i).toNat := hb.2.2.2.2.2.1 i (by omega)
      rw [ep] at hp4
      apply hP
      unfold bd_L_act_496
      refine bq_f (fun z => by rw [nI_leI (by omega) (by omega)] at z; omega) ?_
      rw [nn_lit 4, nI_add, nI_clamp (n := 4 + i) (by omega), nn_lit 16, nI_add, nI_clamp (n := 16 + i) (by omega), hp4, hp5]
      refine ⟨vp_in_nI (by omega) (by omega), ?_⟩
      have same : (S.P i = none ∨ S.X i = true) → wp_L_act_539 P K Q v b' ti (nI S.n) (nI (sm (fun j => (clrB S j).toNat) i)) (nI i) := by
        intro hh x hx
        rw [nI_1] at hx
        subst hx
        have ec : clrB S i = false := by
          unfold clrB
          rcases hh with hh | hh
          · rw [hh]; rfl
          · rw [hh, Bool.not_true, Bool.and_false]
        have nx := ih (i + 1) (by omega) b' (by rw [clrS_up hh]; exact hb)
        rw [e0, ec] at nx
        exact nx
      cases hp : S.P i with
      | none => exact bq_t (by decide) (same (Or.inl hp))
      | some p =>
        have hp9 := hI.p96 hp
        refine bq_f (nI_pos (by omega)) ⟨vp_in_nI (by omega) (by omega), ?_⟩
        cases hx : S.X i with
        | true => exact bn_t rfl (same (Or.inr hx))
        | false =>
          refine bn_f (by decide) ⟨vp_in_nI (by omega) (by omega), fun o ho x8 hx8 x9 hx9 => ?_⟩
          rw [nI_1] at hx8 hx9
          subst hx8 hx9
          have ec : clrB S i = true := by unfold clrB; rw [hp, hx]; rfl
          have nx := ih (i + 1) (by omega) o (by rw [← clrS_put hx, ho]; exact hb.put (by omega) none)
          rw [e0, ec] at nx
          exact nx
  exact key S.n 0 (by omega) b (by rw [clrS_0]; exact h)
/-! turnOver -/
theorem trn_i : ∀ p : Nat, p < 96 → ((((nI p) ^^^ 4) - (jrem (nI p) 4)) + (jrem (4 - (jrem (nI p) 4)) 4)) = nI (trn p) := by decide +kernel
theorem ac_578 {K : XV → IV → IV → IV → Int32 → Int32 → Prop} {o0 : IV} {x6 x9 : Int32} (hK : ∀ o, (∀ j, j < 28 → o j = b j) → K v b ti o x6 x9) : wp_L_act_578 Q K v b ti o0 x6 x9 0 := by
  intro P hP
  have key : ∀ d i : Nat, i + d = 28 → ∀ o, (∀ j, j < i → o j = b j) → P v b ti o x6 x9 (nI i) := by
    intro d
    induction d with
    | zero =>
      intro i hi o ho
      obtain rfl : i = 28 := by omega
      exact hP _ _ _ _ _ _ _ (bq_t (by decide) (hK o ho))
    | succ d ih =>
      intro i hi o ho
      apply hP
      unfold bd_L_act_578
      refine bq_f (fun z => by rw [nn_lit 28, nI_leI (by omega) (by omega)] at z; omega) ?_
      rw [nI_clamp (n := i) (by omega)]
      refine ⟨vp_in_nI (by omega) (by omega), fun f hf => ⟨vp_in_nI (by omega) (by omega), fun o2 ho2 x hx => ?_⟩⟩
      rw [nI_1] at hx
      subst hx
      refine ih (i + 1) (by omega) o2 (fun j hj => ?_)
      rw [ho2]
      by_cases e : j = i
      · rw [e, pk_us, hf]
      · rw [pk_un e]; exact ho j (by omega)
  exact key 28 0 (by omega) o0 (fun j hj => absurd hj (Nat.not_lt_zero j))
theorem mirK_0 (S : AS) : mirK S 0 = S := AS.ext' rfl rfl rfl rfl rfl (fun j => by
  show (if j < 0 then (S.P (mir S.c j)).map trn else S.P j) = S.P j
  rw [if_neg (Nat.not_lt_zero j)]) (funext (fun j => by
  show (if j < 0 then S.X (mir S.c j) else S.X j) = S.X j
  rw [if_neg (Nat.not_lt_zero j)]))
theorem ac_604 (hI : Inv S) (hs : lbS S) {o : IV} (ho4 : ∀ j, j < 12 → o (4 + j) = enc (S.P j)) (ho5 : ∀ j, j < 12 → o (16 + j) = nI (S.X j).toNat) (h : lbB b ti S) {K : XV → IV → IV → IV → Int32 → Prop}
    (hK : ∀ b', lbB b' ti (mirS S) → K v b' ti o (nI (S.n - empties (mirS S)))) : wp_L_act_604 Q K v b ti o (nI S.n) 0 0 := by
  have hn6 := hs.n6
  have hr := hI.1
  have hc := hI.2.1
  intro P hP
  have key : ∀ d i : Nat, i + d = S.n → ∀ b', lbB b' ti (mirK S i) → P v b' ti o (nI S.n) (nI (i - cnt (fun k => ((mirS S).P k).isNone) i)) (nI i) := by
    intro d
    induction d with
    | zero =>
      intro i hi b' hb
      obtain rfl : i = S.n := by omega
      refine hP _ _ _ _ _ _ _ (bq_t ((nI_leI (a := S.n) (b := S.n) (by omega) (by omega)).mpr (Nat.le_refl _)) ?_)
      exact hK b' hb
    | succ d ih =>
      intro i hi b' hb
      have hin : i < S.n := by omega
      have hm : mir S.c i < S.n := mir_lt hr hc hin
      have em : i / S.c * S.c + S.c - 1 - i % S.c = mir S.c i := by
        have h9 := Nat.div_add_mod i S.c
        have h8 : i / S.c * S.c = i - i % S.c := by rw [Nat.mul_comm]; omega
        unfold mir
        rw [h8]
      have hml : i % S.c < S.c := Nat.mod_lt _ (by omega)
      have hdl : i / S.c * S.c ≤ i := Nat.div_mul_le_self i S.c
      have e0 : cnt (fun k => ((mirS S).P k).isNone) (i + 1) = cnt (fun k => ((mirS S).P k).isNone) i + (((mirS S).P i).isNone).toNat := rfl
      have epi : (mirS S).P i = (S.P (mir S.c i)).map trn := if_pos hin
      have hcl := cnt_le (fun k => ((mirS S).P k).isNone) i
      have b1 : b' 1 = nI S.c := hb.2.1
      apply hP
      unfold bd_L_act_604
      refine bq_f (fun z => by rw [nI_leI (by omega) (by omega)] at z; omega) ?_
      rw [b1, pk_div (by omega) (by omega) (by omega), pk_mul, nI_add, nn_rem (by omega) (by omega) (by omega), nn_lit 1, pk_sub (by omega), pk_sub (by omega), em]
      refine ⟨fun z => by rw [nn_eq0 (by omega)] at z; omega, fun z => by rw [nn_eq0 (by omega)] at z; omega, fun x11 hx11 => ?_⟩
      subst hx11
      rw [nn_lit 4, nI_add, nI_clamp (n := 4 + mir S.c i) (by omega), ho4 _ (by omega)]
      refine ⟨vp_in_nI (by omega) (by omega), fun x12 hx12 => ?_⟩
      subst hx12
      -- both rows are written
      have wr : ∀ {t2 : Int32}, t2 = enc ((mirS S).P i) → (∀ b'', lbB b'' ti (mirK S (i + 1)) → (0 ≤ enc (S.P (mir S.c i)) → wp_L_act_711 P K Q v b'' ti o (nI S.n) (nI i) (nI (i - cnt (fun k => ((mirS S).P k).isNone) i)) 1) ∧ (¬ 0 ≤ enc (S.P (mir S.c i)) → wp_L_act_711 P K Q v b'' ti o (nI S.n) (nI i) (nI (i - cnt (fun k => ((mirS S).P k).isNone) i)) 0)) → wp_L_act_682 P K Q v b' ti o (nI S.n) (nI (i - cnt (fun k => ((mirS S).P k).isNone) i)) (nI i) (nI (mir S.c i)) (enc (S.P (mir S.c i))) (nI 4 + nI i) t2 := by
        intro t2 et hgo
        unfold wp_L_act_682
        rw [nI_add, nI_clamp (n := 4 + i) (by omega), nn_lit 16, nI_add, nI_add, nI_clamp (n := 16 + mir S.c i) (by omega), nI_clamp (n := 16 + i) (by omega), ho5 _ (by omega)]
        refine ⟨vp_in_nI (by omega) (by omega), fun o1 ho1 => ⟨vp_in_nI (by omega) (by omega), fun f hf => ⟨vp_in_nI (by omega) (by omega), fun o2 ho2 => hgo o2 ?_⟩⟩⟩
        obtain ⟨g0, g1, g2, g3, g4, g5, g6⟩ := hb
        have ne : ∀ j, j ≠ 4 + i → j ≠ 16 + i → o2 j = b' j := fun j h1 h2 => by rw [ho2, pk_un h2, ho1, pk_un h1]
        refine ⟨(ne _ (by omega) (by omega)).trans g0, (ne _ (by omega) (by omega)).trans g1, (ne _ (by omega) (by omega)).trans g2, (ne _ (by omega) (by omega)).trans g3, fun j hj => ?_, fun j hj => ?_, g6⟩
        · show o2 (4 + j) = enc (if j < i + 1 then (S.P (mir S.c j)).map trn else S.P j)
          by_cases e : j = i
          · rw [e, if_pos (by omega), ho2, pk_un (by omega), ho1, pk_us, et, epi]
          · rw [ne _ (by omega) (by omega), g4 j hj]
            show enc (if j < i then (S.P (mir S.c j)).map trn else S.P j) = _
            by_cases e2 : j < i
            · rw [if_pos e2, if_pos (by omega)]
            · rw [if_neg e2, if_neg (by omega)]
        · show o2 (16 + j) = nI (if j < i + 1 then S.X (mir S.c j) else S.X j).toNat
          by_cases e : j = i
          · rw [e, if_pos (by omega), ho2, pk_us, hf]
          · rw [ne _ (by omega) (by omega), g5 j hj]
            show nI (if j < i then S.X (mir S.c j) else S.X j).toNat = _
            by_cases e2 : j < i
            · rw [if_pos e2, if_pos (by omega)]
            · rw [if_neg e2, if_neg (by omega)]
      have nx := fun b'' hb'' => ih (i + 1) (by omega) b'' hb''
      cases hp : S.P (mir S.c i) with
      | none =>
        rw [hp] at wr epi
        have ei : ((mirS S).P i).isNone = true := by rw [epi]; rfl
        refine bq_f (by decide) (wr (by rw [epi]; rfl) (fun b'' hb'' => bq_f (by decide) (fun x9 hx9 x10 hx10 => ?_)))
        have n9 := nx b'' hb''
        rw [e0, ei, show i + 1 - (cnt (fun k => ((mirS S).P k).isNone) i + true.toNat) = i - cnt (fun k => ((mirS S).P k).isNone) i by show i + 1 - (_ + 1) = _; omega] at n9
        rw [Int32.add_zero] at hx9
        rw [nn_lit 1, nI_add] at hx10
        subst hx9 hx10
        exact n9
      | some p =>
        have hp9 := hI.p96 hp
        rw [hp] at wr epi
        have ei : ((mirS S).P i).isNone = false := by rw [epi]; rfl
        refine bq_t (nI_pos' (by omega)) (wr (by rw [epi]; exact trn_i p hp9.2) (fun b'' hb'' => bq_t (nI_pos' (by omega)) (fun x9 hx9 x10 hx10 => ?_)))
        have n9 := nx b'' hb''
        rw [e0, ei, show i + 1 - (cnt (fun k => ((mirS S).P k).isNone) i + false.toNat) = i - cnt (fun k => ((mirS S).P k).isNone) i + 1 by show i + 1 - (_ + 0) = _; omega] at n9
        rw [nI_1] at hx9
        rw [nn_lit 1, nI_add] at hx10
        subst hx9 hx10
        exact n9
  have g := key S.n 0 (by omega) b (by rw [mirK_0]; exact h)
  exact g
/-! addTile -/
theorem ac_755 {K : XV → IV → IV → Prop} (h3 : b 3 = nI S.t) (ht : S.t ≤ 5) {x2 x3 : Int32} (hK : ∀ ti', (∀ k, k < 8 → ∃ m, m < 4 ∧ ti' (8 * S.t + k) = nI m) → (∀ j, j < 8 * S.t → ti' j = ti j) → K v b ti') : wp_L_act_755 Q K v b ti x2 x3 0 := by
  intro P hP
  have key : ∀ d i : Nat, i + d = 8 → ∀ ti', (∀ k, k < i → ∃ m, m < 4 ∧ ti' (8 * S.t + k) = nI m) → (∀ j, j < 8 * S.t → ti' j = ti j) → P v b ti' x2 x3 (nI i) := by
    intro d
    induction d with
    | zero =>
      intro i hi ti' g1 g2
      obtain rfl : i = 8 := by omega
      exact hP _ _ _ _ _ _ (bq_t (by decide) (hK ti' g1 g2))
    | succ d ih =>
      intro i hi ti' g1 g2
      apply hP
      unfold bd_L_act_755
      refine bq_f (fun z => by rw [nn_lit 8, nI_leI (by omega) (by omega)] at z; omega) ?_
      refine sp_L_at (n := 4) (by omega) (by omega) (fun m hm => ?_)
      rw [h3, nn_lit 8, pk_mul, nI_add, nI_clamp (n := 8 * S.t + i) (by omega)]
      refine ⟨vp_in_nI (by omega) (by omega), fun o ho x hx => ?_⟩
      rw [nI_1] at hx
      subst hx
      refine ih (i + 1) (by omega) o (fun k hk => ?_) (fun j hj => by rw [ho, pk_un (by omega)]; exact g2 j hj)
      by_cases e : k = i
      · exact ⟨m, hm, by rw [e, ho, pk_us]⟩
      · obtain ⟨m2, hm2, e2⟩ := g1 k (by omega)
        exact ⟨m2, hm2, by rw [ho, pk_un (by omega)]; exact e2⟩
  exact key 8 0 (by omega) ti (fun k hk => absurd hk (Nat.not_lt_zero k)) (fun _ _ => rfl)
theorem dig4 {d0 d1 d2 d3 : Nat} (h0 : d0 < 10) (h1 : d1 < 10) (h2 : d2 < 10) (h3 : d3 < 10) : dig (1000 * d0 + 100 * d1 + 10 * d2 + d3) 0 = d0 ∧ dig (1000 * d0 + 100 * d1 + 10 * d2 + d3) 1 = d1 ∧ dig (1000 * d0 + 100 * d1 + 10 * d2 + d3) 2 = d2 ∧ dig (1000 * d0 + 100 * d1 + 10 * d2 + d3) 3 = d3 := by
  have g : ∀ f x, dig f x = if x = 0 then f / 1000 else if x = 1 then f / 100 % 10 else if x = 2 then f / 10 % 10 else f % 10 := fun f x => rfl
  refine ⟨?_, ?_, ?_, ?_⟩
  · rw [g, if_pos rfl]; omega
  · rw [g, if_neg (by omega), if_pos rfl]; omega
  · rw [g, if_neg (by omega), if_neg (by omega), if_pos rfl]; omega
  · rw [g, if_neg (by omega), if_neg (by omega), if_neg (by omega)]; omega
/-! solve -/
theorem tryA_1c {rec : AS → Nat → Nat → SR} {k : Nat} (hr : ∀ S st, (rec S 0 st).1 = 0 ∨ ((rec S 0 st).1 = 1 ∧ (rec S 0 st).2.2.2.1 = true ∧ (rec S 0 st).2.2.1 = false)) : ∀ (n p : Nat) (S : AS) (st : Nat), (tryA rec k n p S 0 st).1 = 0 ∨ ((tryA rec k n p S 0 st).1 = 1 ∧ (tryA rec k n p S 0 st).2.2.2.1 = true ∧ (tryA rec k n p S 0 st).2.2.1 = false)
  | 0, p, S, st => Or.inl rfl
  | n + 1, p, S, st => by
    rw [tryA_s]
    by_cases e : why S k p = 0
    · rw [if_pos e]
      by_cases e2 : st = 600
      · rw [if_pos e2]; exact Or.inl rfl
      · rw [if_neg e2]
        by_cases e3 : (rec (S.put k (some p)) 0 (st + 1)).2.2.2.1 = true
        · rw [if_pos e3]; exact hr _ _
        · rw [if_neg e3]
          have e4 : (rec (S.put k (some p)) 0 (st + 1)).1 = 0 := by
            rcases hr (S.put k (some p)) (st + 1) with g | g
            · exact g
            · exact absurd g.2.1 e3
          rw [e4]
          exact tryA_1c hr n (p + 1) S _
    · rw [if_neg e]
      exact tryA_1c hr n (p + 1) S st
theorem fillA_1c : ∀ (ks : List Nat) (S : AS) (st : Nat), (fillA 1 ks S 0 st).1 = 0 ∨ ((fillA 1 ks S 0 st).1 = 1 ∧ (fillA 1 ks S 0 st).2.2.2.1 = true ∧ (fillA 1 ks S 0 st).2.2.1 = false)
  | [], S, st => Or.inr ⟨rfl, rfl, rfl⟩
  | k :: ks, S, st => tryA_1c (fillA_1c ks) _ _ S st
def mixS (S T : AS) (i : Nat) : AS := (S.r, S.c, S.ru, S.t, S.F, fun j => if j < i then T.P j else S.P j, S.X)
theorem ac_994 {se : IV} {T : AS} (hI : Inv S) (hs : lbS S) (hO : Only (opens S) S T) (hT : Inv T) (hse : ∀ j ∈ opens S, se (3 + j) = enc (T.P j)) (h : lbB b ti S) {K : XV → IV → IV → IV → Int32 → Prop}
    (hK : ∀ b', lbB b' ti T → K v b' ti se (nI (empties S))) : wp_L_act_994 Q K v b ti se (nI S.n) 0 0 := by
  have hn6 := hs.n6
  obtain ⟨q1, q2, q3, q4, q5, q6, q7⟩ := hO
  intro P hP
  have key : ∀ d i : Nat, i + d = S.n → ∀ b', lbB b' ti (mixS S T i) → P v b' ti se (nI S.n) (nI (cnt (fun k => (S.P k).isNone) i)) (nI i) := by
    intro d
    induction d with
    | zero =>
      intro i hi b' hb
      obtain rfl : i = S.n := by omega
      have e : mixS S T S.n = T := AS.ext' q1.symm q2.symm q3.symm q4.symm q5.symm (fun j => by
        show (if j < S.n then T.P j else S.P j) = T.P j
        by_cases e : j < S.n
        · rw [if_pos e]
        · have en : T.n = S.n := by show T.r * T.c = S.r * S.c; rw [q1, q2]
          rw [if_neg e, out_none hI e, out_none hT (by rw [en]; exact e)]) q6.symm
      rw [e] at hb
      exact hP _ _ _ _ _ _ _ (bq_t ((nI_leI (a := S.n) (b := S.n) (by omega) (by omega)).mpr (Nat.le_refl _)) (hK b' hb))
    | succ d ih =>
      intro i hi b' hb
      have e0 : cnt (fun k => (S.P k).isNone) (i + 1) = cnt (fun k => (S.P k).isNone) i + ((S.P i).isNone).toNat := rfl
      have ep : (mixS S T i).P i = S.P i := if_neg (by omega)
      have hp4 := hb.2.2.2.2.1 i (by omega)
      rw [ep] at hp4
      apply hP
      unfold bd_L_act_994
      refine bq_f (fun z => by rw [nI_leI (by omega) (by omega)] at z; omega) ?_
      rw [nn_lit 4, nI_add, nI_clamp (n := 4 + i) (by omega), hp4]
      refine ⟨vp_in_nI (by omega) (by omega), ?_⟩
      have up : ∀ o, (S.P i).isNone = true ∧ lbB b' ti (mixS S T i) ∧ o = T.P i → (mixS S T i).put i o = mixS S T (i + 1) := fun o ho => AS.ext' rfl rfl rfl rfl rfl (fun j => by
        by_cases e : j = i
        · subst e
          rw [put_at]
          show o = (if j < j + 1 then T.P j else S.P j)
          rw [if_pos (by omega), ho.2.2]
        · rw [put_ne _ _ e]
          show (if j < i then T.P j else S.P j) = (if j < i + 1 then T.P j else S.P j)
          by_cases e2 : j < i
          · rw [if_pos e2, if_pos (by omega)]
          · rw [if_neg e2, if_neg (by omega)]) rfl
      cases hp : S.P i with
      | none =>
        have hmem : i ∈ opens S := opensN_mem.mpr ⟨by omega, hp⟩
        rw [nn_lit 3, nI_add, nI_clamp (n := 3 + i) (by omega), hse i hmem]
        refine bq_t (by decide) ⟨vp_in_nI (by omega) (by omega), fun f hf => ⟨vp_in_nI (by omega) (by omega), fun o ho x9 hx9 x10 hx10 => ?_⟩⟩
        rw [nI_1] at hx9 hx10
        subst hx9 hx10
        have nx := ih (i + 1) (by omega) o (by rw [← up (T.P i) ⟨by rw [hp]; rfl, hb, rfl⟩, ho, hf]; exact hb.put (by omega) (T.P i))
        rw [e0, hp] at nx
        exact nx
      | some p =>
        have hp9 := hI.p96 hp
        refine bq_f (nI_pos (by omega)) (fun x10 hx10 => ?_)
        rw [nI_1] at hx10
        subst hx10
        have et : T.P i = S.P i := q7 i (fun z => by have := (opensN_mem.mp z).2; rw [hp] at this; cases this)
        have eq : mixS S T (i + 1) = mixS S T i := AS.ext' rfl rfl rfl rfl rfl (fun j => by
          show (if j < i + 1 then T.P j else S.P j) = (if j < i then T.P j else S.P j)
          by_cases e : j = i
          · subst e
            rw [if_pos (by omega), if_neg (by omega), et]
          · by_cases e2 : j < i
            · rw [if_pos e2, if_pos (by omega)]
            · rw [if_neg e2, if_neg (by omega)]) rfl
        have nx := ih (i + 1) (by omega) b' (by rw [eq]; exact hb)
        rw [e0, hp] at nx
        exact nx
  have e : mixS S T 0 = S := AS.ext' rfl rfl rfl rfl rfl (fun j => by
    show (if j < 0 then T.P j else S.P j) = S.P j
    rw [if_neg (Nat.not_lt_zero j)]) rfl
  exact key S.n 0 (by omega) b (by rw [e]; exact h)
end AC
