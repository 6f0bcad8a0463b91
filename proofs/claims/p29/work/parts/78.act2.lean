/-! THE LAW'S ACTIONS, as a whole -/
theorem fc4 (d0 d1 d2 d3 : Nat) : ((((1000 * nI d0) + (100 * nI d1)) + (10 * nI d2)) + nI d3 : Int32) = nI (1000 * d0 + 100 * d1 + 10 * d2 + d3) := by
  rw [nn_lit 1000, nn_lit 100, nn_lit 10, pk_mul, pk_mul, pk_mul, nI_add, nI_add, nI_add]
theorem lbB.add {b ti ti' : IV} {S : AS} (h : lbB b ti S) {d : Nat → Nat} (hd : ∀ k, k < 8 → d k < 10 ∧ ti' (8 * S.t + k) = nI (d k)) (hlow : ∀ j, j < 8 * S.t → ti' j = ti j) : lbB (upd b 3 (nI (S.t + 1))) ti' (addF S (1000 * d 0 + 100 * d 1 + 10 * d 2 + d 3) (1000 * d 4 + 100 * d 5 + 10 * d 6 + d 7)) := by
  obtain ⟨h0, h1, h2, h3, h4, h5, h6⟩ := h
  refine ⟨?_, ?_, ?_, ?_, fun j hj => ?_, fun j hj => ?_, fun t k ht hk => ?_⟩
  · rw [pk_un (by omega)]; exact h0
  · rw [pk_un (by omega)]; exact h1
  · rw [pk_un (by omega)]; exact h2
  · rw [pk_us]; rfl
  · rw [pk_un (by omega)]; exact h4 j hj
  · rw [pk_un (by omega)]; exact h5 j hj
  · have ht : t < S.t + 1 := ht
    show ti' (8 * t + 4 * 0 + k) = nI (dig (if 2 * t + 0 = 2 * S.t then _ else if 2 * t + 0 = 2 * S.t + 1 then _ else S.F (2 * t + 0)) k) ∧ ti' (8 * t + 4 * 1 + k) = nI (dig (if 2 * t + 1 = 2 * S.t then _ else if 2 * t + 1 = 2 * S.t + 1 then _ else S.F (2 * t + 1)) k)
    by_cases e : t = S.t
    · subst e
      rw [if_pos (by omega), if_neg (by omega), if_pos rfl]
      obtain ⟨a0, e0⟩ := hd 0 (by omega); obtain ⟨a1, e1⟩ := hd 1 (by omega); obtain ⟨a2, e2⟩ := hd 2 (by omega); obtain ⟨a3, e3⟩ := hd 3 (by omega)
      obtain ⟨a4, e4⟩ := hd 4 (by omega); obtain ⟨a5, e5⟩ := hd 5 (by omega); obtain ⟨a6, e6⟩ := hd 6 (by omega); obtain ⟨a7, e7⟩ := hd 7 (by omega)
      obtain ⟨f0, f1, f2, f3⟩ := dig4 a0 a1 a2 a3
      obtain ⟨f4, f5, f6, f7⟩ := dig4 a4 a5 a6 a7
      obtain rfl | rfl | rfl | rfl : k = 0 ∨ k = 1 ∨ k = 2 ∨ k = 3 := by omega
      · rw [f0, f4]; exact ⟨e0, e4⟩
      · rw [f1, f5]; exact ⟨e1, e5⟩
      · rw [f2, f6]; exact ⟨e2, e6⟩
      · rw [f3, f7]; exact ⟨e3, e7⟩
    · rw [if_neg (by omega), if_neg (by omega), if_neg (by omega), if_neg (by omega), hlow _ (by omega), hlow _ (by omega)]
      exact h6 t k (by omega) hk
section A2
variable {v : XV} {b ti : IV} {S : AS} {L : List AS} {B : List Nat} {Q : Int32 → XV → IV → IV → Prop}
theorem ac_168 (hX : RX v S L B) (h : lbB b ti S) (hs : lbS S) (hQ : actP B L S Q) {a : Nat} (ha : a < 13) {x2 x3 : Int32} : wp_L_act_168 Q v b ti (nI a) x2 x3 (nI S.n) := by
  have hI := hX.2.1
  have hn1 : 1 ≤ S.n := Inv.n1 hI
  have hn6 := hs.n6
  have ht6 := hs.2.2
  have b3 : b 3 = nI S.t := h.2.2.2.1
  unfold wp_L_act_168
  refine ek_if (nI_leI (a := 5) (by omega) (by omega)) (fun e5 => sp_L_at (by omega) (by omega) (fun c hc => ?_)) (fun e5 => sp_L_at (by omega) (by omega) (fun k hk => ?_))
  · have hp4 := h.2.2.2.2.1 c (by omega)
    have hp5 := h.2.2.2.2.2.1 c (by omega)
    refine bn_if (nI_eq (b := 5) (by omega) (by omega)) (fun _ => ?_) (fun n5 => bn_if (nI_eq (b := 6) (by omega) (by omega)) (fun _ => ?_) (fun n6 => bn_if (nI_eq (b := 7) (by omega) (by omega)) (fun _ => ?_) (fun n7 => bn_if (nI_eq (b := 8) (by omega) (by omega)) (fun _ => ?_) (fun n8 => bn_if (nI_eq (b := 9) (by omega) (by omega)) (fun _ => ?_) (fun n9 => bn_if (nI_eq (b := 10) (by omega) (by omega)) (fun _ => ?_) (fun n10 => bn_if (nI_eq (b := 11) (by omega) (by omega)) (fun _ => ?_) (fun n11 => ?_)))))))
    -- take
    · rw [nn_lit 4, nI_add, nI_clamp (n := 4 + c) (by omega), nn_lit 16, nI_add, nI_clamp (n := 16 + c) (by omega), hp4, hp5]
      refine ⟨vp_in_nI (by omega) (by omega), ?_⟩
      cases hp : S.P c with
      | none => exact bq_t (by decide) (hQ.same hX h hs)
      | some p =>
        have hp9 := hI.p96 hp
        refine bq_f (nI_pos (by omega)) ⟨vp_in_nI (by omega) (by omega), ?_⟩
        cases hx : S.X c with
        | true => exact bn_t rfl (hQ.same hX h hs)
        | false =>
          refine bn_f (by decide) ⟨vp_in_nI (by omega) (by omega), fun x8 hx8 => ⟨vp_in_nI (by omega) (by omega), fun o ho => ?_⟩⟩
          subst hx8
          exact us_take hX hc hp hx (fun v1 hX1 => bn_t rfl (hQ.one hX1 (by rw [ho]; exact h.put (by omega) none) hs))
    -- fix
    · rw [nn_lit 4, nI_add, nI_clamp (n := 4 + c) (by omega), nn_lit 16, nI_add, nI_clamp (n := 16 + c) (by omega), hp4, hp5]
      refine ⟨vp_in_nI (by omega) (by omega), ?_⟩
      cases hp : S.P c with
      | none => exact bq_f (by decide) (hQ.same hX h hs)
      | some p =>
        have hp9 := hI.p96 hp
        refine bq_t (nI_pos' (by omega)) ⟨vp_in_nI (by omega) (by omega), fun f hf => ⟨vp_in_nI (by omega) (by omega), fun o ho => ?_⟩⟩
        have ef : f = nI (!S.X c).toNat := by
          rw [hf]
          cases S.X c <;> decide
        subst ef
        refine us_fix hX hc hp (fun v1 hX1 => ⟨vp_in_nI (by omega) (by omega), bn_t (by rw [ho, pk_us]) (hQ.one hX1 (by rw [ho]; exact h.fx (by omega) _) hs)⟩)
    -- setRule
    · intro x8 hx8
      refine sp_L_at (n := 3) (by omega) (by omega) (fun m hm o ho => ?_)
      have e2 : o 2 = nI m := by rw [ho, pk_us]
      rw [e2]
      exact us_setRule hX (by omega) (fun v1 hX1 => bn_t (by rw [hx8]; exact h.2.2.1.symm) (hQ.one hX1 (by rw [ho]; exact h.rul m) hs))
    -- clear
    · exact ac_clear hI h hs (fun b' hb' => sp_X6_clear hX (fun v1 hX1 => bn_t rfl (hQ.one hX1 hb' hs)))
    -- turnOver
    · exact ac_578 (fun o ho => ac_604 hI hs (fun j hj => (ho _ (by omega)).trans (h.2.2.2.2.1 j hj)) (fun j hj => (ho _ (by omega)).trans (h.2.2.2.2.2.1 j hj)) h (fun b' hb' => sp_X6_turnOver hX (fun v1 hX1 => bn_t rfl (hQ.one hX1 hb' hs))))
    -- addTile
    · rw [b3]
      refine bn_if (nI_eq (b := 6) (by omega) (by omega)) (fun _ => hQ.same hX h hs) (fun e6 => ac_755 b3 (by omega) (fun ti' g1 g2 => ?_))
      intro x8 hx8 f hf o ho
      rw [b3, nn_lit 8, pk_mul] at hx8
      rw [b3, nI_1] at hf
      subst hx8 hf
      have dd : ∃ d : Nat → Nat, ∀ k, k < 8 → d k < 10 ∧ ti' (8 * S.t + k) = nI (d k) := by
        refine ⟨fun k => if hk : k < 8 then (g1 k hk).choose else 0, fun k hk => ?_⟩
        have hc := (g1 k hk).choose_spec
        simp only [dif_pos hk]
        exact ⟨by omega, hc.2⟩
      obtain ⟨d, hd⟩ := dd
      have e0 : ti' (8 * S.t) = nI (d 0) := (hd 0 (by omega)).2
      rw [show (nI (8 * S.t) + 1 : Int32) = nI (8 * S.t + 1) from nI_1 _, show (nI (8 * S.t) + 2 : Int32) = nI (8 * S.t + 2) from nI_add _ 2, show (nI (8 * S.t) + 3 : Int32) = nI (8 * S.t + 3) from nI_add _ 3, show (nI (8 * S.t) + 4 : Int32) = nI (8 * S.t + 4) from nI_add _ 4, show (nI (8 * S.t) + 5 : Int32) = nI (8 * S.t + 5) from nI_add _ 5, show (nI (8 * S.t) + 6 : Int32) = nI (8 * S.t + 6) from nI_add _ 6, show (nI (8 * S.t) + 7 : Int32) = nI (8 * S.t + 7) from nI_add _ 7]
      rw [nI_clamp (n := 8 * S.t) (by omega), nI_clamp (n := 8 * S.t + 1) (by omega), nI_clamp (n := 8 * S.t + 2) (by omega), nI_clamp (n := 8 * S.t + 3) (by omega), nI_clamp (n := 8 * S.t + 4) (by omega), nI_clamp (n := 8 * S.t + 5) (by omega), nI_clamp (n := 8 * S.t + 6) (by omega), nI_clamp (n := 8 * S.t + 7) (by omega)]
      rw [e0, (hd 1 (by omega)).2, (hd 2 (by omega)).2, (hd 3 (by omega)).2, (hd 4 (by omega)).2, (hd 5 (by omega)).2, (hd 6 (by omega)).2, (hd 7 (by omega)).2, fc4, fc4]
      have a0 := (hd 0 (by omega)).1; have a1 := (hd 1 (by omega)).1; have a2 := (hd 2 (by omega)).1; have a3 := (hd 3 (by omega)).1
      have a4 := (hd 4 (by omega)).1; have a5 := (hd 5 (by omega)).1; have a6 := (hd 6 (by omega)).1; have a7 := (hd 7 (by omega)).1
      refine ⟨vp_in_nI (by omega) (by omega), vp_in_nI (by omega) (by omega), vp_in_nI (by omega) (by omega), vp_in_nI (by omega) (by omega), vp_in_nI (by omega) (by omega), vp_in_nI (by omega) (by omega), vp_in_nI (by omega) (by omega), vp_in_nI (by omega) (by omega), ?_⟩
      have hs' : lbS (addF S (1000 * d 0 + 100 * d 1 + 10 * d 2 + d 3) (1000 * d 4 + 100 * d 5 + 10 * d 6 + d 7)) := ⟨hs.1, hs.2.1, by show S.t + 1 ≤ 6; omega⟩
      refine us_addTile hX (by omega) (by omega) (by omega) (fun v1 hX1 => bn_t ?_ (hQ.one hX1 (by rw [ho]; exact h.add hd g2) hs'))
      rw [ho, pk_us, nI_pred]
    -- dropTile
    · rw [b3]
      refine ek_if (nn_eq0 (by omega)) (fun _ => hQ.same hX h hs) (fun e0 => ?_)
      obtain ⟨n, hn⟩ : ∃ n, S.t = n + 1 := ⟨S.t - 1, by omega⟩
      rw [hn, nI_pred]
      refine sp_L_where h hI (by omega) ?_
      cases hc9 : cellOf S n with
      | none =>
        refine bq_t (by decide) (fun f hf o ho => ?_)
        rw [b3, hn, nI_pred] at hf
        subst hf
        have hs' : lbS (tS S n) := ⟨hs.1, hs.2.1, by show n ≤ 6; omega⟩
        exact us_dropTile hX hn hc9 (fun v1 hX1 => bn_t (by rw [ho, pk_us]) (hQ.one hX1 (by rw [ho]; exact h.til (by omega)) hs'))
      | some k =>
        have hk9 := cellOfN_lt hc9
        exact bq_f (nI_pos (by omega)) (hQ.same hX h hs)
    -- solve
    · refine sp_L_search (most := 1) h hI hs (by omega) (by omega) (fun b' se' hb g0 g1 g2 g3 => ?_)
      rw [g0]
      rcases fillA_1c (opens S) S 0 with e | ⟨e, e2, e3⟩
      · have e : (srch S 1).1 = 0 := e
        rw [e]
        exact bn_t rfl (hQ.same hX hb hs)
      · have e : (srch S 1).1 = 1 := e
        have e2 : (srch S 1).2.2.2.1 = true := e2
        have e3 : (srch S 1).2.2.1 = false := e3
        have hon := fillA_only (most := 1) (opens S) S 0 0 hI (fun j hj => (opensN_mem.mp hj).1)
        have hO : Only (opens S) S (srch S 1).2.2.2.2 := hon.1
        have hT : Inv (srch S 1).2.2.2.2 := hon.2
        have hs' : lbS (srch S 1).2.2.2.2 := ⟨by rw [hO.1]; exact hs.1, by rw [hO.2.1]; exact hs.2.1, by rw [hO.2.2.2.1]; exact hs.2.2⟩
        rw [e]
        exact bn_f (by decide) (ac_994 hI hs hO hT (g3 e e3 e2) hb (fun b'' hb'' => us_solve hX e (fun v1 hX1 => bn_t rfl (hQ.one hX1 hb'' hs'))))
  · refine ac_lay hX h hs hQ hk (fun q hq hw => ?_)
    rw [nn_lit 4, nI_add, nI_clamp (n := 4 + k) (by omega)]
    refine ⟨vp_in_nI (by omega) (by omega), fun o ho => ?_⟩
    have hb : lbB o ti (S.put k (some q)) := by rw [ho]; exact h.put (by omega) (some q)
    exact ac_254 (T := S.put k (some q)) (hI.put hk hq hw) hs hb (us_lay hX hk hq hw (fun v1 hX1 => bn_t rfl (hQ.one hX1 hb hs)))
theorem sp_L_act (hX : RX v S L B) (h : lbB b ti S) (hs : lbS S) (hQ : actP B L S Q) {a : Nat} (ha : a < 13) {x2 x3 : Int32} : wp_L_act v b ti (nI a) x2 x3 Q := by
  have ht6 := hs.2.2
  have b3 : b 3 = nI S.t := h.2.2.2.1
  unfold wp_L_act
  rw [h.1, h.2.1, pk_mul]
  intro x6 hx6
  have hx6 : x6 = nI S.n := hx6
  subst hx6
  refine ek_if (nn_eq0 (by omega)) (fun _ => ac_begin hX h hs hQ) (fun _ => ek_if (nI_leI (a := 5) (by omega) (by omega)) (fun _ => ac_168 hX h hs hQ ha) (fun _ => ?_))
  rw [b3]
  exact bn_if (nn_eq0 (by omega)) (fun _ => ac_begin hX h hs hQ) (fun _ => ac_168 hX h hs hQ ha)
end A2
