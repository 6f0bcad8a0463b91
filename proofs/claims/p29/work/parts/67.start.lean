set_option maxRecDepth 20000 in
theorem st_uX0 {b : Nat} {s : State} (hts : ∀ w ∈ lw_tbl, w.before #[Value.ref b] s = true) : ∃ (cC : ClassId) (iS : Nat → Nat), u_Kn s RX0 TX0 8 cC iS := u_known (n := 8) hts wsX00_in (hts (Cond.instantiable RX0 8) (List.mem_of_getElem? (i := 47) (by decide +kernel)))
set_option maxRecDepth 20000 in
theorem st_uX1 {b : Nat} {s : State} (hts : ∀ w ∈ lw_tbl, w.before #[Value.ref b] s = true) : ∃ (cC : ClassId) (iS : Nat → Nat), u_Kn s RX1 TX1 3 cC iS := u_known (n := 3) hts wsX10_in (hts (Cond.instantiable RX1 3) (List.mem_of_getElem? (i := 177) (by decide +kernel)))
set_option maxRecDepth 20000 in
theorem st_uX2 {b : Nat} {s : State} (hts : ∀ w ∈ lw_tbl, w.before #[Value.ref b] s = true) : ∃ (cC : ClassId) (iS : Nat → Nat), u_Kn s RX2 TX2 3 cC iS := u_known (n := 3) hts wsX20_in (hts (Cond.instantiable RX2 3) (List.mem_of_getElem? (i := 90) (by decide +kernel)))
set_option maxRecDepth 20000 in
theorem st_uX3 {b : Nat} {s : State} (hts : ∀ w ∈ lw_tbl, w.before #[Value.ref b] s = true) : ∃ (cC : ClassId) (iS : Nat → Nat), u_Kn s RX3 TX3 4 cC iS := u_known (n := 4) hts wsX30_in (hts (Cond.instantiable RX3 4) (List.mem_of_getElem? (i := 123) (by decide +kernel)))
set_option maxRecDepth 20000 in
theorem st_uX4 {b : Nat} {s : State} (hts : ∀ w ∈ lw_tbl, w.before #[Value.ref b] s = true) : ∃ (cC : ClassId) (iS : Nat → Nat), u_Kn s RX4 TX4 7 cC iS := u_known (n := 7) hts wsX40_in (hts (Cond.instantiable RX4 7) (List.mem_of_getElem? (i := 142) (by decide +kernel)))
set_option maxRecDepth 20000 in
theorem st_uX5 {b : Nat} {s : State} (hts : ∀ w ∈ lw_tbl, w.before #[Value.ref b] s = true) : ∃ (cC : ClassId) (iS : Nat → Nat), u_Kn s RX5 TX5 2 cC iS := u_known (n := 2) hts wsX50_in (hts (Cond.instantiable RX5 2) (List.mem_of_getElem? (i := 110) (by decide +kernel)))
set_option maxRecDepth 20000 in
theorem st_uX6 {b : Nat} {s : State} (hts : ∀ w ∈ lw_tbl, w.before #[Value.ref b] s = true) : ∃ (cC : ClassId) (iS : Nat → Nat), u_Kn s RX6 TX6 6 cC iS := u_known (n := 6) hts wsX60_in (hts (Cond.instantiable RX6 6) (List.mem_of_getElem? (i := 39) (by decide +kernel)))
theorem st_cl {b : Nat} {s : State} (hts : ∀ w ∈ lw_tbl, w.before #[Value.ref b] s = true) : ∃ D : va_G, ∀ (k : Nat) (q : vw_C), vwCl[k]? = some q → u_Kn s q.1 q.2.1 q.2.2 (D.1 k) (D.2 k) := by
  obtain ⟨c0, i0, h0⟩ := st_uX0 hts
  obtain ⟨c1, i1, h1⟩ := st_uX1 hts
  obtain ⟨c2, i2, h2⟩ := st_uX2 hts
  obtain ⟨c3, i3, h3⟩ := st_uX3 hts
  obtain ⟨c4, i4, h4⟩ := st_uX4 hts
  obtain ⟨c5, i5, h5⟩ := st_uX5 hts
  obtain ⟨c6, i6, h6⟩ := st_uX6 hts
  refine ⟨(fun k => [c0, c1, c2, c3, c4, c5, c6].getD k 0, fun k => [i0, i1, i2, i3, i4, i5, i6].getD k (fun _ => 0)), ?_⟩
  intro k q hq
  match k, hq with
  | 0, hq => cases hq; exact h0
  | 1, hq => cases hq; exact h1
  | 2, hq => cases hq; exact h2
  | 3, hq => cases hq; exact h3
  | 4, hq => cases hq; exact h4
  | 5, hq => cases hq; exact h5
  | 6, hq => cases hq; exact h6
  | k + 7, hq => simp [vwCl] at hq
set_option maxRecDepth 20000 in
theorem st_aI {b : Nat} {s : State} (hts : ∀ w ∈ lw_tbl, w.before #[Value.ref b] s = true) : ∃ cA : ClassId, ArrOfT s cA .int ∧ va_RA s cA .int := by
  obtain ⟨c, k, comp, h1, h2, h3⟩ := Cond.arrayClass_spec (args := #[Value.ref b]) (first := s) (o := none) (s := s) (idx := []) (type := .int) (hts (Cond.arrayClass .int) (List.mem_of_getElem? (i := 88) (by decide +kernel)))
  exact ⟨c, fun n z => ⟨fun k h => (by cases h), k, h2, comp, h3⟩, h1⟩
set_option maxRecDepth 20000 in
theorem st_aX0 {b : Nat} {s : State} (hts : ∀ w ∈ lw_tbl, w.before #[Value.ref b] s = true) : va_AO RX0 s ∧ ∃ cA : ClassId, ArrOfT s cA (.object "TwoFacedTiles$Board") ∧ va_RA s cA (.object "TwoFacedTiles$Board") := by
  have h0 : (Cond.arrayOver (.object RX0)).before #[Value.ref b] s = true := hts (Cond.arrayOver (.object RX0)) (List.mem_of_getElem? (i := 96) (by decide +kernel))
  obtain ⟨comp, c, k, h1, h2, h3, h4, h5⟩ := Cond.arrayOver_spec (args := #[Value.ref b]) (first := s) (o := none) (s := s) (idx := []) (n := RX0) h0
  exact ⟨va_AO.of h0, c, fun n z => ⟨fun k h => (by cases h), k, h3, comp, h4⟩, k, comp, h3, h4, h1, h5⟩
set_option maxRecDepth 20000 in
theorem st_aX3 {b : Nat} {s : State} (hts : ∀ w ∈ lw_tbl, w.before #[Value.ref b] s = true) : va_AO RX3 s ∧ ∃ cA : ClassId, ArrOfT s cA (.object "TwoFacedTiles$Needs") ∧ va_RA s cA (.object "TwoFacedTiles$Needs") := by
  have h0 : (Cond.arrayOver (.object RX3)).before #[Value.ref b] s = true := hts (Cond.arrayOver (.object RX3)) (List.mem_of_getElem? (i := 150) (by decide +kernel))
  obtain ⟨comp, c, k, h1, h2, h3, h4, h5⟩ := Cond.arrayOver_spec (args := #[Value.ref b]) (first := s) (o := none) (s := s) (idx := []) (n := RX3) h0
  exact ⟨va_AO.of h0, c, fun n z => ⟨fun k h => (by cases h), k, h3, comp, h4⟩, k, comp, h3, h4, h1, h5⟩
set_option maxRecDepth 20000 in
theorem st_nest {b : Nat} {s : State} (hts : ∀ w ∈ lw_tbl, w.before #[Value.ref b] s = true) : ∀ q ∈ nestP, va_Nw (.methodLinkNest q.1 q.2.1 q.2.2.1 q.2.2.2) s := (List.forall_mem_cons.mpr ⟨va_Nw.of rfl (hts (Cond.methodLinkNest RX6 11 yX0_init RX6) (List.mem_of_getElem? (i := 48) (by decide +kernel))), (List.forall_mem_cons.mpr ⟨va_Nw.of rfl (hts (Cond.methodLinkNest RX6 25 yX5_init RX6) (List.mem_of_getElem? (i := 111) (by decide +kernel))), (List.forall_mem_cons.mpr ⟨va_Nw.of rfl (hts (Cond.methodLinkNest RX6 32 yX3_init RX6) (List.mem_of_getElem? (i := 124) (by decide +kernel))), (List.forall_mem_cons.mpr ⟨va_Nw.of rfl (hts (Cond.methodLinkNest RX6 46 yX1_init RX6) (List.mem_of_getElem? (i := 178) (by decide +kernel))), (List.forall_mem_cons.mpr ⟨va_Nw.of rfl (hts (Cond.methodLinkNest RX0 59 yX6_placingTurnedOver RX6) (List.mem_of_getElem? (i := 667) (by decide +kernel))), (List.forall_mem_cons.mpr ⟨va_Nw.of rfl (hts (Cond.methodLinkNest RX0 63 yX6_lookOfFaces RX6) (List.mem_of_getElem? (i := 680) (by decide +kernel))), (List.forall_mem_cons.mpr ⟨va_Nw.of rfl (hts (Cond.methodLinkNest RX0 70 yX6_turnedOver RX6) (List.mem_of_getElem? (i := 615) (by decide +kernel))), (List.forall_mem_cons.mpr ⟨va_Nw.of rfl (hts (Cond.methodLinkNest RX0 73 yX6_turned RX6) (List.mem_of_getElem? (i := 621) (by decide +kernel))), (List.forall_mem_cons.mpr ⟨va_Nw.of rfl (hts (Cond.methodLinkNest RX0 88 yX6_opposite RX6) (List.mem_of_getElem? (i := 360) (by decide +kernel))), (List.forall_mem_cons.mpr ⟨va_Nw.of rfl (hts (Cond.methodLinkNest RX0 91 yX6_colorsAt RX6) (List.mem_of_getElem? (i := 356) (by decide +kernel))), (List.forall_mem_cons.mpr ⟨va_Nw.of rfl (hts (Cond.methodLinkNest RX2 24 yX0_init RX6) (List.mem_of_getElem? (i := 97) (by decide +kernel))), (List.forall_mem_cons.mpr ⟨va_Nw.of rfl (hts (Cond.methodLinkNest RX3 45 yX6_opposite RX6) (List.mem_of_getElem? (i := 381) (by decide +kernel))), (List.forall_mem_cons.mpr ⟨va_Nw.of rfl (hts (Cond.methodLinkNest RX3 48 yX6_colorsAt RX6) (List.mem_of_getElem? (i := 382) (by decide +kernel))), (List.forall_mem_cons.mpr ⟨va_Nw.of rfl (hts (Cond.methodLinkNest RX4 11 yX0_init RX6) (List.mem_of_getElem? (i := 148) (by decide +kernel))), (List.forall_mem_cons.mpr ⟨va_Nw.of rfl (hts (Cond.methodLinkNest RX4 41 yX3_init RX6) (List.mem_of_getElem? (i := 151) (by decide +kernel))), (fun _ h => absurd h List.not_mem_nil)⟩)⟩)⟩)⟩)⟩)⟩)⟩)⟩)⟩)⟩)⟩)⟩)⟩)⟩)⟩)
theorem st_KN {b : Nat} {s : State} (hts : ∀ w ∈ lw_tbl, w.before #[Value.ref b] s = true) : ∃ (D : va_G) (t : T3), KN D t s := by
  obtain ⟨D, hD⟩ := st_cl hts
  obtain ⟨cI, hI⟩ := st_aI hts
  obtain ⟨aB, cB, hB⟩ := st_aX0 hts
  obtain ⟨aN, cN, hN⟩ := st_aX3 hts
  refine ⟨D, (cI, cB, cN, cI), ⟨hD, fun k q hq => ?_⟩, st_nest hts, ⟨aB, aN⟩, trivial⟩
  match k, hq with
  | 0, hq => cases hq; exact hI
  | 1, hq => cases hq; exact hB
  | 2, hq => cases hq; exact hN
  | k + 3, hq => simp [tys] at hq
