set_option maxRecDepth 20000 in
theorem st_uX0 {b : Nat} {s : State} (hts : ∀ w ∈ lw_tbl, w.before #[Value.ref b] s = true) : ∃ (cC : ClassId) (iS : Nat → Nat), u_Kn s RX0 TX0 8 cC iS := u_known (n := 8) hts wsX00_in (hts (Cond.instantiable RX0 8) (List.mem_of_getElem? (i := 93) (by decide +kernel)))
set_option maxRecDepth 20000 in
theorem st_uX1 {b : Nat} {s : State} (hts : ∀ w ∈ lw_tbl, w.before #[Value.ref b] s = true) : ∃ (cC : ClassId) (iS : Nat → Nat), u_Kn s RX1 TX1 3 cC iS := u_known (n := 3) hts wsX10_in (hts (Cond.instantiable RX1 3) (List.mem_of_getElem? (i := 225) (by decide +kernel)))
set_option maxRecDepth 20000 in
theorem st_uX2 {b : Nat} {s : State} (hts : ∀ w ∈ lw_tbl, w.before #[Value.ref b] s = true) : ∃ (cC : ClassId) (iS : Nat → Nat), u_Kn s RX2 TX2 3 cC iS := u_known (n := 3) hts wsX20_in (hts (Cond.instantiable RX2 3) (List.mem_of_getElem? (i := 136) (by decide +kernel)))
set_option maxRecDepth 20000 in
theorem st_uX3 {b : Nat} {s : State} (hts : ∀ w ∈ lw_tbl, w.before #[Value.ref b] s = true) : ∃ (cC : ClassId) (iS : Nat → Nat), u_Kn s RX3 TX3 4 cC iS := u_known (n := 4) hts wsX30_in (hts (Cond.instantiable RX3 4) (List.mem_of_getElem? (i := 171) (by decide +kernel)))
set_option maxRecDepth 20000 in
theorem st_uX4 {b : Nat} {s : State} (hts : ∀ w ∈ lw_tbl, w.before #[Value.ref b] s = true) : ∃ (cC : ClassId) (iS : Nat → Nat), u_Kn s RX4 TX4 7 cC iS := u_known (n := 7) hts wsX40_in (hts (Cond.instantiable RX4 7) (List.mem_of_getElem? (i := 190) (by decide +kernel)))
set_option maxRecDepth 20000 in
theorem st_uX5 {b : Nat} {s : State} (hts : ∀ w ∈ lw_tbl, w.before #[Value.ref b] s = true) : ∃ (cC : ClassId) (iS : Nat → Nat), u_Kn s RX5 TX5 2 cC iS := u_known (n := 2) hts wsX50_in (hts (Cond.instantiable RX5 2) (List.mem_of_getElem? (i := 156) (by decide +kernel)))
set_option maxRecDepth 20000 in
theorem st_uX6 {b : Nat} {s : State} (hts : ∀ w ∈ lw_tbl, w.before #[Value.ref b] s = true) : ∃ (cC : ClassId) (iS : Nat → Nat), u_Kn s RX6 TX6 6 cC iS := u_known (n := 6) hts wsX60_in (hts (Cond.instantiable RX6 6) (List.mem_of_getElem? (i := 85) (by decide +kernel)))
set_option maxRecDepth 20000 in
theorem st_uX7 {b : Nat} {s : State} (hts : ∀ w ∈ lw_tbl, w.before #[Value.ref b] s = true) : ∃ (cC : ClassId) (iS : Nat → Nat), u_Kn s RX7 TX7 16 cC iS := u_known (n := 16) hts wsX70_in (hts (Cond.instantiable RX7 16) (List.mem_of_getElem? (i := 838) (by decide +kernel)))
theorem st_cl {b : Nat} {s : State} (hts : ∀ w ∈ lw_tbl, w.before #[Value.ref b] s = true) : ∃ D : va_G, ∀ (k : Nat) (q : vw_C), vwCl[k]? = some q → u_Kn s q.1 q.2.1 q.2.2 (D.1 k) (D.2 k) := by
  obtain ⟨c0, i0, h0⟩ := st_uX0 hts
  obtain ⟨c1, i1, h1⟩ := st_uX1 hts
  obtain ⟨c2, i2, h2⟩ := st_uX2 hts
  obtain ⟨c3, i3, h3⟩ := st_uX3 hts
  obtain ⟨c4, i4, h4⟩ := st_uX4 hts
  obtain ⟨c5, i5, h5⟩ := st_uX5 hts
  obtain ⟨c6, i6, h6⟩ := st_uX6 hts
  obtain ⟨c7, i7, h7⟩ := st_uX7 hts
  refine ⟨(fun k => [c0, c1, c2, c3, c4, c5, c6, c7].getD k 0, fun k => [i0, i1, i2, i3, i4, i5, i6, i7].getD k (fun _ => 0)), ?_⟩
  intro k q hq
  match k, hq with
  | 0, hq => cases hq; exact h0
  | 1, hq => cases hq; exact h1
  | 2, hq => cases hq; exact h2
  | 3, hq => cases hq; exact h3
  | 4, hq => cases hq; exact h4
  | 5, hq => cases hq; exact h5
  | 6, hq => cases hq; exact h6
  | 7, hq => cases hq; exact h7
  | k + 8, hq => simp [vwCl] at hq
set_option maxRecDepth 20000 in
theorem st_aI {b : Nat} {s : State} (hts : ∀ w ∈ lw_tbl, w.before #[Value.ref b] s = true) : ∃ cA : ClassId, ArrOfT s cA .int ∧ va_RA s cA .int := by
  obtain ⟨c, k, comp, h1, h2, h3⟩ := Cond.arrayClass_spec (args := #[Value.ref b]) (first := s) (o := none) (s := s) (idx := []) (type := .int) (hts (Cond.arrayClass .int) (List.mem_of_getElem? (i := 134) (by decide +kernel)))
  exact ⟨c, fun n z => ⟨fun k h => (by cases h), k, h2, comp, h3⟩, h1⟩
set_option maxRecDepth 20000 in
theorem st_aL {b : Nat} {s : State} (hts : ∀ w ∈ lw_tbl, w.before #[Value.ref b] s = true) : ∃ cA : ClassId, ArrOfT s cA .long ∧ va_RA s cA .long := by
  obtain ⟨c, k, comp, h1, h2, h3⟩ := Cond.arrayClass_spec (args := #[Value.ref b]) (first := s) (o := none) (s := s) (idx := []) (type := .long) (hts (Cond.arrayClass .long) (List.mem_of_getElem? (i := 1186) (by decide +kernel)))
  exact ⟨c, fun n z => ⟨fun k h => (by cases h), k, h2, comp, h3⟩, h1⟩
set_option maxRecDepth 20000 in
theorem st_aX0 {b : Nat} {s : State} (hts : ∀ w ∈ lw_tbl, w.before #[Value.ref b] s = true) : va_AO RX0 s ∧ ∃ cA : ClassId, ArrOfT s cA (.object "TwoFacedTiles$Board") ∧ va_RA s cA (.object "TwoFacedTiles$Board") := by
  have h0 : (Cond.arrayOver (.object RX0)).before #[Value.ref b] s = true := hts (Cond.arrayOver (.object RX0)) (List.mem_of_getElem? (i := 142) (by decide +kernel))
  obtain ⟨comp, c, k, h1, h2, h3, h4, h5⟩ := Cond.arrayOver_spec (args := #[Value.ref b]) (first := s) (o := none) (s := s) (idx := []) (n := RX0) h0
  exact ⟨va_AO.of h0, c, fun n z => ⟨fun k h => (by cases h), k, h3, comp, h4⟩, k, comp, h3, h4, h1, h5⟩
set_option maxRecDepth 20000 in
theorem st_aX3 {b : Nat} {s : State} (hts : ∀ w ∈ lw_tbl, w.before #[Value.ref b] s = true) : va_AO RX3 s ∧ ∃ cA : ClassId, ArrOfT s cA (.object "TwoFacedTiles$Needs") ∧ va_RA s cA (.object "TwoFacedTiles$Needs") := by
  have h0 : (Cond.arrayOver (.object RX3)).before #[Value.ref b] s = true := hts (Cond.arrayOver (.object RX3)) (List.mem_of_getElem? (i := 198) (by decide +kernel))
  obtain ⟨comp, c, k, h1, h2, h3, h4, h5⟩ := Cond.arrayOver_spec (args := #[Value.ref b]) (first := s) (o := none) (s := s) (idx := []) (n := RX3) h0
  exact ⟨va_AO.of h0, c, fun n z => ⟨fun k h => (by cases h), k, h3, comp, h4⟩, k, comp, h3, h4, h1, h5⟩
set_option maxRecDepth 20000 in
theorem st_nest {b : Nat} {s : State} (hts : ∀ w ∈ lw_tbl, w.before #[Value.ref b] s = true) : ∀ q ∈ nestP, va_Nw (.methodLinkNest q.1 q.2.1 q.2.2.1 q.2.2.2) s := (List.forall_mem_cons.mpr ⟨va_Nw.of rfl (hts (Cond.methodLinkNest RX6 11 yX0_init RX6) (List.mem_of_getElem? (i := 94) (by decide +kernel))), (List.forall_mem_cons.mpr ⟨va_Nw.of rfl (hts (Cond.methodLinkNest RX6 25 yX5_init RX6) (List.mem_of_getElem? (i := 157) (by decide +kernel))), (List.forall_mem_cons.mpr ⟨va_Nw.of rfl (hts (Cond.methodLinkNest RX6 32 yX3_init RX6) (List.mem_of_getElem? (i := 172) (by decide +kernel))), (List.forall_mem_cons.mpr ⟨va_Nw.of rfl (hts (Cond.methodLinkNest RX6 46 yX1_init RX6) (List.mem_of_getElem? (i := 226) (by decide +kernel))), (List.forall_mem_cons.mpr ⟨va_Nw.of rfl (hts (Cond.methodLinkNest RX0 59 yX6_placingTurnedOver RX6) (List.mem_of_getElem? (i := 306) (by decide +kernel))), (List.forall_mem_cons.mpr ⟨va_Nw.of rfl (hts (Cond.methodLinkNest RX0 63 yX6_lookOfFaces RX6) (List.mem_of_getElem? (i := 615) (by decide +kernel))), (List.forall_mem_cons.mpr ⟨va_Nw.of rfl (hts (Cond.methodLinkNest RX0 70 yX6_turnedOver RX6) (List.mem_of_getElem? (i := 628) (by decide +kernel))), (List.forall_mem_cons.mpr ⟨va_Nw.of rfl (hts (Cond.methodLinkNest RX0 73 yX6_turned RX6) (List.mem_of_getElem? (i := 631) (by decide +kernel))), (List.forall_mem_cons.mpr ⟨va_Nw.of rfl (hts (Cond.methodLinkNest RX0 88 yX6_opposite RX6) (List.mem_of_getElem? (i := 446) (by decide +kernel))), (List.forall_mem_cons.mpr ⟨va_Nw.of rfl (hts (Cond.methodLinkNest RX0 91 yX6_colorsAt RX6) (List.mem_of_getElem? (i := 445) (by decide +kernel))), (List.forall_mem_cons.mpr ⟨va_Nw.of rfl (hts (Cond.methodLinkNest RX2 24 yX0_init RX6) (List.mem_of_getElem? (i := 143) (by decide +kernel))), (List.forall_mem_cons.mpr ⟨va_Nw.of rfl (hts (Cond.methodLinkNest RX3 45 yX6_opposite RX6) (List.mem_of_getElem? (i := 360) (by decide +kernel))), (List.forall_mem_cons.mpr ⟨va_Nw.of rfl (hts (Cond.methodLinkNest RX3 48 yX6_colorsAt RX6) (List.mem_of_getElem? (i := 363) (by decide +kernel))), (List.forall_mem_cons.mpr ⟨va_Nw.of rfl (hts (Cond.methodLinkNest RX4 11 yX0_init RX6) (List.mem_of_getElem? (i := 196) (by decide +kernel))), (List.forall_mem_cons.mpr ⟨va_Nw.of rfl (hts (Cond.methodLinkNest RX4 41 yX3_init RX6) (List.mem_of_getElem? (i := 199) (by decide +kernel))), (fun _ h => absurd h List.not_mem_nil)⟩)⟩)⟩)⟩)⟩)⟩)⟩)⟩)⟩)⟩)⟩)⟩)⟩)⟩)⟩)
set_option maxRecDepth 20000 in
theorem st_exN {b : Nat} {s : State} (hts : ∀ w ∈ lw_tbl, w.before #[Value.ref b] s = true) : ∀ q ∈ exN, va_Nw (.castable q q) s := (List.forall_mem_cons.mpr ⟨va_Nw.of rfl (hts (Cond.castable "java/lang/IllegalArgumentException" "java/lang/IllegalArgumentException") (List.mem_of_getElem? (i := 520) (by decide +kernel))), (List.forall_mem_cons.mpr ⟨va_Nw.of rfl (hts (Cond.castable "java/lang/IllegalStateException" "java/lang/IllegalStateException") (List.mem_of_getElem? (i := 597) (by decide +kernel))), (List.forall_mem_cons.mpr ⟨va_Nw.of rfl (hts (Cond.castable "java/lang/IndexOutOfBoundsException" "java/lang/IndexOutOfBoundsException") (List.mem_of_getElem? (i := 697) (by decide +kernel))), (fun _ h => absurd h List.not_mem_nil)⟩)⟩)⟩)
set_option maxRecDepth 20000 in
theorem st_exD {b : Nat} {s : State} (hts : ∀ w ∈ lw_tbl, w.before #[Value.ref b] s = true) : ∀ q ∈ exD, va_Nw (.declares q) s := (List.forall_mem_cons.mpr ⟨va_Nw.of rfl (hts (Cond.declares (Bundle.initS "java/lang/RuntimeException")) (List.mem_of_getElem? (i := 522) (by decide +kernel))), (List.forall_mem_cons.mpr ⟨va_Nw.of rfl (hts (Cond.declares (Bundle.initS "java/lang/Exception")) (List.mem_of_getElem? (i := 524) (by decide +kernel))), (List.forall_mem_cons.mpr ⟨va_Nw.of rfl (hts (Cond.declares (Bundle.initS "java/lang/Throwable")) (List.mem_of_getElem? (i := 526) (by decide +kernel))), (fun _ h => absurd h List.not_mem_nil)⟩)⟩)⟩)
set_option maxRecDepth 20000 in
theorem st_x0 {b : Nat} {s : State} (hgv : (Jvm.Cond.and given_1 narrow_1).before #[Value.ref b] s = true) : va_Nc "java/lang/IllegalArgumentException" "java/lang/IllegalStateException" s := va_Nc.of (flat_of_before _ hgv (Jvm.Cond.not (Jvm.Cond.castable "java/lang/IllegalArgumentException" "java/lang/IllegalStateException")) (List.mem_of_getElem? (i := 24) (by decide +kernel)))
set_option maxRecDepth 20000 in
theorem st_x1 {b : Nat} {s : State} (hgv : (Jvm.Cond.and given_1 narrow_1).before #[Value.ref b] s = true) : va_Nc "java/lang/IllegalArgumentException" "java/lang/IndexOutOfBoundsException" s := va_Nc.of (flat_of_before _ hgv (Jvm.Cond.not (Jvm.Cond.castable "java/lang/IllegalArgumentException" "java/lang/IndexOutOfBoundsException")) (List.mem_of_getElem? (i := 34) (by decide +kernel)))
set_option maxRecDepth 20000 in
theorem st_x2 {b : Nat} {s : State} (hgv : (Jvm.Cond.and given_1 narrow_1).before #[Value.ref b] s = true) : va_Nc "java/lang/IllegalStateException" "java/lang/IllegalArgumentException" s := va_Nc.of (flat_of_before _ hgv (Jvm.Cond.not (Jvm.Cond.castable "java/lang/IllegalStateException" "java/lang/IllegalArgumentException")) (List.mem_of_getElem? (i := 14) (by decide +kernel)))
set_option maxRecDepth 20000 in
theorem st_x3 {b : Nat} {s : State} (hgv : (Jvm.Cond.and given_1 narrow_1).before #[Value.ref b] s = true) : va_Nc "java/lang/IllegalStateException" "java/lang/IndexOutOfBoundsException" s := va_Nc.of (flat_of_before _ hgv (Jvm.Cond.not (Jvm.Cond.castable "java/lang/IllegalStateException" "java/lang/IndexOutOfBoundsException")) (List.mem_of_getElem? (i := 35) (by decide +kernel)))
set_option maxRecDepth 20000 in
theorem st_x4 {b : Nat} {s : State} (hgv : (Jvm.Cond.and given_1 narrow_1).before #[Value.ref b] s = true) : va_Nc "java/lang/IndexOutOfBoundsException" "java/lang/IllegalArgumentException" s := va_Nc.of (flat_of_before _ hgv (Jvm.Cond.not (Jvm.Cond.castable "java/lang/IndexOutOfBoundsException" "java/lang/IllegalArgumentException")) (List.mem_of_getElem? (i := 15) (by decide +kernel)))
set_option maxRecDepth 20000 in
theorem st_x5 {b : Nat} {s : State} (hgv : (Jvm.Cond.and given_1 narrow_1).before #[Value.ref b] s = true) : va_Nc "java/lang/IndexOutOfBoundsException" "java/lang/IllegalStateException" s := va_Nc.of (flat_of_before _ hgv (Jvm.Cond.not (Jvm.Cond.castable "java/lang/IndexOutOfBoundsException" "java/lang/IllegalStateException")) (List.mem_of_getElem? (i := 25) (by decide +kernel)))
theorem st_exC {b : Nat} {s : State} (hgv : (Jvm.Cond.and given_1 narrow_1).before #[Value.ref b] s = true) : ∀ q ∈ exC, va_Nc q.1 q.2 s := (List.forall_mem_cons.mpr ⟨st_x0 hgv, (List.forall_mem_cons.mpr ⟨st_x1 hgv, (List.forall_mem_cons.mpr ⟨st_x2 hgv, (List.forall_mem_cons.mpr ⟨st_x3 hgv, (List.forall_mem_cons.mpr ⟨st_x4 hgv, (List.forall_mem_cons.mpr ⟨st_x5 hgv, (fun _ h => absurd h List.not_mem_nil)⟩)⟩)⟩)⟩)⟩)⟩)
set_option maxRecDepth 20000 in
theorem st_s57 {b : Nat} {s : State} (hts : ∀ w ∈ lw_tbl, w.before #[Value.ref b] s = true) (hgv : (Jvm.Cond.and given_1 narrow_1).before #[Value.ref b] s = true) : ∃ sa : Nat, vk_R RX6 57 "rows or columns out of range" sa s := by
  obtain ⟨a, c, cA, kA, q1, -⟩ := Cond.exactly_spec (args := #[Value.ref b]) (first := s) (o := none) (s := s) (idx := []) (t := Term.string RX6 57) (cls := "java/lang/String") (flat_of_before _ hgv (Jvm.Cond.exactly (Jvm.Term.string "TwoFacedTiles" (57 : Nat)) "java/lang/String") (List.mem_of_getElem? (i := 60) (by decide +kernel)))
  exact ⟨a, vk_R.of (A := #[Value.ref b]) (hts (Cond.stringRef RX6 57 "rows or columns out of range") (List.mem_of_getElem? (i := 559) (by decide +kernel))) q1⟩
set_option maxRecDepth 20000 in
theorem st_s70 {b : Nat} {s : State} (hts : ∀ w ∈ lw_tbl, w.before #[Value.ref b] s = true) (hgv : (Jvm.Cond.and given_1 narrow_1).before #[Value.ref b] s = true) : ∃ sa : Nat, vk_R RX6 70 "face or other is not 0 to 9999" sa s := by
  obtain ⟨a, c, cA, kA, q1, -⟩ := Cond.exactly_spec (args := #[Value.ref b]) (first := s) (o := none) (s := s) (idx := []) (t := Term.string RX6 70) (cls := "java/lang/String") (flat_of_before _ hgv (Jvm.Cond.exactly (Jvm.Term.string "TwoFacedTiles" (70 : Nat)) "java/lang/String") (List.mem_of_getElem? (i := 92) (by decide +kernel)))
  exact ⟨a, vk_R.of (A := #[Value.ref b]) (hts (Cond.stringRef RX6 70 "face or other is not 0 to 9999") (List.mem_of_getElem? (i := 594) (by decide +kernel))) q1⟩
set_option maxRecDepth 20000 in
theorem st_s78 {b : Nat} {s : State} (hts : ∀ w ∈ lw_tbl, w.before #[Value.ref b] s = true) (hgv : (Jvm.Cond.and given_1 narrow_1).before #[Value.ref b] s = true) : ∃ sa : Nat, vk_R RX6 78 "there are 12 tiles" sa s := by
  obtain ⟨a, c, cA, kA, q1, -⟩ := Cond.exactly_spec (args := #[Value.ref b]) (first := s) (o := none) (s := s) (idx := []) (t := Term.string RX6 78) (cls := "java/lang/String") (flat_of_before _ hgv (Jvm.Cond.exactly (Jvm.Term.string "TwoFacedTiles" (78 : Nat)) "java/lang/String") (List.mem_of_getElem? (i := 127) (by decide +kernel)))
  exact ⟨a, vk_R.of (A := #[Value.ref b]) (hts (Cond.stringRef RX6 78 "there are 12 tiles") (List.mem_of_getElem? (i := 604) (by decide +kernel))) q1⟩
set_option maxRecDepth 20000 in
theorem st_s88 {b : Nat} {s : State} (hts : ∀ w ∈ lw_tbl, w.before #[Value.ref b] s = true) (hgv : (Jvm.Cond.and given_1 narrow_1).before #[Value.ref b] s = true) : ∃ sa : Nat, vk_R RX6 88 "no tiles, or the last one is laid" sa s := by
  obtain ⟨a, c, cA, kA, q1, -⟩ := Cond.exactly_spec (args := #[Value.ref b]) (first := s) (o := none) (s := s) (idx := []) (t := Term.string RX6 88) (cls := "java/lang/String") (flat_of_before _ hgv (Jvm.Cond.exactly (Jvm.Term.string "TwoFacedTiles" (88 : Nat)) "java/lang/String") (List.mem_of_getElem? (i := 151) (by decide +kernel)))
  exact ⟨a, vk_R.of (A := #[Value.ref b]) (hts (Cond.stringRef RX6 88 "no tiles, or the last one is laid") (List.mem_of_getElem? (i := 641) (by decide +kernel))) q1⟩
set_option maxRecDepth 20000 in
theorem st_s90 {b : Nat} {s : State} (hts : ∀ w ∈ lw_tbl, w.before #[Value.ref b] s = true) (hgv : (Jvm.Cond.and given_1 narrow_1).before #[Value.ref b] s = true) : ∃ sa : Nat, vk_R RX6 90 "rule out of range" sa s := by
  obtain ⟨a, c, cA, kA, q1, -⟩ := Cond.exactly_spec (args := #[Value.ref b]) (first := s) (o := none) (s := s) (idx := []) (t := Term.string RX6 90) (cls := "java/lang/String") (flat_of_before _ hgv (Jvm.Cond.exactly (Jvm.Term.string "TwoFacedTiles" (90 : Nat)) "java/lang/String") (List.mem_of_getElem? (i := 191) (by decide +kernel)))
  exact ⟨a, vk_R.of (A := #[Value.ref b]) (hts (Cond.stringRef RX6 90 "rule out of range") (List.mem_of_getElem? (i := 649) (by decide +kernel))) q1⟩
set_option maxRecDepth 20000 in
theorem st_s96 {b : Nat} {s : State} (hts : ∀ w ∈ lw_tbl, w.before #[Value.ref b] s = true) (hgv : (Jvm.Cond.and given_1 narrow_1).before #[Value.ref b] s = true) : ∃ sa : Nat, vk_R RX6 96 "seed or colors out of range" sa s := by
  obtain ⟨a, c, cA, kA, q1, -⟩ := Cond.exactly_spec (args := #[Value.ref b]) (first := s) (o := none) (s := s) (idx := []) (t := Term.string RX6 96) (cls := "java/lang/String") (flat_of_before _ hgv (Jvm.Cond.exactly (Jvm.Term.string "TwoFacedTiles" (96 : Nat)) "java/lang/String") (List.mem_of_getElem? (i := 216) (by decide +kernel)))
  exact ⟨a, vk_R.of (A := #[Value.ref b]) (hts (Cond.stringRef RX6 96 "seed or colors out of range") (List.mem_of_getElem? (i := 658) (by decide +kernel))) q1⟩
set_option maxRecDepth 20000 in
theorem st_s118 {b : Nat} {s : State} (hts : ∀ w ∈ lw_tbl, w.before #[Value.ref b] s = true) (hgv : (Jvm.Cond.and given_1 narrow_1).before #[Value.ref b] s = true) : ∃ sa : Nat, vk_R RX6 118 "the placing is not possible there" sa s := by
  obtain ⟨a, c, cA, kA, q1, -⟩ := Cond.exactly_spec (args := #[Value.ref b]) (first := s) (o := none) (s := s) (idx := []) (t := Term.string RX6 118) (cls := "java/lang/String") (flat_of_before _ hgv (Jvm.Cond.exactly (Jvm.Term.string "TwoFacedTiles" (118 : Nat)) "java/lang/String") (List.mem_of_getElem? (i := 297) (by decide +kernel)))
  exact ⟨a, vk_R.of (A := #[Value.ref b]) (hts (Cond.stringRef RX6 118 "the placing is not possible there") (List.mem_of_getElem? (i := 720) (by decide +kernel))) q1⟩
set_option maxRecDepth 20000 in
theorem st_s136 {b : Nat} {s : State} (hts : ∀ w ∈ lw_tbl, w.before #[Value.ref b] s = true) (hgv : (Jvm.Cond.and given_1 narrow_1).before #[Value.ref b] s = true) : ∃ sa : Nat, vk_R RX6 136 "the cell is empty or fixed" sa s := by
  obtain ⟨a, c, cA, kA, q1, -⟩ := Cond.exactly_spec (args := #[Value.ref b]) (first := s) (o := none) (s := s) (idx := []) (t := Term.string RX6 136) (cls := "java/lang/String") (flat_of_before _ hgv (Jvm.Cond.exactly (Jvm.Term.string "TwoFacedTiles" (136 : Nat)) "java/lang/String") (List.mem_of_getElem? (i := 342) (by decide +kernel)))
  exact ⟨a, vk_R.of (A := #[Value.ref b]) (hts (Cond.stringRef RX6 136 "the cell is empty or fixed") (List.mem_of_getElem? (i := 729) (by decide +kernel))) q1⟩
set_option maxRecDepth 20000 in
theorem st_s145 {b : Nat} {s : State} (hts : ∀ w ∈ lw_tbl, w.before #[Value.ref b] s = true) (hgv : (Jvm.Cond.and given_1 narrow_1).before #[Value.ref b] s = true) : ∃ sa : Nat, vk_R RX6 145 "the cell is empty" sa s := by
  obtain ⟨a, c, cA, kA, q1, -⟩ := Cond.exactly_spec (args := #[Value.ref b]) (first := s) (o := none) (s := s) (idx := []) (t := Term.string RX6 145) (cls := "java/lang/String") (flat_of_before _ hgv (Jvm.Cond.exactly (Jvm.Term.string "TwoFacedTiles" (145 : Nat)) "java/lang/String") (List.mem_of_getElem? (i := 381) (by decide +kernel)))
  exact ⟨a, vk_R.of (A := #[Value.ref b]) (hts (Cond.stringRef RX6 145 "the cell is empty") (List.mem_of_getElem? (i := 738) (by decide +kernel))) q1⟩
set_option maxRecDepth 20000 in
theorem st_s164 {b : Nat} {s : State} (hts : ∀ w ∈ lw_tbl, w.before #[Value.ref b] s = true) (hgv : (Jvm.Cond.and given_1 narrow_1).before #[Value.ref b] s = true) : ∃ sa : Nat, vk_R RX6 164 "the search finds no laying" sa s := by
  obtain ⟨a, c, cA, kA, q1, -⟩ := Cond.exactly_spec (args := #[Value.ref b]) (first := s) (o := none) (s := s) (idx := []) (t := Term.string RX6 164) (cls := "java/lang/String") (flat_of_before _ hgv (Jvm.Cond.exactly (Jvm.Term.string "TwoFacedTiles" (164 : Nat)) "java/lang/String") (List.mem_of_getElem? (i := 412) (by decide +kernel)))
  exact ⟨a, vk_R.of (A := #[Value.ref b]) (hts (Cond.stringRef RX6 164 "the search finds no laying") (List.mem_of_getElem? (i := 746) (by decide +kernel))) q1⟩
set_option maxRecDepth 20000 in
theorem st_s172 {b : Nat} {s : State} (hts : ∀ w ∈ lw_tbl, w.before #[Value.ref b] s = true) (hgv : (Jvm.Cond.and given_1 narrow_1).before #[Value.ref b] s = true) : ∃ sa : Nat, vk_R RX6 172 "code is not 33 to 126" sa s := by
  obtain ⟨a, c, cA, kA, q1, -⟩ := Cond.exactly_spec (args := #[Value.ref b]) (first := s) (o := none) (s := s) (idx := []) (t := Term.string RX6 172) (cls := "java/lang/String") (flat_of_before _ hgv (Jvm.Cond.exactly (Jvm.Term.string "TwoFacedTiles" (172 : Nat)) "java/lang/String") (List.mem_of_getElem? (i := 453) (by decide +kernel)))
  exact ⟨a, vk_R.of (A := #[Value.ref b]) (hts (Cond.stringRef RX6 172 "code is not 33 to 126") (List.mem_of_getElem? (i := 755) (by decide +kernel))) q1⟩
set_option maxRecDepth 20000 in
theorem st_s177 {b : Nat} {s : State} (hts : ∀ w ∈ lw_tbl, w.before #[Value.ref b] s = true) (hgv : (Jvm.Cond.and given_1 narrow_1).before #[Value.ref b] s = true) : ∃ sa : Nat, vk_R RX6 177 "the buffer has 60 characters" sa s := by
  obtain ⟨a, c, cA, kA, q1, -⟩ := Cond.exactly_spec (args := #[Value.ref b]) (first := s) (o := none) (s := s) (idx := []) (t := Term.string RX6 177) (cls := "java/lang/String") (flat_of_before _ hgv (Jvm.Cond.exactly (Jvm.Term.string "TwoFacedTiles" (177 : Nat)) "java/lang/String") (List.mem_of_getElem? (i := 490) (by decide +kernel)))
  exact ⟨a, vk_R.of (A := #[Value.ref b]) (hts (Cond.stringRef RX6 177 "the buffer has 60 characters") (List.mem_of_getElem? (i := 756) (by decide +kernel))) q1⟩
set_option maxRecDepth 20000 in
theorem st_s189 {b : Nat} {s : State} (hts : ∀ w ∈ lw_tbl, w.before #[Value.ref b] s = true) (hgv : (Jvm.Cond.and given_1 narrow_1).before #[Value.ref b] s = true) : ∃ sa : Nat, vk_R RX6 189 "the buffer is not a complete text" sa s := by
  obtain ⟨a, c, cA, kA, q1, -⟩ := Cond.exactly_spec (args := #[Value.ref b]) (first := s) (o := none) (s := s) (idx := []) (t := Term.string RX6 189) (cls := "java/lang/String") (flat_of_before _ hgv (Jvm.Cond.exactly (Jvm.Term.string "TwoFacedTiles" (189 : Nat)) "java/lang/String") (List.mem_of_getElem? (i := 535) (by decide +kernel)))
  exact ⟨a, vk_R.of (A := #[Value.ref b]) (hts (Cond.stringRef RX6 189 "the buffer is not a complete text") (List.mem_of_getElem? (i := 769) (by decide +kernel))) q1⟩
set_option maxRecDepth 20000 in
theorem st_s194 {b : Nat} {s : State} (hts : ∀ w ∈ lw_tbl, w.before #[Value.ref b] s = true) (hgv : (Jvm.Cond.and given_1 narrow_1).before #[Value.ref b] s = true) : ∃ sa : Nat, vk_R RX6 194 "there would be more than 12 tiles" sa s := by
  obtain ⟨a, c, cA, kA, q1, -⟩ := Cond.exactly_spec (args := #[Value.ref b]) (first := s) (o := none) (s := s) (idx := []) (t := Term.string RX6 194) (cls := "java/lang/String") (flat_of_before _ hgv (Jvm.Cond.exactly (Jvm.Term.string "TwoFacedTiles" (194 : Nat)) "java/lang/String") (List.mem_of_getElem? (i := 586) (by decide +kernel)))
  exact ⟨a, vk_R.of (A := #[Value.ref b]) (hts (Cond.stringRef RX6 194 "there would be more than 12 tiles") (List.mem_of_getElem? (i := 774) (by decide +kernel))) q1⟩
set_option maxRecDepth 20000 in
theorem st_s202 {b : Nat} {s : State} (hts : ∀ w ∈ lw_tbl, w.before #[Value.ref b] s = true) (hgv : (Jvm.Cond.and given_1 narrow_1).before #[Value.ref b] s = true) : ∃ sa : Nat, vk_R RX6 202 "there is no saved state" sa s := by
  obtain ⟨a, c, cA, kA, q1, -⟩ := Cond.exactly_spec (args := #[Value.ref b]) (first := s) (o := none) (s := s) (idx := []) (t := Term.string RX6 202) (cls := "java/lang/String") (flat_of_before _ hgv (Jvm.Cond.exactly (Jvm.Term.string "TwoFacedTiles" (202 : Nat)) "java/lang/String") (List.mem_of_getElem? (i := 638) (by decide +kernel)))
  exact ⟨a, vk_R.of (A := #[Value.ref b]) (hts (Cond.stringRef RX6 202 "there is no saved state") (List.mem_of_getElem? (i := 786) (by decide +kernel))) q1⟩
set_option maxRecDepth 20000 in
theorem st_s207 {b : Nat} {s : State} (hts : ∀ w ∈ lw_tbl, w.before #[Value.ref b] s = true) (hgv : (Jvm.Cond.and given_1 narrow_1).before #[Value.ref b] s = true) : ∃ sa : Nat, vk_R RX6 207 "what is not 0 to 3" sa s := by
  obtain ⟨a, c, cA, kA, q1, -⟩ := Cond.exactly_spec (args := #[Value.ref b]) (first := s) (o := none) (s := s) (idx := []) (t := Term.string RX6 207) (cls := "java/lang/String") (flat_of_before _ hgv (Jvm.Cond.exactly (Jvm.Term.string "TwoFacedTiles" (207 : Nat)) "java/lang/String") (List.mem_of_getElem? (i := 681) (by decide +kernel)))
  exact ⟨a, vk_R.of (A := #[Value.ref b]) (hts (Cond.stringRef RX6 207 "what is not 0 to 3") (List.mem_of_getElem? (i := 798) (by decide +kernel))) q1⟩
set_option maxRecDepth 20000 in
theorem st_s214 {b : Nat} {s : State} (hts : ∀ w ∈ lw_tbl, w.before #[Value.ref b] s = true) (hgv : (Jvm.Cond.and given_1 narrow_1).before #[Value.ref b] s = true) : ∃ sa : Nat, vk_R RX6 214 "no such side" sa s := by
  obtain ⟨a, c, cA, kA, q1, -⟩ := Cond.exactly_spec (args := #[Value.ref b]) (first := s) (o := none) (s := s) (idx := []) (t := Term.string RX6 214) (cls := "java/lang/String") (flat_of_before _ hgv (Jvm.Cond.exactly (Jvm.Term.string "TwoFacedTiles" (214 : Nat)) "java/lang/String") (List.mem_of_getElem? (i := 720) (by decide +kernel)))
  exact ⟨a, vk_R.of (A := #[Value.ref b]) (hts (Cond.stringRef RX6 214 "no such side") (List.mem_of_getElem? (i := 806) (by decide +kernel))) q1⟩
set_option maxRecDepth 20000 in
theorem st_s221 {b : Nat} {s : State} (hts : ∀ w ∈ lw_tbl, w.before #[Value.ref b] s = true) (hgv : (Jvm.Cond.and given_1 narrow_1).before #[Value.ref b] s = true) : ∃ sa : Nat, vk_R RX6 221 "no such tile" sa s := by
  obtain ⟨a, c, cA, kA, q1, -⟩ := Cond.exactly_spec (args := #[Value.ref b]) (first := s) (o := none) (s := s) (idx := []) (t := Term.string RX6 221) (cls := "java/lang/String") (flat_of_before _ hgv (Jvm.Cond.exactly (Jvm.Term.string "TwoFacedTiles" (221 : Nat)) "java/lang/String") (List.mem_of_getElem? (i := 274) (by decide +kernel)))
  exact ⟨a, vk_R.of (A := #[Value.ref b]) (hts (Cond.stringRef RX6 221 "no such tile") (List.mem_of_getElem? (i := 715) (by decide +kernel))) q1⟩
set_option maxRecDepth 20000 in
theorem st_s226 {b : Nat} {s : State} (hts : ∀ w ∈ lw_tbl, w.before #[Value.ref b] s = true) (hgv : (Jvm.Cond.and given_1 narrow_1).before #[Value.ref b] s = true) : ∃ sa : Nat, vk_R RX6 226 "what is not 0 to 9" sa s := by
  obtain ⟨a, c, cA, kA, q1, -⟩ := Cond.exactly_spec (args := #[Value.ref b]) (first := s) (o := none) (s := s) (idx := []) (t := Term.string RX6 226) (cls := "java/lang/String") (flat_of_before _ hgv (Jvm.Cond.exactly (Jvm.Term.string "TwoFacedTiles" (226 : Nat)) "java/lang/String") (List.mem_of_getElem? (i := 754) (by decide +kernel)))
  exact ⟨a, vk_R.of (A := #[Value.ref b]) (hts (Cond.stringRef RX6 226 "what is not 0 to 9") (List.mem_of_getElem? (i := 821) (by decide +kernel))) q1⟩
set_option maxRecDepth 20000 in
theorem st_s231 {b : Nat} {s : State} (hts : ∀ w ∈ lw_tbl, w.before #[Value.ref b] s = true) (hgv : (Jvm.Cond.and given_1 narrow_1).before #[Value.ref b] s = true) : ∃ sa : Nat, vk_R RX6 231 "most or what out of range" sa s := by
  obtain ⟨a, c, cA, kA, q1, -⟩ := Cond.exactly_spec (args := #[Value.ref b]) (first := s) (o := none) (s := s) (idx := []) (t := Term.string RX6 231) (cls := "java/lang/String") (flat_of_before _ hgv (Jvm.Cond.exactly (Jvm.Term.string "TwoFacedTiles" (231 : Nat)) "java/lang/String") (List.mem_of_getElem? (i := 795) (by decide +kernel)))
  exact ⟨a, vk_R.of (A := #[Value.ref b]) (hts (Cond.stringRef RX6 231 "most or what out of range") (List.mem_of_getElem? (i := 829) (by decide +kernel))) q1⟩
set_option maxRecDepth 20000 in
theorem st_s270 {b : Nat} {s : State} (hts : ∀ w ∈ lw_tbl, w.before #[Value.ref b] s = true) (hgv : (Jvm.Cond.and given_1 narrow_1).before #[Value.ref b] s = true) : ∃ sa : Nat, vk_R RX6 270 "no such cell" sa s := by
  obtain ⟨a, c, cA, kA, q1, -⟩ := Cond.exactly_spec (args := #[Value.ref b]) (first := s) (o := none) (s := s) (idx := []) (t := Term.string RX6 270) (cls := "java/lang/String") (flat_of_before _ hgv (Jvm.Cond.exactly (Jvm.Term.string "TwoFacedTiles" (270 : Nat)) "java/lang/String") (List.mem_of_getElem? (i := 252) (by decide +kernel)))
  exact ⟨a, vk_R.of (A := #[Value.ref b]) (hts (Cond.stringRef RX6 270 "no such cell") (List.mem_of_getElem? (i := 704) (by decide +kernel))) q1⟩
theorem st_strs {b : Nat} {s : State} (hts : ∀ w ∈ lw_tbl, w.before #[Value.ref b] s = true) (hgv : (Jvm.Cond.and given_1 narrow_1).before #[Value.ref b] s = true) : ∀ q ∈ strP, ∃ sa : Nat, vk_R RX6 q.1 q.2 sa s := (List.forall_mem_cons.mpr ⟨st_s57 hts hgv, (List.forall_mem_cons.mpr ⟨st_s70 hts hgv, (List.forall_mem_cons.mpr ⟨st_s78 hts hgv, (List.forall_mem_cons.mpr ⟨st_s88 hts hgv, (List.forall_mem_cons.mpr ⟨st_s90 hts hgv, (List.forall_mem_cons.mpr ⟨st_s96 hts hgv, (List.forall_mem_cons.mpr ⟨st_s118 hts hgv, (List.forall_mem_cons.mpr ⟨st_s136 hts hgv, (List.forall_mem_cons.mpr ⟨st_s145 hts hgv, (List.forall_mem_cons.mpr ⟨st_s164 hts hgv, (List.forall_mem_cons.mpr ⟨st_s172 hts hgv, (List.forall_mem_cons.mpr ⟨st_s177 hts hgv, (List.forall_mem_cons.mpr ⟨st_s189 hts hgv, (List.forall_mem_cons.mpr ⟨st_s194 hts hgv, (List.forall_mem_cons.mpr ⟨st_s202 hts hgv, (List.forall_mem_cons.mpr ⟨st_s207 hts hgv, (List.forall_mem_cons.mpr ⟨st_s214 hts hgv, (List.forall_mem_cons.mpr ⟨st_s221 hts hgv, (List.forall_mem_cons.mpr ⟨st_s226 hts hgv, (List.forall_mem_cons.mpr ⟨st_s231 hts hgv, (List.forall_mem_cons.mpr ⟨st_s270 hts hgv, (fun _ h => absurd h List.not_mem_nil)⟩)⟩)⟩)⟩)⟩)⟩)⟩)⟩)⟩)⟩)⟩)⟩)⟩)⟩)⟩)⟩)⟩)⟩)⟩)⟩)⟩)
theorem st_KN {b : Nat} {s : State} (hts : ∀ w ∈ lw_tbl, w.before #[Value.ref b] s = true) (hgv : (Jvm.Cond.and given_1 narrow_1).before #[Value.ref b] s = true) : ∃ (D : va_G) (t : T3), KN D t s := by
  obtain ⟨D, hD⟩ := st_cl hts
  obtain ⟨cI, hI⟩ := st_aI hts
  obtain ⟨cL, hL⟩ := st_aL hts
  obtain ⟨aB, cB, hB⟩ := st_aX0 hts
  obtain ⟨aN, cN, hN⟩ := st_aX3 hts
  refine ⟨D, (cI, cB, cN, cL), ⟨hD, fun k q hq => ?_⟩, st_nest hts, ⟨aB, aN⟩, st_exN hts, st_exD hts, st_exC hgv, st_strs hts hgv⟩
  match k, hq with
  | 0, hq => cases hq; exact hI
  | 1, hq => cases hq; exact hB
  | 2, hq => cases hq; exact hN
  | 3, hq => cases hq; exact hL
  | k + 4, hq => simp [tys] at hq
set_option maxRecDepth 20000 in
theorem st_ZA {b : Nat} {s : State} (hts : ∀ w ∈ lw_tbl, w.before #[Value.ref b] s = true) (hgv : (Jvm.Cond.and given_1 narrow_1).before #[Value.ref b] s = true) : ZA (fun q => s.heap.size ≤ q) s s.heap := ⟨vx_Zqof (hts (Cond.laysStatic "java/lang/Throwable" "UNASSIGNED_STACK" "[Ljava/lang/StackTraceElement;") (List.mem_of_getElem? (i := 545) (by decide +kernel))) (hts (Cond.initialized "java/lang/Throwable") (List.mem_of_getElem? (i := 75) (by decide +kernel))) (flat_of_before _ hgv (Jvm.Cond.isRef (Jvm.Term.static "java/lang/Throwable" "UNASSIGNED_STACK" "[Ljava/lang/StackTraceElement;")) (List.mem_of_getElem? (i := 4) (by decide +kernel))) (fun a h => Nat.not_le.mpr h), vx_Zqof (hts (Cond.laysStatic "java/lang/Throwable" "SUPPRESSED_SENTINEL" "Ljava/util/List;") (List.mem_of_getElem? (i := 547) (by decide +kernel))) (hts (Cond.initialized "java/lang/Throwable") (List.mem_of_getElem? (i := 75) (by decide +kernel))) (flat_of_before _ hgv (Jvm.Cond.isRef (Jvm.Term.static "java/lang/Throwable" "SUPPRESSED_SENTINEL" "Ljava/util/List;")) (List.mem_of_getElem? (i := 5) (by decide +kernel))) (fun a h => Nat.not_le.mpr h)⟩
