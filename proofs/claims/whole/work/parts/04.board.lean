theorem in_X0_cells_X0 : ∀ w ∈ u_ws RX0 TX0 8, w ∈ wsX0_cells := fun w h => (List.mem_cons_of_mem _ (List.mem_append_right _ h))
theorem fl_X0_cells_9 : Cond.fieldLink RX0 9 "TwoFacedTiles$Board" "rows" "I" ∈ wsX0_cells := List.mem_of_getElem? (i := 1) rfl
theorem fl_X0_cells_15 : Cond.fieldLink RX0 15 "TwoFacedTiles$Board" "columns" "I" ∈ wsX0_cells := List.mem_of_getElem? (i := 2) rfl
def wp_X0_cells (B : BV) (Q : Int32 → BV → Prop) : Prop := Q ((BV.rows B) * (BV.columns B)) B
set_option maxHeartbeats 4000000 in
set_option maxRecDepth 100000 in
theorem c_X0_cells (l : Launch) (D : va_G) (t : T3) (aB : BA) (B : BV) (Q : Int32 → BV → Prop) (h : wp_X0_cells B Q) : Ct l yX0_cells wsX0_cells 0 0 0 0 [.ref (BA.o aB)] D t (bW t aB B) (fun sz => Qi D (bW t aB B) (fun (u : BV) => (bW t aB u)) (fun (r : Int32) (u : BV) => Q r u) sz) := by
  refine Ct.of (Qf := fun _ A => va_Qi (fun (r : Int32) (u : BV) => Q r u) (B1 D (fun (u : BV) => (bW t aB u)) A) A) cX0_cells 1 (some .int) (by decide) rfl (by decide) ?_
  intro p e s m below meth c A ls hAe hin X hw hl
  generalize ([.ref (BA.o aB)] : List Value).toArray = args at X ⊢
  have hl : lv_has ls 1 [(0, .ref (BA.o aB))] := hl
  have hx := X.1.1
  have hb := X.1.2.1
  refine lv_aload_n hx hb dX0_cells_0 rfl (lv_at hl 0 rfl) ?_
  refine r_get (ci := 0) (C := RX0) (T := TX0) (N := 8) X hw 0 rfl rfl 0 (by decide) in_X0_cells_X0 fl_X0_cells_9 (v := .int (BV.rows B)) rfl dX0_cells_1 ?_
  refine lv_aload_n hx hb dX0_cells_4 rfl (lv_at hl 0 rfl) ?_
  refine r_get (ci := 0) (C := RX0) (T := TX0) (N := 8) X hw 0 rfl rfl 1 (by decide) in_X0_cells_X0 fl_X0_cells_15 (v := .int (BV.columns B)) rfl dX0_cells_5 ?_
  refine lv_imul hx hb dX0_cells_8 ?_
  exact e_i (w1 := (fun (u : BV) => (bW t aB u))) X (B) hw h dX0_cells_9
theorem in_X0_neighbor_X0 : ∀ w ∈ u_ws RX0 TX0 8, w ∈ wsX0_neighbor := fun w h => (List.mem_cons_of_mem _ (List.mem_append_right _ h))
theorem fl_X0_neighbor_15 : Cond.fieldLink RX0 15 "TwoFacedTiles$Board" "columns" "I" ∈ wsX0_neighbor := List.mem_of_getElem? (i := 1) rfl
def wp_X0_neighbor_18 (Q : Int32 → BV → Prop) (B : BV) (x1 : Int32) (x2 : Int32) (t0 : Int32) : Prop := (x2 = 0 → (x1 < (BV.columns B) → Q (-1) B) ∧ (¬ x1 < (BV.columns B) → Q (x1 - (BV.columns B)) B)) ∧ (x2 = 1 → ((BV.columns B) ≤ (t0 + 1) → Q (-1) B) ∧ (¬ (BV.columns B) ≤ (t0 + 1) → Q (x1 + 1) B)) ∧ (x2 = 2 → wp_X0_cells B  (fun (r_7 : Int32) (B_6 : BV) => (r_7 ≤ (x1 + (BV.columns B)) → Q (-1) B_6) ∧ (¬ r_7 ≤ (x1 + (BV.columns B)) → Q (x1 + (BV.columns B_6)) B_6))) ∧ (¬ x2 = 0 → ¬ x2 = 1 → ¬ x2 = 2 → (t0 ≤ 0 → Q (-1) B) ∧ (¬ t0 ≤ 0 → Q (x1 - 1) B))
set_option maxHeartbeats 4000000 in
set_option maxRecDepth 100000 in
theorem k_X0_neighbor_18 {p : Program} {l : Launch} {e : Env} {s : State} {m : MethodId} {below : List Frame} {meth : Method} {c : Code} {args : Array Value} {D : va_G} {t : T3} {A : Nat → Prop} (X : Cx p s m meth c args cX0_neighbor 4 (some .int) RX0 wsX0_neighbor D t A) (aB : BA) {Q : Int32 → BV → Prop}  : ∀ (B : BV) (x1 : Int32) (x2 : Int32) (t0 : Int32) (H : Heap) (locs : List Loc) (ls : Array Slot), wp_X0_neighbor_18 Q B x1 x2 t0 → Wd D A s.heap (bW t aB B) H locs → lv_has ls 4 [(0, .ref (BA.o aB)), (1, .int x1), (2, .int x2)] → W p l e ({ frames := 1, cells := 0, slots := 0, locals := 20 } : Room) s m args below meth c H locs 0 0 (Ei below args s A D (fun (u : BV) => (bW t aB u)) (fun (r : Int32) (u : BV) => Q r u) 0 0) (F0 m 18 ls [.int t0]) := by
  intro B x1 x2 t0 H locs ls h hw hl
  have hx := X.1.1
  have hb := X.1.2.1
  refine lv_istore_n (lv' := [(3, .int t0), (0, .ref (BA.o aB)), (1, .int x1), (2, .int x2)]) hx hb dX0_neighbor_18 rfl hl (by decide) rfl (fun ls hl => ?_)
  refine lv_iload_n hx hb dX0_neighbor_19 rfl (lv_at hl 3 rfl) ?_
  by_cases c_3 : x2 = 0
  · replace h := h.1 c_3
    refine lv_tableIn (off := 28) (tgt := 48) hx hb dX0_neighbor_20 (by rw [c_3]; decide) (by rw [c_3]; decide) (by rw [c_3]; rfl) (by decide) ?_
    refine lv_iload_n hx hb dX0_neighbor_48 rfl (lv_at hl 2 rfl) ?_
    refine lv_aload_n hx hb dX0_neighbor_49 rfl (lv_at hl 1 rfl) ?_
    refine r_get (ci := 0) (C := RX0) (T := TX0) (N := 8) X hw 0 rfl rfl 1 (by decide) in_X0_neighbor_X0 fl_X0_neighbor_15 (v := .int (BV.columns B)) rfl dX0_neighbor_50 ?_
    refine lv_icmp_lt (tgt := 65) hx hb dX0_neighbor_53 (by decide) (fun c_2 => ?_) (fun c_2 => ?_)
    · replace h := h.1 c_2
      refine lv_iconst (v := (-1)) hx hb dX0_neighbor_65 (by decide) ?_
      exact e_i (w1 := (fun (u : BV) => (bW t aB u))) X (B) hw h dX0_neighbor_66
    replace h := h.2 c_2
    refine lv_iload_n hx hb dX0_neighbor_56 rfl (lv_at hl 2 rfl) ?_
    refine lv_aload_n hx hb dX0_neighbor_57 rfl (lv_at hl 1 rfl) ?_
    refine r_get (ci := 0) (C := RX0) (T := TX0) (N := 8) X hw 0 rfl rfl 1 (by decide) in_X0_neighbor_X0 fl_X0_neighbor_15 (v := .int (BV.columns B)) rfl dX0_neighbor_58 ?_
    refine lv_isub hx hb dX0_neighbor_61 ?_
    refine lv_goto (tgt := 66) hx hb dX0_neighbor_62 (by decide) ?_
    exact e_i (w1 := (fun (u : BV) => (bW t aB u))) X (B) hw h dX0_neighbor_66
  by_cases c_5 : x2 = 1
  · replace h := h.2.1 c_5
    refine lv_tableIn (off := 47) (tgt := 67) hx hb dX0_neighbor_20 (by rw [c_5]; decide) (by rw [c_5]; decide) (by rw [c_5]; rfl) (by decide) ?_
    refine lv_iload_n hx hb dX0_neighbor_67 rfl (lv_at hl 0 rfl) ?_
    refine lv_iconst (v := 1) hx hb dX0_neighbor_68 (by decide) ?_
    refine lv_iadd hx hb dX0_neighbor_69 ?_
    refine lv_aload_n hx hb dX0_neighbor_70 rfl (lv_at hl 1 rfl) ?_
    refine r_get (ci := 0) (C := RX0) (T := TX0) (N := 8) X hw 0 rfl rfl 1 (by decide) in_X0_neighbor_X0 fl_X0_neighbor_15 (v := .int (BV.columns B)) rfl dX0_neighbor_71 ?_
    refine lv_icmp_ge (tgt := 83) hx hb dX0_neighbor_74 (by decide) (fun c_4 => ?_) (fun c_4 => ?_)
    · replace h := h.1 c_4
      refine lv_iconst (v := (-1)) hx hb dX0_neighbor_83 (by decide) ?_
      exact e_i (w1 := (fun (u : BV) => (bW t aB u))) X (B) hw h dX0_neighbor_84
    replace h := h.2 c_4
    refine lv_iload_n hx hb dX0_neighbor_77 rfl (lv_at hl 2 rfl) ?_
    refine lv_iconst (v := 1) hx hb dX0_neighbor_78 (by decide) ?_
    refine lv_iadd hx hb dX0_neighbor_79 ?_
    refine lv_goto (tgt := 84) hx hb dX0_neighbor_80 (by decide) ?_
    exact e_i (w1 := (fun (u : BV) => (bW t aB u))) X (B) hw h dX0_neighbor_84
  by_cases c_9 : x2 = 2
  · replace h := h.2.2.1 c_9
    refine lv_tableIn (off := 65) (tgt := 85) hx hb dX0_neighbor_20 (by rw [c_9]; decide) (by rw [c_9]; decide) (by rw [c_9]; rfl) (by decide) ?_
    refine lv_iload_n hx hb dX0_neighbor_85 rfl (lv_at hl 2 rfl) ?_
    refine lv_aload_n hx hb dX0_neighbor_86 rfl (lv_at hl 1 rfl) ?_
    refine r_get (ci := 0) (C := RX0) (T := TX0) (N := 8) X hw 0 rfl rfl 1 (by decide) in_X0_neighbor_X0 fl_X0_neighbor_15 (v := .int (BV.columns B)) rfl dX0_neighbor_87 ?_
    refine lv_iadd hx hb dX0_neighbor_90 ?_
    refine lv_aload_n hx hb dX0_neighbor_91 rfl (lv_at hl 1 rfl) ?_
    refine r_ci X hw [0, 1, 2, 3] [] [0, 1, 2, 3] rfl rfl (by decide) (by decide) (wn := fun (u : BV) => (bW t aB u)) (fun u => rfl) (by decide) (r_runV X hw (c_X0_cells l D t aB B _ h) [0, 1, 2, 3] rfl (by decide) (cwV 0 X.1.2.2.2.2 gX0_neighbor_X0_cells rfl rfl rfl (by decide +kernel) ⟨Nat.le_of_ble_eq_true rfl, Nat.le_of_ble_eq_true rfl⟩) (q0 := 0) (ci := 0) rfl rfl rfl rfl hl rfl (by decide) dX0_neighbor_92 ⟨Nat.le_of_ble_eq_true rfl, Nat.le_of_ble_eq_true rfl⟩) (fun r_7 u H locs h hw => ?_)
    obtain ⟨B_6, rfl⟩ : ∃ z, z = u := ⟨_, rfl⟩
    refine lv_icmp_ge (tgt := 107) hx hb dX0_neighbor_95 (by decide) (fun c_8 => ?_) (fun c_8 => ?_)
    · replace h := h.1 c_8
      refine lv_iconst (v := (-1)) hx hb dX0_neighbor_107 (by decide) ?_
      exact e_i (w1 := (fun (u : BV) => (bW t aB u))) X (B_6) hw h dX0_neighbor_108
    replace h := h.2 c_8
    refine lv_iload_n hx hb dX0_neighbor_98 rfl (lv_at hl 2 rfl) ?_
    refine lv_aload_n hx hb dX0_neighbor_99 rfl (lv_at hl 1 rfl) ?_
    refine r_get (ci := 0) (C := RX0) (T := TX0) (N := 8) X hw 0 rfl rfl 1 (by decide) in_X0_neighbor_X0 fl_X0_neighbor_15 (v := .int (BV.columns B_6)) rfl dX0_neighbor_100 ?_
    refine lv_iadd hx hb dX0_neighbor_103 ?_
    refine lv_goto (tgt := 108) hx hb dX0_neighbor_104 (by decide) ?_
    exact e_i (w1 := (fun (u : BV) => (bW t aB u))) X (B_6) hw h dX0_neighbor_108
  replace h := h.2.2.2 c_3 c_5 c_9
  refine lv_tableOut (tgt := 109) hx hb dX0_neighbor_20 (tab_outL 2 (fun k hk => match k, hk with | 0, _ => c_3 | 1, _ => c_5 | 2, _ => c_9 | (z + 3), hk => absurd hk (by omega))) (by decide) ?_
  refine lv_iload_n hx hb dX0_neighbor_109 rfl (lv_at hl 0 rfl) ?_
  refine lv_if_le (tgt := 119) hx hb dX0_neighbor_110 (by decide) (fun c_10 => ?_) (fun c_10 => ?_)
  · replace h := h.1 c_10
    refine lv_iconst (v := (-1)) hx hb dX0_neighbor_119 (by decide) ?_
    exact e_i (w1 := (fun (u : BV) => (bW t aB u))) X (B) hw h dX0_neighbor_120
  replace h := h.2 c_10
  refine lv_iload_n hx hb dX0_neighbor_113 rfl (lv_at hl 2 rfl) ?_
  refine lv_iconst (v := 1) hx hb dX0_neighbor_114 (by decide) ?_
  refine lv_isub hx hb dX0_neighbor_115 ?_
  refine lv_goto (tgt := 120) hx hb dX0_neighbor_116 (by decide) ?_
  exact e_i (w1 := (fun (u : BV) => (bW t aB u))) X (B) hw h dX0_neighbor_120
def wp_X0_neighbor (B : BV) (p1 : Int32) (p2 : Int32) (Q : Int32 → BV → Prop) : Prop := (1 ≤ (BV.columns B) → ¬ (BV.columns B) = 0 ∧ wp_X0_neighbor_18 Q B p1 p2 (jrem p1 (BV.columns B))) ∧ (¬ 1 ≤ (BV.columns B) → wp_X0_neighbor_18 Q B p1 p2 0)
set_option maxHeartbeats 4000000 in
set_option maxRecDepth 100000 in
theorem c_X0_neighbor (l : Launch) (D : va_G) (t : T3) (aB : BA) (B : BV) (p1 : Int32) (p2 : Int32) (Q : Int32 → BV → Prop) (h : wp_X0_neighbor B p1 p2 Q) : Ct l yX0_neighbor wsX0_neighbor 1 20 0 0 [.ref (BA.o aB), .int p1, .int p2] D t (bW t aB B) (fun sz => Qi D (bW t aB B) (fun (u : BV) => (bW t aB u)) (fun (r : Int32) (u : BV) => Q r u) sz) := by
  refine Ct.of (Qf := fun _ A => va_Qi (fun (r : Int32) (u : BV) => Q r u) (B1 D (fun (u : BV) => (bW t aB u)) A) A) cX0_neighbor 4 (some .int) (by decide) rfl (by decide) ?_
  intro p e s m below meth c A ls hAe hin X hw hl
  generalize ([.ref (BA.o aB), .int p1, .int p2] : List Value).toArray = args at X ⊢
  have hl : lv_has ls 4 [(0, .ref (BA.o aB)), (1, .int p1), (2, .int p2)] := hl
  have hx := X.1.1
  have hb := X.1.2.1
  refine lv_aload_n hx hb dX0_neighbor_0 rfl (lv_at hl 0 rfl) ?_
  refine r_get (ci := 0) (C := RX0) (T := TX0) (N := 8) X hw 0 rfl rfl 1 (by decide) in_X0_neighbor_X0 fl_X0_neighbor_15 (v := .int (BV.columns B)) rfl dX0_neighbor_1 ?_
  refine lv_iconst (v := 1) hx hb dX0_neighbor_4 (by decide) ?_
  refine lv_icmp_ge (tgt := 12) hx hb dX0_neighbor_5 (by decide) (fun c_11 => ?_) (fun c_11 => ?_)
  · replace h := h.1 c_11
    refine lv_iload_n hx hb dX0_neighbor_12 rfl (lv_at hl 1 rfl) ?_
    refine lv_aload_n hx hb dX0_neighbor_13 rfl (lv_at hl 0 rfl) ?_
    refine r_get (ci := 0) (C := RX0) (T := TX0) (N := 8) X hw 0 rfl rfl 1 (by decide) in_X0_neighbor_X0 fl_X0_neighbor_15 (v := .int (BV.columns B)) rfl dX0_neighbor_14 ?_
    obtain ⟨hn_1, h⟩ := h
    refine r_irem hx hb dX0_neighbor_17 hn_1 ?_
    exact k_X0_neighbor_18 X aB _ _ _ _ H locs ls h hw hl
  replace h := h.2 c_11
  refine lv_iconst (v := 0) hx hb dX0_neighbor_8 (by decide) ?_
  refine lv_goto (tgt := 18) hx hb dX0_neighbor_9 (by decide) ?_
  exact k_X0_neighbor_18 X aB _ _ _ _ H locs ls h hw hl
theorem in_X0_isEmpty_X0 : ∀ w ∈ u_ws RX0 TX0 8, w ∈ wsX0_isEmpty := fun w h => (List.mem_cons_of_mem _ (List.mem_append_right _ h))
theorem fl_X0_isEmpty_27 : Cond.fieldLink RX0 27 "TwoFacedTiles$Board" "placings" "[I" ∈ wsX0_isEmpty := List.mem_of_getElem? (i := 1) rfl
def wp_X0_isEmpty (B : BV) (p1 : Int32) (Q : Int32 → BV → Prop) : Prop := vp_in p1 12 ∧ (¬ ((BV.placings B) (Int32.toNatClampNeg p1)) = (-1) → Q 0 B) ∧ (((BV.placings B) (Int32.toNatClampNeg p1)) = (-1) → Q 1 B)
set_option maxHeartbeats 4000000 in
set_option maxRecDepth 100000 in
theorem c_X0_isEmpty (l : Launch) (D : va_G) (t : T3) (aB : BA) (B : BV) (p1 : Int32) (Q : Int32 → BV → Prop) (h : wp_X0_isEmpty B p1 Q) : Ct l yX0_isEmpty wsX0_isEmpty 0 0 0 0 [.ref (BA.o aB), .int p1] D t (bW t aB B) (fun sz => Qi D (bW t aB B) (fun (u : BV) => (bW t aB u)) (fun (r : Int32) (u : BV) => Q r u) sz) := by
  refine Ct.of (Qf := fun _ A => va_Qi (fun (r : Int32) (u : BV) => Q r u) (B1 D (fun (u : BV) => (bW t aB u)) A) A) cX0_isEmpty 2 (some .boolean) (by decide) rfl (by decide) ?_
  intro p e s m below meth c A ls hAe hin X hw hl
  generalize ([.ref (BA.o aB), .int p1] : List Value).toArray = args at X ⊢
  have hl : lv_has ls 2 [(0, .ref (BA.o aB)), (1, .int p1)] := hl
  have hx := X.1.1
  have hb := X.1.2.1
  refine lv_aload_n hx hb dX0_isEmpty_0 rfl (lv_at hl 0 rfl) ?_
  refine r_get (ci := 0) (C := RX0) (T := TX0) (N := 8) X hw 0 rfl rfl 5 (by decide) in_X0_isEmpty_X0 fl_X0_isEmpty_27 (v := .ref (BA.placings aB)) rfl dX0_isEmpty_1 ?_
  refine lv_iload_n hx hb dX0_isEmpty_4 rfl (lv_at hl 1 rfl) ?_
  obtain ⟨hi_1, h⟩ := h
  refine r_iald (v := ((BV.placings B) (Int32.toNatClampNeg p1))) X hw 1 rfl hi_1 rfl dX0_isEmpty_5 ?_
  refine lv_iconst (v := (-1)) hx hb dX0_isEmpty_6 (by decide) ?_
  refine lv_icmp_ne (tgt := 14) hx hb dX0_isEmpty_7 (by decide) (fun c_2 => ?_) (fun c_2 => ?_)
  · replace h := h.1 c_2
    refine lv_iconst (v := 0) hx hb dX0_isEmpty_14 (by decide) ?_
    exact e_z (w1 := (fun (u : BV) => (bW t aB u))) X rfl (B) hw h dX0_isEmpty_15
  replace h := h.2 c_2
  refine lv_iconst (v := 1) hx hb dX0_isEmpty_10 (by decide) ?_
  refine lv_goto (tgt := 15) hx hb dX0_isEmpty_11 (by decide) ?_
  exact e_z (w1 := (fun (u : BV) => (bW t aB u))) X rfl (B) hw h dX0_isEmpty_15
theorem in_X0_put_X0 : ∀ w ∈ u_ws RX0 TX0 8, w ∈ wsX0_put := fun w h => (List.mem_cons_of_mem _ (List.mem_append_right _ h))
theorem fl_X0_put_27 : Cond.fieldLink RX0 27 "TwoFacedTiles$Board" "placings" "[I" ∈ wsX0_put := List.mem_of_getElem? (i := 1) rfl
theorem fl_X0_put_31 : Cond.fieldLink RX0 31 "TwoFacedTiles$Board" "places" "[I" ∈ wsX0_put := List.mem_of_getElem? (i := 2) rfl
def wp_X0_put (B : BV) (p1 : Int32) (p2 : Int32) (Q : BV → Prop) : Prop := vp_in p1 12 ∧ ∀ p_2 : Nat → Int32, p_2 = upd (BV.placings B) (Int32.toNatClampNeg p1) p2 → vp_in (p2 / 8) 12 ∧ ∀ p_4 : Nat → Int32, p_4 = upd (BV.places B) (Int32.toNatClampNeg (p2 / 8)) p1 → Q (BV.s_places (BV.s_placings B p_2) p_4)
set_option maxHeartbeats 4000000 in
set_option maxRecDepth 100000 in
theorem c_X0_put (l : Launch) (D : va_G) (t : T3) (aB : BA) (B : BV) (p1 : Int32) (p2 : Int32) (Q : BV → Prop) (h : wp_X0_put B p1 p2 Q) : Ct l yX0_put wsX0_put 0 0 0 0 [.ref (BA.o aB), .int p1, .int p2] D t (bW t aB B) (fun sz => Qv D (bW t aB B) (fun (u : BV) => (bW t aB u)) (fun (u : BV) => Q u) sz) := by
  refine Ct.of (Qf := fun _ A => va_Qv (fun (u : BV) => Q u) (B1 D (fun (u : BV) => (bW t aB u)) A) A) cX0_put 3 none (by decide) rfl (by decide) ?_
  intro p e s m below meth c A ls hAe hin X hw hl
  generalize ([.ref (BA.o aB), .int p1, .int p2] : List Value).toArray = args at X ⊢
  have hl : lv_has ls 3 [(0, .ref (BA.o aB)), (1, .int p1), (2, .int p2)] := hl
  have hx := X.1.1
  have hb := X.1.2.1
  refine lv_aload_n hx hb dX0_put_0 rfl (lv_at hl 0 rfl) ?_
  refine r_get (ci := 0) (C := RX0) (T := TX0) (N := 8) X hw 0 rfl rfl 5 (by decide) in_X0_put_X0 fl_X0_put_27 (v := .ref (BA.placings aB)) rfl dX0_put_1 ?_
  refine lv_iload_n hx hb dX0_put_4 rfl (lv_at hl 1 rfl) ?_
  refine lv_iload_n hx hb dX0_put_5 rfl (lv_at hl 2 rfl) ?_
  obtain ⟨hi_1, h⟩ := h
  obtain ⟨p_2, ep_2⟩ : ∃ z : Nat → Int32, z = upd (BV.placings B) (Int32.toNatClampNeg p1) p2 := ⟨_, rfl⟩
  replace h := h p_2 ep_2
  refine r_iast (ws' := (bW t aB (BV.s_placings B p_2))) X hw 1 rfl hi_1 (by subst ep_2; rfl) dX0_put_6 (fun H locs hw => ?_)
  refine lv_aload_n hx hb dX0_put_7 rfl (lv_at hl 0 rfl) ?_
  refine r_get (ci := 0) (C := RX0) (T := TX0) (N := 8) X hw 0 rfl rfl 6 (by decide) in_X0_put_X0 fl_X0_put_31 (v := .ref (BA.places aB)) rfl dX0_put_8 ?_
  refine lv_iload_n hx hb dX0_put_11 rfl (lv_at hl 2 rfl) ?_
  refine lv_bipush (v := 8) hx hb dX0_put_12 (by decide) ?_
  refine lv_idiv hx hb dX0_put_14 (by decide) ?_
  refine lv_iload_n hx hb dX0_put_15 rfl (lv_at hl 1 rfl) ?_
  obtain ⟨hi_3, h⟩ := h
  obtain ⟨p_4, ep_4⟩ : ∃ z : Nat → Int32, z = upd (BV.places B) (Int32.toNatClampNeg (p2 / 8)) p1 := ⟨_, rfl⟩
  replace h := h p_4 ep_4
  refine r_iast (ws' := (bW t aB (BV.s_places (BV.s_placings B p_2) p_4))) X hw 2 rfl hi_3 (by subst ep_4; rfl) dX0_put_16 (fun H locs hw => ?_)
  exact e_v (w1 := (fun (u : BV) => (bW t aB u))) X ((BV.s_places (BV.s_placings B p_2) p_4)) hw h dX0_put_17
theorem in_X0_remove_X0 : ∀ w ∈ u_ws RX0 TX0 8, w ∈ wsX0_remove := fun w h => (List.mem_cons_of_mem _ (List.mem_append_right _ h))
theorem fl_X0_remove_31 : Cond.fieldLink RX0 31 "TwoFacedTiles$Board" "places" "[I" ∈ wsX0_remove := List.mem_of_getElem? (i := 1) rfl
theorem fl_X0_remove_27 : Cond.fieldLink RX0 27 "TwoFacedTiles$Board" "placings" "[I" ∈ wsX0_remove := List.mem_of_getElem? (i := 2) rfl
def wp_X0_remove (B : BV) (p1 : Int32) (Q : BV → Prop) : Prop := vp_in p1 12 ∧ vp_in (((BV.placings B) (Int32.toNatClampNeg p1)) / 8) 12 ∧ ∀ p_3 : Nat → Int32, p_3 = upd (BV.places B) (Int32.toNatClampNeg (((BV.placings B) (Int32.toNatClampNeg p1)) / 8)) (-1) → vp_in p1 12 ∧ ∀ p_5 : Nat → Int32, p_5 = upd (BV.placings B) (Int32.toNatClampNeg p1) (-1) → Q (BV.s_places (BV.s_placings B p_5) p_3)
set_option maxHeartbeats 4000000 in
set_option maxRecDepth 100000 in
theorem c_X0_remove (l : Launch) (D : va_G) (t : T3) (aB : BA) (B : BV) (p1 : Int32) (Q : BV → Prop) (h : wp_X0_remove B p1 Q) : Ct l yX0_remove wsX0_remove 0 0 0 0 [.ref (BA.o aB), .int p1] D t (bW t aB B) (fun sz => Qv D (bW t aB B) (fun (u : BV) => (bW t aB u)) (fun (u : BV) => Q u) sz) := by
  refine Ct.of (Qf := fun _ A => va_Qv (fun (u : BV) => Q u) (B1 D (fun (u : BV) => (bW t aB u)) A) A) cX0_remove 2 none (by decide) rfl (by decide) ?_
  intro p e s m below meth c A ls hAe hin X hw hl
  generalize ([.ref (BA.o aB), .int p1] : List Value).toArray = args at X ⊢
  have hl : lv_has ls 2 [(0, .ref (BA.o aB)), (1, .int p1)] := hl
  have hx := X.1.1
  have hb := X.1.2.1
  refine lv_aload_n hx hb dX0_remove_0 rfl (lv_at hl 0 rfl) ?_
  refine r_get (ci := 0) (C := RX0) (T := TX0) (N := 8) X hw 0 rfl rfl 6 (by decide) in_X0_remove_X0 fl_X0_remove_31 (v := .ref (BA.places aB)) rfl dX0_remove_1 ?_
  refine lv_aload_n hx hb dX0_remove_4 rfl (lv_at hl 0 rfl) ?_
  refine r_get (ci := 0) (C := RX0) (T := TX0) (N := 8) X hw 0 rfl rfl 5 (by decide) in_X0_remove_X0 fl_X0_remove_27 (v := .ref (BA.placings aB)) rfl dX0_remove_5 ?_
  refine lv_iload_n hx hb dX0_remove_8 rfl (lv_at hl 1 rfl) ?_
  obtain ⟨hi_1, h⟩ := h
  refine r_iald (v := ((BV.placings B) (Int32.toNatClampNeg p1))) X hw 1 rfl hi_1 rfl dX0_remove_9 ?_
  refine lv_bipush (v := 8) hx hb dX0_remove_10 (by decide) ?_
  refine lv_idiv hx hb dX0_remove_12 (by decide) ?_
  refine lv_iconst (v := (-1)) hx hb dX0_remove_13 (by decide) ?_
  obtain ⟨hi_2, h⟩ := h
  obtain ⟨p_3, ep_3⟩ : ∃ z : Nat → Int32, z = upd (BV.places B) (Int32.toNatClampNeg (((BV.placings B) (Int32.toNatClampNeg p1)) / 8)) (-1) := ⟨_, rfl⟩
  replace h := h p_3 ep_3
  refine r_iast (ws' := (bW t aB (BV.s_places B p_3))) X hw 2 rfl hi_2 (by subst ep_3; rfl) dX0_remove_14 (fun H locs hw => ?_)
  refine lv_aload_n hx hb dX0_remove_15 rfl (lv_at hl 0 rfl) ?_
  refine r_get (ci := 0) (C := RX0) (T := TX0) (N := 8) X hw 0 rfl rfl 5 (by decide) in_X0_remove_X0 fl_X0_remove_27 (v := .ref (BA.placings aB)) rfl dX0_remove_16 ?_
  refine lv_iload_n hx hb dX0_remove_19 rfl (lv_at hl 1 rfl) ?_
  refine lv_iconst (v := (-1)) hx hb dX0_remove_20 (by decide) ?_
  obtain ⟨hi_4, h⟩ := h
  obtain ⟨p_5, ep_5⟩ : ∃ z : Nat → Int32, z = upd (BV.placings B) (Int32.toNatClampNeg p1) (-1) := ⟨_, rfl⟩
  replace h := h p_5 ep_5
  refine r_iast (ws' := (bW t aB (BV.s_places (BV.s_placings B p_5) p_3))) X hw 1 rfl hi_4 (by subst ep_5; rfl) dX0_remove_21 (fun H locs hw => ?_)
  exact e_v (w1 := (fun (u : BV) => (bW t aB u))) X ((BV.s_places (BV.s_placings B p_5) p_3)) hw h dX0_remove_22
def wp_X0_emptyCells_23 (P : BV → Int32 → Int32 → Prop) (Q : Int32 → BV → Prop) (B : BV) (x1 : Int32) (x2 : Int32) : Prop := ∀ x2_5 : Int32, x2_5 = x2 + 1 → P B x1 x2_5
set_option maxHeartbeats 4000000 in
set_option maxRecDepth 100000 in
theorem k_X0_emptyCells_23 {p : Program} {l : Launch} {e : Env} {s : State} {m : MethodId} {below : List Frame} {meth : Method} {c : Code} {args : Array Value} {D : va_G} {t : T3} {A : Nat → Prop} (X : Cx p s m meth c args cX0_emptyCells 3 (some .int) RX0 wsX0_emptyCells D t A) (aB : BA) {P : BV → Int32 → Int32 → Prop} {Q : Int32 → BV → Prop} (hP : ∀ (B : BV) (x1 : Int32) (x2 : Int32) (H : Heap) (locs : List Loc) (ls : Array Slot), P B x1 x2 → Wd D A s.heap (bW t aB B) H locs → lv_has ls 3 [(0, .ref (BA.o aB)), (1, .int x1), (2, .int x2)] → W p l e ({ frames := 1, cells := 0, slots := 0, locals := 21 } : Room) s m args below meth c H locs 0 0 (Ei below args s A D (fun (u : BV) => (bW t aB u)) (fun (r : Int32) (u : BV) => Q r u) 0 0) (F0 m 4 ls [])) : ∀ (B : BV) (x1 : Int32) (x2 : Int32) (H : Heap) (locs : List Loc) (ls : Array Slot), wp_X0_emptyCells_23 P Q B x1 x2 → Wd D A s.heap (bW t aB B) H locs → lv_has ls 3 [(0, .ref (BA.o aB)), (1, .int x1), (2, .int x2)] → W p l e ({ frames := 1, cells := 0, slots := 0, locals := 21 } : Room) s m args below meth c H locs 0 0 (Ei below args s A D (fun (u : BV) => (bW t aB u)) (fun (r : Int32) (u : BV) => Q r u) 0 0) (F0 m 23 ls []) := by
  intro B x1 x2 H locs ls h hw hl
  have hx := X.1.1
  have hb := X.1.2.1
  obtain ⟨x2_5, ex2_5⟩ : ∃ z : Int32, z = x2 + 1 := ⟨_, rfl⟩
  replace h := h x2_5 ex2_5
  refine lv_iinc (v := x2_5) (lv' := [(2, .int x2_5), (0, .ref (BA.o aB)), (1, .int x1)]) hx hb dX0_emptyCells_23 hl (k := 2) rfl (by rw [ex2_5]; rfl) (by decide) rfl (fun ls hl => ?_)
  refine lv_goto (tgt := 4) hx hb dX0_emptyCells_26 (by decide) ?_
  exact hP _ _ _ H locs ls h hw (lv_sub hl [1, 2, 0] rfl)
def bd_X0_emptyCells_4 (Q : Int32 → BV → Prop) (P : BV → Int32 → Int32 → Prop) (B : BV) (x1 : Int32) (x2 : Int32) : Prop := wp_X0_cells B  (fun (r_2 : Int32) (B_1 : BV) => (r_2 ≤ x2 → Q x1 B_1) ∧ (¬ r_2 ≤ x2 → wp_X0_isEmpty B_1 x2 (fun (r_4 : Int32) (B_3 : BV) => (r_4 = 0 → wp_X0_emptyCells_23 P Q B_3 x1 x2) ∧ (¬ r_4 = 0 → ∀ x1_6 : Int32, x1_6 = x1 + 1 → wp_X0_emptyCells_23 P Q B_3 x1_6 x2))))
def wp_X0_emptyCells_4 (Q : Int32 → BV → Prop)  (B : BV) (x1 : Int32) (x2 : Int32) : Prop := ∀ P : BV → Int32 → Int32 → Prop, (∀ (B : BV) (x1 : Int32) (x2 : Int32), bd_X0_emptyCells_4 Q P  B x1 x2 → P B x1 x2) → P B x1 x2
set_option maxHeartbeats 4000000 in
set_option maxRecDepth 100000 in
theorem kb_X0_emptyCells_4 {p : Program} {l : Launch} {e : Env} {s : State} {m : MethodId} {below : List Frame} {meth : Method} {c : Code} {args : Array Value} {D : va_G} {t : T3} {A : Nat → Prop} (X : Cx p s m meth c args cX0_emptyCells 3 (some .int) RX0 wsX0_emptyCells D t A) (aB : BA) {Q : Int32 → BV → Prop} {P : BV → Int32 → Int32 → Prop} (hP : ∀ (B : BV) (x1 : Int32) (x2 : Int32) (H : Heap) (locs : List Loc) (ls : Array Slot), P B x1 x2 → Wd D A s.heap (bW t aB B) H locs → lv_has ls 3 [(0, .ref (BA.o aB)), (1, .int x1), (2, .int x2)] → W p l e ({ frames := 1, cells := 0, slots := 0, locals := 21 } : Room) s m args below meth c H locs 0 0 (Ei below args s A D (fun (u : BV) => (bW t aB u)) (fun (r : Int32) (u : BV) => Q r u) 0 0) (F0 m 4 ls [])) : ∀ (B : BV) (x1 : Int32) (x2 : Int32) (H : Heap) (locs : List Loc) (ls : Array Slot), bd_X0_emptyCells_4 Q P  B x1 x2 → Wd D A s.heap (bW t aB B) H locs → lv_has ls 3 [(0, .ref (BA.o aB)), (1, .int x1), (2, .int x2)] → W p l e ({ frames := 1, cells := 0, slots := 0, locals := 21 } : Room) s m args below meth c H locs 0 0 (Ei below args s A D (fun (u : BV) => (bW t aB u)) (fun (r : Int32) (u : BV) => Q r u) 0 0) (F0 m 4 ls []) := by
  intro B x1 x2 H locs ls h hw hl
  have hx := X.1.1
  have hb := X.1.2.1
  refine lv_iload_n hx hb dX0_emptyCells_4 rfl (lv_at hl 2 rfl) ?_
  refine lv_aload_n hx hb dX0_emptyCells_5 rfl (lv_at hl 0 rfl) ?_
  refine r_ci X hw [0, 1, 2, 3] [] [0, 1, 2, 3] rfl rfl (by decide) (by decide) (wn := fun (u : BV) => (bW t aB u)) (fun u => rfl) (by decide) (r_runV X hw (c_X0_cells l D t aB B _ h) [0, 1, 2, 3] rfl (by decide) (cwV 0 X.1.2.2.2.2 gX0_emptyCells_X0_cells rfl rfl rfl (by decide +kernel) ⟨Nat.le_of_ble_eq_true rfl, Nat.le_of_ble_eq_true rfl⟩) (q0 := 0) (ci := 0) rfl rfl rfl rfl hl rfl (by decide) dX0_emptyCells_6 ⟨Nat.le_of_ble_eq_true rfl, Nat.le_of_ble_eq_true rfl⟩) (fun r_2 u H locs h hw => ?_)
  obtain ⟨B_1, rfl⟩ : ∃ z, z = u := ⟨_, rfl⟩
  refine lv_icmp_ge (tgt := 29) hx hb dX0_emptyCells_9 (by decide) (fun c_8 => ?_) (fun c_8 => ?_)
  · replace h := h.1 c_8
    refine lv_iload_n hx hb dX0_emptyCells_29 rfl (lv_at hl 1 rfl) ?_
    exact e_i (w1 := (fun (u : BV) => (bW t aB u))) X (B_1) hw h dX0_emptyCells_30
  replace h := h.2 c_8
  refine lv_aload_n hx hb dX0_emptyCells_12 rfl (lv_at hl 0 rfl) ?_
  refine lv_iload_n hx hb dX0_emptyCells_13 rfl (lv_at hl 2 rfl) ?_
  refine r_ci X hw [0, 1, 2, 3] [] [0, 1, 2, 3] rfl rfl (by decide) (by decide) (wn := fun (u : BV) => (bW t aB u)) (fun u => rfl) (by decide) (r_runV X hw (c_X0_isEmpty l D t aB B_1 x2 _ h) [0, 1, 2, 3] rfl (by decide) (cwV 1 X.1.2.2.2.2 gX0_emptyCells_X0_isEmpty rfl rfl rfl (by decide +kernel) ⟨Nat.le_of_ble_eq_true rfl, Nat.le_of_ble_eq_true rfl⟩) (q0 := 0) (ci := 0) rfl rfl rfl rfl hl rfl (by decide) dX0_emptyCells_14 ⟨Nat.le_of_ble_eq_true rfl, Nat.le_of_ble_eq_true rfl⟩) (fun r_4 u H locs h hw => ?_)
  obtain ⟨B_3, rfl⟩ : ∃ z, z = u := ⟨_, rfl⟩
  refine lv_if_eq (tgt := 23) hx hb dX0_emptyCells_17 (by decide) (fun c_7 => ?_) (fun c_7 => ?_)
  · replace h := h.1 c_7
    exact k_X0_emptyCells_23 X aB hP _ _ _ H locs ls h hw hl
  replace h := h.2 c_7
  obtain ⟨x1_6, ex1_6⟩ : ∃ z : Int32, z = x1 + 1 := ⟨_, rfl⟩
  replace h := h x1_6 ex1_6
  refine lv_iinc (v := x1_6) (lv' := [(1, .int x1_6), (0, .ref (BA.o aB)), (2, .int x2)]) hx hb dX0_emptyCells_20 hl (k := 1) rfl (by rw [ex1_6]; rfl) (by decide) rfl (fun ls hl => ?_)
  exact k_X0_emptyCells_23 X aB hP _ _ _ H locs ls h hw (lv_sub hl [1, 0, 2] rfl)
set_option maxHeartbeats 4000000 in
set_option maxRecDepth 100000 in
theorem k_X0_emptyCells_4 {p : Program} {l : Launch} {e : Env} {s : State} {m : MethodId} {below : List Frame} {meth : Method} {c : Code} {args : Array Value} {D : va_G} {t : T3} {A : Nat → Prop} (X : Cx p s m meth c args cX0_emptyCells 3 (some .int) RX0 wsX0_emptyCells D t A) (aB : BA) {Q : Int32 → BV → Prop}   : ∀ (B : BV) (x1 : Int32) (x2 : Int32) (H : Heap) (locs : List Loc) (ls : Array Slot), wp_X0_emptyCells_4 Q  B x1 x2 → Wd D A s.heap (bW t aB B) H locs → lv_has ls 3 [(0, .ref (BA.o aB)), (1, .int x1), (2, .int x2)] → W p l e ({ frames := 1, cells := 0, slots := 0, locals := 21 } : Room) s m args below meth c H locs 0 0 (Ei below args s A D (fun (u : BV) => (bW t aB u)) (fun (r : Int32) (u : BV) => Q r u) 0 0) (F0 m 4 ls []) := by
  intro B x1 x2 H locs ls h hw hl
  have hx := X.1.1
  have hb := X.1.2.1
  refine h (fun (B : BV) (x1 : Int32) (x2 : Int32) => ∀ (H : Heap) (locs : List Loc) (ls : Array Slot), Wd D A s.heap (bW t aB B) H locs → lv_has ls 3 [(0, .ref (BA.o aB)), (1, .int x1), (2, .int x2)] → W p l e ({ frames := 1, cells := 0, slots := 0, locals := 21 } : Room) s m args below meth c H locs 0 0 (Ei below args s A D (fun (u : BV) => (bW t aB u)) (fun (r : Int32) (u : BV) => Q r u) 0 0) (F0 m 4 ls [])) (fun B x1 x2 h H locs ls hw hl => ?_) H locs ls hw hl
  exact kb_X0_emptyCells_4 X aB (fun B x1 x2 H locs ls q hw hl => q H locs ls hw hl)  B x1 x2 H locs ls h hw hl
def wp_X0_emptyCells (B : BV) (Q : Int32 → BV → Prop) : Prop := wp_X0_emptyCells_4 Q  B 0 0
set_option maxHeartbeats 4000000 in
set_option maxRecDepth 100000 in
theorem c_X0_emptyCells (l : Launch) (D : va_G) (t : T3) (aB : BA) (B : BV) (Q : Int32 → BV → Prop) (h : wp_X0_emptyCells B Q) : Ct l yX0_emptyCells wsX0_emptyCells 1 21 0 0 [.ref (BA.o aB)] D t (bW t aB B) (fun sz => Qi D (bW t aB B) (fun (u : BV) => (bW t aB u)) (fun (r : Int32) (u : BV) => Q r u) sz) := by
  refine Ct.of (Qf := fun _ A => va_Qi (fun (r : Int32) (u : BV) => Q r u) (B1 D (fun (u : BV) => (bW t aB u)) A) A) cX0_emptyCells 3 (some .int) (by decide) rfl (by decide) ?_
  intro p e s m below meth c A ls hAe hin X hw hl
  generalize ([.ref (BA.o aB)] : List Value).toArray = args at X ⊢
  have hl : lv_has ls 3 [(0, .ref (BA.o aB))] := hl
  have hx := X.1.1
  have hb := X.1.2.1
  refine lv_iconst (v := 0) hx hb dX0_emptyCells_0 (by decide) ?_
  refine lv_istore_n (lv' := [(1, .int 0), (0, .ref (BA.o aB))]) hx hb dX0_emptyCells_1 rfl hl (by decide) rfl (fun ls hl => ?_)
  refine lv_iconst (v := 0) hx hb dX0_emptyCells_2 (by decide) ?_
  refine lv_istore_n (lv' := [(2, .int 0), (1, .int 0), (0, .ref (BA.o aB))]) hx hb dX0_emptyCells_3 rfl hl (by decide) rfl (fun ls hl => ?_)
  refine k_X0_emptyCells_4 X aB  _ _ _ H locs ls h hw (lv_sub hl [2, 1, 0] rfl)
def wp_X0_removeAllBut_36 (P : BV → Int32 → Int32 → Int32 → Prop) (Q : Int32 → BV → Prop) (B : BV) (x1 : Int32) (x2 : Int32) (x3 : Int32) : Prop := ∀ x3_5 : Int32, x3_5 = x3 + 1 → P B x1 x2 x3_5
set_option maxHeartbeats 4000000 in
set_option maxRecDepth 100000 in
theorem k_X0_removeAllBut_36 {p : Program} {l : Launch} {e : Env} {s : State} {m : MethodId} {below : List Frame} {meth : Method} {c : Code} {args : Array Value} {D : va_G} {t : T3} {A : Nat → Prop} (X : Cx p s m meth c args cX0_removeAllBut 4 (some .int) RX0 wsX0_removeAllBut D t A) (aB : BA) {P : BV → Int32 → Int32 → Int32 → Prop} {Q : Int32 → BV → Prop} (hP : ∀ (B : BV) (x1 : Int32) (x2 : Int32) (x3 : Int32) (H : Heap) (locs : List Loc) (ls : Array Slot), P B x1 x2 x3 → Wd D A s.heap (bW t aB B) H locs → lv_has ls 4 [(0, .ref (BA.o aB)), (1, .int x1), (2, .int x2), (3, .int x3)] → W p l e ({ frames := 1, cells := 0, slots := 0, locals := 21 } : Room) s m args below meth c H locs 0 0 (Ei below args s A D (fun (u : BV) => (bW t aB u)) (fun (r : Int32) (u : BV) => Q r u) 0 0) (F0 m 4 ls [])) : ∀ (B : BV) (x1 : Int32) (x2 : Int32) (x3 : Int32) (H : Heap) (locs : List Loc) (ls : Array Slot), wp_X0_removeAllBut_36 P Q B x1 x2 x3 → Wd D A s.heap (bW t aB B) H locs → lv_has ls 4 [(0, .ref (BA.o aB)), (1, .int x1), (2, .int x2), (3, .int x3)] → W p l e ({ frames := 1, cells := 0, slots := 0, locals := 21 } : Room) s m args below meth c H locs 0 0 (Ei below args s A D (fun (u : BV) => (bW t aB u)) (fun (r : Int32) (u : BV) => Q r u) 0 0) (F0 m 36 ls []) := by
  intro B x1 x2 x3 H locs ls h hw hl
  have hx := X.1.1
  have hb := X.1.2.1
  obtain ⟨x3_5, ex3_5⟩ : ∃ z : Int32, z = x3 + 1 := ⟨_, rfl⟩
  replace h := h x3_5 ex3_5
  refine lv_iinc (v := x3_5) (lv' := [(3, .int x3_5), (0, .ref (BA.o aB)), (1, .int x1), (2, .int x2)]) hx hb dX0_removeAllBut_36 hl (k := 3) rfl (by rw [ex3_5]; rfl) (by decide) rfl (fun ls hl => ?_)
  refine lv_goto (tgt := 4) hx hb dX0_removeAllBut_39 (by decide) ?_
  exact hP _ _ _ _ H locs ls h hw (lv_sub hl [1, 2, 3, 0] rfl)
def bd_X0_removeAllBut_4 (Q : Int32 → BV → Prop) (P : BV → Int32 → Int32 → Int32 → Prop) (B : BV) (x1 : Int32) (x2 : Int32) (x3 : Int32) : Prop := wp_X0_cells B  (fun (r_2 : Int32) (B_1 : BV) => (r_2 ≤ x3 → Q x2 B_1) ∧ (¬ r_2 ≤ x3 → wp_X0_isEmpty B_1 x3 (fun (r_4 : Int32) (B_3 : BV) => (¬ r_4 = 0 → wp_X0_removeAllBut_36 P Q B_3 x1 x2 x3) ∧ (r_4 = 0 → (¬ ((jshr x1 x3) &&& 1) = 0 → wp_X0_removeAllBut_36 P Q B_3 x1 x2 x3) ∧ (((jshr x1 x3) &&& 1) = 0 → wp_X0_remove B_3 x3 (fun (B_6 : BV) => ∀ x2_7 : Int32, x2_7 = x2 + 1 → wp_X0_removeAllBut_36 P Q B_6 x1 x2_7 x3))))))
def wp_X0_removeAllBut_4 (Q : Int32 → BV → Prop)  (B : BV) (x1 : Int32) (x2 : Int32) (x3 : Int32) : Prop := ∀ P : BV → Int32 → Int32 → Int32 → Prop, (∀ (B : BV) (x1 : Int32) (x2 : Int32) (x3 : Int32), bd_X0_removeAllBut_4 Q P  B x1 x2 x3 → P B x1 x2 x3) → P B x1 x2 x3
set_option maxHeartbeats 4000000 in
set_option maxRecDepth 100000 in
theorem kb_X0_removeAllBut_4 {p : Program} {l : Launch} {e : Env} {s : State} {m : MethodId} {below : List Frame} {meth : Method} {c : Code} {args : Array Value} {D : va_G} {t : T3} {A : Nat → Prop} (X : Cx p s m meth c args cX0_removeAllBut 4 (some .int) RX0 wsX0_removeAllBut D t A) (aB : BA) {Q : Int32 → BV → Prop} {P : BV → Int32 → Int32 → Int32 → Prop} (hP : ∀ (B : BV) (x1 : Int32) (x2 : Int32) (x3 : Int32) (H : Heap) (locs : List Loc) (ls : Array Slot), P B x1 x2 x3 → Wd D A s.heap (bW t aB B) H locs → lv_has ls 4 [(0, .ref (BA.o aB)), (1, .int x1), (2, .int x2), (3, .int x3)] → W p l e ({ frames := 1, cells := 0, slots := 0, locals := 21 } : Room) s m args below meth c H locs 0 0 (Ei below args s A D (fun (u : BV) => (bW t aB u)) (fun (r : Int32) (u : BV) => Q r u) 0 0) (F0 m 4 ls [])) : ∀ (B : BV) (x1 : Int32) (x2 : Int32) (x3 : Int32) (H : Heap) (locs : List Loc) (ls : Array Slot), bd_X0_removeAllBut_4 Q P  B x1 x2 x3 → Wd D A s.heap (bW t aB B) H locs → lv_has ls 4 [(0, .ref (BA.o aB)), (1, .int x1), (2, .int x2), (3, .int x3)] → W p l e ({ frames := 1, cells := 0, slots := 0, locals := 21 } : Room) s m args below meth c H locs 0 0 (Ei below args s A D (fun (u : BV) => (bW t aB u)) (fun (r : Int32) (u : BV) => Q r u) 0 0) (F0 m 4 ls []) := by
  intro B x1 x2 x3 H locs ls h hw hl
  have hx := X.1.1
  have hb := X.1.2.1
  refine lv_iload_n hx hb dX0_removeAllBut_4 rfl (lv_at hl 3 rfl) ?_
  refine lv_aload_n hx hb dX0_removeAllBut_5 rfl (lv_at hl 0 rfl) ?_
  refine r_ci X hw [0, 1, 2, 3] [] [0, 1, 2, 3] rfl rfl (by decide) (by decide) (wn := fun (u : BV) => (bW t aB u)) (fun u => rfl) (by decide) (r_runV X hw (c_X0_cells l D t aB B _ h) [0, 1, 2, 3] rfl (by decide) (cwV 0 X.1.2.2.2.2 gX0_removeAllBut_X0_cells rfl rfl rfl (by decide +kernel) ⟨Nat.le_of_ble_eq_true rfl, Nat.le_of_ble_eq_true rfl⟩) (q0 := 0) (ci := 0) rfl rfl rfl rfl hl rfl (by decide) dX0_removeAllBut_6 ⟨Nat.le_of_ble_eq_true rfl, Nat.le_of_ble_eq_true rfl⟩) (fun r_2 u H locs h hw => ?_)
  obtain ⟨B_1, rfl⟩ : ∃ z, z = u := ⟨_, rfl⟩
  refine lv_icmp_ge (tgt := 42) hx hb dX0_removeAllBut_9 (by decide) (fun c_10 => ?_) (fun c_10 => ?_)
  · replace h := h.1 c_10
    refine lv_iload_n hx hb dX0_removeAllBut_42 rfl (lv_at hl 2 rfl) ?_
    exact e_i (w1 := (fun (u : BV) => (bW t aB u))) X (B_1) hw h dX0_removeAllBut_43
  replace h := h.2 c_10
  refine lv_aload_n hx hb dX0_removeAllBut_12 rfl (lv_at hl 0 rfl) ?_
  refine lv_iload_n hx hb dX0_removeAllBut_13 rfl (lv_at hl 3 rfl) ?_
  refine r_ci X hw [0, 1, 2, 3] [] [0, 1, 2, 3] rfl rfl (by decide) (by decide) (wn := fun (u : BV) => (bW t aB u)) (fun u => rfl) (by decide) (r_runV X hw (c_X0_isEmpty l D t aB B_1 x3 _ h) [0, 1, 2, 3] rfl (by decide) (cwV 1 X.1.2.2.2.2 gX0_removeAllBut_X0_isEmpty rfl rfl rfl (by decide +kernel) ⟨Nat.le_of_ble_eq_true rfl, Nat.le_of_ble_eq_true rfl⟩) (q0 := 0) (ci := 0) rfl rfl rfl rfl hl rfl (by decide) dX0_removeAllBut_14 ⟨Nat.le_of_ble_eq_true rfl, Nat.le_of_ble_eq_true rfl⟩) (fun r_4 u H locs h hw => ?_)
  obtain ⟨B_3, rfl⟩ : ∃ z, z = u := ⟨_, rfl⟩
  refine lv_if_ne (tgt := 36) hx hb dX0_removeAllBut_17 (by decide) (fun c_9 => ?_) (fun c_9 => ?_)
  · replace h := h.1 c_9
    exact k_X0_removeAllBut_36 X aB hP _ _ _ _ H locs ls h hw hl
  replace h := h.2 c_9
  refine lv_iload_n hx hb dX0_removeAllBut_20 rfl (lv_at hl 1 rfl) ?_
  refine lv_iload_n hx hb dX0_removeAllBut_21 rfl (lv_at hl 3 rfl) ?_
  refine r_ishr hx hb dX0_removeAllBut_22 ?_
  refine lv_iconst (v := 1) hx hb dX0_removeAllBut_23 (by decide) ?_
  refine lv_iand hx hb dX0_removeAllBut_24 ?_
  refine lv_if_ne (tgt := 36) hx hb dX0_removeAllBut_25 (by decide) (fun c_8 => ?_) (fun c_8 => ?_)
  · replace h := h.1 c_8
    exact k_X0_removeAllBut_36 X aB hP _ _ _ _ H locs ls h hw hl
  replace h := h.2 c_8
  refine lv_aload_n hx hb dX0_removeAllBut_28 rfl (lv_at hl 0 rfl) ?_
  refine lv_iload_n hx hb dX0_removeAllBut_29 rfl (lv_at hl 3 rfl) ?_
  refine r_cv X hw [0, 1, 2, 3] [] [0, 1, 2, 3] rfl rfl (by decide) (by decide) (wn := fun (u : BV) => (bW t aB u)) (fun u => rfl) (by decide) (r_runV X hw (c_X0_remove l D t aB B_3 x3 _ h) [0, 1, 2, 3] rfl (by decide) (cwV 1 X.1.2.2.2.2 gX0_removeAllBut_X0_remove rfl rfl rfl (by decide +kernel) ⟨Nat.le_of_ble_eq_true rfl, Nat.le_of_ble_eq_true rfl⟩) (q0 := 0) (ci := 0) rfl rfl rfl rfl hl rfl (by decide) dX0_removeAllBut_30 ⟨Nat.le_of_ble_eq_true rfl, Nat.le_of_ble_eq_true rfl⟩) (fun u H locs h hw => ?_)
  obtain ⟨B_6, rfl⟩ : ∃ z, z = u := ⟨_, rfl⟩
  obtain ⟨x2_7, ex2_7⟩ : ∃ z : Int32, z = x2 + 1 := ⟨_, rfl⟩
  replace h := h x2_7 ex2_7
  refine lv_iinc (v := x2_7) (lv' := [(2, .int x2_7), (0, .ref (BA.o aB)), (1, .int x1), (3, .int x3)]) hx hb dX0_removeAllBut_33 hl (k := 2) rfl (by rw [ex2_7]; rfl) (by decide) rfl (fun ls hl => ?_)
  exact k_X0_removeAllBut_36 X aB hP _ _ _ _ H locs ls h hw (lv_sub hl [1, 2, 0, 3] rfl)
set_option maxHeartbeats 4000000 in
set_option maxRecDepth 100000 in
theorem k_X0_removeAllBut_4 {p : Program} {l : Launch} {e : Env} {s : State} {m : MethodId} {below : List Frame} {meth : Method} {c : Code} {args : Array Value} {D : va_G} {t : T3} {A : Nat → Prop} (X : Cx p s m meth c args cX0_removeAllBut 4 (some .int) RX0 wsX0_removeAllBut D t A) (aB : BA) {Q : Int32 → BV → Prop}   : ∀ (B : BV) (x1 : Int32) (x2 : Int32) (x3 : Int32) (H : Heap) (locs : List Loc) (ls : Array Slot), wp_X0_removeAllBut_4 Q  B x1 x2 x3 → Wd D A s.heap (bW t aB B) H locs → lv_has ls 4 [(0, .ref (BA.o aB)), (1, .int x1), (2, .int x2), (3, .int x3)] → W p l e ({ frames := 1, cells := 0, slots := 0, locals := 21 } : Room) s m args below meth c H locs 0 0 (Ei below args s A D (fun (u : BV) => (bW t aB u)) (fun (r : Int32) (u : BV) => Q r u) 0 0) (F0 m 4 ls []) := by
  intro B x1 x2 x3 H locs ls h hw hl
  have hx := X.1.1
  have hb := X.1.2.1
  refine h (fun (B : BV) (x1 : Int32) (x2 : Int32) (x3 : Int32) => ∀ (H : Heap) (locs : List Loc) (ls : Array Slot), Wd D A s.heap (bW t aB B) H locs → lv_has ls 4 [(0, .ref (BA.o aB)), (1, .int x1), (2, .int x2), (3, .int x3)] → W p l e ({ frames := 1, cells := 0, slots := 0, locals := 21 } : Room) s m args below meth c H locs 0 0 (Ei below args s A D (fun (u : BV) => (bW t aB u)) (fun (r : Int32) (u : BV) => Q r u) 0 0) (F0 m 4 ls [])) (fun B x1 x2 x3 h H locs ls hw hl => ?_) H locs ls hw hl
  exact kb_X0_removeAllBut_4 X aB (fun B x1 x2 x3 H locs ls q hw hl => q H locs ls hw hl)  B x1 x2 x3 H locs ls h hw hl
def wp_X0_removeAllBut (B : BV) (p1 : Int32) (Q : Int32 → BV → Prop) : Prop := wp_X0_removeAllBut_4 Q  B p1 0 0
set_option maxHeartbeats 4000000 in
set_option maxRecDepth 100000 in
theorem c_X0_removeAllBut (l : Launch) (D : va_G) (t : T3) (aB : BA) (B : BV) (p1 : Int32) (Q : Int32 → BV → Prop) (h : wp_X0_removeAllBut B p1 Q) : Ct l yX0_removeAllBut wsX0_removeAllBut 1 21 0 0 [.ref (BA.o aB), .int p1] D t (bW t aB B) (fun sz => Qi D (bW t aB B) (fun (u : BV) => (bW t aB u)) (fun (r : Int32) (u : BV) => Q r u) sz) := by
  refine Ct.of (Qf := fun _ A => va_Qi (fun (r : Int32) (u : BV) => Q r u) (B1 D (fun (u : BV) => (bW t aB u)) A) A) cX0_removeAllBut 4 (some .int) (by decide) rfl (by decide) ?_
  intro p e s m below meth c A ls hAe hin X hw hl
  generalize ([.ref (BA.o aB), .int p1] : List Value).toArray = args at X ⊢
  have hl : lv_has ls 4 [(0, .ref (BA.o aB)), (1, .int p1)] := hl
  have hx := X.1.1
  have hb := X.1.2.1
  refine lv_iconst (v := 0) hx hb dX0_removeAllBut_0 (by decide) ?_
  refine lv_istore_n (lv' := [(2, .int 0), (0, .ref (BA.o aB)), (1, .int p1)]) hx hb dX0_removeAllBut_1 rfl hl (by decide) rfl (fun ls hl => ?_)
  refine lv_iconst (v := 0) hx hb dX0_removeAllBut_2 (by decide) ?_
  refine lv_istore_n (lv' := [(3, .int 0), (2, .int 0), (0, .ref (BA.o aB)), (1, .int p1)]) hx hb dX0_removeAllBut_3 rfl hl (by decide) rfl (fun ls hl => ?_)
  refine k_X0_removeAllBut_4 X aB  _ _ _ _ H locs ls h hw (lv_sub hl [2, 3, 1, 0] rfl)
