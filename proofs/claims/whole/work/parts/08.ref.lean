/-! X7_thrown -/
theorem in_X7_thrown_X7 : ∀ w ∈ u_ws RX7 TX7 16, w ∈ wsX7_thrown := fun w h => (List.mem_cons_of_mem _ (List.mem_append_right _ h))
theorem fl_X7_thrown_34 : Cond.fieldLink RX7 34 "TwoFacedTilesModel" "thrown" "I" ∈ wsX7_thrown := List.mem_of_getElem? (i := 1) rfl
def wp_X7_thrown (vM : MV) (Q : Int32 → MV → Prop) : Prop := Q (MV.thrown vM) vM
set_option maxHeartbeats 4000000 in
set_option maxRecDepth 100000 in
theorem c_X7_thrown (l : Launch) (D : va_G) (t : T3) (aM : MA) (vM : MV) (Q : Int32 → MV → Prop) (h : wp_X7_thrown vM Q) : Ct l yX7_thrown wsX7_thrown 0 0 0 0 [.ref (MA.o aM)] D t (mW t aM vM) (fun sz => Qi D (mW t aM vM) (fun (u : MV) => (mW t aM u)) (fun (r : Int32) (u : MV) => Q r u) sz) := by
  refine Ct.of (Qf := fun _ A => va_Qi (fun (r : Int32) (u : MV) => Q r u) (B1 D (fun (u : MV) => (mW t aM u)) A) A) cX7_thrown 1 (some .int) (by decide) rfl (Nat.le_of_ble_eq_true rfl) ?_
  intro p e s m below meth c A ls hAe hin X hw hl
  generalize ([.ref (MA.o aM)] : List Value).toArray = args at X ⊢
  have hl : lv_has ls 1 [(0, .ref (MA.o aM))] := hl
  have hx := X.1.1
  have hb := X.1.2.1
  refine lv_aload_n hx hb dX7_thrown_0 rfl (lv_at hl 0 rfl) ?_
  refine r_get (ci := 7) (C := RX7) (T := TX7) (N := 16) X hw 0 rfl rfl 0 (by decide) in_X7_thrown_X7 fl_X7_thrown_34 (v := .int (MV.thrown vM)) rfl dX7_thrown_1 ?_
  exact e_i (w1 := (fun (u : MV) => (mW t aM u))) X (vM) hw h dX7_thrown_4
/-! X7_within -/
def wp_X7_within (p0 : Int32) (p1 : Int32) (p2 : Int32) (Q : Int32 → Prop) : Prop := (p0 < p1 → Q 0 ) ∧ (¬ p0 < p1 → (p2 < p0 → Q 0 ) ∧ (¬ p2 < p0 → Q 1 ))
set_option maxHeartbeats 4000000 in
set_option maxRecDepth 100000 in
theorem c_X7_within (l : Launch) (D : va_G) (t : T3)  (p0 : Int32) (p1 : Int32) (p2 : Int32) (Q : Int32 → Prop) (h : wp_X7_within p0 p1 p2 Q) : Ct l yX7_within wsX7_within 0 0 0 0 [.int p0, .int p1, .int p2] D t ([] : va_W) (fun sz => Qi D ([] : va_W) (fun (u : Unit) => ([] : va_W)) (fun (r : Int32) (u : Unit) => Q r ) sz) := by
  refine Ct.of (Qf := fun _ A => va_Qi (fun (r : Int32) (u : Unit) => Q r ) (B1 D (fun (u : Unit) => ([] : va_W)) A) A) cX7_within 3 (some .boolean) (by decide) rfl (Nat.le_of_ble_eq_true rfl) ?_
  intro p e s m below meth c A ls hAe hin X hw hl
  generalize ([.int p0, .int p1, .int p2] : List Value).toArray = args at X ⊢
  have hl : lv_has ls 3 [(0, .int p0), (1, .int p1), (2, .int p2)] := hl
  have hx := X.1.1
  have hb := X.1.2.1
  refine lv_iload_n hx hb dX7_within_0 rfl (lv_at hl 0 rfl) ?_
  refine lv_iload_n hx hb dX7_within_1 rfl (lv_at hl 1 rfl) ?_
  refine lv_icmp_lt (tgt := 14) hx hb dX7_within_2 (by decide) (fun c_2 => ?_) (fun c_2 => ?_)
  · replace h := h.1 c_2
    refine lv_iconst (v := 0) hx hb dX7_within_14 (by decide) ?_
    exact e_z (w1 := (fun (u : Unit) => ([] : va_W))) X isB_0 () hw h dX7_within_15
  replace h := h.2 c_2
  refine lv_iload_n hx hb dX7_within_5 rfl (lv_at hl 0 rfl) ?_
  refine lv_iload_n hx hb dX7_within_6 rfl (lv_at hl 2 rfl) ?_
  refine lv_icmp_gt (tgt := 14) hx hb dX7_within_7 (by decide) (fun c_1 => ?_) (fun c_1 => ?_)
  · replace h := h.1 c_1
    refine lv_iconst (v := 0) hx hb dX7_within_14 (by decide) ?_
    exact e_z (w1 := (fun (u : Unit) => ([] : va_W))) X isB_0 () hw h dX7_within_15
  replace h := h.2 c_1
  refine lv_iconst (v := 1) hx hb dX7_within_10 (by decide) ?_
  refine lv_goto (tgt := 15) hx hb dX7_within_11 (by decide) ?_
  exact e_z (w1 := (fun (u : Unit) => ([] : va_W))) X isB_1 () hw h dX7_within_15
/-! X7_emptyBoard -/
theorem in_X7_emptyBoard_X7 : ∀ w ∈ u_ws RX7 TX7 16, w ∈ wsX7_emptyBoard := fun w h => (List.mem_cons_of_mem _ (List.mem_append_right _ h))
theorem fl_X7_emptyBoard_7 : Cond.fieldLink RX7 7 "TwoFacedTilesModel" "z" "[I" ∈ wsX7_emptyBoard := List.mem_of_getElem? (i := 1) rfl
def bd_X7_emptyBoard_2 (Q : MV → Prop) (P : MV → Int32 → Prop) (vM : MV) (x1 : Int32) : Prop := (12 ≤ x1 → Q vM) ∧ (¬ 12 ≤ x1 → vp_in (28 + x1) 52 ∧ ∀ z_2 : Nat → Int32, z_2 = upd (MV.z vM) (Int32.toNatClampNeg (28 + x1)) (-1) → vp_in (40 + x1) 52 ∧ ∀ z_4 : Nat → Int32, z_4 = upd z_2 (Int32.toNatClampNeg (40 + x1)) 0 → ∀ x1_5 : Int32, x1_5 = x1 + 1 → P (MV.s_z vM z_4) x1_5)
def wp_X7_emptyBoard_2 (Q : MV → Prop)  (vM : MV) (x1 : Int32) : Prop := ∀ P : MV → Int32 → Prop, (∀ (vM : MV) (x1 : Int32), bd_X7_emptyBoard_2 Q P  vM x1 → P vM x1) → P vM x1
set_option maxHeartbeats 4000000 in
set_option maxRecDepth 100000 in
theorem kb_X7_emptyBoard_2 {p : Program} {l : Launch} {e : Env} {s : State} {m : MethodId} {below : List Frame} {meth : Method} {c : Code} {args : Array Value} {D : va_G} {t : T3} {A : Nat → Prop} (X : Cx p s m meth c args cX7_emptyBoard 2 none RX7 wsX7_emptyBoard D t A) (aM : MA) {Q : MV → Prop} {P : MV → Int32 → Prop} (hP : ∀ (vM : MV) (x1 : Int32) (H : Heap) (locs : List Loc) (ls : Array Slot), P vM x1 → Wd D A s.heap (mW t aM vM) H locs → lv_has ls 2 [(0, .ref (MA.o aM)), (1, .int x1)] → W p l e ({ frames := 0, cells := 0, slots := 0, locals := 0 } : Room) s m args below meth c H locs 0 0 (Ev below args s A D (fun (u : MV) => (mW t aM u)) (fun (u : MV) => Q u) 0 0) (F0 m 2 ls [])) : ∀ (vM : MV) (x1 : Int32) (H : Heap) (locs : List Loc) (ls : Array Slot), bd_X7_emptyBoard_2 Q P  vM x1 → Wd D A s.heap (mW t aM vM) H locs → lv_has ls 2 [(0, .ref (MA.o aM)), (1, .int x1)] → W p l e ({ frames := 0, cells := 0, slots := 0, locals := 0 } : Room) s m args below meth c H locs 0 0 (Ev below args s A D (fun (u : MV) => (mW t aM u)) (fun (u : MV) => Q u) 0 0) (F0 m 2 ls []) := by
  intro vM x1 H locs ls h hw hl
  have hx := X.1.1
  have hb := X.1.2.1
  refine lv_iload_n hx hb dX7_emptyBoard_2 rfl (lv_at hl 1 rfl) ?_
  refine lv_bipush (v := 12) hx hb dX7_emptyBoard_3 (by decide) ?_
  refine lv_icmp_ge (tgt := 34) hx hb dX7_emptyBoard_5 (by decide) (fun c_6 => ?_) (fun c_6 => ?_)
  · replace h := h.1 c_6
    exact e_v (w1 := (fun (u : MV) => (mW t aM u))) X (vM) hw h dX7_emptyBoard_34
  replace h := h.2 c_6
  refine lv_aload_n hx hb dX7_emptyBoard_8 rfl (lv_at hl 0 rfl) ?_
  refine r_get (ci := 7) (C := RX7) (T := TX7) (N := 16) X hw 0 rfl rfl 1 (by decide) in_X7_emptyBoard_X7 fl_X7_emptyBoard_7 (v := .ref (MA.z aM)) rfl dX7_emptyBoard_9 ?_
  refine lv_bipush (v := 28) hx hb dX7_emptyBoard_12 (by decide) ?_
  refine lv_iload_n hx hb dX7_emptyBoard_14 rfl (lv_at hl 1 rfl) ?_
  refine lv_iadd hx hb dX7_emptyBoard_15 ?_
  refine lv_iconst (v := (-1)) hx hb dX7_emptyBoard_16 (by decide) ?_
  obtain ⟨hi_1, h⟩ := h
  obtain ⟨z_2, ez_2⟩ : ∃ z : Nat → Int32, z = upd (MV.z vM) (Int32.toNatClampNeg (28 + x1)) (-1) := ⟨_, rfl⟩
  replace h := h z_2 ez_2
  refine r_iast (ws' := (mW t aM (MV.s_z vM z_2))) X hw 1 rfl hi_1 (by subst ez_2; rfl) dX7_emptyBoard_17 (fun H locs hw => ?_)
  refine lv_aload_n hx hb dX7_emptyBoard_18 rfl (lv_at hl 0 rfl) ?_
  refine r_get (ci := 7) (C := RX7) (T := TX7) (N := 16) X hw 0 rfl rfl 1 (by decide) in_X7_emptyBoard_X7 fl_X7_emptyBoard_7 (v := .ref (MA.z aM)) rfl dX7_emptyBoard_19 ?_
  refine lv_bipush (v := 40) hx hb dX7_emptyBoard_22 (by decide) ?_
  refine lv_iload_n hx hb dX7_emptyBoard_24 rfl (lv_at hl 1 rfl) ?_
  refine lv_iadd hx hb dX7_emptyBoard_25 ?_
  refine lv_iconst (v := 0) hx hb dX7_emptyBoard_26 (by decide) ?_
  obtain ⟨hi_3, h⟩ := h
  obtain ⟨z_4, ez_4⟩ : ∃ z : Nat → Int32, z = upd z_2 (Int32.toNatClampNeg (40 + x1)) 0 := ⟨_, rfl⟩
  replace h := h z_4 ez_4
  refine r_iast (ws' := (mW t aM (MV.s_z vM z_4))) X hw 1 rfl hi_3 (by subst ez_4; rfl) dX7_emptyBoard_27 (fun H locs hw => ?_)
  obtain ⟨x1_5, ex1_5⟩ : ∃ z : Int32, z = x1 + 1 := ⟨_, rfl⟩
  replace h := h x1_5 ex1_5
  refine lv_iinc (v := x1_5) (lv' := [(1, .int x1_5), (0, .ref (MA.o aM))]) hx hb dX7_emptyBoard_28 hl (k := 1) rfl (by rw [ex1_5]; rfl) (by decide) rfl (fun ls hl => ?_)
  refine lv_goto (tgt := 2) hx hb dX7_emptyBoard_31 (by decide) ?_
  exact hP _ _ _ _ _ h hw (lv_sub hl [1, 0] rfl)
set_option maxHeartbeats 4000000 in
set_option maxRecDepth 100000 in
theorem k_X7_emptyBoard_2 {p : Program} {l : Launch} {e : Env} {s : State} {m : MethodId} {below : List Frame} {meth : Method} {c : Code} {args : Array Value} {D : va_G} {t : T3} {A : Nat → Prop} (X : Cx p s m meth c args cX7_emptyBoard 2 none RX7 wsX7_emptyBoard D t A) (aM : MA) {Q : MV → Prop}   : ∀ (vM : MV) (x1 : Int32) (H : Heap) (locs : List Loc) (ls : Array Slot), wp_X7_emptyBoard_2 Q  vM x1 → Wd D A s.heap (mW t aM vM) H locs → lv_has ls 2 [(0, .ref (MA.o aM)), (1, .int x1)] → W p l e ({ frames := 0, cells := 0, slots := 0, locals := 0 } : Room) s m args below meth c H locs 0 0 (Ev below args s A D (fun (u : MV) => (mW t aM u)) (fun (u : MV) => Q u) 0 0) (F0 m 2 ls []) := by
  intro vM x1 H locs ls h hw hl
  have hx := X.1.1
  have hb := X.1.2.1
  refine h (fun (vM : MV) (x1 : Int32) => ∀ (H : Heap) (locs : List Loc) (ls : Array Slot), Wd D A s.heap (mW t aM vM) H locs → lv_has ls 2 [(0, .ref (MA.o aM)), (1, .int x1)] → W p l e ({ frames := 0, cells := 0, slots := 0, locals := 0 } : Room) s m args below meth c H locs 0 0 (Ev below args s A D (fun (u : MV) => (mW t aM u)) (fun (u : MV) => Q u) 0 0) (F0 m 2 ls [])) (fun vM x1 h H locs ls hw hl => ?_) H locs ls hw hl
  exact kb_X7_emptyBoard_2 X aM (fun vM x1 H locs ls q hw hl => q H locs ls hw hl)  vM x1 _ _ _ h hw hl
def wp_X7_emptyBoard (vM : MV) (Q : MV → Prop) : Prop := wp_X7_emptyBoard_2 Q  vM 0
set_option maxHeartbeats 4000000 in
set_option maxRecDepth 100000 in
theorem c_X7_emptyBoard (l : Launch) (D : va_G) (t : T3) (aM : MA) (vM : MV) (Q : MV → Prop) (h : wp_X7_emptyBoard vM Q) : Ct l yX7_emptyBoard wsX7_emptyBoard 0 0 0 0 [.ref (MA.o aM)] D t (mW t aM vM) (fun sz => Qv D (mW t aM vM) (fun (u : MV) => (mW t aM u)) (fun (u : MV) => Q u) sz) := by
  refine Ct.of (Qf := fun _ A => va_Qv (fun (u : MV) => Q u) (B1 D (fun (u : MV) => (mW t aM u)) A) A) cX7_emptyBoard 2 none (by decide) rfl (Nat.le_of_ble_eq_true rfl) ?_
  intro p e s m below meth c A ls hAe hin X hw hl
  generalize ([.ref (MA.o aM)] : List Value).toArray = args at X ⊢
  have hl : lv_has ls 2 [(0, .ref (MA.o aM))] := hl
  have hx := X.1.1
  have hb := X.1.2.1
  refine lv_iconst (v := 0) hx hb dX7_emptyBoard_0 (by decide) ?_
  refine lv_istore_n (lv' := [(1, .int 0), (0, .ref (MA.o aM))]) hx hb dX7_emptyBoard_1 rfl hl (by decide) rfl (fun ls hl => ?_)
  refine k_X7_emptyBoard_2 X aM  _ _ _ _ _ h hw (lv_sub hl [1, 0] rfl)
/-! X7_cells -/
theorem in_X7_cells_X7 : ∀ w ∈ u_ws RX7 TX7 16, w ∈ wsX7_cells := fun w h => (List.mem_cons_of_mem _ (List.mem_append_right _ h))
theorem fl_X7_cells_7 : Cond.fieldLink RX7 7 "TwoFacedTilesModel" "z" "[I" ∈ wsX7_cells := List.mem_of_getElem? (i := 1) rfl
def wp_X7_cells (vM : MV) (Q : Int32 → MV → Prop) : Prop := Q (((MV.z vM) 0) * ((MV.z vM) 1)) vM
set_option maxHeartbeats 4000000 in
set_option maxRecDepth 100000 in
theorem c_X7_cells (l : Launch) (D : va_G) (t : T3) (aM : MA) (vM : MV) (Q : Int32 → MV → Prop) (h : wp_X7_cells vM Q) : Ct l yX7_cells wsX7_cells 0 0 0 0 [.ref (MA.o aM)] D t (mW t aM vM) (fun sz => Qi D (mW t aM vM) (fun (u : MV) => (mW t aM u)) (fun (r : Int32) (u : MV) => Q r u) sz) := by
  refine Ct.of (Qf := fun _ A => va_Qi (fun (r : Int32) (u : MV) => Q r u) (B1 D (fun (u : MV) => (mW t aM u)) A) A) cX7_cells 1 (some .int) (by decide) rfl (Nat.le_of_ble_eq_true rfl) ?_
  intro p e s m below meth c A ls hAe hin X hw hl
  generalize ([.ref (MA.o aM)] : List Value).toArray = args at X ⊢
  have hl : lv_has ls 1 [(0, .ref (MA.o aM))] := hl
  have hx := X.1.1
  have hb := X.1.2.1
  refine lv_aload_n hx hb dX7_cells_0 rfl (lv_at hl 0 rfl) ?_
  refine r_get (ci := 7) (C := RX7) (T := TX7) (N := 16) X hw 0 rfl rfl 1 (by decide) in_X7_cells_X7 fl_X7_cells_7 (v := .ref (MA.z aM)) rfl dX7_cells_1 ?_
  refine lv_iconst (v := 0) hx hb dX7_cells_4 (by decide) ?_
  refine r_iald (v := ((MV.z vM) 0)) X hw 1 rfl (vpl rfl) rfl dX7_cells_5 ?_
  refine lv_aload_n hx hb dX7_cells_6 rfl (lv_at hl 0 rfl) ?_
  refine r_get (ci := 7) (C := RX7) (T := TX7) (N := 16) X hw 0 rfl rfl 1 (by decide) in_X7_cells_X7 fl_X7_cells_7 (v := .ref (MA.z aM)) rfl dX7_cells_7 ?_
  refine lv_iconst (v := 1) hx hb dX7_cells_10 (by decide) ?_
  refine r_iald (v := ((MV.z vM) 1)) X hw 1 rfl (vpl rfl) rfl dX7_cells_11 ?_
  refine lv_imul hx hb dX7_cells_12 ?_
  exact e_i (w1 := (fun (u : MV) => (mW t aM u))) X (vM) hw h dX7_cells_13
/-! X7_isCell -/
def wp_X7_isCell (vM : MV) (p1 : Int32) (Q : Int32 → MV → Prop) : Prop := wp_X7_cells vM  (fun (r_2 : Int32) (vM_1 : MV) => wp_X7_within  p1 0 (r_2 - 1) (fun (r_3 : Int32) => isB r_3 ∧ Q r_3 vM_1))
set_option maxHeartbeats 4000000 in
set_option maxRecDepth 100000 in
theorem c_X7_isCell (l : Launch) (D : va_G) (t : T3) (aM : MA) (vM : MV) (p1 : Int32) (Q : Int32 → MV → Prop) (h : wp_X7_isCell vM p1 Q) : Ct l yX7_isCell wsX7_isCell 1 22 0 0 [.ref (MA.o aM), .int p1] D t (mW t aM vM) (fun sz => Qi D (mW t aM vM) (fun (u : MV) => (mW t aM u)) (fun (r : Int32) (u : MV) => Q r u) sz) := by
  refine Ct.of (Qf := fun _ A => va_Qi (fun (r : Int32) (u : MV) => Q r u) (B1 D (fun (u : MV) => (mW t aM u)) A) A) cX7_isCell 2 (some .boolean) (by decide) rfl (Nat.le_of_ble_eq_true rfl) ?_
  intro p e s m below meth c A ls hAe hin X hw hl
  generalize ([.ref (MA.o aM), .int p1] : List Value).toArray = args at X ⊢
  have hl : lv_has ls 2 [(0, .ref (MA.o aM)), (1, .int p1)] := hl
  have hx := X.1.1
  have hb := X.1.2.1
  refine lv_iload_n hx hb dX7_isCell_0 rfl (lv_at hl 1 rfl) ?_
  refine lv_iconst (v := 0) hx hb dX7_isCell_1 (by decide) ?_
  refine lv_aload_n hx hb dX7_isCell_2 rfl (lv_at hl 0 rfl) ?_
  refine r_ci X hw pm_0 (wn := fun (u : MV) => (mW t aM u)) (fun u => pm_0.symm) (r_runV X hw (c_X7_cells l D t aM vM _ h) pm_0 (cwV 0 X.1.2.2.2.2 gX7_isCell_X7_cells rfl rfl rfl (by decide +kernel) ⟨Nat.le_of_ble_eq_true rfl, Nat.le_of_ble_eq_true rfl⟩) (ci := 7) rfl rfl rfl rfl hl rfl (Nat.le_of_ble_eq_true rfl) dX7_isCell_3 ⟨Nat.le_of_ble_eq_true rfl, Nat.le_of_ble_eq_true rfl⟩) (fun r_2 u H locs h hw => ?_)
  obtain ⟨vM_1, rfl⟩ : ∃ z, z = u := ⟨_, rfl⟩
  refine lv_iconst (v := 1) hx hb dX7_isCell_6 (by decide) ?_
  refine lv_isub hx hb dX7_isCell_7 ?_
  refine r_ci X hw pm_n (wn := fun (u : Unit) => (mW t aM vM_1)) (fun u => (pm_n).symm) (r_runS X hw (c_X7_within l D t p1 0 (r_2 - 1) _ h) pm_n (va_cwS 3 X.1.2.2.2.2 gX7_isCell_X7_within rfl rfl rfl (by decide +kernel) ⟨Nat.le_of_ble_eq_true rfl, Nat.le_of_ble_eq_true rfl⟩) rfl hl rfl (Nat.le_of_ble_eq_true rfl) dX7_isCell_8 ⟨Nat.le_of_ble_eq_true rfl, Nat.le_of_ble_eq_true rfl⟩) (fun r_3 u H locs h hw => ?_)
  exact e_z (w1 := (fun (u : MV) => (mW t aM u))) X h.1 (vM_1) hw h.2 dX7_isCell_11
/-! X7_isTile -/
theorem in_X7_isTile_X7 : ∀ w ∈ u_ws RX7 TX7 16, w ∈ wsX7_isTile := fun w h => (List.mem_cons_of_mem _ (List.mem_append_right _ h))
theorem fl_X7_isTile_7 : Cond.fieldLink RX7 7 "TwoFacedTilesModel" "z" "[I" ∈ wsX7_isTile := List.mem_of_getElem? (i := 1) rfl
def wp_X7_isTile (vM : MV) (p1 : Int32) (Q : Int32 → MV → Prop) : Prop := wp_X7_within  p1 0 (((MV.z vM) 3) - 1) (fun (r_1 : Int32) => isB r_1 ∧ Q r_1 vM)
set_option maxHeartbeats 4000000 in
set_option maxRecDepth 100000 in
theorem c_X7_isTile (l : Launch) (D : va_G) (t : T3) (aM : MA) (vM : MV) (p1 : Int32) (Q : Int32 → MV → Prop) (h : wp_X7_isTile vM p1 Q) : Ct l yX7_isTile wsX7_isTile 1 22 0 0 [.ref (MA.o aM), .int p1] D t (mW t aM vM) (fun sz => Qi D (mW t aM vM) (fun (u : MV) => (mW t aM u)) (fun (r : Int32) (u : MV) => Q r u) sz) := by
  refine Ct.of (Qf := fun _ A => va_Qi (fun (r : Int32) (u : MV) => Q r u) (B1 D (fun (u : MV) => (mW t aM u)) A) A) cX7_isTile 2 (some .boolean) (by decide) rfl (Nat.le_of_ble_eq_true rfl) ?_
  intro p e s m below meth c A ls hAe hin X hw hl
  generalize ([.ref (MA.o aM), .int p1] : List Value).toArray = args at X ⊢
  have hl : lv_has ls 2 [(0, .ref (MA.o aM)), (1, .int p1)] := hl
  have hx := X.1.1
  have hb := X.1.2.1
  refine lv_iload_n hx hb dX7_isTile_0 rfl (lv_at hl 1 rfl) ?_
  refine lv_iconst (v := 0) hx hb dX7_isTile_1 (by decide) ?_
  refine lv_aload_n hx hb dX7_isTile_2 rfl (lv_at hl 0 rfl) ?_
  refine r_get (ci := 7) (C := RX7) (T := TX7) (N := 16) X hw 0 rfl rfl 1 (by decide) in_X7_isTile_X7 fl_X7_isTile_7 (v := .ref (MA.z aM)) rfl dX7_isTile_3 ?_
  refine lv_iconst (v := 3) hx hb dX7_isTile_6 (by decide) ?_
  refine r_iald (v := ((MV.z vM) 3)) X hw 1 rfl (vpl rfl) rfl dX7_isTile_7 ?_
  refine lv_iconst (v := 1) hx hb dX7_isTile_8 (by decide) ?_
  refine lv_isub hx hb dX7_isTile_9 ?_
  refine r_ci X hw pm_n (wn := fun (u : Unit) => (mW t aM vM)) (fun u => (pm_n).symm) (r_runS X hw (c_X7_within l D t p1 0 (((MV.z vM) 3) - 1) _ h) pm_n (va_cwS 3 X.1.2.2.2.2 gX7_isTile_X7_within rfl rfl rfl (by decide +kernel) ⟨Nat.le_of_ble_eq_true rfl, Nat.le_of_ble_eq_true rfl⟩) rfl hl rfl (Nat.le_of_ble_eq_true rfl) dX7_isTile_10 ⟨Nat.le_of_ble_eq_true rfl, Nat.le_of_ble_eq_true rfl⟩) (fun r_1 u H locs h hw => ?_)
  exact e_z (w1 := (fun (u : MV) => (mW t aM u))) X h.1 (vM) hw h.2 dX7_isTile_13
/-! X7_isPlacing -/
def wp_X7_isPlacing (vM : MV) (p1 : Int32) (Q : Int32 → MV → Prop) : Prop := (p1 < 0 → Q 0 vM) ∧ (¬ p1 < 0 → wp_X7_isTile vM (p1 / 8) (fun (r_2 : Int32) (vM_1 : MV) => (r_2 = 0 → Q 0 vM_1) ∧ (¬ r_2 = 0 → Q 1 vM_1)))
set_option maxHeartbeats 4000000 in
set_option maxRecDepth 100000 in
theorem c_X7_isPlacing (l : Launch) (D : va_G) (t : T3) (aM : MA) (vM : MV) (p1 : Int32) (Q : Int32 → MV → Prop) (h : wp_X7_isPlacing vM p1 Q) : Ct l yX7_isPlacing wsX7_isPlacing 2 43 0 0 [.ref (MA.o aM), .int p1] D t (mW t aM vM) (fun sz => Qi D (mW t aM vM) (fun (u : MV) => (mW t aM u)) (fun (r : Int32) (u : MV) => Q r u) sz) := by
  refine Ct.of (Qf := fun _ A => va_Qi (fun (r : Int32) (u : MV) => Q r u) (B1 D (fun (u : MV) => (mW t aM u)) A) A) cX7_isPlacing 2 (some .boolean) (by decide) rfl (Nat.le_of_ble_eq_true rfl) ?_
  intro p e s m below meth c A ls hAe hin X hw hl
  generalize ([.ref (MA.o aM), .int p1] : List Value).toArray = args at X ⊢
  have hl : lv_has ls 2 [(0, .ref (MA.o aM)), (1, .int p1)] := hl
  have hx := X.1.1
  have hb := X.1.2.1
  refine lv_iload_n hx hb dX7_isPlacing_0 rfl (lv_at hl 1 rfl) ?_
  refine lv_if_lt (tgt := 19) hx hb dX7_isPlacing_1 (by decide) (fun c_4 => ?_) (fun c_4 => ?_)
  · replace h := h.1 c_4
    refine lv_iconst (v := 0) hx hb dX7_isPlacing_19 (by decide) ?_
    exact e_z (w1 := (fun (u : MV) => (mW t aM u))) X isB_0 (vM) hw h dX7_isPlacing_20
  replace h := h.2 c_4
  refine lv_aload_n hx hb dX7_isPlacing_4 rfl (lv_at hl 0 rfl) ?_
  refine lv_iload_n hx hb dX7_isPlacing_5 rfl (lv_at hl 1 rfl) ?_
  refine lv_bipush (v := 8) hx hb dX7_isPlacing_6 (by decide) ?_
  refine lv_idiv hx hb dX7_isPlacing_8 (by decide) ?_
  refine r_ci X hw pm_0 (wn := fun (u : MV) => (mW t aM u)) (fun u => pm_0.symm) (r_runV X hw (c_X7_isTile l D t aM vM (p1 / 8) _ h) pm_0 (cwV 1 X.1.2.2.2.2 gX7_isPlacing_X7_isTile rfl rfl rfl (by decide +kernel) ⟨Nat.le_of_ble_eq_true rfl, Nat.le_of_ble_eq_true rfl⟩) (ci := 7) rfl rfl rfl rfl hl rfl (Nat.le_of_ble_eq_true rfl) dX7_isPlacing_9 ⟨Nat.le_of_ble_eq_true rfl, Nat.le_of_ble_eq_true rfl⟩) (fun r_2 u H locs h hw => ?_)
  obtain ⟨vM_1, rfl⟩ : ∃ z, z = u := ⟨_, rfl⟩
  refine lv_if_eq (tgt := 19) hx hb dX7_isPlacing_12 (by decide) (fun c_3 => ?_) (fun c_3 => ?_)
  · replace h := h.1 c_3
    refine lv_iconst (v := 0) hx hb dX7_isPlacing_19 (by decide) ?_
    exact e_z (w1 := (fun (u : MV) => (mW t aM u))) X isB_0 (vM_1) hw h dX7_isPlacing_20
  replace h := h.2 c_3
  refine lv_iconst (v := 1) hx hb dX7_isPlacing_15 (by decide) ?_
  refine lv_goto (tgt := 20) hx hb dX7_isPlacing_16 (by decide) ?_
  exact e_z (w1 := (fun (u : MV) => (mW t aM u))) X isB_1 (vM_1) hw h dX7_isPlacing_20
/-! X7_edge -/
theorem in_X7_edge_X7 : ∀ w ∈ u_ws RX7 TX7 16, w ∈ wsX7_edge := fun w h => (List.mem_cons_of_mem _ (List.mem_append_right _ h))
theorem fl_X7_edge_7 : Cond.fieldLink RX7 7 "TwoFacedTilesModel" "z" "[I" ∈ wsX7_edge := List.mem_of_getElem? (i := 1) rfl
def wp_X7_edge (vM : MV) (p1 : Int32) (p2 : Int32) (p3 : Int32) (Q : Int32 → MV → Prop) : Prop := vp_in ((4 + (2 * p1)) + p2) 52 ∧ ∀ x4_2 : Int32, x4_2 = ((MV.z vM) (Int32.toNatClampNeg ((4 + (2 * p1)) + p2))) → (¬ p3 = 0 → (¬ p3 = 1 → (¬ p3 = 2 → Q (jrem x4_2 10) vM) ∧ (p3 = 2 → Q (jrem (x4_2 / 10) 10) vM)) ∧ (p3 = 1 → Q (jrem (x4_2 / 100) 10) vM)) ∧ (p3 = 0 → Q (x4_2 / 1000) vM)
set_option maxHeartbeats 4000000 in
set_option maxRecDepth 100000 in
theorem c_X7_edge (l : Launch) (D : va_G) (t : T3) (aM : MA) (vM : MV) (p1 : Int32) (p2 : Int32) (p3 : Int32) (Q : Int32 → MV → Prop) (h : wp_X7_edge vM p1 p2 p3 Q) : Ct l yX7_edge wsX7_edge 0 0 0 0 [.ref (MA.o aM), .int p1, .int p2, .int p3] D t (mW t aM vM) (fun sz => Qi D (mW t aM vM) (fun (u : MV) => (mW t aM u)) (fun (r : Int32) (u : MV) => Q r u) sz) := by
  refine Ct.of (Qf := fun _ A => va_Qi (fun (r : Int32) (u : MV) => Q r u) (B1 D (fun (u : MV) => (mW t aM u)) A) A) cX7_edge 5 (some .int) (by decide) rfl (Nat.le_of_ble_eq_true rfl) ?_
  intro p e s m below meth c A ls hAe hin X hw hl
  generalize ([.ref (MA.o aM), .int p1, .int p2, .int p3] : List Value).toArray = args at X ⊢
  have hl : lv_has ls 5 [(0, .ref (MA.o aM)), (1, .int p1), (2, .int p2), (3, .int p3)] := hl
  have hx := X.1.1
  have hb := X.1.2.1
  refine lv_aload_n hx hb dX7_edge_0 rfl (lv_at hl 0 rfl) ?_
  refine r_get (ci := 7) (C := RX7) (T := TX7) (N := 16) X hw 0 rfl rfl 1 (by decide) in_X7_edge_X7 fl_X7_edge_7 (v := .ref (MA.z aM)) rfl dX7_edge_1 ?_
  refine lv_iconst (v := 4) hx hb dX7_edge_4 (by decide) ?_
  refine lv_iconst (v := 2) hx hb dX7_edge_5 (by decide) ?_
  refine lv_iload_n hx hb dX7_edge_6 rfl (lv_at hl 1 rfl) ?_
  refine lv_imul hx hb dX7_edge_7 ?_
  refine lv_iadd hx hb dX7_edge_8 ?_
  refine lv_iload_n hx hb dX7_edge_9 rfl (lv_at hl 2 rfl) ?_
  refine lv_iadd hx hb dX7_edge_10 ?_
  obtain ⟨hi_1, h⟩ := h
  refine r_iald (v := ((MV.z vM) (Int32.toNatClampNeg ((4 + (2 * p1)) + p2)))) X hw 1 rfl hi_1 rfl dX7_edge_11 ?_
  refine lv_topi (fun x4_2 ex4_2 => ?_)
  replace h := h x4_2 ex4_2
  refine lv_istore (lv' := [(4, .int x4_2), (0, .ref (MA.o aM)), (1, .int p1), (2, .int p2), (3, .int p3)]) hx hb dX7_edge_12 hl (by decide) rfl (fun ls hl => ?_)
  refine lv_iload_n hx hb dX7_edge_14 rfl (lv_at hl 4 rfl) ?_
  refine lv_if_ne (tgt := 27) hx hb dX7_edge_15 (by decide) (fun c_5 => ?_) (fun c_5 => ?_)
  · replace h := h.1 c_5
    refine lv_iload_n hx hb dX7_edge_27 rfl (lv_at hl 4 rfl) ?_
    refine lv_iconst (v := 1) hx hb dX7_edge_28 (by decide) ?_
    refine lv_icmp_ne (tgt := 43) hx hb dX7_edge_29 (by decide) (fun c_4 => ?_) (fun c_4 => ?_)
    · replace h := h.1 c_4
      refine lv_iload_n hx hb dX7_edge_43 rfl (lv_at hl 4 rfl) ?_
      refine lv_iconst (v := 2) hx hb dX7_edge_44 (by decide) ?_
      refine lv_icmp_ne (tgt := 59) hx hb dX7_edge_45 (by decide) (fun c_3 => ?_) (fun c_3 => ?_)
      · replace h := h.1 c_3
        refine lv_iload hx hb dX7_edge_59 (lv_at hl 0 rfl) ?_
        refine lv_bipush (v := 10) hx hb dX7_edge_61 (by decide) ?_
        refine r_irem hx hb dX7_edge_63 (by decide) ?_
        exact e_i (w1 := (fun (u : MV) => (mW t aM u))) X (vM) hw h dX7_edge_64
      replace h := h.2 c_3
      refine lv_iload hx hb dX7_edge_48 (lv_at hl 0 rfl) ?_
      refine lv_bipush (v := 10) hx hb dX7_edge_50 (by decide) ?_
      refine lv_idiv hx hb dX7_edge_52 (by decide) ?_
      refine lv_bipush (v := 10) hx hb dX7_edge_53 (by decide) ?_
      refine r_irem hx hb dX7_edge_55 (by decide) ?_
      refine lv_goto (tgt := 64) hx hb dX7_edge_56 (by decide) ?_
      exact e_i (w1 := (fun (u : MV) => (mW t aM u))) X (vM) hw h dX7_edge_64
    replace h := h.2 c_4
    refine lv_iload hx hb dX7_edge_32 (lv_at hl 0 rfl) ?_
    refine lv_bipush (v := 100) hx hb dX7_edge_34 (by decide) ?_
    refine lv_idiv hx hb dX7_edge_36 (by decide) ?_
    refine lv_bipush (v := 10) hx hb dX7_edge_37 (by decide) ?_
    refine r_irem hx hb dX7_edge_39 (by decide) ?_
    refine lv_goto (tgt := 64) hx hb dX7_edge_40 (by decide) ?_
    exact e_i (w1 := (fun (u : MV) => (mW t aM u))) X (vM) hw h dX7_edge_64
  replace h := h.2 c_5
  refine lv_iload hx hb dX7_edge_18 (lv_at hl 0 rfl) ?_
  refine lv_sipush (v := 1000) hx hb dX7_edge_20 (by decide) ?_
  refine lv_idiv hx hb dX7_edge_23 (by decide) ?_
  refine lv_goto (tgt := 64) hx hb dX7_edge_24 (by decide) ?_
  exact e_i (w1 := (fun (u : MV) => (mW t aM u))) X (vM) hw h dX7_edge_64
/-! X7_colorOf -/
def wp_X7_colorOf (vM : MV) (p1 : Int32) (p2 : Int32) (p3 : Int32) (Q : Int32 → MV → Prop) : Prop := ∀ x4_1 : Int32, x4_1 = (jrem (p1 / 4) 2) → ∀ x5_2 : Int32, x5_2 = (jrem p1 4) → (p3 = 0 → wp_X7_edge vM (p1 / 8) x4_1 (jrem ((p2 - x5_2) + 4) 4) (fun (r_4 : Int32) (vM_3 : MV) => Q r_4 vM_3)) ∧ (¬ p3 = 0 → wp_X7_edge vM (p1 / 8) (1 - x4_1) (jrem ((jrem (4 - p2) 4) + x5_2) 4) (fun (r_6 : Int32) (vM_5 : MV) => Q r_6 vM_5))
set_option maxHeartbeats 4000000 in
set_option maxRecDepth 100000 in
theorem c_X7_colorOf (l : Launch) (D : va_G) (t : T3) (aM : MA) (vM : MV) (p1 : Int32) (p2 : Int32) (p3 : Int32) (Q : Int32 → MV → Prop) (h : wp_X7_colorOf vM p1 p2 p3 Q) : Ct l yX7_colorOf wsX7_colorOf 1 24 0 0 [.ref (MA.o aM), .int p1, .int p2, .int p3] D t (mW t aM vM) (fun sz => Qi D (mW t aM vM) (fun (u : MV) => (mW t aM u)) (fun (r : Int32) (u : MV) => Q r u) sz) := by
  refine Ct.of (Qf := fun _ A => va_Qi (fun (r : Int32) (u : MV) => Q r u) (B1 D (fun (u : MV) => (mW t aM u)) A) A) cX7_colorOf 6 (some .int) (by decide) rfl (Nat.le_of_ble_eq_true rfl) ?_
  intro p e s m below meth c A ls hAe hin X hw hl
  generalize ([.ref (MA.o aM), .int p1, .int p2, .int p3] : List Value).toArray = args at X ⊢
  have hl : lv_has ls 6 [(0, .ref (MA.o aM)), (1, .int p1), (2, .int p2), (3, .int p3)] := hl
  have hx := X.1.1
  have hb := X.1.2.1
  refine lv_iload_n hx hb dX7_colorOf_0 rfl (lv_at hl 1 rfl) ?_
  refine lv_iconst (v := 4) hx hb dX7_colorOf_1 (by decide) ?_
  refine lv_idiv hx hb dX7_colorOf_2 (by decide) ?_
  refine lv_iconst (v := 2) hx hb dX7_colorOf_3 (by decide) ?_
  refine r_irem hx hb dX7_colorOf_4 (by decide) ?_
  refine lv_topi (fun x4_1 ex4_1 => ?_)
  replace h := h x4_1 ex4_1
  refine lv_istore (lv' := [(4, .int x4_1), (0, .ref (MA.o aM)), (1, .int p1), (2, .int p2), (3, .int p3)]) hx hb dX7_colorOf_5 hl (by decide) rfl (fun ls hl => ?_)
  refine lv_iload_n hx hb dX7_colorOf_7 rfl (lv_at hl 2 rfl) ?_
  refine lv_iconst (v := 4) hx hb dX7_colorOf_8 (by decide) ?_
  refine r_irem hx hb dX7_colorOf_9 (by decide) ?_
  refine lv_topi (fun x5_2 ex5_2 => ?_)
  replace h := h x5_2 ex5_2
  refine lv_istore (lv' := [(5, .int x5_2), (4, .int x4_1), (0, .ref (MA.o aM)), (1, .int p1), (2, .int p2), (3, .int p3)]) hx hb dX7_colorOf_10 hl (by decide) rfl (fun ls hl => ?_)
  refine lv_iload_n hx hb dX7_colorOf_12 rfl (lv_at hl 5 rfl) ?_
  refine lv_if_eq (tgt := 41) hx hb dX7_colorOf_13 (by decide) (fun c_7 => ?_) (fun c_7 => ?_)
  · replace h := h.1 c_7
    refine lv_aload_n hx hb dX7_colorOf_41 rfl (lv_at hl 2 rfl) ?_
    refine lv_iload_n hx hb dX7_colorOf_42 rfl (lv_at hl 3 rfl) ?_
    refine lv_bipush (v := 8) hx hb dX7_colorOf_43 (by decide) ?_
    refine lv_idiv hx hb dX7_colorOf_45 (by decide) ?_
    refine lv_iload hx hb dX7_colorOf_46 (lv_at hl 1 rfl) ?_
    refine lv_iload_n hx hb dX7_colorOf_48 rfl (lv_at hl 4 rfl) ?_
    refine lv_iload hx hb dX7_colorOf_49 (lv_at hl 0 rfl) ?_
    refine lv_isub hx hb dX7_colorOf_51 ?_
    refine lv_iconst (v := 4) hx hb dX7_colorOf_52 (by decide) ?_
    refine lv_iadd hx hb dX7_colorOf_53 ?_
    refine lv_iconst (v := 4) hx hb dX7_colorOf_54 (by decide) ?_
    refine r_irem hx hb dX7_colorOf_55 (by decide) ?_
    refine r_ci X hw pm_0 (wn := fun (u : MV) => (mW t aM u)) (fun u => pm_0.symm) (r_runV X hw (c_X7_edge l D t aM vM (p1 / 8) x4_1 (jrem ((p2 - x5_2) + 4) 4) _ h) pm_0 (cwV 3 X.1.2.2.2.2 gX7_colorOf_X7_edge rfl rfl rfl (by decide +kernel) ⟨Nat.le_of_ble_eq_true rfl, Nat.le_of_ble_eq_true rfl⟩) (ci := 7) rfl rfl rfl rfl hl rfl (Nat.le_of_ble_eq_true rfl) dX7_colorOf_56 ⟨Nat.le_of_ble_eq_true rfl, Nat.le_of_ble_eq_true rfl⟩) (fun r_4 u H locs h hw => ?_)
    obtain ⟨vM_3, rfl⟩ : ∃ z, z = u := ⟨_, rfl⟩
    exact e_i (w1 := (fun (u : MV) => (mW t aM u))) X (vM_3) hw h dX7_colorOf_59
  replace h := h.2 c_7
  refine lv_aload_n hx hb dX7_colorOf_16 rfl (lv_at hl 2 rfl) ?_
  refine lv_iload_n hx hb dX7_colorOf_17 rfl (lv_at hl 3 rfl) ?_
  refine lv_bipush (v := 8) hx hb dX7_colorOf_18 (by decide) ?_
  refine lv_idiv hx hb dX7_colorOf_20 (by decide) ?_
  refine lv_iconst (v := 1) hx hb dX7_colorOf_21 (by decide) ?_
  refine lv_iload hx hb dX7_colorOf_22 (lv_at hl 1 rfl) ?_
  refine lv_isub hx hb dX7_colorOf_24 ?_
  refine lv_iconst (v := 4) hx hb dX7_colorOf_25 (by decide) ?_
  refine lv_iload_n hx hb dX7_colorOf_26 rfl (lv_at hl 4 rfl) ?_
  refine lv_isub hx hb dX7_colorOf_27 ?_
  refine lv_iconst (v := 4) hx hb dX7_colorOf_28 (by decide) ?_
  refine r_irem hx hb dX7_colorOf_29 (by decide) ?_
  refine lv_iload hx hb dX7_colorOf_30 (lv_at hl 0 rfl) ?_
  refine lv_iadd hx hb dX7_colorOf_32 ?_
  refine lv_iconst (v := 4) hx hb dX7_colorOf_33 (by decide) ?_
  refine r_irem hx hb dX7_colorOf_34 (by decide) ?_
  refine r_ci X hw pm_0 (wn := fun (u : MV) => (mW t aM u)) (fun u => pm_0.symm) (r_runV X hw (c_X7_edge l D t aM vM (p1 / 8) (1 - x4_1) (jrem ((jrem (4 - p2) 4) + x5_2) 4) _ h) pm_0 (cwV 3 X.1.2.2.2.2 gX7_colorOf_X7_edge rfl rfl rfl (by decide +kernel) ⟨Nat.le_of_ble_eq_true rfl, Nat.le_of_ble_eq_true rfl⟩) (ci := 7) rfl rfl rfl rfl hl rfl (Nat.le_of_ble_eq_true rfl) dX7_colorOf_35 ⟨Nat.le_of_ble_eq_true rfl, Nat.le_of_ble_eq_true rfl⟩) (fun r_6 u H locs h hw => ?_)
  obtain ⟨vM_5, rfl⟩ : ∃ z, z = u := ⟨_, rfl⟩
  refine lv_goto (tgt := 59) hx hb dX7_colorOf_38 (by decide) ?_
  exact e_i (w1 := (fun (u : MV) => (mW t aM u))) X (vM_5) hw h dX7_colorOf_59
/-! X7_beyond -/
theorem in_X7_beyond_X7 : ∀ w ∈ u_ws RX7 TX7 16, w ∈ wsX7_beyond := fun w h => (List.mem_cons_of_mem _ (List.mem_append_right _ h))
theorem fl_X7_beyond_7 : Cond.fieldLink RX7 7 "TwoFacedTilesModel" "z" "[I" ∈ wsX7_beyond := List.mem_of_getElem? (i := 1) rfl
def wp_X7_beyond (vM : MV) (p1 : Int32) (p2 : Int32) (Q : Int32 → MV → Prop) : Prop := ¬ ((MV.z vM) 1) = 0 ∧ ∀ x3_2 : Int32, x3_2 = (p1 / ((MV.z vM) 1)) → ¬ ((MV.z vM) 1) = 0 ∧ ∀ x4_4 : Int32, x4_4 = (jrem p1 ((MV.z vM) 1)) → (p2 = 0 → (¬ x3_2 = 0 → Q (p1 - ((MV.z vM) 1)) vM) ∧ (x3_2 = 0 → Q (-1) vM)) ∧ (p2 = 1 → (¬ x4_4 = (((MV.z vM) 1) - 1) → Q (p1 + 1) vM) ∧ (x4_4 = (((MV.z vM) 1) - 1) → Q (-1) vM)) ∧ (p2 = 2 → (¬ x3_2 = (((MV.z vM) 0) - 1) → Q (p1 + ((MV.z vM) 1)) vM) ∧ (x3_2 = (((MV.z vM) 0) - 1) → Q (-1) vM)) ∧ (¬ p2 = 0 → ¬ p2 = 1 → ¬ p2 = 2 → (¬ x4_4 = 0 → Q (p1 - 1) vM) ∧ (x4_4 = 0 → Q (-1) vM))
set_option maxHeartbeats 4000000 in
set_option maxRecDepth 100000 in
theorem c_X7_beyond (l : Launch) (D : va_G) (t : T3) (aM : MA) (vM : MV) (p1 : Int32) (p2 : Int32) (Q : Int32 → MV → Prop) (h : wp_X7_beyond vM p1 p2 Q) : Ct l yX7_beyond wsX7_beyond 0 0 0 0 [.ref (MA.o aM), .int p1, .int p2] D t (mW t aM vM) (fun sz => Qi D (mW t aM vM) (fun (u : MV) => (mW t aM u)) (fun (r : Int32) (u : MV) => Q r u) sz) := by
  refine Ct.of (Qf := fun _ A => va_Qi (fun (r : Int32) (u : MV) => Q r u) (B1 D (fun (u : MV) => (mW t aM u)) A) A) cX7_beyond 5 (some .int) (by decide) rfl (Nat.le_of_ble_eq_true rfl) ?_
  intro p e s m below meth c A ls hAe hin X hw hl
  generalize ([.ref (MA.o aM), .int p1, .int p2] : List Value).toArray = args at X ⊢
  have hl : lv_has ls 5 [(0, .ref (MA.o aM)), (1, .int p1), (2, .int p2)] := hl
  have hx := X.1.1
  have hb := X.1.2.1
  refine lv_iload_n hx hb dX7_beyond_0 rfl (lv_at hl 1 rfl) ?_
  refine lv_aload_n hx hb dX7_beyond_1 rfl (lv_at hl 0 rfl) ?_
  refine r_get (ci := 7) (C := RX7) (T := TX7) (N := 16) X hw 0 rfl rfl 1 (by decide) in_X7_beyond_X7 fl_X7_beyond_7 (v := .ref (MA.z aM)) rfl dX7_beyond_2 ?_
  refine lv_iconst (v := 1) hx hb dX7_beyond_5 (by decide) ?_
  refine r_iald (v := ((MV.z vM) 1)) X hw 1 rfl (vpl rfl) rfl dX7_beyond_6 ?_
  obtain ⟨hn_1, h⟩ := h
  refine lv_idiv hx hb dX7_beyond_7 hn_1 ?_
  refine lv_topi (fun x3_2 ex3_2 => ?_)
  replace h := h x3_2 ex3_2
  refine lv_istore_n (lv' := [(3, .int x3_2), (0, .ref (MA.o aM)), (1, .int p1), (2, .int p2)]) hx hb dX7_beyond_8 rfl hl (by decide) rfl (fun ls hl => ?_)
  refine lv_iload_n hx hb dX7_beyond_9 rfl (lv_at hl 2 rfl) ?_
  refine lv_aload_n hx hb dX7_beyond_10 rfl (lv_at hl 1 rfl) ?_
  refine r_get (ci := 7) (C := RX7) (T := TX7) (N := 16) X hw 0 rfl rfl 1 (by decide) in_X7_beyond_X7 fl_X7_beyond_7 (v := .ref (MA.z aM)) rfl dX7_beyond_11 ?_
  refine lv_iconst (v := 1) hx hb dX7_beyond_14 (by decide) ?_
  refine r_iald (v := ((MV.z vM) 1)) X hw 1 rfl (vpl rfl) rfl dX7_beyond_15 ?_
  obtain ⟨hn_3, h⟩ := h
  refine r_irem hx hb dX7_beyond_16 hn_3 ?_
  refine lv_topi (fun x4_4 ex4_4 => ?_)
  replace h := h x4_4 ex4_4
  refine lv_istore (lv' := [(4, .int x4_4), (3, .int x3_2), (0, .ref (MA.o aM)), (1, .int p1), (2, .int p2)]) hx hb dX7_beyond_17 hl (by decide) rfl (fun ls hl => ?_)
  refine lv_iload_n hx hb dX7_beyond_19 rfl (lv_at hl 4 rfl) ?_
  by_cases c_6 : p2 = 0
  · replace h := h.1 c_6
    refine lv_tableIn (off := 28) (tgt := 48) hx hb dX7_beyond_20 (by rw [c_6]; decide) (by rw [c_6]; decide) (by rw [c_6]; rfl) (by decide) ?_
    refine lv_iload_n hx hb dX7_beyond_48 rfl (lv_at hl 1 rfl) ?_
    refine lv_if_ne (tgt := 56) hx hb dX7_beyond_49 (by decide) (fun c_5 => ?_) (fun c_5 => ?_)
    · replace h := h.1 c_5
      refine lv_iload_n hx hb dX7_beyond_56 rfl (lv_at hl 3 rfl) ?_
      refine lv_aload_n hx hb dX7_beyond_57 rfl (lv_at hl 2 rfl) ?_
      refine r_get (ci := 7) (C := RX7) (T := TX7) (N := 16) X hw 0 rfl rfl 1 (by decide) in_X7_beyond_X7 fl_X7_beyond_7 (v := .ref (MA.z aM)) rfl dX7_beyond_58 ?_
      refine lv_iconst (v := 1) hx hb dX7_beyond_61 (by decide) ?_
      refine r_iald (v := ((MV.z vM) 1)) X hw 1 rfl (vpl rfl) rfl dX7_beyond_62 ?_
      refine lv_isub hx hb dX7_beyond_63 ?_
      exact e_i (w1 := (fun (u : MV) => (mW t aM u))) X (vM) hw h dX7_beyond_64
    replace h := h.2 c_5
    refine lv_iconst (v := (-1)) hx hb dX7_beyond_52 (by decide) ?_
    refine lv_goto (tgt := 64) hx hb dX7_beyond_53 (by decide) ?_
    exact e_i (w1 := (fun (u : MV) => (mW t aM u))) X (vM) hw h dX7_beyond_64
  by_cases c_8 : p2 = 1
  · replace h := h.2.1 c_8
    refine lv_tableIn (off := 45) (tgt := 65) hx hb dX7_beyond_20 (by rw [c_8]; decide) (by rw [c_8]; decide) (by rw [c_8]; rfl) (by decide) ?_
    refine lv_iload hx hb dX7_beyond_65 (lv_at hl 0 rfl) ?_
    refine lv_aload_n hx hb dX7_beyond_67 rfl (lv_at hl 2 rfl) ?_
    refine r_get (ci := 7) (C := RX7) (T := TX7) (N := 16) X hw 0 rfl rfl 1 (by decide) in_X7_beyond_X7 fl_X7_beyond_7 (v := .ref (MA.z aM)) rfl dX7_beyond_68 ?_
    refine lv_iconst (v := 1) hx hb dX7_beyond_71 (by decide) ?_
    refine r_iald (v := ((MV.z vM) 1)) X hw 1 rfl (vpl rfl) rfl dX7_beyond_72 ?_
    refine lv_iconst (v := 1) hx hb dX7_beyond_73 (by decide) ?_
    refine lv_isub hx hb dX7_beyond_74 ?_
    refine lv_icmp_ne (tgt := 82) hx hb dX7_beyond_75 (by decide) (fun c_7 => ?_) (fun c_7 => ?_)
    · replace h := h.1 c_7
      refine lv_iload_n hx hb dX7_beyond_82 rfl (lv_at hl 3 rfl) ?_
      refine lv_iconst (v := 1) hx hb dX7_beyond_83 (by decide) ?_
      refine lv_iadd hx hb dX7_beyond_84 ?_
      exact e_i (w1 := (fun (u : MV) => (mW t aM u))) X (vM) hw h dX7_beyond_85
    replace h := h.2 c_7
    refine lv_iconst (v := (-1)) hx hb dX7_beyond_78 (by decide) ?_
    refine lv_goto (tgt := 85) hx hb dX7_beyond_79 (by decide) ?_
    exact e_i (w1 := (fun (u : MV) => (mW t aM u))) X (vM) hw h dX7_beyond_85
  by_cases c_10 : p2 = 2
  · replace h := h.2.2.1 c_10
    refine lv_tableIn (off := 66) (tgt := 86) hx hb dX7_beyond_20 (by rw [c_10]; decide) (by rw [c_10]; decide) (by rw [c_10]; rfl) (by decide) ?_
    refine lv_iload_n hx hb dX7_beyond_86 rfl (lv_at hl 1 rfl) ?_
    refine lv_aload_n hx hb dX7_beyond_87 rfl (lv_at hl 2 rfl) ?_
    refine r_get (ci := 7) (C := RX7) (T := TX7) (N := 16) X hw 0 rfl rfl 1 (by decide) in_X7_beyond_X7 fl_X7_beyond_7 (v := .ref (MA.z aM)) rfl dX7_beyond_88 ?_
    refine lv_iconst (v := 0) hx hb dX7_beyond_91 (by decide) ?_
    refine r_iald (v := ((MV.z vM) 0)) X hw 1 rfl (vpl rfl) rfl dX7_beyond_92 ?_
    refine lv_iconst (v := 1) hx hb dX7_beyond_93 (by decide) ?_
    refine lv_isub hx hb dX7_beyond_94 ?_
    refine lv_icmp_ne (tgt := 102) hx hb dX7_beyond_95 (by decide) (fun c_9 => ?_) (fun c_9 => ?_)
    · replace h := h.1 c_9
      refine lv_iload_n hx hb dX7_beyond_102 rfl (lv_at hl 3 rfl) ?_
      refine lv_aload_n hx hb dX7_beyond_103 rfl (lv_at hl 2 rfl) ?_
      refine r_get (ci := 7) (C := RX7) (T := TX7) (N := 16) X hw 0 rfl rfl 1 (by decide) in_X7_beyond_X7 fl_X7_beyond_7 (v := .ref (MA.z aM)) rfl dX7_beyond_104 ?_
      refine lv_iconst (v := 1) hx hb dX7_beyond_107 (by decide) ?_
      refine r_iald (v := ((MV.z vM) 1)) X hw 1 rfl (vpl rfl) rfl dX7_beyond_108 ?_
      refine lv_iadd hx hb dX7_beyond_109 ?_
      exact e_i (w1 := (fun (u : MV) => (mW t aM u))) X (vM) hw h dX7_beyond_110
    replace h := h.2 c_9
    refine lv_iconst (v := (-1)) hx hb dX7_beyond_98 (by decide) ?_
    refine lv_goto (tgt := 110) hx hb dX7_beyond_99 (by decide) ?_
    exact e_i (w1 := (fun (u : MV) => (mW t aM u))) X (vM) hw h dX7_beyond_110
  replace h := h.2.2.2 c_6 c_8 c_10
  refine lv_tableOut (tgt := 111) hx hb dX7_beyond_20 (tab_outL 2 (fun k hk => match k, hk with | 0, _ => c_6 | 1, _ => c_8 | 2, _ => c_10 | (z + 3), hk => absurd hk (by omega))) (by decide) ?_
  refine lv_iload hx hb dX7_beyond_111 (lv_at hl 0 rfl) ?_
  refine lv_if_ne (tgt := 120) hx hb dX7_beyond_113 (by decide) (fun c_11 => ?_) (fun c_11 => ?_)
  · replace h := h.1 c_11
    refine lv_iload_n hx hb dX7_beyond_120 rfl (lv_at hl 3 rfl) ?_
    refine lv_iconst (v := 1) hx hb dX7_beyond_121 (by decide) ?_
    refine lv_isub hx hb dX7_beyond_122 ?_
    exact e_i (w1 := (fun (u : MV) => (mW t aM u))) X (vM) hw h dX7_beyond_123
  replace h := h.2 c_11
  refine lv_iconst (v := (-1)) hx hb dX7_beyond_116 (by decide) ?_
  refine lv_goto (tgt := 123) hx hb dX7_beyond_117 (by decide) ?_
  exact e_i (w1 := (fun (u : MV) => (mW t aM u))) X (vM) hw h dX7_beyond_123
/-! X7_shown -/
theorem in_X7_shown_X7 : ∀ w ∈ u_ws RX7 TX7 16, w ∈ wsX7_shown := fun w h => (List.mem_cons_of_mem _ (List.mem_append_right _ h))
theorem fl_X7_shown_7 : Cond.fieldLink RX7 7 "TwoFacedTilesModel" "z" "[I" ∈ wsX7_shown := List.mem_of_getElem? (i := 1) rfl
def wp_X7_shown (vM : MV) (p1 : Int32) (p2 : Int32) (p3 : Int32) (Q : Int32 → MV → Prop) : Prop := wp_X7_beyond vM p1 p2 (fun (r_2 : Int32) (vM_1 : MV) => (r_2 = (-1) → Q (-1) vM_1) ∧ (¬ r_2 = (-1) → vp_in (28 + r_2) 52 ∧ (¬ ((MV.z vM_1) (Int32.toNatClampNeg (28 + r_2))) = (-1) → vp_in (28 + r_2) 52 ∧ wp_X7_colorOf vM_1 ((MV.z vM_1) (Int32.toNatClampNeg (28 + r_2))) (jrem (p2 + 2) 4) p3 (fun (r_6 : Int32) (vM_5 : MV) => Q r_6 vM_5)) ∧ (((MV.z vM_1) (Int32.toNatClampNeg (28 + r_2))) = (-1) → Q (-1) vM_1)))
set_option maxHeartbeats 4000000 in
set_option maxRecDepth 100000 in
theorem c_X7_shown (l : Launch) (D : va_G) (t : T3) (aM : MA) (vM : MV) (p1 : Int32) (p2 : Int32) (p3 : Int32) (Q : Int32 → MV → Prop) (h : wp_X7_shown vM p1 p2 p3 Q) : Ct l yX7_shown wsX7_shown 2 49 0 0 [.ref (MA.o aM), .int p1, .int p2, .int p3] D t (mW t aM vM) (fun sz => Qi D (mW t aM vM) (fun (u : MV) => (mW t aM u)) (fun (r : Int32) (u : MV) => Q r u) sz) := by
  refine Ct.of (Qf := fun _ A => va_Qi (fun (r : Int32) (u : MV) => Q r u) (B1 D (fun (u : MV) => (mW t aM u)) A) A) cX7_shown 5 (some .int) (by decide) rfl (Nat.le_of_ble_eq_true rfl) ?_
  intro p e s m below meth c A ls hAe hin X hw hl
  generalize ([.ref (MA.o aM), .int p1, .int p2, .int p3] : List Value).toArray = args at X ⊢
  have hl : lv_has ls 5 [(0, .ref (MA.o aM)), (1, .int p1), (2, .int p2), (3, .int p3)] := hl
  have hx := X.1.1
  have hb := X.1.2.1
  refine lv_aload_n hx hb dX7_shown_0 rfl (lv_at hl 0 rfl) ?_
  refine lv_iload_n hx hb dX7_shown_1 rfl (lv_at hl 1 rfl) ?_
  refine lv_iload_n hx hb dX7_shown_2 rfl (lv_at hl 2 rfl) ?_
  refine r_ci X hw pm_0 (wn := fun (u : MV) => (mW t aM u)) (fun u => pm_0.symm) (r_runV X hw (c_X7_beyond l D t aM vM p1 p2 _ h) pm_0 (cwV 2 X.1.2.2.2.2 gX7_shown_X7_beyond rfl rfl rfl (by decide +kernel) ⟨Nat.le_of_ble_eq_true rfl, Nat.le_of_ble_eq_true rfl⟩) (ci := 7) rfl rfl rfl rfl hl rfl (Nat.le_of_ble_eq_true rfl) dX7_shown_3 ⟨Nat.le_of_ble_eq_true rfl, Nat.le_of_ble_eq_true rfl⟩) (fun r_2 u H locs h hw => ?_)
  obtain ⟨vM_1, rfl⟩ : ∃ z, z = u := ⟨_, rfl⟩
  refine lv_istore (lv' := [(4, .int r_2), (0, .ref (MA.o aM)), (1, .int p1), (2, .int p2), (3, .int p3)]) hx hb dX7_shown_6 hl (by decide) rfl (fun ls hl => ?_)
  refine lv_iload hx hb dX7_shown_8 (lv_at hl 0 rfl) ?_
  refine lv_iconst (v := (-1)) hx hb dX7_shown_10 (by decide) ?_
  refine lv_icmp_eq (tgt := 28) hx hb dX7_shown_11 (by decide) (fun c_8 => ?_) (fun c_8 => ?_)
  · replace h := h.1 c_8
    refine lv_iconst (v := (-1)) hx hb dX7_shown_28 (by decide) ?_
    refine lv_goto (tgt := 52) hx hb dX7_shown_29 (by decide) ?_
    exact e_i (w1 := (fun (u : MV) => (mW t aM u))) X (vM_1) hw h dX7_shown_52
  replace h := h.2 c_8
  refine lv_aload_n hx hb dX7_shown_14 rfl (lv_at hl 1 rfl) ?_
  refine r_get (ci := 7) (C := RX7) (T := TX7) (N := 16) X hw 0 rfl rfl 1 (by decide) in_X7_shown_X7 fl_X7_shown_7 (v := .ref (MA.z aM)) rfl dX7_shown_15 ?_
  refine lv_bipush (v := 28) hx hb dX7_shown_18 (by decide) ?_
  refine lv_iload hx hb dX7_shown_20 (lv_at hl 0 rfl) ?_
  refine lv_iadd hx hb dX7_shown_22 ?_
  obtain ⟨hi_3, h⟩ := h
  refine r_iald (v := ((MV.z vM_1) (Int32.toNatClampNeg (28 + r_2)))) X hw 1 rfl hi_3 rfl dX7_shown_23 ?_
  refine lv_iconst (v := (-1)) hx hb dX7_shown_24 (by decide) ?_
  refine lv_icmp_ne (tgt := 32) hx hb dX7_shown_25 (by decide) (fun c_7 => ?_) (fun c_7 => ?_)
  · replace h := h.1 c_7
    refine lv_aload_n hx hb dX7_shown_32 rfl (lv_at hl 1 rfl) ?_
    refine lv_aload_n hx hb dX7_shown_33 rfl (lv_at hl 1 rfl) ?_
    refine r_get (ci := 7) (C := RX7) (T := TX7) (N := 16) X hw 0 rfl rfl 1 (by decide) in_X7_shown_X7 fl_X7_shown_7 (v := .ref (MA.z aM)) rfl dX7_shown_34 ?_
    refine lv_bipush (v := 28) hx hb dX7_shown_37 (by decide) ?_
    refine lv_iload hx hb dX7_shown_39 (lv_at hl 0 rfl) ?_
    refine lv_iadd hx hb dX7_shown_41 ?_
    obtain ⟨hi_4, h⟩ := h
    refine r_iald (v := ((MV.z vM_1) (Int32.toNatClampNeg (28 + r_2)))) X hw 1 rfl hi_4 rfl dX7_shown_42 ?_
    refine lv_iload_n hx hb dX7_shown_43 rfl (lv_at hl 3 rfl) ?_
    refine lv_iconst (v := 2) hx hb dX7_shown_44 (by decide) ?_
    refine lv_iadd hx hb dX7_shown_45 ?_
    refine lv_iconst (v := 4) hx hb dX7_shown_46 (by decide) ?_
    refine r_irem hx hb dX7_shown_47 (by decide) ?_
    refine lv_iload_n hx hb dX7_shown_48 rfl (lv_at hl 4 rfl) ?_
    refine r_ci X hw pm_0 (wn := fun (u : MV) => (mW t aM u)) (fun u => pm_0.symm) (r_runV X hw (c_X7_colorOf l D t aM vM_1 ((MV.z vM_1) (Int32.toNatClampNeg (28 + r_2))) (jrem (p2 + 2) 4) p3 _ h) pm_0 (cwV 3 X.1.2.2.2.2 gX7_shown_X7_colorOf rfl rfl rfl (by decide +kernel) ⟨Nat.le_of_ble_eq_true rfl, Nat.le_of_ble_eq_true rfl⟩) (ci := 7) rfl rfl rfl rfl hl rfl (Nat.le_of_ble_eq_true rfl) dX7_shown_49 ⟨Nat.le_of_ble_eq_true rfl, Nat.le_of_ble_eq_true rfl⟩) (fun r_6 u H locs h hw => ?_)
    obtain ⟨vM_5, rfl⟩ : ∃ z, z = u := ⟨_, rfl⟩
    exact e_i (w1 := (fun (u : MV) => (mW t aM u))) X (vM_5) hw h dX7_shown_52
  replace h := h.2 c_7
  refine lv_iconst (v := (-1)) hx hb dX7_shown_28 (by decide) ?_
  refine lv_goto (tgt := 52) hx hb dX7_shown_29 (by decide) ?_
  exact e_i (w1 := (fun (u : MV) => (mW t aM u))) X (vM_1) hw h dX7_shown_52
/-! X7_isBadRim -/
theorem in_X7_isBadRim_X7 : ∀ w ∈ u_ws RX7 TX7 16, w ∈ wsX7_isBadRim := fun w h => (List.mem_cons_of_mem _ (List.mem_append_right _ h))
theorem fl_X7_isBadRim_7 : Cond.fieldLink RX7 7 "TwoFacedTilesModel" "z" "[I" ∈ wsX7_isBadRim := List.mem_of_getElem? (i := 1) rfl
def wp_X7_isBadRim_35 (Q : Int32 → MV → Prop) (vM : MV) (x1 : Int32) (x3 : Int32) (t0 : Int32) : Prop := (((MV.z vM) 2) ≤ 0 → Q 0 vM) ∧ (¬ ((MV.z vM) 2) ≤ 0 → wp_X7_beyond vM x1 x3 (fun (r_4 : Int32) (vM_3 : MV) => (¬ r_4 = (-1) → Q 0 vM_3) ∧ (r_4 = (-1) → (t0 = 0 → Q 0 vM_3) ∧ (¬ t0 = 0 → Q 1 vM_3))))
set_option maxHeartbeats 4000000 in
set_option maxRecDepth 100000 in
theorem k_X7_isBadRim_35 {p : Program} {l : Launch} {e : Env} {s : State} {m : MethodId} {below : List Frame} {meth : Method} {c : Code} {args : Array Value} {D : va_G} {t : T3} {A : Nat → Prop} (X : Cx p s m meth c args cX7_isBadRim 5 (some .boolean) RX7 wsX7_isBadRim D t A) (aM : MA) {Q : Int32 → MV → Prop}  : ∀ (vM : MV) (x1 : Int32) (x3 : Int32) (t0 : Int32) (H : Heap) (locs : List Loc) (ls : Array Slot), wp_X7_isBadRim_35 Q vM x1 x3 t0 → Wd D A s.heap (mW t aM vM) H locs → lv_has ls 5 [(0, .ref (MA.o aM)), (1, .int x1), (3, .int x3)] → W p l e ({ frames := 2, cells := 0, slots := 0, locals := 49 } : Room) s m args below meth c H locs 0 0 (Ei below args s A D (fun (u : MV) => (mW t aM u)) (fun (r : Int32) (u : MV) => Q r u) 0 0) (F0 m 35 ls [.int t0]) := by
  intro vM x1 x3 t0 H locs ls h hw hl
  have hx := X.1.1
  have hb := X.1.2.1
  refine lv_istore (lv' := [(4, .int t0), (0, .ref (MA.o aM)), (1, .int x1), (3, .int x3)]) hx hb dX7_isBadRim_35 hl (by decide) rfl (fun ls hl => ?_)
  refine lv_aload_n hx hb dX7_isBadRim_37 rfl (lv_at hl 1 rfl) ?_
  refine r_get (ci := 7) (C := RX7) (T := TX7) (N := 16) X hw 0 rfl rfl 1 (by decide) in_X7_isBadRim_X7 fl_X7_isBadRim_7 (v := .ref (MA.z aM)) rfl dX7_isBadRim_38 ?_
  refine lv_iconst (v := 2) hx hb dX7_isBadRim_41 (by decide) ?_
  refine r_iald (v := ((MV.z vM) 2)) X hw 1 rfl (vpl rfl) rfl dX7_isBadRim_42 ?_
  refine lv_if_le (tgt := 65) hx hb dX7_isBadRim_43 (by decide) (fun c_7 => ?_) (fun c_7 => ?_)
  · replace h := h.1 c_7
    refine lv_iconst (v := 0) hx hb dX7_isBadRim_65 (by decide) ?_
    exact e_z (w1 := (fun (u : MV) => (mW t aM u))) X isB_0 (vM) hw h dX7_isBadRim_66
  replace h := h.2 c_7
  refine lv_aload_n hx hb dX7_isBadRim_46 rfl (lv_at hl 1 rfl) ?_
  refine lv_iload_n hx hb dX7_isBadRim_47 rfl (lv_at hl 2 rfl) ?_
  refine lv_iload_n hx hb dX7_isBadRim_48 rfl (lv_at hl 3 rfl) ?_
  refine r_ci X hw pm_0 (wn := fun (u : MV) => (mW t aM u)) (fun u => pm_0.symm) (r_runV X hw (c_X7_beyond l D t aM vM x1 x3 _ h) pm_0 (cwV 2 X.1.2.2.2.2 gX7_isBadRim_X7_beyond rfl rfl rfl (by decide +kernel) ⟨Nat.le_of_ble_eq_true rfl, Nat.le_of_ble_eq_true rfl⟩) (ci := 7) rfl rfl rfl rfl hl rfl (Nat.le_of_ble_eq_true rfl) dX7_isBadRim_49 ⟨Nat.le_of_ble_eq_true rfl, Nat.le_of_ble_eq_true rfl⟩) (fun r_4 u H locs h hw => ?_)
  obtain ⟨vM_3, rfl⟩ : ∃ z, z = u := ⟨_, rfl⟩
  refine lv_iconst (v := (-1)) hx hb dX7_isBadRim_52 (by decide) ?_
  refine lv_icmp_ne (tgt := 65) hx hb dX7_isBadRim_53 (by decide) (fun c_6 => ?_) (fun c_6 => ?_)
  · replace h := h.1 c_6
    refine lv_iconst (v := 0) hx hb dX7_isBadRim_65 (by decide) ?_
    exact e_z (w1 := (fun (u : MV) => (mW t aM u))) X isB_0 (vM_3) hw h dX7_isBadRim_66
  replace h := h.2 c_6
  refine lv_iload hx hb dX7_isBadRim_56 (lv_at hl 0 rfl) ?_
  refine lv_if_eq (tgt := 65) hx hb dX7_isBadRim_58 (by decide) (fun c_5 => ?_) (fun c_5 => ?_)
  · replace h := h.1 c_5
    refine lv_iconst (v := 0) hx hb dX7_isBadRim_65 (by decide) ?_
    exact e_z (w1 := (fun (u : MV) => (mW t aM u))) X isB_0 (vM_3) hw h dX7_isBadRim_66
  replace h := h.2 c_5
  refine lv_iconst (v := 1) hx hb dX7_isBadRim_61 (by decide) ?_
  refine lv_goto (tgt := 66) hx hb dX7_isBadRim_62 (by decide) ?_
  exact e_z (w1 := (fun (u : MV) => (mW t aM u))) X isB_1 (vM_3) hw h dX7_isBadRim_66
def wp_X7_isBadRim_30 (Q : Int32 → MV → Prop) (vM : MV) (x1 : Int32) (x3 : Int32) : Prop := wp_X7_isBadRim_35  Q vM x1 x3 1
set_option maxHeartbeats 4000000 in
set_option maxRecDepth 100000 in
theorem k_X7_isBadRim_30 {p : Program} {l : Launch} {e : Env} {s : State} {m : MethodId} {below : List Frame} {meth : Method} {c : Code} {args : Array Value} {D : va_G} {t : T3} {A : Nat → Prop} (X : Cx p s m meth c args cX7_isBadRim 5 (some .boolean) RX7 wsX7_isBadRim D t A) (aM : MA) {Q : Int32 → MV → Prop}  : ∀ (vM : MV) (x1 : Int32) (x3 : Int32) (H : Heap) (locs : List Loc) (ls : Array Slot), wp_X7_isBadRim_30 Q vM x1 x3 → Wd D A s.heap (mW t aM vM) H locs → lv_has ls 5 [(0, .ref (MA.o aM)), (1, .int x1), (3, .int x3)] → W p l e ({ frames := 2, cells := 0, slots := 0, locals := 49 } : Room) s m args below meth c H locs 0 0 (Ei below args s A D (fun (u : MV) => (mW t aM u)) (fun (r : Int32) (u : MV) => Q r u) 0 0) (F0 m 30 ls []) := by
  intro vM x1 x3 H locs ls h hw hl
  have hx := X.1.1
  have hb := X.1.2.1
  refine lv_iconst (v := 1) hx hb dX7_isBadRim_30 (by decide) ?_
  refine lv_goto (tgt := 35) hx hb dX7_isBadRim_31 (by decide) ?_
  exact k_X7_isBadRim_35 X aM _ _ _ _ _ _ _ h hw hl
def wp_X7_isBadRim_34 (Q : Int32 → MV → Prop) (vM : MV) (x1 : Int32) (x3 : Int32) : Prop := wp_X7_isBadRim_35  Q vM x1 x3 0
set_option maxHeartbeats 4000000 in
set_option maxRecDepth 100000 in
theorem k_X7_isBadRim_34 {p : Program} {l : Launch} {e : Env} {s : State} {m : MethodId} {below : List Frame} {meth : Method} {c : Code} {args : Array Value} {D : va_G} {t : T3} {A : Nat → Prop} (X : Cx p s m meth c args cX7_isBadRim 5 (some .boolean) RX7 wsX7_isBadRim D t A) (aM : MA) {Q : Int32 → MV → Prop}  : ∀ (vM : MV) (x1 : Int32) (x3 : Int32) (H : Heap) (locs : List Loc) (ls : Array Slot), wp_X7_isBadRim_34 Q vM x1 x3 → Wd D A s.heap (mW t aM vM) H locs → lv_has ls 5 [(0, .ref (MA.o aM)), (1, .int x1), (3, .int x3)] → W p l e ({ frames := 2, cells := 0, slots := 0, locals := 49 } : Room) s m args below meth c H locs 0 0 (Ei below args s A D (fun (u : MV) => (mW t aM u)) (fun (r : Int32) (u : MV) => Q r u) 0 0) (F0 m 34 ls []) := by
  intro vM x1 x3 H locs ls h hw hl
  have hx := X.1.1
  have hb := X.1.2.1
  refine lv_iconst (v := 0) hx hb dX7_isBadRim_34 (by decide) ?_
  exact k_X7_isBadRim_35 X aM _ _ _ _ _ _ _ h hw hl
def wp_X7_isBadRim (vM : MV) (p1 : Int32) (p2 : Int32) (p3 : Int32) (Q : Int32 → MV → Prop) : Prop := wp_X7_colorOf vM p2 p3 0 (fun (r_2 : Int32) (vM_1 : MV) => (¬ r_2 = 0 → wp_X7_isBadRim_30  Q vM_1 p1 p3) ∧ (r_2 = 0 → (¬ ((MV.z vM_1) 2) = 2 → wp_X7_isBadRim_34  Q vM_1 p1 p3) ∧ (((MV.z vM_1) 2) = 2 → wp_X7_colorOf vM_1 p2 p3 1 (fun (r_9 : Int32) (vM_8 : MV) => (r_9 = 0 → wp_X7_isBadRim_34  Q vM_8 p1 p3) ∧ (¬ r_9 = 0 → wp_X7_isBadRim_30  Q vM_8 p1 p3)))))
set_option maxHeartbeats 4000000 in
set_option maxRecDepth 100000 in
theorem c_X7_isBadRim (l : Launch) (D : va_G) (t : T3) (aM : MA) (vM : MV) (p1 : Int32) (p2 : Int32) (p3 : Int32) (Q : Int32 → MV → Prop) (h : wp_X7_isBadRim vM p1 p2 p3 Q) : Ct l yX7_isBadRim wsX7_isBadRim 2 49 0 0 [.ref (MA.o aM), .int p1, .int p2, .int p3] D t (mW t aM vM) (fun sz => Qi D (mW t aM vM) (fun (u : MV) => (mW t aM u)) (fun (r : Int32) (u : MV) => Q r u) sz) := by
  refine Ct.of (Qf := fun _ A => va_Qi (fun (r : Int32) (u : MV) => Q r u) (B1 D (fun (u : MV) => (mW t aM u)) A) A) cX7_isBadRim 5 (some .boolean) (by decide) rfl (Nat.le_of_ble_eq_true rfl) ?_
  intro p e s m below meth c A ls hAe hin X hw hl
  generalize ([.ref (MA.o aM), .int p1, .int p2, .int p3] : List Value).toArray = args at X ⊢
  have hl : lv_has ls 5 [(0, .ref (MA.o aM)), (1, .int p1), (2, .int p2), (3, .int p3)] := hl
  have hx := X.1.1
  have hb := X.1.2.1
  refine lv_aload_n hx hb dX7_isBadRim_0 rfl (lv_at hl 0 rfl) ?_
  refine lv_iload_n hx hb dX7_isBadRim_1 rfl (lv_at hl 2 rfl) ?_
  refine lv_iload_n hx hb dX7_isBadRim_2 rfl (lv_at hl 3 rfl) ?_
  refine lv_iconst (v := 0) hx hb dX7_isBadRim_3 (by decide) ?_
  refine r_ci X hw pm_0 (wn := fun (u : MV) => (mW t aM u)) (fun u => pm_0.symm) (r_runV X hw (c_X7_colorOf l D t aM vM p2 p3 0 _ h) pm_0 (cwV 3 X.1.2.2.2.2 gX7_isBadRim_X7_colorOf rfl rfl rfl (by decide +kernel) ⟨Nat.le_of_ble_eq_true rfl, Nat.le_of_ble_eq_true rfl⟩) (ci := 7) rfl rfl rfl rfl hl rfl (Nat.le_of_ble_eq_true rfl) dX7_isBadRim_4 ⟨Nat.le_of_ble_eq_true rfl, Nat.le_of_ble_eq_true rfl⟩) (fun r_2 u H locs h hw => ?_)
  obtain ⟨vM_1, rfl⟩ : ∃ z, z = u := ⟨_, rfl⟩
  refine lv_if_ne (tgt := 30) hx hb dX7_isBadRim_7 (by decide) (fun c_12 => ?_) (fun c_12 => ?_)
  · replace h := h.1 c_12
    exact k_X7_isBadRim_30 X aM _ _ _ _ _ _ h hw (lv_sub hl [0, 1, 3] rfl)
  replace h := h.2 c_12
  refine lv_aload_n hx hb dX7_isBadRim_10 rfl (lv_at hl 0 rfl) ?_
  refine r_get (ci := 7) (C := RX7) (T := TX7) (N := 16) X hw 0 rfl rfl 1 (by decide) in_X7_isBadRim_X7 fl_X7_isBadRim_7 (v := .ref (MA.z aM)) rfl dX7_isBadRim_11 ?_
  refine lv_iconst (v := 2) hx hb dX7_isBadRim_14 (by decide) ?_
  refine r_iald (v := ((MV.z vM_1) 2)) X hw 1 rfl (vpl rfl) rfl dX7_isBadRim_15 ?_
  refine lv_iconst (v := 2) hx hb dX7_isBadRim_16 (by decide) ?_
  refine lv_icmp_ne (tgt := 34) hx hb dX7_isBadRim_17 (by decide) (fun c_11 => ?_) (fun c_11 => ?_)
  · replace h := h.1 c_11
    exact k_X7_isBadRim_34 X aM _ _ _ _ _ _ h hw (lv_sub hl [0, 1, 3] rfl)
  replace h := h.2 c_11
  refine lv_aload_n hx hb dX7_isBadRim_20 rfl (lv_at hl 0 rfl) ?_
  refine lv_iload_n hx hb dX7_isBadRim_21 rfl (lv_at hl 2 rfl) ?_
  refine lv_iload_n hx hb dX7_isBadRim_22 rfl (lv_at hl 3 rfl) ?_
  refine lv_iconst (v := 1) hx hb dX7_isBadRim_23 (by decide) ?_
  refine r_ci X hw pm_0 (wn := fun (u : MV) => (mW t aM u)) (fun u => pm_0.symm) (r_runV X hw (c_X7_colorOf l D t aM vM_1 p2 p3 1 _ h) pm_0 (cwV 3 X.1.2.2.2.2 gX7_isBadRim_X7_colorOf rfl rfl rfl (by decide +kernel) ⟨Nat.le_of_ble_eq_true rfl, Nat.le_of_ble_eq_true rfl⟩) (ci := 7) rfl rfl rfl rfl hl rfl (Nat.le_of_ble_eq_true rfl) dX7_isBadRim_24 ⟨Nat.le_of_ble_eq_true rfl, Nat.le_of_ble_eq_true rfl⟩) (fun r_9 u H locs h hw => ?_)
  obtain ⟨vM_8, rfl⟩ : ∃ z, z = u := ⟨_, rfl⟩
  refine lv_if_eq (tgt := 34) hx hb dX7_isBadRim_27 (by decide) (fun c_10 => ?_) (fun c_10 => ?_)
  · replace h := h.1 c_10
    exact k_X7_isBadRim_34 X aM _ _ _ _ _ _ h hw (lv_sub hl [0, 1, 3] rfl)
  replace h := h.2 c_10
  exact k_X7_isBadRim_30 X aM _ _ _ _ _ _ h hw (lv_sub hl [0, 1, 3] rfl)
/-! X7_isUnlike -/
def wp_X7_isUnlike (vM : MV) (p1 : Int32) (p2 : Int32) (p3 : Int32) (p4 : Int32) (Q : Int32 → MV → Prop) : Prop := wp_X7_shown vM p1 p3 p4 (fun (r_2 : Int32) (vM_1 : MV) => (r_2 = (-1) → Q 0 vM_1) ∧ (¬ r_2 = (-1) → wp_X7_colorOf vM_1 p2 p3 p4 (fun (r_4 : Int32) (vM_3 : MV) => (r_2 = r_4 → Q 0 vM_3) ∧ (¬ r_2 = r_4 → Q 1 vM_3))))
set_option maxHeartbeats 4000000 in
set_option maxRecDepth 100000 in
theorem c_X7_isUnlike (l : Launch) (D : va_G) (t : T3) (aM : MA) (vM : MV) (p1 : Int32) (p2 : Int32) (p3 : Int32) (p4 : Int32) (Q : Int32 → MV → Prop) (h : wp_X7_isUnlike vM p1 p2 p3 p4 Q) : Ct l yX7_isUnlike wsX7_isUnlike 3 73 0 0 [.ref (MA.o aM), .int p1, .int p2, .int p3, .int p4] D t (mW t aM vM) (fun sz => Qi D (mW t aM vM) (fun (u : MV) => (mW t aM u)) (fun (r : Int32) (u : MV) => Q r u) sz) := by
  refine Ct.of (Qf := fun _ A => va_Qi (fun (r : Int32) (u : MV) => Q r u) (B1 D (fun (u : MV) => (mW t aM u)) A) A) cX7_isUnlike 6 (some .boolean) (by decide) rfl (Nat.le_of_ble_eq_true rfl) ?_
  intro p e s m below meth c A ls hAe hin X hw hl
  generalize ([.ref (MA.o aM), .int p1, .int p2, .int p3, .int p4] : List Value).toArray = args at X ⊢
  have hl : lv_has ls 6 [(0, .ref (MA.o aM)), (1, .int p1), (2, .int p2), (3, .int p3), (4, .int p4)] := hl
  have hx := X.1.1
  have hb := X.1.2.1
  refine lv_aload_n hx hb dX7_isUnlike_0 rfl (lv_at hl 0 rfl) ?_
  refine lv_iload_n hx hb dX7_isUnlike_1 rfl (lv_at hl 1 rfl) ?_
  refine lv_iload_n hx hb dX7_isUnlike_2 rfl (lv_at hl 3 rfl) ?_
  refine lv_iload hx hb dX7_isUnlike_3 (lv_at hl 4 rfl) ?_
  refine r_ci X hw pm_0 (wn := fun (u : MV) => (mW t aM u)) (fun u => pm_0.symm) (r_runV X hw (c_X7_shown l D t aM vM p1 p3 p4 _ h) pm_0 (cwV 3 X.1.2.2.2.2 gX7_isUnlike_X7_shown rfl rfl rfl (by decide +kernel) ⟨Nat.le_of_ble_eq_true rfl, Nat.le_of_ble_eq_true rfl⟩) (ci := 7) rfl rfl rfl rfl hl rfl (Nat.le_of_ble_eq_true rfl) dX7_isUnlike_5 ⟨Nat.le_of_ble_eq_true rfl, Nat.le_of_ble_eq_true rfl⟩) (fun r_2 u H locs h hw => ?_)
  obtain ⟨vM_1, rfl⟩ : ∃ z, z = u := ⟨_, rfl⟩
  refine lv_istore (lv' := [(5, .int r_2), (0, .ref (MA.o aM)), (1, .int p1), (2, .int p2), (3, .int p3), (4, .int p4)]) hx hb dX7_isUnlike_8 hl (by decide) rfl (fun ls hl => ?_)
  refine lv_iload hx hb dX7_isUnlike_10 (lv_at hl 0 rfl) ?_
  refine lv_iconst (v := (-1)) hx hb dX7_isUnlike_12 (by decide) ?_
  refine lv_icmp_eq (tgt := 33) hx hb dX7_isUnlike_13 (by decide) (fun c_6 => ?_) (fun c_6 => ?_)
  · replace h := h.1 c_6
    refine lv_iconst (v := 0) hx hb dX7_isUnlike_33 (by decide) ?_
    exact e_z (w1 := (fun (u : MV) => (mW t aM u))) X isB_0 (vM_1) hw h dX7_isUnlike_34
  replace h := h.2 c_6
  refine lv_iload hx hb dX7_isUnlike_16 (lv_at hl 0 rfl) ?_
  refine lv_aload_n hx hb dX7_isUnlike_18 rfl (lv_at hl 1 rfl) ?_
  refine lv_iload_n hx hb dX7_isUnlike_19 rfl (lv_at hl 3 rfl) ?_
  refine lv_iload_n hx hb dX7_isUnlike_20 rfl (lv_at hl 4 rfl) ?_
  refine lv_iload hx hb dX7_isUnlike_21 (lv_at hl 5 rfl) ?_
  refine r_ci X hw pm_0 (wn := fun (u : MV) => (mW t aM u)) (fun u => pm_0.symm) (r_runV X hw (c_X7_colorOf l D t aM vM_1 p2 p3 p4 _ h) pm_0 (cwV 3 X.1.2.2.2.2 gX7_isUnlike_X7_colorOf rfl rfl rfl (by decide +kernel) ⟨Nat.le_of_ble_eq_true rfl, Nat.le_of_ble_eq_true rfl⟩) (ci := 7) rfl rfl rfl rfl hl rfl (Nat.le_of_ble_eq_true rfl) dX7_isUnlike_23 ⟨Nat.le_of_ble_eq_true rfl, Nat.le_of_ble_eq_true rfl⟩) (fun r_4 u H locs h hw => ?_)
  obtain ⟨vM_3, rfl⟩ : ∃ z, z = u := ⟨_, rfl⟩
  refine lv_icmp_eq (tgt := 33) hx hb dX7_isUnlike_26 (by decide) (fun c_5 => ?_) (fun c_5 => ?_)
  · replace h := h.1 c_5
    refine lv_iconst (v := 0) hx hb dX7_isUnlike_33 (by decide) ?_
    exact e_z (w1 := (fun (u : MV) => (mW t aM u))) X isB_0 (vM_3) hw h dX7_isUnlike_34
  replace h := h.2 c_5
  refine lv_iconst (v := 1) hx hb dX7_isUnlike_29 (by decide) ?_
  refine lv_goto (tgt := 34) hx hb dX7_isUnlike_30 (by decide) ?_
  exact e_z (w1 := (fun (u : MV) => (mW t aM u))) X isB_1 (vM_3) hw h dX7_isUnlike_34
/-! X7_isBadZero -/
theorem in_X7_isBadZero_X7 : ∀ w ∈ u_ws RX7 TX7 16, w ∈ wsX7_isBadZero := fun w h => (List.mem_cons_of_mem _ (List.mem_append_right _ h))
theorem fl_X7_isBadZero_7 : Cond.fieldLink RX7 7 "TwoFacedTilesModel" "z" "[I" ∈ wsX7_isBadZero := List.mem_of_getElem? (i := 1) rfl
def wp_X7_isBadZero_35 (Q : Int32 → MV → Prop) (vM : MV) (x1 : Int32) (x3 : Int32) (t0 : Int32) : Prop := (((MV.z vM) 2) ≤ 0 → Q 0 vM) ∧ (¬ ((MV.z vM) 2) ≤ 0 → wp_X7_shown vM x1 x3 0 (fun (r_4 : Int32) (vM_3 : MV) => (r_4 = (-1) → Q 0 vM_3) ∧ (¬ r_4 = (-1) → (t0 = 0 → Q 0 vM_3) ∧ (¬ t0 = 0 → Q 1 vM_3))))
set_option maxHeartbeats 4000000 in
set_option maxRecDepth 100000 in
theorem k_X7_isBadZero_35 {p : Program} {l : Launch} {e : Env} {s : State} {m : MethodId} {below : List Frame} {meth : Method} {c : Code} {args : Array Value} {D : va_G} {t : T3} {A : Nat → Prop} (X : Cx p s m meth c args cX7_isBadZero 5 (some .boolean) RX7 wsX7_isBadZero D t A) (aM : MA) {Q : Int32 → MV → Prop}  : ∀ (vM : MV) (x1 : Int32) (x3 : Int32) (t0 : Int32) (H : Heap) (locs : List Loc) (ls : Array Slot), wp_X7_isBadZero_35 Q vM x1 x3 t0 → Wd D A s.heap (mW t aM vM) H locs → lv_has ls 5 [(0, .ref (MA.o aM)), (1, .int x1), (3, .int x3)] → W p l e ({ frames := 3, cells := 0, slots := 0, locals := 73 } : Room) s m args below meth c H locs 0 0 (Ei below args s A D (fun (u : MV) => (mW t aM u)) (fun (r : Int32) (u : MV) => Q r u) 0 0) (F0 m 35 ls [.int t0]) := by
  intro vM x1 x3 t0 H locs ls h hw hl
  have hx := X.1.1
  have hb := X.1.2.1
  refine lv_istore (lv' := [(4, .int t0), (0, .ref (MA.o aM)), (1, .int x1), (3, .int x3)]) hx hb dX7_isBadZero_35 hl (by decide) rfl (fun ls hl => ?_)
  refine lv_aload_n hx hb dX7_isBadZero_37 rfl (lv_at hl 1 rfl) ?_
  refine r_get (ci := 7) (C := RX7) (T := TX7) (N := 16) X hw 0 rfl rfl 1 (by decide) in_X7_isBadZero_X7 fl_X7_isBadZero_7 (v := .ref (MA.z aM)) rfl dX7_isBadZero_38 ?_
  refine lv_iconst (v := 2) hx hb dX7_isBadZero_41 (by decide) ?_
  refine r_iald (v := ((MV.z vM) 2)) X hw 1 rfl (vpl rfl) rfl dX7_isBadZero_42 ?_
  refine lv_if_le (tgt := 66) hx hb dX7_isBadZero_43 (by decide) (fun c_7 => ?_) (fun c_7 => ?_)
  · replace h := h.1 c_7
    refine lv_iconst (v := 0) hx hb dX7_isBadZero_66 (by decide) ?_
    exact e_z (w1 := (fun (u : MV) => (mW t aM u))) X isB_0 (vM) hw h dX7_isBadZero_67
  replace h := h.2 c_7
  refine lv_aload_n hx hb dX7_isBadZero_46 rfl (lv_at hl 1 rfl) ?_
  refine lv_iload_n hx hb dX7_isBadZero_47 rfl (lv_at hl 2 rfl) ?_
  refine lv_iload_n hx hb dX7_isBadZero_48 rfl (lv_at hl 3 rfl) ?_
  refine lv_iconst (v := 0) hx hb dX7_isBadZero_49 (by decide) ?_
  refine r_ci X hw pm_0 (wn := fun (u : MV) => (mW t aM u)) (fun u => pm_0.symm) (r_runV X hw (c_X7_shown l D t aM vM x1 x3 0 _ h) pm_0 (cwV 3 X.1.2.2.2.2 gX7_isBadZero_X7_shown rfl rfl rfl (by decide +kernel) ⟨Nat.le_of_ble_eq_true rfl, Nat.le_of_ble_eq_true rfl⟩) (ci := 7) rfl rfl rfl rfl hl rfl (Nat.le_of_ble_eq_true rfl) dX7_isBadZero_50 ⟨Nat.le_of_ble_eq_true rfl, Nat.le_of_ble_eq_true rfl⟩) (fun r_4 u H locs h hw => ?_)
  obtain ⟨vM_3, rfl⟩ : ∃ z, z = u := ⟨_, rfl⟩
  refine lv_iconst (v := (-1)) hx hb dX7_isBadZero_53 (by decide) ?_
  refine lv_icmp_eq (tgt := 66) hx hb dX7_isBadZero_54 (by decide) (fun c_6 => ?_) (fun c_6 => ?_)
  · replace h := h.1 c_6
    refine lv_iconst (v := 0) hx hb dX7_isBadZero_66 (by decide) ?_
    exact e_z (w1 := (fun (u : MV) => (mW t aM u))) X isB_0 (vM_3) hw h dX7_isBadZero_67
  replace h := h.2 c_6
  refine lv_iload hx hb dX7_isBadZero_57 (lv_at hl 0 rfl) ?_
  refine lv_if_eq (tgt := 66) hx hb dX7_isBadZero_59 (by decide) (fun c_5 => ?_) (fun c_5 => ?_)
  · replace h := h.1 c_5
    refine lv_iconst (v := 0) hx hb dX7_isBadZero_66 (by decide) ?_
    exact e_z (w1 := (fun (u : MV) => (mW t aM u))) X isB_0 (vM_3) hw h dX7_isBadZero_67
  replace h := h.2 c_5
  refine lv_iconst (v := 1) hx hb dX7_isBadZero_62 (by decide) ?_
  refine lv_goto (tgt := 67) hx hb dX7_isBadZero_63 (by decide) ?_
  exact e_z (w1 := (fun (u : MV) => (mW t aM u))) X isB_1 (vM_3) hw h dX7_isBadZero_67
def wp_X7_isBadZero_30 (Q : Int32 → MV → Prop) (vM : MV) (x1 : Int32) (x3 : Int32) : Prop := wp_X7_isBadZero_35  Q vM x1 x3 1
set_option maxHeartbeats 4000000 in
set_option maxRecDepth 100000 in
theorem k_X7_isBadZero_30 {p : Program} {l : Launch} {e : Env} {s : State} {m : MethodId} {below : List Frame} {meth : Method} {c : Code} {args : Array Value} {D : va_G} {t : T3} {A : Nat → Prop} (X : Cx p s m meth c args cX7_isBadZero 5 (some .boolean) RX7 wsX7_isBadZero D t A) (aM : MA) {Q : Int32 → MV → Prop}  : ∀ (vM : MV) (x1 : Int32) (x3 : Int32) (H : Heap) (locs : List Loc) (ls : Array Slot), wp_X7_isBadZero_30 Q vM x1 x3 → Wd D A s.heap (mW t aM vM) H locs → lv_has ls 5 [(0, .ref (MA.o aM)), (1, .int x1), (3, .int x3)] → W p l e ({ frames := 3, cells := 0, slots := 0, locals := 73 } : Room) s m args below meth c H locs 0 0 (Ei below args s A D (fun (u : MV) => (mW t aM u)) (fun (r : Int32) (u : MV) => Q r u) 0 0) (F0 m 30 ls []) := by
  intro vM x1 x3 H locs ls h hw hl
  have hx := X.1.1
  have hb := X.1.2.1
  refine lv_iconst (v := 1) hx hb dX7_isBadZero_30 (by decide) ?_
  refine lv_goto (tgt := 35) hx hb dX7_isBadZero_31 (by decide) ?_
  exact k_X7_isBadZero_35 X aM _ _ _ _ _ _ _ h hw hl
def wp_X7_isBadZero_34 (Q : Int32 → MV → Prop) (vM : MV) (x1 : Int32) (x3 : Int32) : Prop := wp_X7_isBadZero_35  Q vM x1 x3 0
set_option maxHeartbeats 4000000 in
set_option maxRecDepth 100000 in
theorem k_X7_isBadZero_34 {p : Program} {l : Launch} {e : Env} {s : State} {m : MethodId} {below : List Frame} {meth : Method} {c : Code} {args : Array Value} {D : va_G} {t : T3} {A : Nat → Prop} (X : Cx p s m meth c args cX7_isBadZero 5 (some .boolean) RX7 wsX7_isBadZero D t A) (aM : MA) {Q : Int32 → MV → Prop}  : ∀ (vM : MV) (x1 : Int32) (x3 : Int32) (H : Heap) (locs : List Loc) (ls : Array Slot), wp_X7_isBadZero_34 Q vM x1 x3 → Wd D A s.heap (mW t aM vM) H locs → lv_has ls 5 [(0, .ref (MA.o aM)), (1, .int x1), (3, .int x3)] → W p l e ({ frames := 3, cells := 0, slots := 0, locals := 73 } : Room) s m args below meth c H locs 0 0 (Ei below args s A D (fun (u : MV) => (mW t aM u)) (fun (r : Int32) (u : MV) => Q r u) 0 0) (F0 m 34 ls []) := by
  intro vM x1 x3 H locs ls h hw hl
  have hx := X.1.1
  have hb := X.1.2.1
  refine lv_iconst (v := 0) hx hb dX7_isBadZero_34 (by decide) ?_
  exact k_X7_isBadZero_35 X aM _ _ _ _ _ _ _ h hw hl
def wp_X7_isBadZero (vM : MV) (p1 : Int32) (p2 : Int32) (p3 : Int32) (Q : Int32 → MV → Prop) : Prop := wp_X7_colorOf vM p2 p3 0 (fun (r_2 : Int32) (vM_1 : MV) => (r_2 = 0 → wp_X7_isBadZero_30  Q vM_1 p1 p3) ∧ (¬ r_2 = 0 → (¬ ((MV.z vM_1) 2) = 2 → wp_X7_isBadZero_34  Q vM_1 p1 p3) ∧ (((MV.z vM_1) 2) = 2 → wp_X7_colorOf vM_1 p2 p3 1 (fun (r_9 : Int32) (vM_8 : MV) => (¬ r_9 = 0 → wp_X7_isBadZero_34  Q vM_8 p1 p3) ∧ (r_9 = 0 → wp_X7_isBadZero_30  Q vM_8 p1 p3)))))
set_option maxHeartbeats 4000000 in
set_option maxRecDepth 100000 in
theorem c_X7_isBadZero (l : Launch) (D : va_G) (t : T3) (aM : MA) (vM : MV) (p1 : Int32) (p2 : Int32) (p3 : Int32) (Q : Int32 → MV → Prop) (h : wp_X7_isBadZero vM p1 p2 p3 Q) : Ct l yX7_isBadZero wsX7_isBadZero 3 73 0 0 [.ref (MA.o aM), .int p1, .int p2, .int p3] D t (mW t aM vM) (fun sz => Qi D (mW t aM vM) (fun (u : MV) => (mW t aM u)) (fun (r : Int32) (u : MV) => Q r u) sz) := by
  refine Ct.of (Qf := fun _ A => va_Qi (fun (r : Int32) (u : MV) => Q r u) (B1 D (fun (u : MV) => (mW t aM u)) A) A) cX7_isBadZero 5 (some .boolean) (by decide) rfl (Nat.le_of_ble_eq_true rfl) ?_
  intro p e s m below meth c A ls hAe hin X hw hl
  generalize ([.ref (MA.o aM), .int p1, .int p2, .int p3] : List Value).toArray = args at X ⊢
  have hl : lv_has ls 5 [(0, .ref (MA.o aM)), (1, .int p1), (2, .int p2), (3, .int p3)] := hl
  have hx := X.1.1
  have hb := X.1.2.1
  refine lv_aload_n hx hb dX7_isBadZero_0 rfl (lv_at hl 0 rfl) ?_
  refine lv_iload_n hx hb dX7_isBadZero_1 rfl (lv_at hl 2 rfl) ?_
  refine lv_iload_n hx hb dX7_isBadZero_2 rfl (lv_at hl 3 rfl) ?_
  refine lv_iconst (v := 0) hx hb dX7_isBadZero_3 (by decide) ?_
  refine r_ci X hw pm_0 (wn := fun (u : MV) => (mW t aM u)) (fun u => pm_0.symm) (r_runV X hw (c_X7_colorOf l D t aM vM p2 p3 0 _ h) pm_0 (cwV 3 X.1.2.2.2.2 gX7_isBadZero_X7_colorOf rfl rfl rfl (by decide +kernel) ⟨Nat.le_of_ble_eq_true rfl, Nat.le_of_ble_eq_true rfl⟩) (ci := 7) rfl rfl rfl rfl hl rfl (Nat.le_of_ble_eq_true rfl) dX7_isBadZero_4 ⟨Nat.le_of_ble_eq_true rfl, Nat.le_of_ble_eq_true rfl⟩) (fun r_2 u H locs h hw => ?_)
  obtain ⟨vM_1, rfl⟩ : ∃ z, z = u := ⟨_, rfl⟩
  refine lv_if_eq (tgt := 30) hx hb dX7_isBadZero_7 (by decide) (fun c_12 => ?_) (fun c_12 => ?_)
  · replace h := h.1 c_12
    exact k_X7_isBadZero_30 X aM _ _ _ _ _ _ h hw (lv_sub hl [0, 1, 3] rfl)
  replace h := h.2 c_12
  refine lv_aload_n hx hb dX7_isBadZero_10 rfl (lv_at hl 0 rfl) ?_
  refine r_get (ci := 7) (C := RX7) (T := TX7) (N := 16) X hw 0 rfl rfl 1 (by decide) in_X7_isBadZero_X7 fl_X7_isBadZero_7 (v := .ref (MA.z aM)) rfl dX7_isBadZero_11 ?_
  refine lv_iconst (v := 2) hx hb dX7_isBadZero_14 (by decide) ?_
  refine r_iald (v := ((MV.z vM_1) 2)) X hw 1 rfl (vpl rfl) rfl dX7_isBadZero_15 ?_
  refine lv_iconst (v := 2) hx hb dX7_isBadZero_16 (by decide) ?_
  refine lv_icmp_ne (tgt := 34) hx hb dX7_isBadZero_17 (by decide) (fun c_11 => ?_) (fun c_11 => ?_)
  · replace h := h.1 c_11
    exact k_X7_isBadZero_34 X aM _ _ _ _ _ _ h hw (lv_sub hl [0, 1, 3] rfl)
  replace h := h.2 c_11
  refine lv_aload_n hx hb dX7_isBadZero_20 rfl (lv_at hl 0 rfl) ?_
  refine lv_iload_n hx hb dX7_isBadZero_21 rfl (lv_at hl 2 rfl) ?_
  refine lv_iload_n hx hb dX7_isBadZero_22 rfl (lv_at hl 3 rfl) ?_
  refine lv_iconst (v := 1) hx hb dX7_isBadZero_23 (by decide) ?_
  refine r_ci X hw pm_0 (wn := fun (u : MV) => (mW t aM u)) (fun u => pm_0.symm) (r_runV X hw (c_X7_colorOf l D t aM vM_1 p2 p3 1 _ h) pm_0 (cwV 3 X.1.2.2.2.2 gX7_isBadZero_X7_colorOf rfl rfl rfl (by decide +kernel) ⟨Nat.le_of_ble_eq_true rfl, Nat.le_of_ble_eq_true rfl⟩) (ci := 7) rfl rfl rfl rfl hl rfl (Nat.le_of_ble_eq_true rfl) dX7_isBadZero_24 ⟨Nat.le_of_ble_eq_true rfl, Nat.le_of_ble_eq_true rfl⟩) (fun r_9 u H locs h hw => ?_)
  obtain ⟨vM_8, rfl⟩ : ∃ z, z = u := ⟨_, rfl⟩
  refine lv_if_ne (tgt := 34) hx hb dX7_isBadZero_27 (by decide) (fun c_10 => ?_) (fun c_10 => ?_)
  · replace h := h.1 c_10
    exact k_X7_isBadZero_34 X aM _ _ _ _ _ _ h hw (lv_sub hl [0, 1, 3] rfl)
  replace h := h.2 c_10
  exact k_X7_isBadZero_30 X aM _ _ _ _ _ _ h hw (lv_sub hl [0, 1, 3] rfl)
/-! X7_misfit -/
def wp_X7_misfit_91 (P : MV → Int32 → Int32 → Int32 → Int32 → Prop) (K98 : MV → Int32 → Prop) (Q : Int32 → MV → Prop) (vM : MV) (x1 : Int32) (x2 : Int32) (x4 : Int32) (t0 : Int32) : Prop := ∀ x4_9 : Int32, x4_9 = x4 + 1 → P vM x1 x2 t0 x4_9
set_option maxHeartbeats 4000000 in
set_option maxRecDepth 100000 in
theorem k_X7_misfit_91 {p : Program} {l : Launch} {e : Env} {s : State} {m : MethodId} {below : List Frame} {meth : Method} {c : Code} {args : Array Value} {D : va_G} {t : T3} {A : Nat → Prop} (X : Cx p s m meth c args cX7_misfit 6 (some .int) RX7 wsX7_misfit D t A) (aM : MA) {P : MV → Int32 → Int32 → Int32 → Int32 → Prop} {K98 : MV → Int32 → Prop} {Q : Int32 → MV → Prop} (hP : ∀ (vM : MV) (x1 : Int32) (x2 : Int32) (x3 : Int32) (x4 : Int32) (H : Heap) (locs : List Loc) (ls : Array Slot), P vM x1 x2 x3 x4 → Wd D A s.heap (mW t aM vM) H locs → lv_has ls 6 [(0, .ref (MA.o aM)), (1, .int x1), (2, .int x2), (3, .int x3), (4, .int x4)] → W p l e ({ frames := 4, cells := 0, slots := 0, locals := 98 } : Room) s m args below meth c H locs 0 0 (Ei below args s A D (fun (u : MV) => (mW t aM u)) (fun (r : Int32) (u : MV) => Q r u) 0 0) (F0 m 6 ls [])) (hK98 : ∀ (vM : MV) (x3 : Int32) (H : Heap) (locs : List Loc) (ls : Array Slot), K98 vM x3 → Wd D A s.heap (mW t aM vM) H locs → lv_has ls 6 [(3, .int x3)] → W p l e ({ frames := 4, cells := 0, slots := 0, locals := 98 } : Room) s m args below meth c H locs 0 0 (Ei below args s A D (fun (u : MV) => (mW t aM u)) (fun (r : Int32) (u : MV) => Q r u) 0 0) (F0 m 98 ls [])) : ∀ (vM : MV) (x1 : Int32) (x2 : Int32) (x4 : Int32) (t0 : Int32) (H : Heap) (locs : List Loc) (ls : Array Slot), wp_X7_misfit_91 P K98 Q vM x1 x2 x4 t0 → Wd D A s.heap (mW t aM vM) H locs → lv_has ls 6 [(0, .ref (MA.o aM)), (1, .int x1), (2, .int x2), (4, .int x4)] → W p l e ({ frames := 4, cells := 0, slots := 0, locals := 98 } : Room) s m args below meth c H locs 0 0 (Ei below args s A D (fun (u : MV) => (mW t aM u)) (fun (r : Int32) (u : MV) => Q r u) 0 0) (F0 m 91 ls [.int t0]) := by
  intro vM x1 x2 x4 t0 H locs ls h hw hl
  have hx := X.1.1
  have hb := X.1.2.1
  refine lv_istore_n (lv' := [(3, .int t0), (0, .ref (MA.o aM)), (1, .int x1), (2, .int x2), (4, .int x4)]) hx hb dX7_misfit_91 rfl hl (by decide) rfl (fun ls hl => ?_)
  obtain ⟨x4_9, ex4_9⟩ : ∃ z : Int32, z = x4 + 1 := ⟨_, rfl⟩
  replace h := h x4_9 ex4_9
  refine lv_iinc (v := x4_9) (lv' := [(4, .int x4_9), (3, .int t0), (0, .ref (MA.o aM)), (1, .int x1), (2, .int x2)]) hx hb dX7_misfit_92 hl (k := 4) rfl (by rw [ex4_9]; rfl) (by decide) rfl (fun ls hl => ?_)
  refine lv_goto (tgt := 6) hx hb dX7_misfit_95 (by decide) ?_
  exact hP _ _ _ _ _ _ _ _ h hw (lv_sub hl [2, 3, 4, 1, 0] rfl)
def wp_X7_misfit_77 (P : MV → Int32 → Int32 → Int32 → Int32 → Prop) (K98 : MV → Int32 → Prop) (Q : Int32 → MV → Prop) (vM : MV) (x1 : Int32) (x2 : Int32) (x3 : Int32) (x4 : Int32) (t0 : Int32) : Prop := (x3 ≤ t0 → wp_X7_misfit_91  P K98 Q vM x1 x2 x4 x3) ∧ (¬ x3 ≤ t0 → wp_X7_misfit_91  P K98 Q vM x1 x2 x4 t0)
set_option maxHeartbeats 4000000 in
set_option maxRecDepth 100000 in
theorem k_X7_misfit_77 {p : Program} {l : Launch} {e : Env} {s : State} {m : MethodId} {below : List Frame} {meth : Method} {c : Code} {args : Array Value} {D : va_G} {t : T3} {A : Nat → Prop} (X : Cx p s m meth c args cX7_misfit 6 (some .int) RX7 wsX7_misfit D t A) (aM : MA) {P : MV → Int32 → Int32 → Int32 → Int32 → Prop} {K98 : MV → Int32 → Prop} {Q : Int32 → MV → Prop} (hP : ∀ (vM : MV) (x1 : Int32) (x2 : Int32) (x3 : Int32) (x4 : Int32) (H : Heap) (locs : List Loc) (ls : Array Slot), P vM x1 x2 x3 x4 → Wd D A s.heap (mW t aM vM) H locs → lv_has ls 6 [(0, .ref (MA.o aM)), (1, .int x1), (2, .int x2), (3, .int x3), (4, .int x4)] → W p l e ({ frames := 4, cells := 0, slots := 0, locals := 98 } : Room) s m args below meth c H locs 0 0 (Ei below args s A D (fun (u : MV) => (mW t aM u)) (fun (r : Int32) (u : MV) => Q r u) 0 0) (F0 m 6 ls [])) (hK98 : ∀ (vM : MV) (x3 : Int32) (H : Heap) (locs : List Loc) (ls : Array Slot), K98 vM x3 → Wd D A s.heap (mW t aM vM) H locs → lv_has ls 6 [(3, .int x3)] → W p l e ({ frames := 4, cells := 0, slots := 0, locals := 98 } : Room) s m args below meth c H locs 0 0 (Ei below args s A D (fun (u : MV) => (mW t aM u)) (fun (r : Int32) (u : MV) => Q r u) 0 0) (F0 m 98 ls [])) : ∀ (vM : MV) (x1 : Int32) (x2 : Int32) (x3 : Int32) (x4 : Int32) (t0 : Int32) (H : Heap) (locs : List Loc) (ls : Array Slot), wp_X7_misfit_77 P K98 Q vM x1 x2 x3 x4 t0 → Wd D A s.heap (mW t aM vM) H locs → lv_has ls 6 [(0, .ref (MA.o aM)), (1, .int x1), (2, .int x2), (3, .int x3), (4, .int x4)] → W p l e ({ frames := 4, cells := 0, slots := 0, locals := 98 } : Room) s m args below meth c H locs 0 0 (Ei below args s A D (fun (u : MV) => (mW t aM u)) (fun (r : Int32) (u : MV) => Q r u) 0 0) (F0 m 77 ls [.int t0]) := by
  intro vM x1 x2 x3 x4 t0 H locs ls h hw hl
  have hx := X.1.1
  have hb := X.1.2.1
  refine lv_istore (lv' := [(5, .int t0), (0, .ref (MA.o aM)), (1, .int x1), (2, .int x2), (3, .int x3), (4, .int x4)]) hx hb dX7_misfit_77 hl (by decide) rfl (fun ls hl => ?_)
  refine lv_iload hx hb dX7_misfit_79 (lv_at hl 0 rfl) ?_
  refine lv_iload_n hx hb dX7_misfit_81 rfl (lv_at hl 4 rfl) ?_
  refine lv_icmp_ge (tgt := 90) hx hb dX7_misfit_82 (by decide) (fun c_10 => ?_) (fun c_10 => ?_)
  · replace h := h.1 c_10
    refine lv_iload_n hx hb dX7_misfit_90 rfl (lv_at hl 4 rfl) ?_
    exact k_X7_misfit_91 X aM hP hK98 _ _ _ _ _ _ _ _ h hw (lv_sub hl [1, 2, 3, 5] rfl)
  replace h := h.2 c_10
  refine lv_iload hx hb dX7_misfit_85 (lv_at hl 0 rfl) ?_
  refine lv_goto (tgt := 91) hx hb dX7_misfit_87 (by decide) ?_
  exact k_X7_misfit_91 X aM hP hK98 _ _ _ _ _ _ _ _ h hw (lv_sub hl [1, 2, 3, 5] rfl)
def bd_X7_misfit_6 (Q : Int32 → MV → Prop) (P : MV → Int32 → Int32 → Int32 → Int32 → Prop) (K98 : MV → Int32 → Prop) (vM : MV) (x1 : Int32) (x2 : Int32) (x3 : Int32) (x4 : Int32) : Prop := (4 ≤ x4 → K98 vM x3) ∧ (¬ 4 ≤ x4 → wp_X7_isBadRim vM x1 x2 x4 (fun (r_2 : Int32) (vM_1 : MV) => (r_2 = 0 → wp_X7_isUnlike vM_1 x1 x2 x4 0 (fun (r_4 : Int32) (vM_3 : MV) => (r_4 = 0 → wp_X7_isUnlike vM_3 x1 x2 x4 1 (fun (r_6 : Int32) (vM_5 : MV) => (r_6 = 0 → wp_X7_isBadZero vM_5 x1 x2 x4 (fun (r_8 : Int32) (vM_7 : MV) => (r_8 = 0 → wp_X7_misfit_77  P K98 Q vM_7 x1 x2 x3 x4 7) ∧ (¬ r_8 = 0 → wp_X7_misfit_77  P K98 Q vM_7 x1 x2 x3 x4 6))) ∧ (¬ r_6 = 0 → wp_X7_misfit_77  P K98 Q vM_5 x1 x2 x3 x4 5))) ∧ (¬ r_4 = 0 → wp_X7_misfit_77  P K98 Q vM_3 x1 x2 x3 x4 4))) ∧ (¬ r_2 = 0 → wp_X7_misfit_77  P K98 Q vM_1 x1 x2 x3 x4 3)))
def wp_X7_misfit_6 (Q : Int32 → MV → Prop) (K98 : MV → Int32 → Prop) (vM : MV) (x1 : Int32) (x2 : Int32) (x3 : Int32) (x4 : Int32) : Prop := ∀ P : MV → Int32 → Int32 → Int32 → Int32 → Prop, (∀ (vM : MV) (x1 : Int32) (x2 : Int32) (x3 : Int32) (x4 : Int32), bd_X7_misfit_6 Q P K98 vM x1 x2 x3 x4 → P vM x1 x2 x3 x4) → P vM x1 x2 x3 x4
set_option maxHeartbeats 4000000 in
set_option maxRecDepth 100000 in
theorem kb_X7_misfit_6 {p : Program} {l : Launch} {e : Env} {s : State} {m : MethodId} {below : List Frame} {meth : Method} {c : Code} {args : Array Value} {D : va_G} {t : T3} {A : Nat → Prop} (X : Cx p s m meth c args cX7_misfit 6 (some .int) RX7 wsX7_misfit D t A) (aM : MA) {Q : Int32 → MV → Prop} {P : MV → Int32 → Int32 → Int32 → Int32 → Prop} {K98 : MV → Int32 → Prop} (hP : ∀ (vM : MV) (x1 : Int32) (x2 : Int32) (x3 : Int32) (x4 : Int32) (H : Heap) (locs : List Loc) (ls : Array Slot), P vM x1 x2 x3 x4 → Wd D A s.heap (mW t aM vM) H locs → lv_has ls 6 [(0, .ref (MA.o aM)), (1, .int x1), (2, .int x2), (3, .int x3), (4, .int x4)] → W p l e ({ frames := 4, cells := 0, slots := 0, locals := 98 } : Room) s m args below meth c H locs 0 0 (Ei below args s A D (fun (u : MV) => (mW t aM u)) (fun (r : Int32) (u : MV) => Q r u) 0 0) (F0 m 6 ls [])) (hK98 : ∀ (vM : MV) (x3 : Int32) (H : Heap) (locs : List Loc) (ls : Array Slot), K98 vM x3 → Wd D A s.heap (mW t aM vM) H locs → lv_has ls 6 [(3, .int x3)] → W p l e ({ frames := 4, cells := 0, slots := 0, locals := 98 } : Room) s m args below meth c H locs 0 0 (Ei below args s A D (fun (u : MV) => (mW t aM u)) (fun (r : Int32) (u : MV) => Q r u) 0 0) (F0 m 98 ls [])) : ∀ (vM : MV) (x1 : Int32) (x2 : Int32) (x3 : Int32) (x4 : Int32) (H : Heap) (locs : List Loc) (ls : Array Slot), bd_X7_misfit_6 Q P K98 vM x1 x2 x3 x4 → Wd D A s.heap (mW t aM vM) H locs → lv_has ls 6 [(0, .ref (MA.o aM)), (1, .int x1), (2, .int x2), (3, .int x3), (4, .int x4)] → W p l e ({ frames := 4, cells := 0, slots := 0, locals := 98 } : Room) s m args below meth c H locs 0 0 (Ei below args s A D (fun (u : MV) => (mW t aM u)) (fun (r : Int32) (u : MV) => Q r u) 0 0) (F0 m 6 ls []) := by
  intro vM x1 x2 x3 x4 H locs ls h hw hl
  have hx := X.1.1
  have hb := X.1.2.1
  refine lv_iload hx hb dX7_misfit_6 (lv_at hl 4 rfl) ?_
  refine lv_iconst (v := 4) hx hb dX7_misfit_8 (by decide) ?_
  refine lv_icmp_ge (tgt := 98) hx hb dX7_misfit_9 (by decide) (fun c_15 => ?_) (fun c_15 => ?_)
  · replace h := h.1 c_15
    exact hK98 _ _ _ _ _ h hw (lv_sub hl [3] rfl)
  replace h := h.2 c_15
  refine lv_aload_n hx hb dX7_misfit_12 rfl (lv_at hl 0 rfl) ?_
  refine lv_iload_n hx hb dX7_misfit_13 rfl (lv_at hl 1 rfl) ?_
  refine lv_iload_n hx hb dX7_misfit_14 rfl (lv_at hl 2 rfl) ?_
  refine lv_iload hx hb dX7_misfit_15 (lv_at hl 4 rfl) ?_
  refine r_ci X hw pm_0 (wn := fun (u : MV) => (mW t aM u)) (fun u => pm_0.symm) (r_runV X hw (c_X7_isBadRim l D t aM vM x1 x2 x4 _ h) pm_0 (cwV 3 X.1.2.2.2.2 gX7_misfit_X7_isBadRim rfl rfl rfl (by decide +kernel) ⟨Nat.le_of_ble_eq_true rfl, Nat.le_of_ble_eq_true rfl⟩) (ci := 7) rfl rfl rfl rfl hl rfl (Nat.le_of_ble_eq_true rfl) dX7_misfit_17 ⟨Nat.le_of_ble_eq_true rfl, Nat.le_of_ble_eq_true rfl⟩) (fun r_2 u H locs h hw => ?_)
  obtain ⟨vM_1, rfl⟩ : ∃ z, z = u := ⟨_, rfl⟩
  refine lv_if_eq (tgt := 27) hx hb dX7_misfit_20 (by decide) (fun c_14 => ?_) (fun c_14 => ?_)
  · replace h := h.1 c_14
    refine lv_aload_n hx hb dX7_misfit_27 rfl (lv_at hl 0 rfl) ?_
    refine lv_iload_n hx hb dX7_misfit_28 rfl (lv_at hl 1 rfl) ?_
    refine lv_iload_n hx hb dX7_misfit_29 rfl (lv_at hl 2 rfl) ?_
    refine lv_iload hx hb dX7_misfit_30 (lv_at hl 4 rfl) ?_
    refine lv_iconst (v := 0) hx hb dX7_misfit_32 (by decide) ?_
    refine r_ci X hw pm_0 (wn := fun (u : MV) => (mW t aM u)) (fun u => pm_0.symm) (r_runV X hw (c_X7_isUnlike l D t aM vM_1 x1 x2 x4 0 _ h) pm_0 (cwV 4 X.1.2.2.2.2 gX7_misfit_X7_isUnlike rfl rfl rfl (by decide +kernel) ⟨Nat.le_of_ble_eq_true rfl, Nat.le_of_ble_eq_true rfl⟩) (ci := 7) rfl rfl rfl rfl hl rfl (Nat.le_of_ble_eq_true rfl) dX7_misfit_33 ⟨Nat.le_of_ble_eq_true rfl, Nat.le_of_ble_eq_true rfl⟩) (fun r_4 u H locs h hw => ?_)
    obtain ⟨vM_3, rfl⟩ : ∃ z, z = u := ⟨_, rfl⟩
    refine lv_if_eq (tgt := 43) hx hb dX7_misfit_36 (by decide) (fun c_13 => ?_) (fun c_13 => ?_)
    · replace h := h.1 c_13
      refine lv_aload_n hx hb dX7_misfit_43 rfl (lv_at hl 0 rfl) ?_
      refine lv_iload_n hx hb dX7_misfit_44 rfl (lv_at hl 1 rfl) ?_
      refine lv_iload_n hx hb dX7_misfit_45 rfl (lv_at hl 2 rfl) ?_
      refine lv_iload hx hb dX7_misfit_46 (lv_at hl 4 rfl) ?_
      refine lv_iconst (v := 1) hx hb dX7_misfit_48 (by decide) ?_
      refine r_ci X hw pm_0 (wn := fun (u : MV) => (mW t aM u)) (fun u => pm_0.symm) (r_runV X hw (c_X7_isUnlike l D t aM vM_3 x1 x2 x4 1 _ h) pm_0 (cwV 4 X.1.2.2.2.2 gX7_misfit_X7_isUnlike rfl rfl rfl (by decide +kernel) ⟨Nat.le_of_ble_eq_true rfl, Nat.le_of_ble_eq_true rfl⟩) (ci := 7) rfl rfl rfl rfl hl rfl (Nat.le_of_ble_eq_true rfl) dX7_misfit_49 ⟨Nat.le_of_ble_eq_true rfl, Nat.le_of_ble_eq_true rfl⟩) (fun r_6 u H locs h hw => ?_)
      obtain ⟨vM_5, rfl⟩ : ∃ z, z = u := ⟨_, rfl⟩
      refine lv_if_eq (tgt := 59) hx hb dX7_misfit_52 (by decide) (fun c_12 => ?_) (fun c_12 => ?_)
      · replace h := h.1 c_12
        refine lv_aload_n hx hb dX7_misfit_59 rfl (lv_at hl 0 rfl) ?_
        refine lv_iload_n hx hb dX7_misfit_60 rfl (lv_at hl 1 rfl) ?_
        refine lv_iload_n hx hb dX7_misfit_61 rfl (lv_at hl 2 rfl) ?_
        refine lv_iload hx hb dX7_misfit_62 (lv_at hl 4 rfl) ?_
        refine r_ci X hw pm_0 (wn := fun (u : MV) => (mW t aM u)) (fun u => pm_0.symm) (r_runV X hw (c_X7_isBadZero l D t aM vM_5 x1 x2 x4 _ h) pm_0 (cwV 3 X.1.2.2.2.2 gX7_misfit_X7_isBadZero rfl rfl rfl (by decide +kernel) ⟨Nat.le_of_ble_eq_true rfl, Nat.le_of_ble_eq_true rfl⟩) (ci := 7) rfl rfl rfl rfl hl rfl (Nat.le_of_ble_eq_true rfl) dX7_misfit_64 ⟨Nat.le_of_ble_eq_true rfl, Nat.le_of_ble_eq_true rfl⟩) (fun r_8 u H locs h hw => ?_)
        obtain ⟨vM_7, rfl⟩ : ∃ z, z = u := ⟨_, rfl⟩
        refine lv_if_eq (tgt := 75) hx hb dX7_misfit_67 (by decide) (fun c_11 => ?_) (fun c_11 => ?_)
        · replace h := h.1 c_11
          refine lv_bipush (v := 7) hx hb dX7_misfit_75 (by decide) ?_
          exact k_X7_misfit_77 X aM hP hK98 _ _ _ _ _ _ _ _ _ h hw hl
        replace h := h.2 c_11
        refine lv_bipush (v := 6) hx hb dX7_misfit_70 (by decide) ?_
        refine lv_goto (tgt := 77) hx hb dX7_misfit_72 (by decide) ?_
        exact k_X7_misfit_77 X aM hP hK98 _ _ _ _ _ _ _ _ _ h hw hl
      replace h := h.2 c_12
      refine lv_iconst (v := 5) hx hb dX7_misfit_55 (by decide) ?_
      refine lv_goto (tgt := 77) hx hb dX7_misfit_56 (by decide) ?_
      exact k_X7_misfit_77 X aM hP hK98 _ _ _ _ _ _ _ _ _ h hw hl
    replace h := h.2 c_13
    refine lv_iconst (v := 4) hx hb dX7_misfit_39 (by decide) ?_
    refine lv_goto (tgt := 77) hx hb dX7_misfit_40 (by decide) ?_
    exact k_X7_misfit_77 X aM hP hK98 _ _ _ _ _ _ _ _ _ h hw hl
  replace h := h.2 c_14
  refine lv_iconst (v := 3) hx hb dX7_misfit_23 (by decide) ?_
  refine lv_goto (tgt := 77) hx hb dX7_misfit_24 (by decide) ?_
  exact k_X7_misfit_77 X aM hP hK98 _ _ _ _ _ _ _ _ _ h hw hl
set_option maxHeartbeats 4000000 in
set_option maxRecDepth 100000 in
theorem k_X7_misfit_6 {p : Program} {l : Launch} {e : Env} {s : State} {m : MethodId} {below : List Frame} {meth : Method} {c : Code} {args : Array Value} {D : va_G} {t : T3} {A : Nat → Prop} (X : Cx p s m meth c args cX7_misfit 6 (some .int) RX7 wsX7_misfit D t A) (aM : MA) {Q : Int32 → MV → Prop} {K98 : MV → Int32 → Prop} (hK98 : ∀ (vM : MV) (x3 : Int32) (H : Heap) (locs : List Loc) (ls : Array Slot), K98 vM x3 → Wd D A s.heap (mW t aM vM) H locs → lv_has ls 6 [(3, .int x3)] → W p l e ({ frames := 4, cells := 0, slots := 0, locals := 98 } : Room) s m args below meth c H locs 0 0 (Ei below args s A D (fun (u : MV) => (mW t aM u)) (fun (r : Int32) (u : MV) => Q r u) 0 0) (F0 m 98 ls [])) : ∀ (vM : MV) (x1 : Int32) (x2 : Int32) (x3 : Int32) (x4 : Int32) (H : Heap) (locs : List Loc) (ls : Array Slot), wp_X7_misfit_6 Q K98 vM x1 x2 x3 x4 → Wd D A s.heap (mW t aM vM) H locs → lv_has ls 6 [(0, .ref (MA.o aM)), (1, .int x1), (2, .int x2), (3, .int x3), (4, .int x4)] → W p l e ({ frames := 4, cells := 0, slots := 0, locals := 98 } : Room) s m args below meth c H locs 0 0 (Ei below args s A D (fun (u : MV) => (mW t aM u)) (fun (r : Int32) (u : MV) => Q r u) 0 0) (F0 m 6 ls []) := by
  intro vM x1 x2 x3 x4 H locs ls h hw hl
  have hx := X.1.1
  have hb := X.1.2.1
  refine h (fun (vM : MV) (x1 : Int32) (x2 : Int32) (x3 : Int32) (x4 : Int32) => ∀ (H : Heap) (locs : List Loc) (ls : Array Slot), Wd D A s.heap (mW t aM vM) H locs → lv_has ls 6 [(0, .ref (MA.o aM)), (1, .int x1), (2, .int x2), (3, .int x3), (4, .int x4)] → W p l e ({ frames := 4, cells := 0, slots := 0, locals := 98 } : Room) s m args below meth c H locs 0 0 (Ei below args s A D (fun (u : MV) => (mW t aM u)) (fun (r : Int32) (u : MV) => Q r u) 0 0) (F0 m 6 ls [])) (fun vM x1 x2 x3 x4 h H locs ls hw hl => ?_) H locs ls hw hl
  exact kb_X7_misfit_6 X aM (fun vM x1 x2 x3 x4 H locs ls q hw hl => q H locs ls hw hl) hK98 vM x1 x2 x3 x4 _ _ _ h hw hl
def wp_X7_misfit (vM : MV) (p1 : Int32) (p2 : Int32) (Q : Int32 → MV → Prop) : Prop := wp_X7_misfit_6 Q (fun (vM_16 : MV) (x3_17 : Int32) => (¬ x3_17 = 7 → Q x3_17 vM_16) ∧ (x3_17 = 7 → Q 0 vM_16)) vM p1 p2 7 0
set_option maxHeartbeats 4000000 in
set_option maxRecDepth 100000 in
theorem c_X7_misfit (l : Launch) (D : va_G) (t : T3) (aM : MA) (vM : MV) (p1 : Int32) (p2 : Int32) (Q : Int32 → MV → Prop) (h : wp_X7_misfit vM p1 p2 Q) : Ct l yX7_misfit wsX7_misfit 4 98 0 0 [.ref (MA.o aM), .int p1, .int p2] D t (mW t aM vM) (fun sz => Qi D (mW t aM vM) (fun (u : MV) => (mW t aM u)) (fun (r : Int32) (u : MV) => Q r u) sz) := by
  refine Ct.of (Qf := fun _ A => va_Qi (fun (r : Int32) (u : MV) => Q r u) (B1 D (fun (u : MV) => (mW t aM u)) A) A) cX7_misfit 6 (some .int) (by decide) rfl (Nat.le_of_ble_eq_true rfl) ?_
  intro p e s m below meth c A ls hAe hin X hw hl
  generalize ([.ref (MA.o aM), .int p1, .int p2] : List Value).toArray = args at X ⊢
  have hl : lv_has ls 6 [(0, .ref (MA.o aM)), (1, .int p1), (2, .int p2)] := hl
  have hx := X.1.1
  have hb := X.1.2.1
  refine lv_bipush (v := 7) hx hb dX7_misfit_0 (by decide) ?_
  refine lv_istore_n (lv' := [(3, .int 7), (0, .ref (MA.o aM)), (1, .int p1), (2, .int p2)]) hx hb dX7_misfit_2 rfl hl (by decide) rfl (fun ls hl => ?_)
  refine lv_iconst (v := 0) hx hb dX7_misfit_3 (by decide) ?_
  refine lv_istore (lv' := [(4, .int 0), (3, .int 7), (0, .ref (MA.o aM)), (1, .int p1), (2, .int p2)]) hx hb dX7_misfit_4 hl (by decide) rfl (fun ls hl => ?_)
  refine k_X7_misfit_6 X aM (fun vM_16 x3_17 H locs ls h hw hl => ?_) _ _ _ _ _ _ _ _ h hw (lv_sub hl [2, 3, 4, 1, 0] rfl)
  refine lv_iload_n hx hb dX7_misfit_98 rfl (lv_at hl 0 rfl) ?_
  refine lv_bipush (v := 7) hx hb dX7_misfit_99 (by decide) ?_
  refine lv_icmp_ne (tgt := 108) hx hb dX7_misfit_101 (by decide) (fun c_18 => ?_) (fun c_18 => ?_)
  · replace h := h.1 c_18
    refine lv_iload_n hx hb dX7_misfit_108 rfl (lv_at hl 0 rfl) ?_
    exact e_i (w1 := (fun (u : MV) => (mW t aM u))) X (vM_16) hw h dX7_misfit_109
  replace h := h.2 c_18
  refine lv_iconst (v := 0) hx hb dX7_misfit_104 (by decide) ?_
  refine lv_goto (tgt := 109) hx hb dX7_misfit_105 (by decide) ?_
  exact e_i (w1 := (fun (u : MV) => (mW t aM u))) X (vM_16) hw h dX7_misfit_109
/-! X7_cellOf -/
theorem in_X7_cellOf_X7 : ∀ w ∈ u_ws RX7 TX7 16, w ∈ wsX7_cellOf := fun w h => (List.mem_cons_of_mem _ (List.mem_append_right _ h))
theorem fl_X7_cellOf_7 : Cond.fieldLink RX7 7 "TwoFacedTilesModel" "z" "[I" ∈ wsX7_cellOf := List.mem_of_getElem? (i := 1) rfl
def wp_X7_cellOf_46 (P : MV → Int32 → Int32 → Int32 → Prop) (Q : Int32 → MV → Prop) (vM : MV) (x1 : Int32) (x3 : Int32) (t0 : Int32) : Prop := ∀ x3_4 : Int32, x3_4 = x3 + 1 → P vM x1 t0 x3_4
set_option maxHeartbeats 4000000 in
set_option maxRecDepth 100000 in
theorem k_X7_cellOf_46 {p : Program} {l : Launch} {e : Env} {s : State} {m : MethodId} {below : List Frame} {meth : Method} {c : Code} {args : Array Value} {D : va_G} {t : T3} {A : Nat → Prop} (X : Cx p s m meth c args cX7_cellOf 4 (some .int) RX7 wsX7_cellOf D t A) (aM : MA) {P : MV → Int32 → Int32 → Int32 → Prop} {Q : Int32 → MV → Prop} (hP : ∀ (vM : MV) (x1 : Int32) (x2 : Int32) (x3 : Int32) (H : Heap) (locs : List Loc) (ls : Array Slot), P vM x1 x2 x3 → Wd D A s.heap (mW t aM vM) H locs → lv_has ls 4 [(0, .ref (MA.o aM)), (1, .int x1), (2, .int x2), (3, .int x3)] → W p l e ({ frames := 1, cells := 0, slots := 0, locals := 20 } : Room) s m args below meth c H locs 0 0 (Ei below args s A D (fun (u : MV) => (mW t aM u)) (fun (r : Int32) (u : MV) => Q r u) 0 0) (F0 m 4 ls [])) : ∀ (vM : MV) (x1 : Int32) (x3 : Int32) (t0 : Int32) (H : Heap) (locs : List Loc) (ls : Array Slot), wp_X7_cellOf_46 P Q vM x1 x3 t0 → Wd D A s.heap (mW t aM vM) H locs → lv_has ls 4 [(0, .ref (MA.o aM)), (1, .int x1), (3, .int x3)] → W p l e ({ frames := 1, cells := 0, slots := 0, locals := 20 } : Room) s m args below meth c H locs 0 0 (Ei below args s A D (fun (u : MV) => (mW t aM u)) (fun (r : Int32) (u : MV) => Q r u) 0 0) (F0 m 46 ls [.int t0]) := by
  intro vM x1 x3 t0 H locs ls h hw hl
  have hx := X.1.1
  have hb := X.1.2.1
  refine lv_istore_n (lv' := [(2, .int t0), (0, .ref (MA.o aM)), (1, .int x1), (3, .int x3)]) hx hb dX7_cellOf_46 rfl hl (by decide) rfl (fun ls hl => ?_)
  obtain ⟨x3_4, ex3_4⟩ : ∃ z : Int32, z = x3 + 1 := ⟨_, rfl⟩
  replace h := h x3_4 ex3_4
  refine lv_iinc (v := x3_4) (lv' := [(3, .int x3_4), (2, .int t0), (0, .ref (MA.o aM)), (1, .int x1)]) hx hb dX7_cellOf_47 hl (k := 3) rfl (by rw [ex3_4]; rfl) (by decide) rfl (fun ls hl => ?_)
  refine lv_goto (tgt := 4) hx hb dX7_cellOf_50 (by decide) ?_
  exact hP _ _ _ _ _ _ _ h hw (lv_sub hl [2, 3, 1, 0] rfl)
def wp_X7_cellOf_45 (P : MV → Int32 → Int32 → Int32 → Prop) (Q : Int32 → MV → Prop) (vM : MV) (x1 : Int32) (x2 : Int32) (x3 : Int32) : Prop := wp_X7_cellOf_46  P Q vM x1 x3 x2
set_option maxHeartbeats 4000000 in
set_option maxRecDepth 100000 in
theorem k_X7_cellOf_45 {p : Program} {l : Launch} {e : Env} {s : State} {m : MethodId} {below : List Frame} {meth : Method} {c : Code} {args : Array Value} {D : va_G} {t : T3} {A : Nat → Prop} (X : Cx p s m meth c args cX7_cellOf 4 (some .int) RX7 wsX7_cellOf D t A) (aM : MA) {P : MV → Int32 → Int32 → Int32 → Prop} {Q : Int32 → MV → Prop} (hP : ∀ (vM : MV) (x1 : Int32) (x2 : Int32) (x3 : Int32) (H : Heap) (locs : List Loc) (ls : Array Slot), P vM x1 x2 x3 → Wd D A s.heap (mW t aM vM) H locs → lv_has ls 4 [(0, .ref (MA.o aM)), (1, .int x1), (2, .int x2), (3, .int x3)] → W p l e ({ frames := 1, cells := 0, slots := 0, locals := 20 } : Room) s m args below meth c H locs 0 0 (Ei below args s A D (fun (u : MV) => (mW t aM u)) (fun (r : Int32) (u : MV) => Q r u) 0 0) (F0 m 4 ls [])) : ∀ (vM : MV) (x1 : Int32) (x2 : Int32) (x3 : Int32) (H : Heap) (locs : List Loc) (ls : Array Slot), wp_X7_cellOf_45 P Q vM x1 x2 x3 → Wd D A s.heap (mW t aM vM) H locs → lv_has ls 4 [(0, .ref (MA.o aM)), (1, .int x1), (2, .int x2), (3, .int x3)] → W p l e ({ frames := 1, cells := 0, slots := 0, locals := 20 } : Room) s m args below meth c H locs 0 0 (Ei below args s A D (fun (u : MV) => (mW t aM u)) (fun (r : Int32) (u : MV) => Q r u) 0 0) (F0 m 45 ls []) := by
  intro vM x1 x2 x3 H locs ls h hw hl
  have hx := X.1.1
  have hb := X.1.2.1
  refine lv_iload_n hx hb dX7_cellOf_45 rfl (lv_at hl 2 rfl) ?_
  exact k_X7_cellOf_46 X aM hP _ _ _ _ _ _ _ h hw (lv_sub hl [0, 1, 3] rfl)
def bd_X7_cellOf_4 (Q : Int32 → MV → Prop) (P : MV → Int32 → Int32 → Int32 → Prop) (vM : MV) (x1 : Int32) (x2 : Int32) (x3 : Int32) : Prop := wp_X7_cells vM  (fun (r_2 : Int32) (vM_1 : MV) => (r_2 ≤ x3 → Q x2 vM_1) ∧ (¬ r_2 ≤ x3 → vp_in (28 + x3) 52 ∧ (((MV.z vM_1) (Int32.toNatClampNeg (28 + x3))) = (-1) → wp_X7_cellOf_45  P Q vM_1 x1 x2 x3) ∧ (¬ ((MV.z vM_1) (Int32.toNatClampNeg (28 + x3))) = (-1) → vp_in (28 + x3) 52 ∧ (¬ (((MV.z vM_1) (Int32.toNatClampNeg (28 + x3))) / 8) = x1 → wp_X7_cellOf_45  P Q vM_1 x1 x2 x3) ∧ ((((MV.z vM_1) (Int32.toNatClampNeg (28 + x3))) / 8) = x1 → wp_X7_cellOf_46  P Q vM_1 x1 x3 x3))))
def wp_X7_cellOf_4 (Q : Int32 → MV → Prop)  (vM : MV) (x1 : Int32) (x2 : Int32) (x3 : Int32) : Prop := ∀ P : MV → Int32 → Int32 → Int32 → Prop, (∀ (vM : MV) (x1 : Int32) (x2 : Int32) (x3 : Int32), bd_X7_cellOf_4 Q P  vM x1 x2 x3 → P vM x1 x2 x3) → P vM x1 x2 x3
set_option maxHeartbeats 4000000 in
set_option maxRecDepth 100000 in
theorem kb_X7_cellOf_4 {p : Program} {l : Launch} {e : Env} {s : State} {m : MethodId} {below : List Frame} {meth : Method} {c : Code} {args : Array Value} {D : va_G} {t : T3} {A : Nat → Prop} (X : Cx p s m meth c args cX7_cellOf 4 (some .int) RX7 wsX7_cellOf D t A) (aM : MA) {Q : Int32 → MV → Prop} {P : MV → Int32 → Int32 → Int32 → Prop} (hP : ∀ (vM : MV) (x1 : Int32) (x2 : Int32) (x3 : Int32) (H : Heap) (locs : List Loc) (ls : Array Slot), P vM x1 x2 x3 → Wd D A s.heap (mW t aM vM) H locs → lv_has ls 4 [(0, .ref (MA.o aM)), (1, .int x1), (2, .int x2), (3, .int x3)] → W p l e ({ frames := 1, cells := 0, slots := 0, locals := 20 } : Room) s m args below meth c H locs 0 0 (Ei below args s A D (fun (u : MV) => (mW t aM u)) (fun (r : Int32) (u : MV) => Q r u) 0 0) (F0 m 4 ls [])) : ∀ (vM : MV) (x1 : Int32) (x2 : Int32) (x3 : Int32) (H : Heap) (locs : List Loc) (ls : Array Slot), bd_X7_cellOf_4 Q P  vM x1 x2 x3 → Wd D A s.heap (mW t aM vM) H locs → lv_has ls 4 [(0, .ref (MA.o aM)), (1, .int x1), (2, .int x2), (3, .int x3)] → W p l e ({ frames := 1, cells := 0, slots := 0, locals := 20 } : Room) s m args below meth c H locs 0 0 (Ei below args s A D (fun (u : MV) => (mW t aM u)) (fun (r : Int32) (u : MV) => Q r u) 0 0) (F0 m 4 ls []) := by
  intro vM x1 x2 x3 H locs ls h hw hl
  have hx := X.1.1
  have hb := X.1.2.1
  refine lv_iload_n hx hb dX7_cellOf_4 rfl (lv_at hl 3 rfl) ?_
  refine lv_aload_n hx hb dX7_cellOf_5 rfl (lv_at hl 0 rfl) ?_
  refine r_ci X hw pm_0 (wn := fun (u : MV) => (mW t aM u)) (fun u => pm_0.symm) (r_runV X hw (c_X7_cells l D t aM vM _ h) pm_0 (cwV 0 X.1.2.2.2.2 gX7_cellOf_X7_cells rfl rfl rfl (by decide +kernel) ⟨Nat.le_of_ble_eq_true rfl, Nat.le_of_ble_eq_true rfl⟩) (ci := 7) rfl rfl rfl rfl hl rfl (Nat.le_of_ble_eq_true rfl) dX7_cellOf_6 ⟨Nat.le_of_ble_eq_true rfl, Nat.le_of_ble_eq_true rfl⟩) (fun r_2 u H locs h hw => ?_)
  obtain ⟨vM_1, rfl⟩ : ∃ z, z = u := ⟨_, rfl⟩
  refine lv_icmp_ge (tgt := 53) hx hb dX7_cellOf_9 (by decide) (fun c_8 => ?_) (fun c_8 => ?_)
  · replace h := h.1 c_8
    refine lv_iload_n hx hb dX7_cellOf_53 rfl (lv_at hl 2 rfl) ?_
    exact e_i (w1 := (fun (u : MV) => (mW t aM u))) X (vM_1) hw h dX7_cellOf_54
  replace h := h.2 c_8
  refine lv_aload_n hx hb dX7_cellOf_12 rfl (lv_at hl 0 rfl) ?_
  refine r_get (ci := 7) (C := RX7) (T := TX7) (N := 16) X hw 0 rfl rfl 1 (by decide) in_X7_cellOf_X7 fl_X7_cellOf_7 (v := .ref (MA.z aM)) rfl dX7_cellOf_13 ?_
  refine lv_bipush (v := 28) hx hb dX7_cellOf_16 (by decide) ?_
  refine lv_iload_n hx hb dX7_cellOf_18 rfl (lv_at hl 3 rfl) ?_
  refine lv_iadd hx hb dX7_cellOf_19 ?_
  obtain ⟨hi_3, h⟩ := h
  refine r_iald (v := ((MV.z vM_1) (Int32.toNatClampNeg (28 + x3)))) X hw 1 rfl hi_3 rfl dX7_cellOf_20 ?_
  refine lv_iconst (v := (-1)) hx hb dX7_cellOf_21 (by decide) ?_
  refine lv_icmp_eq (tgt := 45) hx hb dX7_cellOf_22 (by decide) (fun c_7 => ?_) (fun c_7 => ?_)
  · replace h := h.1 c_7
    exact k_X7_cellOf_45 X aM hP _ _ _ _ _ _ _ h hw hl
  replace h := h.2 c_7
  refine lv_aload_n hx hb dX7_cellOf_25 rfl (lv_at hl 0 rfl) ?_
  refine r_get (ci := 7) (C := RX7) (T := TX7) (N := 16) X hw 0 rfl rfl 1 (by decide) in_X7_cellOf_X7 fl_X7_cellOf_7 (v := .ref (MA.z aM)) rfl dX7_cellOf_26 ?_
  refine lv_bipush (v := 28) hx hb dX7_cellOf_29 (by decide) ?_
  refine lv_iload_n hx hb dX7_cellOf_31 rfl (lv_at hl 3 rfl) ?_
  refine lv_iadd hx hb dX7_cellOf_32 ?_
  obtain ⟨hi_5, h⟩ := h
  refine r_iald (v := ((MV.z vM_1) (Int32.toNatClampNeg (28 + x3)))) X hw 1 rfl hi_5 rfl dX7_cellOf_33 ?_
  refine lv_bipush (v := 8) hx hb dX7_cellOf_34 (by decide) ?_
  refine lv_idiv hx hb dX7_cellOf_36 (by decide) ?_
  refine lv_iload_n hx hb dX7_cellOf_37 rfl (lv_at hl 1 rfl) ?_
  refine lv_icmp_ne (tgt := 45) hx hb dX7_cellOf_38 (by decide) (fun c_6 => ?_) (fun c_6 => ?_)
  · replace h := h.1 c_6
    exact k_X7_cellOf_45 X aM hP _ _ _ _ _ _ _ h hw hl
  replace h := h.2 c_6
  refine lv_iload_n hx hb dX7_cellOf_41 rfl (lv_at hl 3 rfl) ?_
  refine lv_goto (tgt := 46) hx hb dX7_cellOf_42 (by decide) ?_
  exact k_X7_cellOf_46 X aM hP _ _ _ _ _ _ _ h hw (lv_sub hl [0, 1, 3] rfl)
set_option maxHeartbeats 4000000 in
set_option maxRecDepth 100000 in
theorem k_X7_cellOf_4 {p : Program} {l : Launch} {e : Env} {s : State} {m : MethodId} {below : List Frame} {meth : Method} {c : Code} {args : Array Value} {D : va_G} {t : T3} {A : Nat → Prop} (X : Cx p s m meth c args cX7_cellOf 4 (some .int) RX7 wsX7_cellOf D t A) (aM : MA) {Q : Int32 → MV → Prop}   : ∀ (vM : MV) (x1 : Int32) (x2 : Int32) (x3 : Int32) (H : Heap) (locs : List Loc) (ls : Array Slot), wp_X7_cellOf_4 Q  vM x1 x2 x3 → Wd D A s.heap (mW t aM vM) H locs → lv_has ls 4 [(0, .ref (MA.o aM)), (1, .int x1), (2, .int x2), (3, .int x3)] → W p l e ({ frames := 1, cells := 0, slots := 0, locals := 20 } : Room) s m args below meth c H locs 0 0 (Ei below args s A D (fun (u : MV) => (mW t aM u)) (fun (r : Int32) (u : MV) => Q r u) 0 0) (F0 m 4 ls []) := by
  intro vM x1 x2 x3 H locs ls h hw hl
  have hx := X.1.1
  have hb := X.1.2.1
  refine h (fun (vM : MV) (x1 : Int32) (x2 : Int32) (x3 : Int32) => ∀ (H : Heap) (locs : List Loc) (ls : Array Slot), Wd D A s.heap (mW t aM vM) H locs → lv_has ls 4 [(0, .ref (MA.o aM)), (1, .int x1), (2, .int x2), (3, .int x3)] → W p l e ({ frames := 1, cells := 0, slots := 0, locals := 20 } : Room) s m args below meth c H locs 0 0 (Ei below args s A D (fun (u : MV) => (mW t aM u)) (fun (r : Int32) (u : MV) => Q r u) 0 0) (F0 m 4 ls [])) (fun vM x1 x2 x3 h H locs ls hw hl => ?_) H locs ls hw hl
  exact kb_X7_cellOf_4 X aM (fun vM x1 x2 x3 H locs ls q hw hl => q H locs ls hw hl)  vM x1 x2 x3 _ _ _ h hw hl
def wp_X7_cellOf (vM : MV) (p1 : Int32) (Q : Int32 → MV → Prop) : Prop := wp_X7_cellOf_4 Q  vM p1 (-1) 0
set_option maxHeartbeats 4000000 in
set_option maxRecDepth 100000 in
theorem c_X7_cellOf (l : Launch) (D : va_G) (t : T3) (aM : MA) (vM : MV) (p1 : Int32) (Q : Int32 → MV → Prop) (h : wp_X7_cellOf vM p1 Q) : Ct l yX7_cellOf wsX7_cellOf 1 20 0 0 [.ref (MA.o aM), .int p1] D t (mW t aM vM) (fun sz => Qi D (mW t aM vM) (fun (u : MV) => (mW t aM u)) (fun (r : Int32) (u : MV) => Q r u) sz) := by
  refine Ct.of (Qf := fun _ A => va_Qi (fun (r : Int32) (u : MV) => Q r u) (B1 D (fun (u : MV) => (mW t aM u)) A) A) cX7_cellOf 4 (some .int) (by decide) rfl (Nat.le_of_ble_eq_true rfl) ?_
  intro p e s m below meth c A ls hAe hin X hw hl
  generalize ([.ref (MA.o aM), .int p1] : List Value).toArray = args at X ⊢
  have hl : lv_has ls 4 [(0, .ref (MA.o aM)), (1, .int p1)] := hl
  have hx := X.1.1
  have hb := X.1.2.1
  refine lv_iconst (v := (-1)) hx hb dX7_cellOf_0 (by decide) ?_
  refine lv_istore_n (lv' := [(2, .int (-1)), (0, .ref (MA.o aM)), (1, .int p1)]) hx hb dX7_cellOf_1 rfl hl (by decide) rfl (fun ls hl => ?_)
  refine lv_iconst (v := 0) hx hb dX7_cellOf_2 (by decide) ?_
  refine lv_istore_n (lv' := [(3, .int 0), (2, .int (-1)), (0, .ref (MA.o aM)), (1, .int p1)]) hx hb dX7_cellOf_3 rfl hl (by decide) rfl (fun ls hl => ?_)
  refine k_X7_cellOf_4 X aM  _ _ _ _ _ _ _ h hw (lv_sub hl [2, 3, 1, 0] rfl)
/-! X7_whyNot -/
theorem in_X7_whyNot_X7 : ∀ w ∈ u_ws RX7 TX7 16, w ∈ wsX7_whyNot := fun w h => (List.mem_cons_of_mem _ (List.mem_append_right _ h))
theorem fl_X7_whyNot_7 : Cond.fieldLink RX7 7 "TwoFacedTilesModel" "z" "[I" ∈ wsX7_whyNot := List.mem_of_getElem? (i := 1) rfl
def wp_X7_whyNot (vM : MV) (p1 : Int32) (p2 : Int32) (Q : Int32 → MV → Prop) : Prop := vp_in (28 + p1) 52 ∧ (((MV.z vM) (Int32.toNatClampNeg (28 + p1))) = (-1) → wp_X7_cellOf vM (p2 / 8) (fun (r_3 : Int32) (vM_2 : MV) => (r_3 = (-1) → wp_X7_misfit vM_2 p1 p2 (fun (r_5 : Int32) (vM_4 : MV) => Q r_5 vM_4)) ∧ (¬ r_3 = (-1) → Q 2 vM_2))) ∧ (¬ ((MV.z vM) (Int32.toNatClampNeg (28 + p1))) = (-1) → Q 1 vM)
set_option maxHeartbeats 4000000 in
set_option maxRecDepth 100000 in
theorem c_X7_whyNot (l : Launch) (D : va_G) (t : T3) (aM : MA) (vM : MV) (p1 : Int32) (p2 : Int32) (Q : Int32 → MV → Prop) (h : wp_X7_whyNot vM p1 p2 Q) : Ct l yX7_whyNot wsX7_whyNot 5 123 0 0 [.ref (MA.o aM), .int p1, .int p2] D t (mW t aM vM) (fun sz => Qi D (mW t aM vM) (fun (u : MV) => (mW t aM u)) (fun (r : Int32) (u : MV) => Q r u) sz) := by
  refine Ct.of (Qf := fun _ A => va_Qi (fun (r : Int32) (u : MV) => Q r u) (B1 D (fun (u : MV) => (mW t aM u)) A) A) cX7_whyNot 3 (some .int) (by decide) rfl (Nat.le_of_ble_eq_true rfl) ?_
  intro p e s m below meth c A ls hAe hin X hw hl
  generalize ([.ref (MA.o aM), .int p1, .int p2] : List Value).toArray = args at X ⊢
  have hl : lv_has ls 3 [(0, .ref (MA.o aM)), (1, .int p1), (2, .int p2)] := hl
  have hx := X.1.1
  have hb := X.1.2.1
  refine lv_aload_n hx hb dX7_whyNot_0 rfl (lv_at hl 0 rfl) ?_
  refine r_get (ci := 7) (C := RX7) (T := TX7) (N := 16) X hw 0 rfl rfl 1 (by decide) in_X7_whyNot_X7 fl_X7_whyNot_7 (v := .ref (MA.z aM)) rfl dX7_whyNot_1 ?_
  refine lv_bipush (v := 28) hx hb dX7_whyNot_4 (by decide) ?_
  refine lv_iload_n hx hb dX7_whyNot_6 rfl (lv_at hl 1 rfl) ?_
  refine lv_iadd hx hb dX7_whyNot_7 ?_
  obtain ⟨hi_1, h⟩ := h
  refine r_iald (v := ((MV.z vM) (Int32.toNatClampNeg (28 + p1)))) X hw 1 rfl hi_1 rfl dX7_whyNot_8 ?_
  refine lv_iconst (v := (-1)) hx hb dX7_whyNot_9 (by decide) ?_
  refine lv_icmp_eq (tgt := 17) hx hb dX7_whyNot_10 (by decide) (fun c_7 => ?_) (fun c_7 => ?_)
  · replace h := h.1 c_7
    refine lv_aload_n hx hb dX7_whyNot_17 rfl (lv_at hl 0 rfl) ?_
    refine lv_iload_n hx hb dX7_whyNot_18 rfl (lv_at hl 2 rfl) ?_
    refine lv_bipush (v := 8) hx hb dX7_whyNot_19 (by decide) ?_
    refine lv_idiv hx hb dX7_whyNot_21 (by decide) ?_
    refine r_ci X hw pm_0 (wn := fun (u : MV) => (mW t aM u)) (fun u => pm_0.symm) (r_runV X hw (c_X7_cellOf l D t aM vM (p2 / 8) _ h) pm_0 (cwV 1 X.1.2.2.2.2 gX7_whyNot_X7_cellOf rfl rfl rfl (by decide +kernel) ⟨Nat.le_of_ble_eq_true rfl, Nat.le_of_ble_eq_true rfl⟩) (ci := 7) rfl rfl rfl rfl hl rfl (Nat.le_of_ble_eq_true rfl) dX7_whyNot_22 ⟨Nat.le_of_ble_eq_true rfl, Nat.le_of_ble_eq_true rfl⟩) (fun r_3 u H locs h hw => ?_)
    obtain ⟨vM_2, rfl⟩ : ∃ z, z = u := ⟨_, rfl⟩
    refine lv_iconst (v := (-1)) hx hb dX7_whyNot_25 (by decide) ?_
    refine lv_icmp_eq (tgt := 33) hx hb dX7_whyNot_26 (by decide) (fun c_6 => ?_) (fun c_6 => ?_)
    · replace h := h.1 c_6
      refine lv_aload_n hx hb dX7_whyNot_33 rfl (lv_at hl 0 rfl) ?_
      refine lv_iload_n hx hb dX7_whyNot_34 rfl (lv_at hl 1 rfl) ?_
      refine lv_iload_n hx hb dX7_whyNot_35 rfl (lv_at hl 2 rfl) ?_
      refine r_ci X hw pm_0 (wn := fun (u : MV) => (mW t aM u)) (fun u => pm_0.symm) (r_runV X hw (c_X7_misfit l D t aM vM_2 p1 p2 _ h) pm_0 (cwV 2 X.1.2.2.2.2 gX7_whyNot_X7_misfit rfl rfl rfl (by decide +kernel) ⟨Nat.le_of_ble_eq_true rfl, Nat.le_of_ble_eq_true rfl⟩) (ci := 7) rfl rfl rfl rfl hl rfl (Nat.le_of_ble_eq_true rfl) dX7_whyNot_36 ⟨Nat.le_of_ble_eq_true rfl, Nat.le_of_ble_eq_true rfl⟩) (fun r_5 u H locs h hw => ?_)
      obtain ⟨vM_4, rfl⟩ : ∃ z, z = u := ⟨_, rfl⟩
      exact e_i (w1 := (fun (u : MV) => (mW t aM u))) X (vM_4) hw h dX7_whyNot_39
    replace h := h.2 c_6
    refine lv_iconst (v := 2) hx hb dX7_whyNot_29 (by decide) ?_
    refine lv_goto (tgt := 39) hx hb dX7_whyNot_30 (by decide) ?_
    exact e_i (w1 := (fun (u : MV) => (mW t aM u))) X (vM_2) hw h dX7_whyNot_39
  replace h := h.2 c_7
  refine lv_iconst (v := 1) hx hb dX7_whyNot_13 (by decide) ?_
  refine lv_goto (tgt := 39) hx hb dX7_whyNot_14 (by decide) ?_
  exact e_i (w1 := (fun (u : MV) => (mW t aM u))) X (vM) hw h dX7_whyNot_39
/-! X7_possibleFrom -/
theorem in_X7_possibleFrom_X7 : ∀ w ∈ u_ws RX7 TX7 16, w ∈ wsX7_possibleFrom := fun w h => (List.mem_cons_of_mem _ (List.mem_append_right _ h))
theorem fl_X7_possibleFrom_7 : Cond.fieldLink RX7 7 "TwoFacedTilesModel" "z" "[I" ∈ wsX7_possibleFrom := List.mem_of_getElem? (i := 1) rfl
def bd_X7_possibleFrom_2 (Q : Int32 → MV → Prop) (P : MV → Int32 → Int32 → Prop) (vM : MV) (x1 : Int32) (x3 : Int32) : Prop := ((8 * ((MV.z vM) 3)) ≤ x3 → Q (-1) vM) ∧ (¬ (8 * ((MV.z vM) 3)) ≤ x3 → wp_X7_whyNot vM x1 x3 (fun (r_2 : Int32) (vM_1 : MV) => (¬ r_2 = 0 → ∀ x3_3 : Int32, x3_3 = x3 + 1 → P vM_1 x1 x3_3) ∧ (r_2 = 0 → Q x3 vM_1)))
def wp_X7_possibleFrom_2 (Q : Int32 → MV → Prop)  (vM : MV) (x1 : Int32) (x3 : Int32) : Prop := ∀ P : MV → Int32 → Int32 → Prop, (∀ (vM : MV) (x1 : Int32) (x3 : Int32), bd_X7_possibleFrom_2 Q P  vM x1 x3 → P vM x1 x3) → P vM x1 x3
set_option maxHeartbeats 4000000 in
set_option maxRecDepth 100000 in
theorem kb_X7_possibleFrom_2 {p : Program} {l : Launch} {e : Env} {s : State} {m : MethodId} {below : List Frame} {meth : Method} {c : Code} {args : Array Value} {D : va_G} {t : T3} {A : Nat → Prop} (X : Cx p s m meth c args cX7_possibleFrom 4 (some .int) RX7 wsX7_possibleFrom D t A) (aM : MA) {Q : Int32 → MV → Prop} {P : MV → Int32 → Int32 → Prop} (hP : ∀ (vM : MV) (x1 : Int32) (x3 : Int32) (H : Heap) (locs : List Loc) (ls : Array Slot), P vM x1 x3 → Wd D A s.heap (mW t aM vM) H locs → lv_has ls 4 [(0, .ref (MA.o aM)), (1, .int x1), (3, .int x3)] → W p l e ({ frames := 6, cells := 0, slots := 0, locals := 145 } : Room) s m args below meth c H locs 0 0 (Ei below args s A D (fun (u : MV) => (mW t aM u)) (fun (r : Int32) (u : MV) => Q r u) 0 0) (F0 m 2 ls [])) : ∀ (vM : MV) (x1 : Int32) (x3 : Int32) (H : Heap) (locs : List Loc) (ls : Array Slot), bd_X7_possibleFrom_2 Q P  vM x1 x3 → Wd D A s.heap (mW t aM vM) H locs → lv_has ls 4 [(0, .ref (MA.o aM)), (1, .int x1), (3, .int x3)] → W p l e ({ frames := 6, cells := 0, slots := 0, locals := 145 } : Room) s m args below meth c H locs 0 0 (Ei below args s A D (fun (u : MV) => (mW t aM u)) (fun (r : Int32) (u : MV) => Q r u) 0 0) (F0 m 2 ls []) := by
  intro vM x1 x3 H locs ls h hw hl
  have hx := X.1.1
  have hb := X.1.2.1
  refine lv_iload_n hx hb dX7_possibleFrom_2 rfl (lv_at hl 2 rfl) ?_
  refine lv_bipush (v := 8) hx hb dX7_possibleFrom_3 (by decide) ?_
  refine lv_aload_n hx hb dX7_possibleFrom_5 rfl (lv_at hl 0 rfl) ?_
  refine r_get (ci := 7) (C := RX7) (T := TX7) (N := 16) X hw 0 rfl rfl 1 (by decide) in_X7_possibleFrom_X7 fl_X7_possibleFrom_7 (v := .ref (MA.z aM)) rfl dX7_possibleFrom_6 ?_
  refine lv_iconst (v := 3) hx hb dX7_possibleFrom_9 (by decide) ?_
  refine r_iald (v := ((MV.z vM) 3)) X hw 1 rfl (vpl rfl) rfl dX7_possibleFrom_10 ?_
  refine lv_imul hx hb dX7_possibleFrom_11 ?_
  refine lv_icmp_ge (tgt := 32) hx hb dX7_possibleFrom_12 (by decide) (fun c_5 => ?_) (fun c_5 => ?_)
  · replace h := h.1 c_5
    refine lv_iconst (v := (-1)) hx hb dX7_possibleFrom_32 (by decide) ?_
    exact e_i (w1 := (fun (u : MV) => (mW t aM u))) X (vM) hw h dX7_possibleFrom_33
  replace h := h.2 c_5
  refine lv_aload_n hx hb dX7_possibleFrom_15 rfl (lv_at hl 0 rfl) ?_
  refine lv_iload_n hx hb dX7_possibleFrom_16 rfl (lv_at hl 1 rfl) ?_
  refine lv_iload_n hx hb dX7_possibleFrom_17 rfl (lv_at hl 2 rfl) ?_
  refine r_ci X hw pm_0 (wn := fun (u : MV) => (mW t aM u)) (fun u => pm_0.symm) (r_runV X hw (c_X7_whyNot l D t aM vM x1 x3 _ h) pm_0 (cwV 2 X.1.2.2.2.2 gX7_possibleFrom_X7_whyNot rfl rfl rfl (by decide +kernel) ⟨Nat.le_of_ble_eq_true rfl, Nat.le_of_ble_eq_true rfl⟩) (ci := 7) rfl rfl rfl rfl hl rfl (Nat.le_of_ble_eq_true rfl) dX7_possibleFrom_18 ⟨Nat.le_of_ble_eq_true rfl, Nat.le_of_ble_eq_true rfl⟩) (fun r_2 u H locs h hw => ?_)
  obtain ⟨vM_1, rfl⟩ : ∃ z, z = u := ⟨_, rfl⟩
  refine lv_if_ne (tgt := 26) hx hb dX7_possibleFrom_21 (by decide) (fun c_4 => ?_) (fun c_4 => ?_)
  · replace h := h.1 c_4
    obtain ⟨x3_3, ex3_3⟩ : ∃ z : Int32, z = x3 + 1 := ⟨_, rfl⟩
    replace h := h x3_3 ex3_3
    refine lv_iinc (v := x3_3) (lv' := [(3, .int x3_3), (0, .ref (MA.o aM)), (1, .int x1)]) hx hb dX7_possibleFrom_26 hl (k := 2) rfl (by rw [ex3_3]; rfl) (by decide) rfl (fun ls hl => ?_)
    refine lv_goto (tgt := 2) hx hb dX7_possibleFrom_29 (by decide) ?_
    exact hP _ _ _ _ _ _ h hw (lv_sub hl [1, 2, 0] rfl)
  replace h := h.2 c_4
  refine lv_iload_n hx hb dX7_possibleFrom_24 rfl (lv_at hl 2 rfl) ?_
  exact e_i (w1 := (fun (u : MV) => (mW t aM u))) X (vM_1) hw h dX7_possibleFrom_25
set_option maxHeartbeats 4000000 in
set_option maxRecDepth 100000 in
theorem k_X7_possibleFrom_2 {p : Program} {l : Launch} {e : Env} {s : State} {m : MethodId} {below : List Frame} {meth : Method} {c : Code} {args : Array Value} {D : va_G} {t : T3} {A : Nat → Prop} (X : Cx p s m meth c args cX7_possibleFrom 4 (some .int) RX7 wsX7_possibleFrom D t A) (aM : MA) {Q : Int32 → MV → Prop}   : ∀ (vM : MV) (x1 : Int32) (x3 : Int32) (H : Heap) (locs : List Loc) (ls : Array Slot), wp_X7_possibleFrom_2 Q  vM x1 x3 → Wd D A s.heap (mW t aM vM) H locs → lv_has ls 4 [(0, .ref (MA.o aM)), (1, .int x1), (3, .int x3)] → W p l e ({ frames := 6, cells := 0, slots := 0, locals := 145 } : Room) s m args below meth c H locs 0 0 (Ei below args s A D (fun (u : MV) => (mW t aM u)) (fun (r : Int32) (u : MV) => Q r u) 0 0) (F0 m 2 ls []) := by
  intro vM x1 x3 H locs ls h hw hl
  have hx := X.1.1
  have hb := X.1.2.1
  refine h (fun (vM : MV) (x1 : Int32) (x3 : Int32) => ∀ (H : Heap) (locs : List Loc) (ls : Array Slot), Wd D A s.heap (mW t aM vM) H locs → lv_has ls 4 [(0, .ref (MA.o aM)), (1, .int x1), (3, .int x3)] → W p l e ({ frames := 6, cells := 0, slots := 0, locals := 145 } : Room) s m args below meth c H locs 0 0 (Ei below args s A D (fun (u : MV) => (mW t aM u)) (fun (r : Int32) (u : MV) => Q r u) 0 0) (F0 m 2 ls [])) (fun vM x1 x3 h H locs ls hw hl => ?_) H locs ls hw hl
  exact kb_X7_possibleFrom_2 X aM (fun vM x1 x3 H locs ls q hw hl => q H locs ls hw hl)  vM x1 x3 _ _ _ h hw hl
def wp_X7_possibleFrom (vM : MV) (p1 : Int32) (p2 : Int32) (Q : Int32 → MV → Prop) : Prop := wp_X7_possibleFrom_2 Q  vM p1 p2
set_option maxHeartbeats 4000000 in
set_option maxRecDepth 100000 in
theorem c_X7_possibleFrom (l : Launch) (D : va_G) (t : T3) (aM : MA) (vM : MV) (p1 : Int32) (p2 : Int32) (Q : Int32 → MV → Prop) (h : wp_X7_possibleFrom vM p1 p2 Q) : Ct l yX7_possibleFrom wsX7_possibleFrom 6 145 0 0 [.ref (MA.o aM), .int p1, .int p2] D t (mW t aM vM) (fun sz => Qi D (mW t aM vM) (fun (u : MV) => (mW t aM u)) (fun (r : Int32) (u : MV) => Q r u) sz) := by
  refine Ct.of (Qf := fun _ A => va_Qi (fun (r : Int32) (u : MV) => Q r u) (B1 D (fun (u : MV) => (mW t aM u)) A) A) cX7_possibleFrom 4 (some .int) (by decide) rfl (Nat.le_of_ble_eq_true rfl) ?_
  intro p e s m below meth c A ls hAe hin X hw hl
  generalize ([.ref (MA.o aM), .int p1, .int p2] : List Value).toArray = args at X ⊢
  have hl : lv_has ls 4 [(0, .ref (MA.o aM)), (1, .int p1), (2, .int p2)] := hl
  have hx := X.1.1
  have hb := X.1.2.1
  refine lv_iload_n hx hb dX7_possibleFrom_0 rfl (lv_at hl 2 rfl) ?_
  refine lv_istore_n (lv' := [(3, .int p2), (0, .ref (MA.o aM)), (1, .int p1), (2, .int p2)]) hx hb dX7_possibleFrom_1 rfl hl (by decide) rfl (fun ls hl => ?_)
  refine k_X7_possibleFrom_2 X aM  _ _ _ _ _ _ h hw (lv_sub hl [1, 2, 0] rfl)
/-! X7_possibleMany -/
theorem in_X7_possibleMany_X7 : ∀ w ∈ u_ws RX7 TX7 16, w ∈ wsX7_possibleMany := fun w h => (List.mem_cons_of_mem _ (List.mem_append_right _ h))
theorem fl_X7_possibleMany_7 : Cond.fieldLink RX7 7 "TwoFacedTilesModel" "z" "[I" ∈ wsX7_possibleMany := List.mem_of_getElem? (i := 1) rfl
def wp_X7_possibleMany_32 (P : MV → Int32 → Int32 → Int32 → Prop) (Q : Int32 → MV → Prop) (vM : MV) (x1 : Int32) (x3 : Int32) (t0 : Int32) (t1 : Int32) : Prop := ∀ x2_3 : Int32, x2_3 = (t0 + t1) → ∀ x3_4 : Int32, x3_4 = x3 + 1 → P vM x1 x2_3 x3_4
set_option maxHeartbeats 4000000 in
set_option maxRecDepth 100000 in
theorem k_X7_possibleMany_32 {p : Program} {l : Launch} {e : Env} {s : State} {m : MethodId} {below : List Frame} {meth : Method} {c : Code} {args : Array Value} {D : va_G} {t : T3} {A : Nat → Prop} (X : Cx p s m meth c args cX7_possibleMany 4 (some .int) RX7 wsX7_possibleMany D t A) (aM : MA) {P : MV → Int32 → Int32 → Int32 → Prop} {Q : Int32 → MV → Prop} (hP : ∀ (vM : MV) (x1 : Int32) (x2 : Int32) (x3 : Int32) (H : Heap) (locs : List Loc) (ls : Array Slot), P vM x1 x2 x3 → Wd D A s.heap (mW t aM vM) H locs → lv_has ls 4 [(0, .ref (MA.o aM)), (1, .int x1), (2, .int x2), (3, .int x3)] → W p l e ({ frames := 6, cells := 0, slots := 0, locals := 145 } : Room) s m args below meth c H locs 0 0 (Ei below args s A D (fun (u : MV) => (mW t aM u)) (fun (r : Int32) (u : MV) => Q r u) 0 0) (F0 m 4 ls [])) : ∀ (vM : MV) (x1 : Int32) (x3 : Int32) (t0 : Int32) (t1 : Int32) (H : Heap) (locs : List Loc) (ls : Array Slot), wp_X7_possibleMany_32 P Q vM x1 x3 t0 t1 → Wd D A s.heap (mW t aM vM) H locs → lv_has ls 4 [(0, .ref (MA.o aM)), (1, .int x1), (3, .int x3)] → W p l e ({ frames := 6, cells := 0, slots := 0, locals := 145 } : Room) s m args below meth c H locs 0 0 (Ei below args s A D (fun (u : MV) => (mW t aM u)) (fun (r : Int32) (u : MV) => Q r u) 0 0) (F0 m 32 ls [.int t1, .int t0]) := by
  intro vM x1 x3 t0 t1 H locs ls h hw hl
  have hx := X.1.1
  have hb := X.1.2.1
  refine lv_iadd hx hb dX7_possibleMany_32 ?_
  refine lv_topi (fun x2_3 ex2_3 => ?_)
  replace h := h x2_3 ex2_3
  refine lv_istore_n (lv' := [(2, .int x2_3), (0, .ref (MA.o aM)), (1, .int x1), (3, .int x3)]) hx hb dX7_possibleMany_33 rfl hl (by decide) rfl (fun ls hl => ?_)
  obtain ⟨x3_4, ex3_4⟩ : ∃ z : Int32, z = x3 + 1 := ⟨_, rfl⟩
  replace h := h x3_4 ex3_4
  refine lv_iinc (v := x3_4) (lv' := [(3, .int x3_4), (2, .int x2_3), (0, .ref (MA.o aM)), (1, .int x1)]) hx hb dX7_possibleMany_34 hl (k := 3) rfl (by rw [ex3_4]; rfl) (by decide) rfl (fun ls hl => ?_)
  refine lv_goto (tgt := 4) hx hb dX7_possibleMany_37 (by decide) ?_
  exact hP _ _ _ _ _ _ _ h hw (lv_sub hl [2, 3, 1, 0] rfl)
def bd_X7_possibleMany_4 (Q : Int32 → MV → Prop) (P : MV → Int32 → Int32 → Int32 → Prop) (vM : MV) (x1 : Int32) (x2 : Int32) (x3 : Int32) : Prop := ((8 * ((MV.z vM) 3)) ≤ x3 → Q x2 vM) ∧ (¬ (8 * ((MV.z vM) 3)) ≤ x3 → wp_X7_whyNot vM x1 x3 (fun (r_2 : Int32) (vM_1 : MV) => (¬ r_2 = 0 → wp_X7_possibleMany_32  P Q vM_1 x1 x3 x2 0) ∧ (r_2 = 0 → wp_X7_possibleMany_32  P Q vM_1 x1 x3 x2 1)))
def wp_X7_possibleMany_4 (Q : Int32 → MV → Prop)  (vM : MV) (x1 : Int32) (x2 : Int32) (x3 : Int32) : Prop := ∀ P : MV → Int32 → Int32 → Int32 → Prop, (∀ (vM : MV) (x1 : Int32) (x2 : Int32) (x3 : Int32), bd_X7_possibleMany_4 Q P  vM x1 x2 x3 → P vM x1 x2 x3) → P vM x1 x2 x3
set_option maxHeartbeats 4000000 in
set_option maxRecDepth 100000 in
theorem kb_X7_possibleMany_4 {p : Program} {l : Launch} {e : Env} {s : State} {m : MethodId} {below : List Frame} {meth : Method} {c : Code} {args : Array Value} {D : va_G} {t : T3} {A : Nat → Prop} (X : Cx p s m meth c args cX7_possibleMany 4 (some .int) RX7 wsX7_possibleMany D t A) (aM : MA) {Q : Int32 → MV → Prop} {P : MV → Int32 → Int32 → Int32 → Prop} (hP : ∀ (vM : MV) (x1 : Int32) (x2 : Int32) (x3 : Int32) (H : Heap) (locs : List Loc) (ls : Array Slot), P vM x1 x2 x3 → Wd D A s.heap (mW t aM vM) H locs → lv_has ls 4 [(0, .ref (MA.o aM)), (1, .int x1), (2, .int x2), (3, .int x3)] → W p l e ({ frames := 6, cells := 0, slots := 0, locals := 145 } : Room) s m args below meth c H locs 0 0 (Ei below args s A D (fun (u : MV) => (mW t aM u)) (fun (r : Int32) (u : MV) => Q r u) 0 0) (F0 m 4 ls [])) : ∀ (vM : MV) (x1 : Int32) (x2 : Int32) (x3 : Int32) (H : Heap) (locs : List Loc) (ls : Array Slot), bd_X7_possibleMany_4 Q P  vM x1 x2 x3 → Wd D A s.heap (mW t aM vM) H locs → lv_has ls 4 [(0, .ref (MA.o aM)), (1, .int x1), (2, .int x2), (3, .int x3)] → W p l e ({ frames := 6, cells := 0, slots := 0, locals := 145 } : Room) s m args below meth c H locs 0 0 (Ei below args s A D (fun (u : MV) => (mW t aM u)) (fun (r : Int32) (u : MV) => Q r u) 0 0) (F0 m 4 ls []) := by
  intro vM x1 x2 x3 H locs ls h hw hl
  have hx := X.1.1
  have hb := X.1.2.1
  refine lv_iload_n hx hb dX7_possibleMany_4 rfl (lv_at hl 3 rfl) ?_
  refine lv_bipush (v := 8) hx hb dX7_possibleMany_5 (by decide) ?_
  refine lv_aload_n hx hb dX7_possibleMany_7 rfl (lv_at hl 0 rfl) ?_
  refine r_get (ci := 7) (C := RX7) (T := TX7) (N := 16) X hw 0 rfl rfl 1 (by decide) in_X7_possibleMany_X7 fl_X7_possibleMany_7 (v := .ref (MA.z aM)) rfl dX7_possibleMany_8 ?_
  refine lv_iconst (v := 3) hx hb dX7_possibleMany_11 (by decide) ?_
  refine r_iald (v := ((MV.z vM) 3)) X hw 1 rfl (vpl rfl) rfl dX7_possibleMany_12 ?_
  refine lv_imul hx hb dX7_possibleMany_13 ?_
  refine lv_icmp_ge (tgt := 40) hx hb dX7_possibleMany_14 (by decide) (fun c_6 => ?_) (fun c_6 => ?_)
  · replace h := h.1 c_6
    refine lv_iload_n hx hb dX7_possibleMany_40 rfl (lv_at hl 2 rfl) ?_
    exact e_i (w1 := (fun (u : MV) => (mW t aM u))) X (vM) hw h dX7_possibleMany_41
  replace h := h.2 c_6
  refine lv_iload_n hx hb dX7_possibleMany_17 rfl (lv_at hl 2 rfl) ?_
  refine lv_aload_n hx hb dX7_possibleMany_18 rfl (lv_at hl 0 rfl) ?_
  refine lv_iload_n hx hb dX7_possibleMany_19 rfl (lv_at hl 1 rfl) ?_
  refine lv_iload_n hx hb dX7_possibleMany_20 rfl (lv_at hl 3 rfl) ?_
  refine r_ci X hw pm_0 (wn := fun (u : MV) => (mW t aM u)) (fun u => pm_0.symm) (r_runV X hw (c_X7_whyNot l D t aM vM x1 x3 _ h) pm_0 (cwV 2 X.1.2.2.2.2 gX7_possibleMany_X7_whyNot rfl rfl rfl (by decide +kernel) ⟨Nat.le_of_ble_eq_true rfl, Nat.le_of_ble_eq_true rfl⟩) (ci := 7) rfl rfl rfl rfl hl rfl (Nat.le_of_ble_eq_true rfl) dX7_possibleMany_21 ⟨Nat.le_of_ble_eq_true rfl, Nat.le_of_ble_eq_true rfl⟩) (fun r_2 u H locs h hw => ?_)
  obtain ⟨vM_1, rfl⟩ : ∃ z, z = u := ⟨_, rfl⟩
  refine lv_if_ne (tgt := 31) hx hb dX7_possibleMany_24 (by decide) (fun c_5 => ?_) (fun c_5 => ?_)
  · replace h := h.1 c_5
    refine lv_iconst (v := 0) hx hb dX7_possibleMany_31 (by decide) ?_
    exact k_X7_possibleMany_32 X aM hP _ _ _ _ _ _ _ _ h hw (lv_sub hl [0, 1, 3] rfl)
  replace h := h.2 c_5
  refine lv_iconst (v := 1) hx hb dX7_possibleMany_27 (by decide) ?_
  refine lv_goto (tgt := 32) hx hb dX7_possibleMany_28 (by decide) ?_
  exact k_X7_possibleMany_32 X aM hP _ _ _ _ _ _ _ _ h hw (lv_sub hl [0, 1, 3] rfl)
set_option maxHeartbeats 4000000 in
set_option maxRecDepth 100000 in
theorem k_X7_possibleMany_4 {p : Program} {l : Launch} {e : Env} {s : State} {m : MethodId} {below : List Frame} {meth : Method} {c : Code} {args : Array Value} {D : va_G} {t : T3} {A : Nat → Prop} (X : Cx p s m meth c args cX7_possibleMany 4 (some .int) RX7 wsX7_possibleMany D t A) (aM : MA) {Q : Int32 → MV → Prop}   : ∀ (vM : MV) (x1 : Int32) (x2 : Int32) (x3 : Int32) (H : Heap) (locs : List Loc) (ls : Array Slot), wp_X7_possibleMany_4 Q  vM x1 x2 x3 → Wd D A s.heap (mW t aM vM) H locs → lv_has ls 4 [(0, .ref (MA.o aM)), (1, .int x1), (2, .int x2), (3, .int x3)] → W p l e ({ frames := 6, cells := 0, slots := 0, locals := 145 } : Room) s m args below meth c H locs 0 0 (Ei below args s A D (fun (u : MV) => (mW t aM u)) (fun (r : Int32) (u : MV) => Q r u) 0 0) (F0 m 4 ls []) := by
  intro vM x1 x2 x3 H locs ls h hw hl
  have hx := X.1.1
  have hb := X.1.2.1
  refine h (fun (vM : MV) (x1 : Int32) (x2 : Int32) (x3 : Int32) => ∀ (H : Heap) (locs : List Loc) (ls : Array Slot), Wd D A s.heap (mW t aM vM) H locs → lv_has ls 4 [(0, .ref (MA.o aM)), (1, .int x1), (2, .int x2), (3, .int x3)] → W p l e ({ frames := 6, cells := 0, slots := 0, locals := 145 } : Room) s m args below meth c H locs 0 0 (Ei below args s A D (fun (u : MV) => (mW t aM u)) (fun (r : Int32) (u : MV) => Q r u) 0 0) (F0 m 4 ls [])) (fun vM x1 x2 x3 h H locs ls hw hl => ?_) H locs ls hw hl
  exact kb_X7_possibleMany_4 X aM (fun vM x1 x2 x3 H locs ls q hw hl => q H locs ls hw hl)  vM x1 x2 x3 _ _ _ h hw hl
def wp_X7_possibleMany (vM : MV) (p1 : Int32) (Q : Int32 → MV → Prop) : Prop := wp_X7_possibleMany_4 Q  vM p1 0 0
set_option maxHeartbeats 4000000 in
set_option maxRecDepth 100000 in
theorem c_X7_possibleMany (l : Launch) (D : va_G) (t : T3) (aM : MA) (vM : MV) (p1 : Int32) (Q : Int32 → MV → Prop) (h : wp_X7_possibleMany vM p1 Q) : Ct l yX7_possibleMany wsX7_possibleMany 6 145 0 0 [.ref (MA.o aM), .int p1] D t (mW t aM vM) (fun sz => Qi D (mW t aM vM) (fun (u : MV) => (mW t aM u)) (fun (r : Int32) (u : MV) => Q r u) sz) := by
  refine Ct.of (Qf := fun _ A => va_Qi (fun (r : Int32) (u : MV) => Q r u) (B1 D (fun (u : MV) => (mW t aM u)) A) A) cX7_possibleMany 4 (some .int) (by decide) rfl (Nat.le_of_ble_eq_true rfl) ?_
  intro p e s m below meth c A ls hAe hin X hw hl
  generalize ([.ref (MA.o aM), .int p1] : List Value).toArray = args at X ⊢
  have hl : lv_has ls 4 [(0, .ref (MA.o aM)), (1, .int p1)] := hl
  have hx := X.1.1
  have hb := X.1.2.1
  refine lv_iconst (v := 0) hx hb dX7_possibleMany_0 (by decide) ?_
  refine lv_istore_n (lv' := [(2, .int 0), (0, .ref (MA.o aM)), (1, .int p1)]) hx hb dX7_possibleMany_1 rfl hl (by decide) rfl (fun ls hl => ?_)
  refine lv_iconst (v := 0) hx hb dX7_possibleMany_2 (by decide) ?_
  refine lv_istore_n (lv' := [(3, .int 0), (2, .int 0), (0, .ref (MA.o aM)), (1, .int p1)]) hx hb dX7_possibleMany_3 rfl hl (by decide) rfl (fun ls hl => ?_)
  refine k_X7_possibleMany_4 X aM  _ _ _ _ _ _ _ h hw (lv_sub hl [2, 3, 1, 0] rfl)
/-! X7_search -/
theorem in_X7_search_X7 : ∀ w ∈ u_ws RX7 TX7 16, w ∈ wsX7_search := fun w h => (List.mem_cons_of_mem _ (List.mem_append_right _ h))
theorem fl_X7_search_7 : Cond.fieldLink RX7 7 "TwoFacedTilesModel" "z" "[I" ∈ wsX7_search := List.mem_of_getElem? (i := 1) rfl
theorem fl_X7_search_19 : Cond.fieldLink RX7 19 "TwoFacedTilesModel" "open" "[I" ∈ wsX7_search := List.mem_of_getElem? (i := 2) rfl
theorem fl_X7_search_85 : Cond.fieldLink RX7 85 "TwoFacedTilesModel" "found" "I" ∈ wsX7_search := List.mem_of_getElem? (i := 3) rfl
theorem fl_X7_search_88 : Cond.fieldLink RX7 88 "TwoFacedTilesModel" "steps" "I" ∈ wsX7_search := List.mem_of_getElem? (i := 4) rfl
theorem fl_X7_search_91 : Cond.fieldLink RX7 91 "TwoFacedTilesModel" "isCut" "Z" ∈ wsX7_search := List.mem_of_getElem? (i := 5) rfl
def wp_X7_search_39 (P : MV → Int32 → Int32 → Int32 → Int32 → Prop) (K45 : MV → Int32 → Int32 → Int32 → Prop) (Q : MV → Prop) (vM : MV) (x1 : Int32) (x2 : Int32) (x3 : Int32) (x4 : Int32) : Prop := ∀ x4_4 : Int32, x4_4 = x4 + 1 → P vM x1 x2 x3 x4_4
set_option maxHeartbeats 4000000 in
set_option maxRecDepth 100000 in
theorem k_X7_search_39 {p : Program} {l : Launch} {e : Env} {s : State} {m : MethodId} {below : List Frame} {meth : Method} {c : Code} {args : Array Value} {D : va_G} {t : T3} {A : Nat → Prop} (X : Cx p s m meth c args cX7_search 8 none RX7 wsX7_search D t A) (aM : MA) {P : MV → Int32 → Int32 → Int32 → Int32 → Prop} {K45 : MV → Int32 → Int32 → Int32 → Prop} {Q : MV → Prop} (hP : ∀ (vM : MV) (x1 : Int32) (x2 : Int32) (x3 : Int32) (x4 : Int32) (H : Heap) (locs : List Loc) (ls : Array Slot), P vM x1 x2 x3 x4 → Wd D A s.heap (mW t aM vM) H locs → lv_has ls 8 [(0, .ref (MA.o aM)), (1, .int x1), (2, .int x2), (3, .int x3), (4, .int x4)] → W p l e ({ frames := 7, cells := 0, slots := 0, locals := 168 } : Room) s m args below meth c H locs 0 0 (Ev below args s A D (fun (u : MV) => (mW t aM u)) (fun (u : MV) => Q u) 0 0) (F0 m 5 ls [])) (hK45 : ∀ (vM : MV) (x1 : Int32) (x2 : Int32) (x3 : Int32) (H : Heap) (locs : List Loc) (ls : Array Slot), K45 vM x1 x2 x3 → Wd D A s.heap (mW t aM vM) H locs → lv_has ls 8 [(0, .ref (MA.o aM)), (1, .int x1), (2, .int x2), (3, .int x3)] → W p l e ({ frames := 7, cells := 0, slots := 0, locals := 168 } : Room) s m args below meth c H locs 0 0 (Ev below args s A D (fun (u : MV) => (mW t aM u)) (fun (u : MV) => Q u) 0 0) (F0 m 45 ls [])) : ∀ (vM : MV) (x1 : Int32) (x2 : Int32) (x3 : Int32) (x4 : Int32) (H : Heap) (locs : List Loc) (ls : Array Slot), wp_X7_search_39 P K45 Q vM x1 x2 x3 x4 → Wd D A s.heap (mW t aM vM) H locs → lv_has ls 8 [(0, .ref (MA.o aM)), (1, .int x1), (2, .int x2), (3, .int x3), (4, .int x4)] → W p l e ({ frames := 7, cells := 0, slots := 0, locals := 168 } : Room) s m args below meth c H locs 0 0 (Ev below args s A D (fun (u : MV) => (mW t aM u)) (fun (u : MV) => Q u) 0 0) (F0 m 39 ls []) := by
  intro vM x1 x2 x3 x4 H locs ls h hw hl
  have hx := X.1.1
  have hb := X.1.2.1
  obtain ⟨x4_4, ex4_4⟩ : ∃ z : Int32, z = x4 + 1 := ⟨_, rfl⟩
  replace h := h x4_4 ex4_4
  refine lv_iinc (v := x4_4) (lv' := [(4, .int x4_4), (0, .ref (MA.o aM)), (1, .int x1), (2, .int x2), (3, .int x3)]) hx hb dX7_search_39 hl (k := 4) rfl (by rw [ex4_4]; rfl) (by decide) rfl (fun ls hl => ?_)
  refine lv_goto (tgt := 5) hx hb dX7_search_42 (by decide) ?_
  exact hP _ _ _ _ _ _ _ _ h hw (lv_sub hl [1, 2, 3, 4, 0] rfl)
def bd_X7_search_5 (Q : MV → Prop) (P : MV → Int32 → Int32 → Int32 → Int32 → Prop) (K45 : MV → Int32 → Int32 → Int32 → Prop) (vM : MV) (x1 : Int32) (x2 : Int32) (x3 : Int32) (x4 : Int32) : Prop := wp_X7_cells vM  (fun (r_2 : Int32) (vM_1 : MV) => (r_2 ≤ x4 → K45 vM_1 x1 x2 x3) ∧ (¬ r_2 ≤ x4 → vp_in (28 + x4) 52 ∧ (¬ ((MV.z vM_1) (Int32.toNatClampNeg (28 + x4))) = (-1) → wp_X7_search_39  P K45 Q vM_1 x1 x2 x3 x4) ∧ (((MV.z vM_1) (Int32.toNatClampNeg (28 + x4))) = (-1) → vp_in x3 12 ∧ ∀ o_6 : Nat → Int32, o_6 = upd (MV.opn vM_1) (Int32.toNatClampNeg x3) x4 → ∀ x3_7 : Int32, x3_7 = x3 + 1 → wp_X7_search_39  P K45 Q (MV.s_opn vM_1 o_6) x1 x2 x3_7 x4)))
def wp_X7_search_5 (Q : MV → Prop) (K45 : MV → Int32 → Int32 → Int32 → Prop) (vM : MV) (x1 : Int32) (x2 : Int32) (x3 : Int32) (x4 : Int32) : Prop := ∀ P : MV → Int32 → Int32 → Int32 → Int32 → Prop, (∀ (vM : MV) (x1 : Int32) (x2 : Int32) (x3 : Int32) (x4 : Int32), bd_X7_search_5 Q P K45 vM x1 x2 x3 x4 → P vM x1 x2 x3 x4) → P vM x1 x2 x3 x4
set_option maxHeartbeats 4000000 in
set_option maxRecDepth 100000 in
theorem kb_X7_search_5 {p : Program} {l : Launch} {e : Env} {s : State} {m : MethodId} {below : List Frame} {meth : Method} {c : Code} {args : Array Value} {D : va_G} {t : T3} {A : Nat → Prop} (X : Cx p s m meth c args cX7_search 8 none RX7 wsX7_search D t A) (aM : MA) {Q : MV → Prop} {P : MV → Int32 → Int32 → Int32 → Int32 → Prop} {K45 : MV → Int32 → Int32 → Int32 → Prop} (hP : ∀ (vM : MV) (x1 : Int32) (x2 : Int32) (x3 : Int32) (x4 : Int32) (H : Heap) (locs : List Loc) (ls : Array Slot), P vM x1 x2 x3 x4 → Wd D A s.heap (mW t aM vM) H locs → lv_has ls 8 [(0, .ref (MA.o aM)), (1, .int x1), (2, .int x2), (3, .int x3), (4, .int x4)] → W p l e ({ frames := 7, cells := 0, slots := 0, locals := 168 } : Room) s m args below meth c H locs 0 0 (Ev below args s A D (fun (u : MV) => (mW t aM u)) (fun (u : MV) => Q u) 0 0) (F0 m 5 ls [])) (hK45 : ∀ (vM : MV) (x1 : Int32) (x2 : Int32) (x3 : Int32) (H : Heap) (locs : List Loc) (ls : Array Slot), K45 vM x1 x2 x3 → Wd D A s.heap (mW t aM vM) H locs → lv_has ls 8 [(0, .ref (MA.o aM)), (1, .int x1), (2, .int x2), (3, .int x3)] → W p l e ({ frames := 7, cells := 0, slots := 0, locals := 168 } : Room) s m args below meth c H locs 0 0 (Ev below args s A D (fun (u : MV) => (mW t aM u)) (fun (u : MV) => Q u) 0 0) (F0 m 45 ls [])) : ∀ (vM : MV) (x1 : Int32) (x2 : Int32) (x3 : Int32) (x4 : Int32) (H : Heap) (locs : List Loc) (ls : Array Slot), bd_X7_search_5 Q P K45 vM x1 x2 x3 x4 → Wd D A s.heap (mW t aM vM) H locs → lv_has ls 8 [(0, .ref (MA.o aM)), (1, .int x1), (2, .int x2), (3, .int x3), (4, .int x4)] → W p l e ({ frames := 7, cells := 0, slots := 0, locals := 168 } : Room) s m args below meth c H locs 0 0 (Ev below args s A D (fun (u : MV) => (mW t aM u)) (fun (u : MV) => Q u) 0 0) (F0 m 5 ls []) := by
  intro vM x1 x2 x3 x4 H locs ls h hw hl
  have hx := X.1.1
  have hb := X.1.2.1
  refine lv_iload hx hb dX7_search_5 (lv_at hl 4 rfl) ?_
  refine lv_aload_n hx hb dX7_search_7 rfl (lv_at hl 0 rfl) ?_
  refine r_ci X hw pm_0 (wn := fun (u : MV) => (mW t aM u)) (fun u => pm_0.symm) (r_runV X hw (c_X7_cells l D t aM vM _ h) pm_0 (cwV 0 X.1.2.2.2.2 gX7_search_X7_cells rfl rfl rfl (by decide +kernel) ⟨Nat.le_of_ble_eq_true rfl, Nat.le_of_ble_eq_true rfl⟩) (ci := 7) rfl rfl rfl rfl hl rfl (Nat.le_of_ble_eq_true rfl) dX7_search_8 ⟨Nat.le_of_ble_eq_true rfl, Nat.le_of_ble_eq_true rfl⟩) (fun r_2 u H locs h hw => ?_)
  obtain ⟨vM_1, rfl⟩ : ∃ z, z = u := ⟨_, rfl⟩
  refine lv_icmp_ge (tgt := 45) hx hb dX7_search_11 (by decide) (fun c_9 => ?_) (fun c_9 => ?_)
  · replace h := h.1 c_9
    exact hK45 _ _ _ _ _ _ _ h hw (lv_sub hl [0, 1, 2, 3] rfl)
  replace h := h.2 c_9
  refine lv_aload_n hx hb dX7_search_14 rfl (lv_at hl 0 rfl) ?_
  refine r_get (ci := 7) (C := RX7) (T := TX7) (N := 16) X hw 0 rfl rfl 1 (by decide) in_X7_search_X7 fl_X7_search_7 (v := .ref (MA.z aM)) rfl dX7_search_15 ?_
  refine lv_bipush (v := 28) hx hb dX7_search_18 (by decide) ?_
  refine lv_iload hx hb dX7_search_20 (lv_at hl 4 rfl) ?_
  refine lv_iadd hx hb dX7_search_22 ?_
  obtain ⟨hi_3, h⟩ := h
  refine r_iald (v := ((MV.z vM_1) (Int32.toNatClampNeg (28 + x4)))) X hw 1 rfl hi_3 rfl dX7_search_23 ?_
  refine lv_iconst (v := (-1)) hx hb dX7_search_24 (by decide) ?_
  refine lv_icmp_ne (tgt := 39) hx hb dX7_search_25 (by decide) (fun c_8 => ?_) (fun c_8 => ?_)
  · replace h := h.1 c_8
    exact k_X7_search_39 X aM hP hK45 _ _ _ _ _ _ _ _ h hw hl
  replace h := h.2 c_8
  refine lv_aload_n hx hb dX7_search_28 rfl (lv_at hl 0 rfl) ?_
  refine r_get (ci := 7) (C := RX7) (T := TX7) (N := 16) X hw 0 rfl rfl 6 (by decide) in_X7_search_X7 fl_X7_search_19 (v := .ref (MA.opn aM)) rfl dX7_search_29 ?_
  refine lv_iload_n hx hb dX7_search_32 rfl (lv_at hl 3 rfl) ?_
  refine lv_iload hx hb dX7_search_33 (lv_at hl 4 rfl) ?_
  obtain ⟨hi_5, h⟩ := h
  obtain ⟨o_6, eo_6⟩ : ∃ z : Nat → Int32, z = upd (MV.opn vM_1) (Int32.toNatClampNeg x3) x4 := ⟨_, rfl⟩
  replace h := h o_6 eo_6
  refine r_iast (ws' := (mW t aM (MV.s_opn vM_1 o_6))) X hw 4 rfl hi_5 (by subst eo_6; rfl) dX7_search_35 (fun H locs hw => ?_)
  obtain ⟨x3_7, ex3_7⟩ : ∃ z : Int32, z = x3 + 1 := ⟨_, rfl⟩
  replace h := h x3_7 ex3_7
  refine lv_iinc (v := x3_7) (lv' := [(3, .int x3_7), (0, .ref (MA.o aM)), (1, .int x1), (2, .int x2), (4, .int x4)]) hx hb dX7_search_36 hl (k := 3) rfl (by rw [ex3_7]; rfl) (by decide) rfl (fun ls hl => ?_)
  exact k_X7_search_39 X aM hP hK45 _ _ _ _ _ _ _ _ h hw (lv_sub hl [1, 2, 3, 0, 4] rfl)
set_option maxHeartbeats 4000000 in
set_option maxRecDepth 100000 in
theorem k_X7_search_5 {p : Program} {l : Launch} {e : Env} {s : State} {m : MethodId} {below : List Frame} {meth : Method} {c : Code} {args : Array Value} {D : va_G} {t : T3} {A : Nat → Prop} (X : Cx p s m meth c args cX7_search 8 none RX7 wsX7_search D t A) (aM : MA) {Q : MV → Prop} {K45 : MV → Int32 → Int32 → Int32 → Prop} (hK45 : ∀ (vM : MV) (x1 : Int32) (x2 : Int32) (x3 : Int32) (H : Heap) (locs : List Loc) (ls : Array Slot), K45 vM x1 x2 x3 → Wd D A s.heap (mW t aM vM) H locs → lv_has ls 8 [(0, .ref (MA.o aM)), (1, .int x1), (2, .int x2), (3, .int x3)] → W p l e ({ frames := 7, cells := 0, slots := 0, locals := 168 } : Room) s m args below meth c H locs 0 0 (Ev below args s A D (fun (u : MV) => (mW t aM u)) (fun (u : MV) => Q u) 0 0) (F0 m 45 ls [])) : ∀ (vM : MV) (x1 : Int32) (x2 : Int32) (x3 : Int32) (x4 : Int32) (H : Heap) (locs : List Loc) (ls : Array Slot), wp_X7_search_5 Q K45 vM x1 x2 x3 x4 → Wd D A s.heap (mW t aM vM) H locs → lv_has ls 8 [(0, .ref (MA.o aM)), (1, .int x1), (2, .int x2), (3, .int x3), (4, .int x4)] → W p l e ({ frames := 7, cells := 0, slots := 0, locals := 168 } : Room) s m args below meth c H locs 0 0 (Ev below args s A D (fun (u : MV) => (mW t aM u)) (fun (u : MV) => Q u) 0 0) (F0 m 5 ls []) := by
  intro vM x1 x2 x3 x4 H locs ls h hw hl
  have hx := X.1.1
  have hb := X.1.2.1
  refine h (fun (vM : MV) (x1 : Int32) (x2 : Int32) (x3 : Int32) (x4 : Int32) => ∀ (H : Heap) (locs : List Loc) (ls : Array Slot), Wd D A s.heap (mW t aM vM) H locs → lv_has ls 8 [(0, .ref (MA.o aM)), (1, .int x1), (2, .int x2), (3, .int x3), (4, .int x4)] → W p l e ({ frames := 7, cells := 0, slots := 0, locals := 168 } : Room) s m args below meth c H locs 0 0 (Ev below args s A D (fun (u : MV) => (mW t aM u)) (fun (u : MV) => Q u) 0 0) (F0 m 5 ls [])) (fun vM x1 x2 x3 x4 h H locs ls hw hl => ?_) H locs ls hw hl
  exact kb_X7_search_5 X aM (fun vM x1 x2 x3 x4 H locs ls q hw hl => q H locs ls hw hl) hK45 vM x1 x2 x3 x4 _ _ _ h hw hl
def wp_X7_search_284 (P : MV → Int32 → Int32 → Int32 → Int32 → Int32 → Int32 → Prop) (K287 : MV → Int32 → Int32 → Int32 → Prop) (Q : MV → Prop) (vM : MV) (x1 : Int32) (x2 : Int32) (x3 : Int32) (x4 : Int32) (x5 : Int32) (x6 : Int32) : Prop := P vM x1 x2 x3 x4 x5 x6
set_option maxHeartbeats 4000000 in
set_option maxRecDepth 100000 in
theorem k_X7_search_284 {p : Program} {l : Launch} {e : Env} {s : State} {m : MethodId} {below : List Frame} {meth : Method} {c : Code} {args : Array Value} {D : va_G} {t : T3} {A : Nat → Prop} (X : Cx p s m meth c args cX7_search 8 none RX7 wsX7_search D t A) (aM : MA) {P : MV → Int32 → Int32 → Int32 → Int32 → Int32 → Int32 → Prop} {K287 : MV → Int32 → Int32 → Int32 → Prop} {Q : MV → Prop} (hP : ∀ (vM : MV) (x1 : Int32) (x2 : Int32) (x3 : Int32) (x4 : Int32) (x5 : Int32) (x6 : Int32) (H : Heap) (locs : List Loc) (ls : Array Slot), P vM x1 x2 x3 x4 x5 x6 → Wd D A s.heap (mW t aM vM) H locs → lv_has ls 8 [(0, .ref (MA.o aM)), (1, .int x1), (2, .int x2), (3, .int x3), (4, .int x4), (5, .int x5), (6, .int x6)] → W p l e ({ frames := 7, cells := 0, slots := 0, locals := 168 } : Room) s m args below meth c H locs 0 0 (Ev below args s A D (fun (u : MV) => (mW t aM u)) (fun (u : MV) => Q u) 0 0) (F0 m 85 ls [])) (hK287 : ∀ (vM : MV) (x1 : Int32) (x2 : Int32) (x3 : Int32) (H : Heap) (locs : List Loc) (ls : Array Slot), K287 vM x1 x2 x3 → Wd D A s.heap (mW t aM vM) H locs → lv_has ls 8 [(0, .ref (MA.o aM)), (1, .int x1), (2, .int x2), (3, .int x3)] → W p l e ({ frames := 7, cells := 0, slots := 0, locals := 168 } : Room) s m args below meth c H locs 0 0 (Ev below args s A D (fun (u : MV) => (mW t aM u)) (fun (u : MV) => Q u) 0 0) (F0 m 287 ls [])) : ∀ (vM : MV) (x1 : Int32) (x2 : Int32) (x3 : Int32) (x4 : Int32) (x5 : Int32) (x6 : Int32) (H : Heap) (locs : List Loc) (ls : Array Slot), wp_X7_search_284 P K287 Q vM x1 x2 x3 x4 x5 x6 → Wd D A s.heap (mW t aM vM) H locs → lv_has ls 8 [(0, .ref (MA.o aM)), (1, .int x1), (2, .int x2), (3, .int x3), (4, .int x4), (5, .int x5), (6, .int x6)] → W p l e ({ frames := 7, cells := 0, slots := 0, locals := 168 } : Room) s m args below meth c H locs 0 0 (Ev below args s A D (fun (u : MV) => (mW t aM u)) (fun (u : MV) => Q u) 0 0) (F0 m 284 ls []) := by
  intro vM x1 x2 x3 x4 x5 x6 H locs ls h hw hl
  have hx := X.1.1
  have hb := X.1.2.1
  refine lv_goto (tgt := 85) hx hb dX7_search_284 (by decide) ?_
  exact hP _ _ _ _ _ _ _ _ _ _ h hw hl
def wp_X7_search_252 (P : MV → Int32 → Int32 → Int32 → Int32 → Int32 → Int32 → Prop) (K287 : MV → Int32 → Int32 → Int32 → Prop) (Q : MV → Prop) (vM : MV) (x1 : Int32) (x2 : Int32) (x3 : Int32) (x4 : Int32) (x5 : Int32) (x7 : Int32) (t0 : Int32) : Prop := ∀ x4_23 : Int32, x4_23 = x4 + (-1) → (t0 = 0 → wp_X7_search_284  P K287 Q vM x1 x2 x3 x4_23 x5 t0) ∧ (¬ t0 = 0 → ∀ x5_24 : Int32, x5_24 = (x7 + 1) → vp_in x4_23 12 ∧ vp_in (28 + ((MV.opn vM) (Int32.toNatClampNeg x4_23))) 52 ∧ ∀ z_27 : Nat → Int32, z_27 = upd (MV.z vM) (Int32.toNatClampNeg (28 + ((MV.opn vM) (Int32.toNatClampNeg x4_23)))) (-1) → wp_X7_search_284  P K287 Q (MV.s_z vM z_27) x1 x2 x3 x4_23 x5_24 t0)
set_option maxHeartbeats 4000000 in
set_option maxRecDepth 100000 in
theorem k_X7_search_252 {p : Program} {l : Launch} {e : Env} {s : State} {m : MethodId} {below : List Frame} {meth : Method} {c : Code} {args : Array Value} {D : va_G} {t : T3} {A : Nat → Prop} (X : Cx p s m meth c args cX7_search 8 none RX7 wsX7_search D t A) (aM : MA) {P : MV → Int32 → Int32 → Int32 → Int32 → Int32 → Int32 → Prop} {K287 : MV → Int32 → Int32 → Int32 → Prop} {Q : MV → Prop} (hP : ∀ (vM : MV) (x1 : Int32) (x2 : Int32) (x3 : Int32) (x4 : Int32) (x5 : Int32) (x6 : Int32) (H : Heap) (locs : List Loc) (ls : Array Slot), P vM x1 x2 x3 x4 x5 x6 → Wd D A s.heap (mW t aM vM) H locs → lv_has ls 8 [(0, .ref (MA.o aM)), (1, .int x1), (2, .int x2), (3, .int x3), (4, .int x4), (5, .int x5), (6, .int x6)] → W p l e ({ frames := 7, cells := 0, slots := 0, locals := 168 } : Room) s m args below meth c H locs 0 0 (Ev below args s A D (fun (u : MV) => (mW t aM u)) (fun (u : MV) => Q u) 0 0) (F0 m 85 ls [])) (hK287 : ∀ (vM : MV) (x1 : Int32) (x2 : Int32) (x3 : Int32) (H : Heap) (locs : List Loc) (ls : Array Slot), K287 vM x1 x2 x3 → Wd D A s.heap (mW t aM vM) H locs → lv_has ls 8 [(0, .ref (MA.o aM)), (1, .int x1), (2, .int x2), (3, .int x3)] → W p l e ({ frames := 7, cells := 0, slots := 0, locals := 168 } : Room) s m args below meth c H locs 0 0 (Ev below args s A D (fun (u : MV) => (mW t aM u)) (fun (u : MV) => Q u) 0 0) (F0 m 287 ls [])) : ∀ (vM : MV) (x1 : Int32) (x2 : Int32) (x3 : Int32) (x4 : Int32) (x5 : Int32) (x7 : Int32) (t0 : Int32) (H : Heap) (locs : List Loc) (ls : Array Slot), wp_X7_search_252 P K287 Q vM x1 x2 x3 x4 x5 x7 t0 → Wd D A s.heap (mW t aM vM) H locs → lv_has ls 8 [(0, .ref (MA.o aM)), (1, .int x1), (2, .int x2), (3, .int x3), (4, .int x4), (5, .int x5), (7, .int x7)] → W p l e ({ frames := 7, cells := 0, slots := 0, locals := 168 } : Room) s m args below meth c H locs 0 0 (Ev below args s A D (fun (u : MV) => (mW t aM u)) (fun (u : MV) => Q u) 0 0) (F0 m 252 ls [.int t0]) := by
  intro vM x1 x2 x3 x4 x5 x7 t0 H locs ls h hw hl
  have hx := X.1.1
  have hb := X.1.2.1
  refine lv_istore (lv' := [(6, .int t0), (0, .ref (MA.o aM)), (1, .int x1), (2, .int x2), (3, .int x3), (4, .int x4), (5, .int x5), (7, .int x7)]) hx hb dX7_search_252 hl (by decide) rfl (fun ls hl => ?_)
  obtain ⟨x4_23, ex4_23⟩ : ∃ z : Int32, z = x4 + (-1) := ⟨_, rfl⟩
  replace h := h x4_23 ex4_23
  refine lv_iinc (v := x4_23) (lv' := [(4, .int x4_23), (6, .int t0), (0, .ref (MA.o aM)), (1, .int x1), (2, .int x2), (3, .int x3), (5, .int x5), (7, .int x7)]) hx hb dX7_search_254 hl (k := 5) rfl (by rw [ex4_23]; rfl) (by decide) rfl (fun ls hl => ?_)
  refine lv_iload hx hb dX7_search_257 (lv_at hl 1 rfl) ?_
  refine lv_if_eq (tgt := 284) hx hb dX7_search_259 (by decide) (fun c_28 => ?_) (fun c_28 => ?_)
  · replace h := h.1 c_28
    exact k_X7_search_284 X aM hP hK287 _ _ _ _ _ _ _ _ _ _ h hw (lv_sub hl [2, 3, 4, 5, 0, 6, 1] rfl)
  replace h := h.2 c_28
  refine lv_iload hx hb dX7_search_262 (lv_at hl 7 rfl) ?_
  refine lv_iconst (v := 1) hx hb dX7_search_264 (by decide) ?_
  refine lv_iadd hx hb dX7_search_265 ?_
  refine lv_topi (fun x5_24 ex5_24 => ?_)
  replace h := h x5_24 ex5_24
  refine lv_istore (lv' := [(5, .int x5_24), (4, .int x4_23), (6, .int t0), (0, .ref (MA.o aM)), (1, .int x1), (2, .int x2), (3, .int x3), (7, .int x7)]) hx hb dX7_search_266 hl (by decide) rfl (fun ls hl => ?_)
  refine lv_aload_n hx hb dX7_search_268 rfl (lv_at hl 3 rfl) ?_
  refine r_get (ci := 7) (C := RX7) (T := TX7) (N := 16) X hw 0 rfl rfl 1 (by decide) in_X7_search_X7 fl_X7_search_7 (v := .ref (MA.z aM)) rfl dX7_search_269 ?_
  refine lv_bipush (v := 28) hx hb dX7_search_272 (by decide) ?_
  refine lv_aload_n hx hb dX7_search_274 rfl (lv_at hl 3 rfl) ?_
  refine r_get (ci := 7) (C := RX7) (T := TX7) (N := 16) X hw 0 rfl rfl 6 (by decide) in_X7_search_X7 fl_X7_search_19 (v := .ref (MA.opn aM)) rfl dX7_search_275 ?_
  refine lv_iload hx hb dX7_search_278 (lv_at hl 1 rfl) ?_
  obtain ⟨hi_25, h⟩ := h
  refine r_iald (v := ((MV.opn vM) (Int32.toNatClampNeg x4_23))) X hw 4 rfl hi_25 rfl dX7_search_280 ?_
  refine lv_iadd hx hb dX7_search_281 ?_
  refine lv_iconst (v := (-1)) hx hb dX7_search_282 (by decide) ?_
  obtain ⟨hi_26, h⟩ := h
  obtain ⟨z_27, ez_27⟩ : ∃ z : Nat → Int32, z = upd (MV.z vM) (Int32.toNatClampNeg (28 + ((MV.opn vM) (Int32.toNatClampNeg x4_23)))) (-1) := ⟨_, rfl⟩
  replace h := h z_27 ez_27
  refine r_iast (ws' := (mW t aM (MV.s_z vM z_27))) X hw 1 rfl hi_26 (by subst ez_27; rfl) dX7_search_283 (fun H locs hw => ?_)
  exact k_X7_search_284 X aM hP hK287 _ _ _ _ _ _ _ _ _ _ h hw (lv_sub hl [3, 4, 5, 6, 1, 0, 2] rfl)
def wp_X7_search_124 (P : MV → Int32 → Int32 → Int32 → Int32 → Int32 → Int32 → Prop) (K287 : MV → Int32 → Int32 → Int32 → Prop) (Q : MV → Prop) (vM : MV) (x1 : Int32) (x2 : Int32) (x3 : Int32) (x4 : Int32) (x5 : Int32) (t0 : Int32) : Prop := (t0 = 0 → wp_X7_search_284  P K287 Q vM x1 x2 x3 x4 x5 t0) ∧ (¬ t0 = 0 → vp_in x4 12 ∧ vp_in (28 + ((MV.opn vM) (Int32.toNatClampNeg x4))) 52 ∧ ∀ x5_35 : Int32, x5_35 = (((MV.z vM) (Int32.toNatClampNeg (28 + ((MV.opn vM) (Int32.toNatClampNeg x4))))) + 1) → vp_in x4 12 ∧ vp_in (28 + ((MV.opn vM) (Int32.toNatClampNeg x4))) 52 ∧ ∀ z_38 : Nat → Int32, z_38 = upd (MV.z vM) (Int32.toNatClampNeg (28 + ((MV.opn vM) (Int32.toNatClampNeg x4)))) (-1) → wp_X7_search_284  P K287 Q (MV.s_z vM z_38) x1 x2 x3 x4 x5_35 t0)
set_option maxHeartbeats 4000000 in
set_option maxRecDepth 100000 in
theorem k_X7_search_124 {p : Program} {l : Launch} {e : Env} {s : State} {m : MethodId} {below : List Frame} {meth : Method} {c : Code} {args : Array Value} {D : va_G} {t : T3} {A : Nat → Prop} (X : Cx p s m meth c args cX7_search 8 none RX7 wsX7_search D t A) (aM : MA) {P : MV → Int32 → Int32 → Int32 → Int32 → Int32 → Int32 → Prop} {K287 : MV → Int32 → Int32 → Int32 → Prop} {Q : MV → Prop} (hP : ∀ (vM : MV) (x1 : Int32) (x2 : Int32) (x3 : Int32) (x4 : Int32) (x5 : Int32) (x6 : Int32) (H : Heap) (locs : List Loc) (ls : Array Slot), P vM x1 x2 x3 x4 x5 x6 → Wd D A s.heap (mW t aM vM) H locs → lv_has ls 8 [(0, .ref (MA.o aM)), (1, .int x1), (2, .int x2), (3, .int x3), (4, .int x4), (5, .int x5), (6, .int x6)] → W p l e ({ frames := 7, cells := 0, slots := 0, locals := 168 } : Room) s m args below meth c H locs 0 0 (Ev below args s A D (fun (u : MV) => (mW t aM u)) (fun (u : MV) => Q u) 0 0) (F0 m 85 ls [])) (hK287 : ∀ (vM : MV) (x1 : Int32) (x2 : Int32) (x3 : Int32) (H : Heap) (locs : List Loc) (ls : Array Slot), K287 vM x1 x2 x3 → Wd D A s.heap (mW t aM vM) H locs → lv_has ls 8 [(0, .ref (MA.o aM)), (1, .int x1), (2, .int x2), (3, .int x3)] → W p l e ({ frames := 7, cells := 0, slots := 0, locals := 168 } : Room) s m args below meth c H locs 0 0 (Ev below args s A D (fun (u : MV) => (mW t aM u)) (fun (u : MV) => Q u) 0 0) (F0 m 287 ls [])) : ∀ (vM : MV) (x1 : Int32) (x2 : Int32) (x3 : Int32) (x4 : Int32) (x5 : Int32) (t0 : Int32) (H : Heap) (locs : List Loc) (ls : Array Slot), wp_X7_search_124 P K287 Q vM x1 x2 x3 x4 x5 t0 → Wd D A s.heap (mW t aM vM) H locs → lv_has ls 8 [(0, .ref (MA.o aM)), (1, .int x1), (2, .int x2), (3, .int x3), (4, .int x4), (5, .int x5)] → W p l e ({ frames := 7, cells := 0, slots := 0, locals := 168 } : Room) s m args below meth c H locs 0 0 (Ev below args s A D (fun (u : MV) => (mW t aM u)) (fun (u : MV) => Q u) 0 0) (F0 m 124 ls [.int t0]) := by
  intro vM x1 x2 x3 x4 x5 t0 H locs ls h hw hl
  have hx := X.1.1
  have hb := X.1.2.1
  refine lv_istore (lv' := [(6, .int t0), (0, .ref (MA.o aM)), (1, .int x1), (2, .int x2), (3, .int x3), (4, .int x4), (5, .int x5)]) hx hb dX7_search_124 hl (by decide) rfl (fun ls hl => ?_)
  refine lv_iload hx hb dX7_search_126 (lv_at hl 0 rfl) ?_
  refine lv_if_eq (tgt := 284) hx hb dX7_search_128 (by decide) (fun c_39 => ?_) (fun c_39 => ?_)
  · replace h := h.1 c_39
    exact k_X7_search_284 X aM hP hK287 _ _ _ _ _ _ _ _ _ _ h hw (lv_sub hl [1, 2, 3, 4, 5, 6, 0] rfl)
  replace h := h.2 c_39
  refine lv_aload_n hx hb dX7_search_131 rfl (lv_at hl 1 rfl) ?_
  refine r_get (ci := 7) (C := RX7) (T := TX7) (N := 16) X hw 0 rfl rfl 1 (by decide) in_X7_search_X7 fl_X7_search_7 (v := .ref (MA.z aM)) rfl dX7_search_132 ?_
  refine lv_bipush (v := 28) hx hb dX7_search_135 (by decide) ?_
  refine lv_aload_n hx hb dX7_search_137 rfl (lv_at hl 1 rfl) ?_
  refine r_get (ci := 7) (C := RX7) (T := TX7) (N := 16) X hw 0 rfl rfl 6 (by decide) in_X7_search_X7 fl_X7_search_19 (v := .ref (MA.opn aM)) rfl dX7_search_138 ?_
  refine lv_iload hx hb dX7_search_141 (lv_at hl 5 rfl) ?_
  obtain ⟨hi_33, h⟩ := h
  refine r_iald (v := ((MV.opn vM) (Int32.toNatClampNeg x4))) X hw 4 rfl hi_33 rfl dX7_search_143 ?_
  refine lv_iadd hx hb dX7_search_144 ?_
  obtain ⟨hi_34, h⟩ := h
  refine r_iald (v := ((MV.z vM) (Int32.toNatClampNeg (28 + ((MV.opn vM) (Int32.toNatClampNeg x4)))))) X hw 1 rfl hi_34 rfl dX7_search_145 ?_
  refine lv_iconst (v := 1) hx hb dX7_search_146 (by decide) ?_
  refine lv_iadd hx hb dX7_search_147 ?_
  refine lv_topi (fun x5_35 ex5_35 => ?_)
  replace h := h x5_35 ex5_35
  refine lv_istore (lv' := [(5, .int x5_35), (6, .int t0), (0, .ref (MA.o aM)), (1, .int x1), (2, .int x2), (3, .int x3), (4, .int x4)]) hx hb dX7_search_148 hl (by decide) rfl (fun ls hl => ?_)
  refine lv_aload_n hx hb dX7_search_150 rfl (lv_at hl 2 rfl) ?_
  refine r_get (ci := 7) (C := RX7) (T := TX7) (N := 16) X hw 0 rfl rfl 1 (by decide) in_X7_search_X7 fl_X7_search_7 (v := .ref (MA.z aM)) rfl dX7_search_151 ?_
  refine lv_bipush (v := 28) hx hb dX7_search_154 (by decide) ?_
  refine lv_aload_n hx hb dX7_search_156 rfl (lv_at hl 2 rfl) ?_
  refine r_get (ci := 7) (C := RX7) (T := TX7) (N := 16) X hw 0 rfl rfl 6 (by decide) in_X7_search_X7 fl_X7_search_19 (v := .ref (MA.opn aM)) rfl dX7_search_157 ?_
  refine lv_iload hx hb dX7_search_160 (lv_at hl 6 rfl) ?_
  obtain ⟨hi_36, h⟩ := h
  refine r_iald (v := ((MV.opn vM) (Int32.toNatClampNeg x4))) X hw 4 rfl hi_36 rfl dX7_search_162 ?_
  refine lv_iadd hx hb dX7_search_163 ?_
  refine lv_iconst (v := (-1)) hx hb dX7_search_164 (by decide) ?_
  obtain ⟨hi_37, h⟩ := h
  obtain ⟨z_38, ez_38⟩ : ∃ z : Nat → Int32, z = upd (MV.z vM) (Int32.toNatClampNeg (28 + ((MV.opn vM) (Int32.toNatClampNeg x4)))) (-1) := ⟨_, rfl⟩
  replace h := h z_38 ez_38
  refine r_iast (ws' := (mW t aM (MV.s_z vM z_38))) X hw 1 rfl hi_37 (by subst ez_38; rfl) dX7_search_165 (fun H locs hw => ?_)
  refine lv_goto (tgt := 284) hx hb dX7_search_166 (by decide) ?_
  exact k_X7_search_284 X aM hP hK287 _ _ _ _ _ _ _ _ _ _ h hw (lv_sub hl [2, 3, 4, 5, 6, 0, 1] rfl)
def bd_X7_search_85 (Q : MV → Prop) (P : MV → Int32 → Int32 → Int32 → Int32 → Int32 → Int32 → Prop) (K287 : MV → Int32 → Int32 → Int32 → Prop) (vM : MV) (x1 : Int32) (x2 : Int32) (x3 : Int32) (x4 : Int32) (x5 : Int32) (x6 : Int32) : Prop := (x6 = 0 → K287 vM x1 x2 x3) ∧ (¬ x6 = 0 → vp_in x4 12 ∧ wp_X7_possibleFrom vM ((MV.opn vM) (Int32.toNatClampNeg x4)) x5 (fun (r_16 : Int32) (vM_15 : MV) => (¬ r_16 = (-1) → (¬ (MV.steps vM_15) = 600 → ∀ f_17 : Int32, f_17 = ((MV.steps vM_15) + 1) → vp_in x4 12 ∧ vp_in (28 + ((MV.opn vM_15) (Int32.toNatClampNeg x4))) 52 ∧ ∀ z_20 : Nat → Int32, z_20 = upd (MV.z vM_15) (Int32.toNatClampNeg (28 + ((MV.opn vM_15) (Int32.toNatClampNeg x4)))) r_16 → ∀ x4_21 : Int32, x4_21 = x4 + 1 → (¬ x4_21 = x3 → wp_X7_search_284  P K287 Q (MV.s_steps (MV.s_z vM_15 z_20) f_17) x1 x2 x3 x4_21 0 x6) ∧ (x4_21 = x3 → ∀ f_22 : Int32, f_22 = ((MV.found vM_15) + 1) → (x1 ≤ f_22 → wp_X7_search_252  P K287 Q (MV.s_steps (MV.s_found (MV.s_z vM_15 z_20) f_22) f_17) x1 x2 x3 x4_21 0 r_16 0) ∧ (¬ x1 ≤ f_22 → wp_X7_search_252  P K287 Q (MV.s_steps (MV.s_found (MV.s_z vM_15 z_20) f_22) f_17) x1 x2 x3 x4_21 0 r_16 1))) ∧ ((MV.steps vM_15) = 600 → wp_X7_search_284  P K287 Q (MV.s_isCut vM_15 1) x1 x2 x3 x4 x5 0)) ∧ (r_16 = (-1) → ∀ x4_32 : Int32, x4_32 = x4 + (-1) → (x4_32 < 0 → wp_X7_search_124  P K287 Q vM_15 x1 x2 x3 x4_32 x5 0) ∧ (¬ x4_32 < 0 → wp_X7_search_124  P K287 Q vM_15 x1 x2 x3 x4_32 x5 1))))
def wp_X7_search_85 (Q : MV → Prop) (K287 : MV → Int32 → Int32 → Int32 → Prop) (vM : MV) (x1 : Int32) (x2 : Int32) (x3 : Int32) (x4 : Int32) (x5 : Int32) (x6 : Int32) : Prop := ∀ P : MV → Int32 → Int32 → Int32 → Int32 → Int32 → Int32 → Prop, (∀ (vM : MV) (x1 : Int32) (x2 : Int32) (x3 : Int32) (x4 : Int32) (x5 : Int32) (x6 : Int32), bd_X7_search_85 Q P K287 vM x1 x2 x3 x4 x5 x6 → P vM x1 x2 x3 x4 x5 x6) → P vM x1 x2 x3 x4 x5 x6
set_option maxHeartbeats 4000000 in
set_option maxRecDepth 100000 in
theorem kb_X7_search_85 {p : Program} {l : Launch} {e : Env} {s : State} {m : MethodId} {below : List Frame} {meth : Method} {c : Code} {args : Array Value} {D : va_G} {t : T3} {A : Nat → Prop} (X : Cx p s m meth c args cX7_search 8 none RX7 wsX7_search D t A) (aM : MA) {Q : MV → Prop} {P : MV → Int32 → Int32 → Int32 → Int32 → Int32 → Int32 → Prop} {K287 : MV → Int32 → Int32 → Int32 → Prop} (hP : ∀ (vM : MV) (x1 : Int32) (x2 : Int32) (x3 : Int32) (x4 : Int32) (x5 : Int32) (x6 : Int32) (H : Heap) (locs : List Loc) (ls : Array Slot), P vM x1 x2 x3 x4 x5 x6 → Wd D A s.heap (mW t aM vM) H locs → lv_has ls 8 [(0, .ref (MA.o aM)), (1, .int x1), (2, .int x2), (3, .int x3), (4, .int x4), (5, .int x5), (6, .int x6)] → W p l e ({ frames := 7, cells := 0, slots := 0, locals := 168 } : Room) s m args below meth c H locs 0 0 (Ev below args s A D (fun (u : MV) => (mW t aM u)) (fun (u : MV) => Q u) 0 0) (F0 m 85 ls [])) (hK287 : ∀ (vM : MV) (x1 : Int32) (x2 : Int32) (x3 : Int32) (H : Heap) (locs : List Loc) (ls : Array Slot), K287 vM x1 x2 x3 → Wd D A s.heap (mW t aM vM) H locs → lv_has ls 8 [(0, .ref (MA.o aM)), (1, .int x1), (2, .int x2), (3, .int x3)] → W p l e ({ frames := 7, cells := 0, slots := 0, locals := 168 } : Room) s m args below meth c H locs 0 0 (Ev below args s A D (fun (u : MV) => (mW t aM u)) (fun (u : MV) => Q u) 0 0) (F0 m 287 ls [])) : ∀ (vM : MV) (x1 : Int32) (x2 : Int32) (x3 : Int32) (x4 : Int32) (x5 : Int32) (x6 : Int32) (H : Heap) (locs : List Loc) (ls : Array Slot), bd_X7_search_85 Q P K287 vM x1 x2 x3 x4 x5 x6 → Wd D A s.heap (mW t aM vM) H locs → lv_has ls 8 [(0, .ref (MA.o aM)), (1, .int x1), (2, .int x2), (3, .int x3), (4, .int x4), (5, .int x5), (6, .int x6)] → W p l e ({ frames := 7, cells := 0, slots := 0, locals := 168 } : Room) s m args below meth c H locs 0 0 (Ev below args s A D (fun (u : MV) => (mW t aM u)) (fun (u : MV) => Q u) 0 0) (F0 m 85 ls []) := by
  intro vM x1 x2 x3 x4 x5 x6 H locs ls h hw hl
  have hx := X.1.1
  have hb := X.1.2.1
  refine lv_iload hx hb dX7_search_85 (lv_at hl 6 rfl) ?_
  refine lv_if_eq (tgt := 287) hx hb dX7_search_87 (by decide) (fun c_42 => ?_) (fun c_42 => ?_)
  · replace h := h.1 c_42
    exact hK287 _ _ _ _ _ _ _ h hw (lv_sub hl [0, 1, 2, 3] rfl)
  replace h := h.2 c_42
  refine lv_aload_n hx hb dX7_search_90 rfl (lv_at hl 0 rfl) ?_
  refine lv_aload_n hx hb dX7_search_91 rfl (lv_at hl 0 rfl) ?_
  refine r_get (ci := 7) (C := RX7) (T := TX7) (N := 16) X hw 0 rfl rfl 6 (by decide) in_X7_search_X7 fl_X7_search_19 (v := .ref (MA.opn aM)) rfl dX7_search_92 ?_
  refine lv_iload hx hb dX7_search_95 (lv_at hl 4 rfl) ?_
  obtain ⟨hi_14, h⟩ := h
  refine r_iald (v := ((MV.opn vM) (Int32.toNatClampNeg x4))) X hw 4 rfl hi_14 rfl dX7_search_97 ?_
  refine lv_iload hx hb dX7_search_98 (lv_at hl 5 rfl) ?_
  refine r_ci X hw pm_0 (wn := fun (u : MV) => (mW t aM u)) (fun u => pm_0.symm) (r_runV X hw (c_X7_possibleFrom l D t aM vM ((MV.opn vM) (Int32.toNatClampNeg x4)) x5 _ h) pm_0 (cwV 2 X.1.2.2.2.2 gX7_search_X7_possibleFrom rfl rfl rfl (by decide +kernel) ⟨Nat.le_of_ble_eq_true rfl, Nat.le_of_ble_eq_true rfl⟩) (ci := 7) rfl rfl rfl rfl hl rfl (Nat.le_of_ble_eq_true rfl) dX7_search_100 ⟨Nat.le_of_ble_eq_true rfl, Nat.le_of_ble_eq_true rfl⟩) (fun r_16 u H locs h hw => ?_)
  obtain ⟨vM_15, rfl⟩ : ∃ z, z = u := ⟨_, rfl⟩
  refine lv_istore (lv' := [(7, .int r_16), (0, .ref (MA.o aM)), (1, .int x1), (2, .int x2), (3, .int x3), (4, .int x4), (5, .int x5), (6, .int x6)]) hx hb dX7_search_103 hl (by decide) rfl (fun ls hl => ?_)
  refine lv_iload hx hb dX7_search_105 (lv_at hl 0 rfl) ?_
  refine lv_iconst (v := (-1)) hx hb dX7_search_107 (by decide) ?_
  refine lv_icmp_ne (tgt := 169) hx hb dX7_search_108 (by decide) (fun c_41 => ?_) (fun c_41 => ?_)
  · replace h := h.1 c_41
    refine lv_aload_n hx hb dX7_search_169 rfl (lv_at hl 1 rfl) ?_
    refine r_get (ci := 7) (C := RX7) (T := TX7) (N := 16) X hw 0 rfl rfl 8 (by decide) in_X7_search_X7 fl_X7_search_88 (v := .int (MV.steps vM_15)) rfl dX7_search_170 ?_
    refine lv_sipush (v := 600) hx hb dX7_search_173 (by decide) ?_
    refine lv_icmp_ne (tgt := 190) hx hb dX7_search_176 (by decide) (fun c_31 => ?_) (fun c_31 => ?_)
    · replace h := h.1 c_31
      refine lv_aload_n hx hb dX7_search_190 rfl (lv_at hl 1 rfl) ?_
      refine lv_dup hx hb dX7_search_191 rfl ?_
      refine r_get (ci := 7) (C := RX7) (T := TX7) (N := 16) X hw 0 rfl rfl 8 (by decide) in_X7_search_X7 fl_X7_search_88 (v := .int (MV.steps vM_15)) rfl dX7_search_192 ?_
      refine lv_iconst (v := 1) hx hb dX7_search_195 (by decide) ?_
      refine lv_iadd hx hb dX7_search_196 ?_
      refine lv_topi (fun f_17 ef_17 => ?_)
      replace h := h f_17 ef_17
      refine r_put (ci := 7) (C := RX7) (T := TX7) (N := 16) (v := .int f_17) (ws' := (mW t aM (MV.s_steps vM_15 f_17))) X hw 0 rfl rfl 8 (by decide) in_X7_search_X7 tyX7 tyX7_ok nmX7 fl_X7_search_88 rfl rfl rfl (Nat.le_of_ble_eq_true rfl) rfl dX7_search_197 (fun H locs hw => ?_)
      refine lv_aload_n hx hb dX7_search_200 rfl (lv_at hl 1 rfl) ?_
      refine r_get (ci := 7) (C := RX7) (T := TX7) (N := 16) X hw 0 rfl rfl 1 (by decide) in_X7_search_X7 fl_X7_search_7 (v := .ref (MA.z aM)) rfl dX7_search_201 ?_
      refine lv_bipush (v := 28) hx hb dX7_search_204 (by decide) ?_
      refine lv_aload_n hx hb dX7_search_206 rfl (lv_at hl 1 rfl) ?_
      refine r_get (ci := 7) (C := RX7) (T := TX7) (N := 16) X hw 0 rfl rfl 6 (by decide) in_X7_search_X7 fl_X7_search_19 (v := .ref (MA.opn aM)) rfl dX7_search_207 ?_
      refine lv_iload hx hb dX7_search_210 (lv_at hl 5 rfl) ?_
      obtain ⟨hi_18, h⟩ := h
      refine r_iald (v := ((MV.opn vM_15) (Int32.toNatClampNeg x4))) X hw 4 rfl hi_18 rfl dX7_search_212 ?_
      refine lv_iadd hx hb dX7_search_213 ?_
      refine lv_iload hx hb dX7_search_214 (lv_at hl 0 rfl) ?_
      obtain ⟨hi_19, h⟩ := h
      obtain ⟨z_20, ez_20⟩ : ∃ z : Nat → Int32, z = upd (MV.z vM_15) (Int32.toNatClampNeg (28 + ((MV.opn vM_15) (Int32.toNatClampNeg x4)))) r_16 := ⟨_, rfl⟩
      replace h := h z_20 ez_20
      refine r_iast (ws' := (mW t aM (MV.s_steps (MV.s_z vM_15 z_20) f_17))) X hw 1 rfl hi_19 (by subst ez_20; rfl) dX7_search_216 (fun H locs hw => ?_)
      obtain ⟨x4_21, ex4_21⟩ : ∃ z : Int32, z = x4 + 1 := ⟨_, rfl⟩
      replace h := h x4_21 ex4_21
      refine lv_iinc (v := x4_21) (lv' := [(4, .int x4_21), (7, .int r_16), (0, .ref (MA.o aM)), (1, .int x1), (2, .int x2), (3, .int x3), (5, .int x5), (6, .int x6)]) hx hb dX7_search_217 hl (k := 5) rfl (by rw [ex4_21]; rfl) (by decide) rfl (fun ls hl => ?_)
      refine lv_iconst (v := 0) hx hb dX7_search_220 (by decide) ?_
      refine lv_istore (lv' := [(5, .int 0), (4, .int x4_21), (7, .int r_16), (0, .ref (MA.o aM)), (1, .int x1), (2, .int x2), (3, .int x3), (6, .int x6)]) hx hb dX7_search_221 hl (by decide) rfl (fun ls hl => ?_)
      refine lv_iload hx hb dX7_search_223 (lv_at hl 1 rfl) ?_
      refine lv_iload_n hx hb dX7_search_225 rfl (lv_at hl 6 rfl) ?_
      refine lv_icmp_ne (tgt := 284) hx hb dX7_search_226 (by decide) (fun c_30 => ?_) (fun c_30 => ?_)
      · replace h := h.1 c_30
        exact k_X7_search_284 X aM hP hK287 _ _ _ _ _ _ _ _ _ _ h hw (lv_sub hl [3, 4, 5, 6, 1, 0, 7] rfl)
      replace h := h.2 c_30
      refine lv_aload_n hx hb dX7_search_229 rfl (lv_at hl 3 rfl) ?_
      refine lv_dup hx hb dX7_search_230 rfl ?_
      refine r_get (ci := 7) (C := RX7) (T := TX7) (N := 16) X hw 0 rfl rfl 7 (by decide) in_X7_search_X7 fl_X7_search_85 (v := .int (MV.found vM_15)) rfl dX7_search_231 ?_
      refine lv_iconst (v := 1) hx hb dX7_search_234 (by decide) ?_
      refine lv_iadd hx hb dX7_search_235 ?_
      refine lv_topi (fun f_22 ef_22 => ?_)
      replace h := h f_22 ef_22
      refine r_put (ci := 7) (C := RX7) (T := TX7) (N := 16) (v := .int f_22) (ws' := (mW t aM (MV.s_steps (MV.s_found (MV.s_z vM_15 z_20) f_22) f_17))) X hw 0 rfl rfl 7 (by decide) in_X7_search_X7 tyX7 tyX7_ok nmX7 fl_X7_search_85 rfl rfl rfl (Nat.le_of_ble_eq_true rfl) rfl dX7_search_236 (fun H locs hw => ?_)
      refine lv_aload_n hx hb dX7_search_239 rfl (lv_at hl 3 rfl) ?_
      refine r_get (ci := 7) (C := RX7) (T := TX7) (N := 16) X hw 0 rfl rfl 7 (by decide) in_X7_search_X7 fl_X7_search_85 (v := .int f_22) rfl dX7_search_240 ?_
      refine lv_iload_n hx hb dX7_search_243 rfl (lv_at hl 4 rfl) ?_
      refine lv_icmp_ge (tgt := 251) hx hb dX7_search_244 (by decide) (fun c_29 => ?_) (fun c_29 => ?_)
      · replace h := h.1 c_29
        refine lv_iconst (v := 0) hx hb dX7_search_251 (by decide) ?_
        exact k_X7_search_252 X aM hP hK287 _ _ _ _ _ _ _ _ _ _ _ h hw (lv_sub hl [3, 4, 5, 6, 1, 0, 2] rfl)
      replace h := h.2 c_29
      refine lv_iconst (v := 1) hx hb dX7_search_247 (by decide) ?_
      refine lv_goto (tgt := 252) hx hb dX7_search_248 (by decide) ?_
      exact k_X7_search_252 X aM hP hK287 _ _ _ _ _ _ _ _ _ _ _ h hw (lv_sub hl [3, 4, 5, 6, 1, 0, 2] rfl)
    replace h := h.2 c_31
    refine lv_aload_n hx hb dX7_search_179 rfl (lv_at hl 1 rfl) ?_
    refine lv_iconst (v := 1) hx hb dX7_search_180 (by decide) ?_
    refine r_put (ci := 7) (C := RX7) (T := TX7) (N := 16) (v := .int 1) (ws' := (mW t aM (MV.s_isCut vM_15 1))) X hw 0 rfl rfl 9 (by decide) in_X7_search_X7 tyX7 tyX7_ok nmX7 fl_X7_search_91 rfl rfl rfl (Nat.le_of_ble_eq_true rfl) rfl dX7_search_181 (fun H locs hw => ?_)
    refine lv_iconst (v := 0) hx hb dX7_search_184 (by decide) ?_
    refine lv_istore (lv' := [(6, .int 0), (7, .int r_16), (0, .ref (MA.o aM)), (1, .int x1), (2, .int x2), (3, .int x3), (4, .int x4), (5, .int x5)]) hx hb dX7_search_185 hl (by decide) rfl (fun ls hl => ?_)
    refine lv_goto (tgt := 284) hx hb dX7_search_187 (by decide) ?_
    exact k_X7_search_284 X aM hP hK287 _ _ _ _ _ _ _ _ _ _ h hw (lv_sub hl [2, 3, 4, 5, 6, 7, 0] rfl)
  replace h := h.2 c_41
  obtain ⟨x4_32, ex4_32⟩ : ∃ z : Int32, z = x4 + (-1) := ⟨_, rfl⟩
  replace h := h x4_32 ex4_32
  refine lv_iinc (v := x4_32) (lv' := [(4, .int x4_32), (7, .int r_16), (0, .ref (MA.o aM)), (1, .int x1), (2, .int x2), (3, .int x3), (5, .int x5), (6, .int x6)]) hx hb dX7_search_111 hl (k := 5) rfl (by rw [ex4_32]; rfl) (by decide) rfl (fun ls hl => ?_)
  refine lv_iload hx hb dX7_search_114 (lv_at hl 0 rfl) ?_
  refine lv_if_lt (tgt := 123) hx hb dX7_search_116 (by decide) (fun c_40 => ?_) (fun c_40 => ?_)
  · replace h := h.1 c_40
    refine lv_iconst (v := 0) hx hb dX7_search_123 (by decide) ?_
    exact k_X7_search_124 X aM hP hK287 _ _ _ _ _ _ _ _ _ _ h hw (lv_sub hl [2, 3, 4, 5, 0, 6] rfl)
  replace h := h.2 c_40
  refine lv_iconst (v := 1) hx hb dX7_search_119 (by decide) ?_
  refine lv_goto (tgt := 124) hx hb dX7_search_120 (by decide) ?_
  exact k_X7_search_124 X aM hP hK287 _ _ _ _ _ _ _ _ _ _ h hw (lv_sub hl [2, 3, 4, 5, 0, 6] rfl)
set_option maxHeartbeats 4000000 in
set_option maxRecDepth 100000 in
theorem k_X7_search_85 {p : Program} {l : Launch} {e : Env} {s : State} {m : MethodId} {below : List Frame} {meth : Method} {c : Code} {args : Array Value} {D : va_G} {t : T3} {A : Nat → Prop} (X : Cx p s m meth c args cX7_search 8 none RX7 wsX7_search D t A) (aM : MA) {Q : MV → Prop} {K287 : MV → Int32 → Int32 → Int32 → Prop} (hK287 : ∀ (vM : MV) (x1 : Int32) (x2 : Int32) (x3 : Int32) (H : Heap) (locs : List Loc) (ls : Array Slot), K287 vM x1 x2 x3 → Wd D A s.heap (mW t aM vM) H locs → lv_has ls 8 [(0, .ref (MA.o aM)), (1, .int x1), (2, .int x2), (3, .int x3)] → W p l e ({ frames := 7, cells := 0, slots := 0, locals := 168 } : Room) s m args below meth c H locs 0 0 (Ev below args s A D (fun (u : MV) => (mW t aM u)) (fun (u : MV) => Q u) 0 0) (F0 m 287 ls [])) : ∀ (vM : MV) (x1 : Int32) (x2 : Int32) (x3 : Int32) (x4 : Int32) (x5 : Int32) (x6 : Int32) (H : Heap) (locs : List Loc) (ls : Array Slot), wp_X7_search_85 Q K287 vM x1 x2 x3 x4 x5 x6 → Wd D A s.heap (mW t aM vM) H locs → lv_has ls 8 [(0, .ref (MA.o aM)), (1, .int x1), (2, .int x2), (3, .int x3), (4, .int x4), (5, .int x5), (6, .int x6)] → W p l e ({ frames := 7, cells := 0, slots := 0, locals := 168 } : Room) s m args below meth c H locs 0 0 (Ev below args s A D (fun (u : MV) => (mW t aM u)) (fun (u : MV) => Q u) 0 0) (F0 m 85 ls []) := by
  intro vM x1 x2 x3 x4 x5 x6 H locs ls h hw hl
  have hx := X.1.1
  have hb := X.1.2.1
  refine h (fun (vM : MV) (x1 : Int32) (x2 : Int32) (x3 : Int32) (x4 : Int32) (x5 : Int32) (x6 : Int32) => ∀ (H : Heap) (locs : List Loc) (ls : Array Slot), Wd D A s.heap (mW t aM vM) H locs → lv_has ls 8 [(0, .ref (MA.o aM)), (1, .int x1), (2, .int x2), (3, .int x3), (4, .int x4), (5, .int x5), (6, .int x6)] → W p l e ({ frames := 7, cells := 0, slots := 0, locals := 168 } : Room) s m args below meth c H locs 0 0 (Ev below args s A D (fun (u : MV) => (mW t aM u)) (fun (u : MV) => Q u) 0 0) (F0 m 85 ls [])) (fun vM x1 x2 x3 x4 x5 x6 h H locs ls hw hl => ?_) H locs ls hw hl
  exact kb_X7_search_85 X aM (fun vM x1 x2 x3 x4 x5 x6 H locs ls q hw hl => q H locs ls hw hl) hK287 vM x1 x2 x3 x4 x5 x6 _ _ _ h hw hl
def wp_X7_search_308 (P : MV → Int32 → Int32 → Int32 → Int32 → Prop) (Q : MV → Prop) (vM : MV) (x1 : Int32) (x2 : Int32) (x3 : Int32) (x7 : Int32) : Prop := vp_in x7 12 ∧ vp_in (28 + ((MV.opn vM) (Int32.toNatClampNeg x7))) 52 ∧ ∀ z_49 : Nat → Int32, z_49 = upd (MV.z vM) (Int32.toNatClampNeg (28 + ((MV.opn vM) (Int32.toNatClampNeg x7)))) (-1) → ∀ x7_50 : Int32, x7_50 = x7 + 1 → P (MV.s_z vM z_49) x1 x2 x3 x7_50
set_option maxHeartbeats 4000000 in
set_option maxRecDepth 100000 in
theorem k_X7_search_308 {p : Program} {l : Launch} {e : Env} {s : State} {m : MethodId} {below : List Frame} {meth : Method} {c : Code} {args : Array Value} {D : va_G} {t : T3} {A : Nat → Prop} (X : Cx p s m meth c args cX7_search 8 none RX7 wsX7_search D t A) (aM : MA) {P : MV → Int32 → Int32 → Int32 → Int32 → Prop} {Q : MV → Prop} (hP : ∀ (vM : MV) (x1 : Int32) (x2 : Int32) (x3 : Int32) (x7 : Int32) (H : Heap) (locs : List Loc) (ls : Array Slot), P vM x1 x2 x3 x7 → Wd D A s.heap (mW t aM vM) H locs → lv_has ls 8 [(0, .ref (MA.o aM)), (1, .int x1), (2, .int x2), (3, .int x3), (7, .int x7)] → W p l e ({ frames := 7, cells := 0, slots := 0, locals := 168 } : Room) s m args below meth c H locs 0 0 (Ev below args s A D (fun (u : MV) => (mW t aM u)) (fun (u : MV) => Q u) 0 0) (F0 m 290 ls [])) : ∀ (vM : MV) (x1 : Int32) (x2 : Int32) (x3 : Int32) (x7 : Int32) (H : Heap) (locs : List Loc) (ls : Array Slot), wp_X7_search_308 P Q vM x1 x2 x3 x7 → Wd D A s.heap (mW t aM vM) H locs → lv_has ls 8 [(0, .ref (MA.o aM)), (1, .int x1), (2, .int x2), (3, .int x3), (7, .int x7)] → W p l e ({ frames := 7, cells := 0, slots := 0, locals := 168 } : Room) s m args below meth c H locs 0 0 (Ev below args s A D (fun (u : MV) => (mW t aM u)) (fun (u : MV) => Q u) 0 0) (F0 m 308 ls []) := by
  intro vM x1 x2 x3 x7 H locs ls h hw hl
  have hx := X.1.1
  have hb := X.1.2.1
  refine lv_aload_n hx hb dX7_search_308 rfl (lv_at hl 0 rfl) ?_
  refine r_get (ci := 7) (C := RX7) (T := TX7) (N := 16) X hw 0 rfl rfl 1 (by decide) in_X7_search_X7 fl_X7_search_7 (v := .ref (MA.z aM)) rfl dX7_search_309 ?_
  refine lv_bipush (v := 28) hx hb dX7_search_312 (by decide) ?_
  refine lv_aload_n hx hb dX7_search_314 rfl (lv_at hl 0 rfl) ?_
  refine r_get (ci := 7) (C := RX7) (T := TX7) (N := 16) X hw 0 rfl rfl 6 (by decide) in_X7_search_X7 fl_X7_search_19 (v := .ref (MA.opn aM)) rfl dX7_search_315 ?_
  refine lv_iload hx hb dX7_search_318 (lv_at hl 4 rfl) ?_
  obtain ⟨hi_47, h⟩ := h
  refine r_iald (v := ((MV.opn vM) (Int32.toNatClampNeg x7))) X hw 4 rfl hi_47 rfl dX7_search_320 ?_
  refine lv_iadd hx hb dX7_search_321 ?_
  refine lv_iconst (v := (-1)) hx hb dX7_search_322 (by decide) ?_
  obtain ⟨hi_48, h⟩ := h
  obtain ⟨z_49, ez_49⟩ : ∃ z : Nat → Int32, z = upd (MV.z vM) (Int32.toNatClampNeg (28 + ((MV.opn vM) (Int32.toNatClampNeg x7)))) (-1) := ⟨_, rfl⟩
  replace h := h z_49 ez_49
  refine r_iast (ws' := (mW t aM (MV.s_z vM z_49))) X hw 1 rfl hi_48 (by subst ez_49; rfl) dX7_search_323 (fun H locs hw => ?_)
  obtain ⟨x7_50, ex7_50⟩ : ∃ z : Int32, z = x7 + 1 := ⟨_, rfl⟩
  replace h := h x7_50 ex7_50
  refine lv_iinc (v := x7_50) (lv' := [(7, .int x7_50), (0, .ref (MA.o aM)), (1, .int x1), (2, .int x2), (3, .int x3)]) hx hb dX7_search_324 hl (k := 4) rfl (by rw [ex7_50]; rfl) (by decide) rfl (fun ls hl => ?_)
  refine lv_goto (tgt := 290) hx hb dX7_search_327 (by decide) ?_
  exact hP _ _ _ _ _ _ _ _ h hw (lv_sub hl [1, 2, 3, 4, 0] rfl)
def bd_X7_search_290 (Q : MV → Prop) (P : MV → Int32 → Int32 → Int32 → Int32 → Prop) (vM : MV) (x1 : Int32) (x2 : Int32) (x3 : Int32) (x7 : Int32) : Prop := (x3 ≤ x7 → Q vM) ∧ (¬ x3 ≤ x7 → (x2 = 0 → wp_X7_search_308  P Q vM x1 x2 x3 x7) ∧ (¬ x2 = 0 → ((MV.found vM) = x1 → Q vM) ∧ (¬ (MV.found vM) = x1 → wp_X7_search_308  P Q vM x1 x2 x3 x7)))
def wp_X7_search_290 (Q : MV → Prop)  (vM : MV) (x1 : Int32) (x2 : Int32) (x3 : Int32) (x7 : Int32) : Prop := ∀ P : MV → Int32 → Int32 → Int32 → Int32 → Prop, (∀ (vM : MV) (x1 : Int32) (x2 : Int32) (x3 : Int32) (x7 : Int32), bd_X7_search_290 Q P  vM x1 x2 x3 x7 → P vM x1 x2 x3 x7) → P vM x1 x2 x3 x7
set_option maxHeartbeats 4000000 in
set_option maxRecDepth 100000 in
theorem kb_X7_search_290 {p : Program} {l : Launch} {e : Env} {s : State} {m : MethodId} {below : List Frame} {meth : Method} {c : Code} {args : Array Value} {D : va_G} {t : T3} {A : Nat → Prop} (X : Cx p s m meth c args cX7_search 8 none RX7 wsX7_search D t A) (aM : MA) {Q : MV → Prop} {P : MV → Int32 → Int32 → Int32 → Int32 → Prop} (hP : ∀ (vM : MV) (x1 : Int32) (x2 : Int32) (x3 : Int32) (x7 : Int32) (H : Heap) (locs : List Loc) (ls : Array Slot), P vM x1 x2 x3 x7 → Wd D A s.heap (mW t aM vM) H locs → lv_has ls 8 [(0, .ref (MA.o aM)), (1, .int x1), (2, .int x2), (3, .int x3), (7, .int x7)] → W p l e ({ frames := 7, cells := 0, slots := 0, locals := 168 } : Room) s m args below meth c H locs 0 0 (Ev below args s A D (fun (u : MV) => (mW t aM u)) (fun (u : MV) => Q u) 0 0) (F0 m 290 ls [])) : ∀ (vM : MV) (x1 : Int32) (x2 : Int32) (x3 : Int32) (x7 : Int32) (H : Heap) (locs : List Loc) (ls : Array Slot), bd_X7_search_290 Q P  vM x1 x2 x3 x7 → Wd D A s.heap (mW t aM vM) H locs → lv_has ls 8 [(0, .ref (MA.o aM)), (1, .int x1), (2, .int x2), (3, .int x3), (7, .int x7)] → W p l e ({ frames := 7, cells := 0, slots := 0, locals := 168 } : Room) s m args below meth c H locs 0 0 (Ev below args s A D (fun (u : MV) => (mW t aM u)) (fun (u : MV) => Q u) 0 0) (F0 m 290 ls []) := by
  intro vM x1 x2 x3 x7 H locs ls h hw hl
  have hx := X.1.1
  have hb := X.1.2.1
  refine lv_iload hx hb dX7_search_290 (lv_at hl 4 rfl) ?_
  refine lv_iload_n hx hb dX7_search_292 rfl (lv_at hl 3 rfl) ?_
  refine lv_icmp_ge (tgt := 330) hx hb dX7_search_293 (by decide) (fun c_53 => ?_) (fun c_53 => ?_)
  · replace h := h.1 c_53
    exact e_v (w1 := (fun (u : MV) => (mW t aM u))) X (vM) hw h dX7_search_330
  replace h := h.2 c_53
  refine lv_iload_n hx hb dX7_search_296 rfl (lv_at hl 2 rfl) ?_
  refine lv_if_eq (tgt := 308) hx hb dX7_search_297 (by decide) (fun c_52 => ?_) (fun c_52 => ?_)
  · replace h := h.1 c_52
    exact k_X7_search_308 X aM hP _ _ _ _ _ _ _ _ h hw hl
  replace h := h.2 c_52
  refine lv_aload_n hx hb dX7_search_300 rfl (lv_at hl 0 rfl) ?_
  refine r_get (ci := 7) (C := RX7) (T := TX7) (N := 16) X hw 0 rfl rfl 7 (by decide) in_X7_search_X7 fl_X7_search_85 (v := .int (MV.found vM)) rfl dX7_search_301 ?_
  refine lv_iload_n hx hb dX7_search_304 rfl (lv_at hl 1 rfl) ?_
  refine lv_icmp_eq (tgt := 330) hx hb dX7_search_305 (by decide) (fun c_51 => ?_) (fun c_51 => ?_)
  · replace h := h.1 c_51
    exact e_v (w1 := (fun (u : MV) => (mW t aM u))) X (vM) hw h dX7_search_330
  replace h := h.2 c_51
  exact k_X7_search_308 X aM hP _ _ _ _ _ _ _ _ h hw hl
set_option maxHeartbeats 4000000 in
set_option maxRecDepth 100000 in
theorem k_X7_search_290 {p : Program} {l : Launch} {e : Env} {s : State} {m : MethodId} {below : List Frame} {meth : Method} {c : Code} {args : Array Value} {D : va_G} {t : T3} {A : Nat → Prop} (X : Cx p s m meth c args cX7_search 8 none RX7 wsX7_search D t A) (aM : MA) {Q : MV → Prop}   : ∀ (vM : MV) (x1 : Int32) (x2 : Int32) (x3 : Int32) (x7 : Int32) (H : Heap) (locs : List Loc) (ls : Array Slot), wp_X7_search_290 Q  vM x1 x2 x3 x7 → Wd D A s.heap (mW t aM vM) H locs → lv_has ls 8 [(0, .ref (MA.o aM)), (1, .int x1), (2, .int x2), (3, .int x3), (7, .int x7)] → W p l e ({ frames := 7, cells := 0, slots := 0, locals := 168 } : Room) s m args below meth c H locs 0 0 (Ev below args s A D (fun (u : MV) => (mW t aM u)) (fun (u : MV) => Q u) 0 0) (F0 m 290 ls []) := by
  intro vM x1 x2 x3 x7 H locs ls h hw hl
  have hx := X.1.1
  have hb := X.1.2.1
  refine h (fun (vM : MV) (x1 : Int32) (x2 : Int32) (x3 : Int32) (x7 : Int32) => ∀ (H : Heap) (locs : List Loc) (ls : Array Slot), Wd D A s.heap (mW t aM vM) H locs → lv_has ls 8 [(0, .ref (MA.o aM)), (1, .int x1), (2, .int x2), (3, .int x3), (7, .int x7)] → W p l e ({ frames := 7, cells := 0, slots := 0, locals := 168 } : Room) s m args below meth c H locs 0 0 (Ev below args s A D (fun (u : MV) => (mW t aM u)) (fun (u : MV) => Q u) 0 0) (F0 m 290 ls [])) (fun vM x1 x2 x3 x7 h H locs ls hw hl => ?_) H locs ls hw hl
  exact kb_X7_search_290 X aM (fun vM x1 x2 x3 x7 H locs ls q hw hl => q H locs ls hw hl)  vM x1 x2 x3 x7 _ _ _ h hw hl
def wp_X7_search_83 (Q : MV → Prop) (vM : MV) (x1 : Int32) (x2 : Int32) (x3 : Int32) (x4 : Int32) (x5 : Int32) (t0 : Int32) : Prop := wp_X7_search_85 Q (fun (vM_43 : MV) (x1_44 : Int32) (x2_45 : Int32) (x3_46 : Int32) => wp_X7_search_290 Q  vM_43 x1_44 x2_45 x3_46 0) vM x1 x2 x3 x4 x5 t0
set_option maxHeartbeats 4000000 in
set_option maxRecDepth 100000 in
theorem k_X7_search_83 {p : Program} {l : Launch} {e : Env} {s : State} {m : MethodId} {below : List Frame} {meth : Method} {c : Code} {args : Array Value} {D : va_G} {t : T3} {A : Nat → Prop} (X : Cx p s m meth c args cX7_search 8 none RX7 wsX7_search D t A) (aM : MA) {Q : MV → Prop}  : ∀ (vM : MV) (x1 : Int32) (x2 : Int32) (x3 : Int32) (x4 : Int32) (x5 : Int32) (t0 : Int32) (H : Heap) (locs : List Loc) (ls : Array Slot), wp_X7_search_83 Q vM x1 x2 x3 x4 x5 t0 → Wd D A s.heap (mW t aM vM) H locs → lv_has ls 8 [(0, .ref (MA.o aM)), (1, .int x1), (2, .int x2), (3, .int x3), (4, .int x4), (5, .int x5)] → W p l e ({ frames := 7, cells := 0, slots := 0, locals := 168 } : Room) s m args below meth c H locs 0 0 (Ev below args s A D (fun (u : MV) => (mW t aM u)) (fun (u : MV) => Q u) 0 0) (F0 m 83 ls [.int t0]) := by
  intro vM x1 x2 x3 x4 x5 t0 H locs ls h hw hl
  have hx := X.1.1
  have hb := X.1.2.1
  refine lv_istore (lv' := [(6, .int t0), (0, .ref (MA.o aM)), (1, .int x1), (2, .int x2), (3, .int x3), (4, .int x4), (5, .int x5)]) hx hb dX7_search_83 hl (by decide) rfl (fun ls hl => ?_)
  refine k_X7_search_85 X aM (fun vM_43 x1_44 x2_45 x3_46 H locs ls h hw hl => ?_) _ _ _ _ _ _ _ _ _ _ h hw (lv_sub hl [1, 2, 3, 4, 5, 6, 0] rfl)
  refine lv_iconst (v := 0) hx hb dX7_search_287 (by decide) ?_
  refine lv_istore (lv' := [(7, .int 0), (0, .ref (MA.o aM)), (1, .int x1_44), (2, .int x2_45), (3, .int x3_46)]) hx hb dX7_search_288 hl (by decide) rfl (fun ls hl => ?_)
  refine k_X7_search_290 X aM  _ _ _ _ _ _ _ _ h hw (lv_sub hl [1, 2, 3, 4, 0] rfl)
def wp_X7_search_55 (Q : MV → Prop) (vM : MV) (x1 : Int32) (x2 : Int32) (x3 : Int32) (t1 : Int32) : Prop := (x3 ≤ 0 → wp_X7_search_83  Q (MV.s_isCut (MV.s_steps (MV.s_found vM t1) 0) 0) x1 x2 x3 0 0 0) ∧ (¬ x3 ≤ 0 → wp_X7_search_83  Q (MV.s_isCut (MV.s_steps (MV.s_found vM t1) 0) 0) x1 x2 x3 0 0 1)
set_option maxHeartbeats 4000000 in
set_option maxRecDepth 100000 in
theorem k_X7_search_55 {p : Program} {l : Launch} {e : Env} {s : State} {m : MethodId} {below : List Frame} {meth : Method} {c : Code} {args : Array Value} {D : va_G} {t : T3} {A : Nat → Prop} (X : Cx p s m meth c args cX7_search 8 none RX7 wsX7_search D t A) (aM : MA) {Q : MV → Prop}  : ∀ (vM : MV) (x1 : Int32) (x2 : Int32) (x3 : Int32) (t1 : Int32) (H : Heap) (locs : List Loc) (ls : Array Slot), wp_X7_search_55 Q vM x1 x2 x3 t1 → Wd D A s.heap (mW t aM vM) H locs → lv_has ls 8 [(0, .ref (MA.o aM)), (1, .int x1), (2, .int x2), (3, .int x3)] → W p l e ({ frames := 7, cells := 0, slots := 0, locals := 168 } : Room) s m args below meth c H locs 0 0 (Ev below args s A D (fun (u : MV) => (mW t aM u)) (fun (u : MV) => Q u) 0 0) (F0 m 55 ls [.int t1, .ref (MA.o aM)]) := by
  intro vM x1 x2 x3 t1 H locs ls h hw hl
  have hx := X.1.1
  have hb := X.1.2.1
  refine r_put (ci := 7) (C := RX7) (T := TX7) (N := 16) (v := .int t1) (ws' := (mW t aM (MV.s_found vM t1))) X hw 0 rfl rfl 7 (by decide) in_X7_search_X7 tyX7 tyX7_ok nmX7 fl_X7_search_85 rfl rfl rfl (Nat.le_of_ble_eq_true rfl) rfl dX7_search_55 (fun H locs hw => ?_)
  refine lv_aload_n hx hb dX7_search_58 rfl (lv_at hl 0 rfl) ?_
  refine lv_iconst (v := 0) hx hb dX7_search_59 (by decide) ?_
  refine r_put (ci := 7) (C := RX7) (T := TX7) (N := 16) (v := .int 0) (ws' := (mW t aM (MV.s_steps (MV.s_found vM t1) 0))) X hw 0 rfl rfl 8 (by decide) in_X7_search_X7 tyX7 tyX7_ok nmX7 fl_X7_search_88 rfl rfl rfl (Nat.le_of_ble_eq_true rfl) rfl dX7_search_60 (fun H locs hw => ?_)
  refine lv_aload_n hx hb dX7_search_63 rfl (lv_at hl 0 rfl) ?_
  refine lv_iconst (v := 0) hx hb dX7_search_64 (by decide) ?_
  refine r_put (ci := 7) (C := RX7) (T := TX7) (N := 16) (v := .int 0) (ws' := (mW t aM (MV.s_isCut (MV.s_steps (MV.s_found vM t1) 0) 0))) X hw 0 rfl rfl 9 (by decide) in_X7_search_X7 tyX7 tyX7_ok nmX7 fl_X7_search_91 rfl rfl rfl (Nat.le_of_ble_eq_true rfl) rfl dX7_search_65 (fun H locs hw => ?_)
  refine lv_iconst (v := 0) hx hb dX7_search_68 (by decide) ?_
  refine lv_istore (lv' := [(4, .int 0), (0, .ref (MA.o aM)), (1, .int x1), (2, .int x2), (3, .int x3)]) hx hb dX7_search_69 hl (by decide) rfl (fun ls hl => ?_)
  refine lv_iconst (v := 0) hx hb dX7_search_71 (by decide) ?_
  refine lv_istore (lv' := [(5, .int 0), (4, .int 0), (0, .ref (MA.o aM)), (1, .int x1), (2, .int x2), (3, .int x3)]) hx hb dX7_search_72 hl (by decide) rfl (fun ls hl => ?_)
  refine lv_iload_n hx hb dX7_search_74 rfl (lv_at hl 5 rfl) ?_
  refine lv_if_le (tgt := 82) hx hb dX7_search_75 (by decide) (fun c_54 => ?_) (fun c_54 => ?_)
  · replace h := h.1 c_54
    refine lv_iconst (v := 0) hx hb dX7_search_82 (by decide) ?_
    exact k_X7_search_83 X aM _ _ _ _ _ _ _ _ _ _ h hw (lv_sub hl [2, 3, 4, 5, 1, 0] rfl)
  replace h := h.2 c_54
  refine lv_iconst (v := 1) hx hb dX7_search_78 (by decide) ?_
  refine lv_goto (tgt := 83) hx hb dX7_search_79 (by decide) ?_
  exact k_X7_search_83 X aM _ _ _ _ _ _ _ _ _ _ h hw (lv_sub hl [2, 3, 4, 5, 1, 0] rfl)
def wp_X7_search (vM : MV) (p1 : Int32) (p2 : Int32) (Q : MV → Prop) : Prop := wp_X7_search_5 Q (fun (vM_10 : MV) (x1_11 : Int32) (x2_12 : Int32) (x3_13 : Int32) => (¬ x3_13 = 0 → wp_X7_search_55  Q vM_10 x1_11 x2_12 x3_13 0) ∧ (x3_13 = 0 → wp_X7_search_55  Q vM_10 x1_11 x2_12 x3_13 1)) vM p1 p2 0 0
set_option maxHeartbeats 4000000 in
set_option maxRecDepth 100000 in
theorem c_X7_search (l : Launch) (D : va_G) (t : T3) (aM : MA) (vM : MV) (p1 : Int32) (p2 : Int32) (Q : MV → Prop) (h : wp_X7_search vM p1 p2 Q) : Ct l yX7_search wsX7_search 7 168 0 0 [.ref (MA.o aM), .int p1, .int p2] D t (mW t aM vM) (fun sz => Qv D (mW t aM vM) (fun (u : MV) => (mW t aM u)) (fun (u : MV) => Q u) sz) := by
  refine Ct.of (Qf := fun _ A => va_Qv (fun (u : MV) => Q u) (B1 D (fun (u : MV) => (mW t aM u)) A) A) cX7_search 8 none (by decide) rfl (Nat.le_of_ble_eq_true rfl) ?_
  intro p e s m below meth c A ls hAe hin X hw hl
  generalize ([.ref (MA.o aM), .int p1, .int p2] : List Value).toArray = args at X ⊢
  have hl : lv_has ls 8 [(0, .ref (MA.o aM)), (1, .int p1), (2, .int p2)] := hl
  have hx := X.1.1
  have hb := X.1.2.1
  refine lv_iconst (v := 0) hx hb dX7_search_0 (by decide) ?_
  refine lv_istore_n (lv' := [(3, .int 0), (0, .ref (MA.o aM)), (1, .int p1), (2, .int p2)]) hx hb dX7_search_1 rfl hl (by decide) rfl (fun ls hl => ?_)
  refine lv_iconst (v := 0) hx hb dX7_search_2 (by decide) ?_
  refine lv_istore (lv' := [(4, .int 0), (3, .int 0), (0, .ref (MA.o aM)), (1, .int p1), (2, .int p2)]) hx hb dX7_search_3 hl (by decide) rfl (fun ls hl => ?_)
  refine k_X7_search_5 X aM (fun vM_10 x1_11 x2_12 x3_13 H locs ls h hw hl => ?_) _ _ _ _ _ _ _ _ h hw (lv_sub hl [2, 3, 4, 1, 0] rfl)
  refine lv_aload_n hx hb dX7_search_45 rfl (lv_at hl 0 rfl) ?_
  refine lv_iload_n hx hb dX7_search_46 rfl (lv_at hl 3 rfl) ?_
  refine lv_if_ne (tgt := 54) hx hb dX7_search_47 (by decide) (fun c_55 => ?_) (fun c_55 => ?_)
  · replace h := h.1 c_55
    refine lv_iconst (v := 0) hx hb dX7_search_54 (by decide) ?_
    exact k_X7_search_55 X aM _ _ _ _ _ _ _ _ h hw hl
  replace h := h.2 c_55
  refine lv_iconst (v := 1) hx hb dX7_search_50 (by decide) ?_
  refine lv_goto (tgt := 55) hx hb dX7_search_51 (by decide) ?_
  exact k_X7_search_55 X aM _ _ _ _ _ _ _ _ h hw hl
/-! X7_save -/
theorem in_X7_save_X7 : ∀ w ∈ u_ws RX7 TX7 16, w ∈ wsX7_save := fun w h => (List.mem_cons_of_mem _ (List.mem_append_right _ h))
theorem fl_X7_save_98 : Cond.fieldLink RX7 98 "TwoFacedTilesModel" "saves" "I" ∈ wsX7_save := List.mem_of_getElem? (i := 1) rfl
theorem fl_X7_save_13 : Cond.fieldLink RX7 13 "TwoFacedTilesModel" "saved" "[I" ∈ wsX7_save := List.mem_of_getElem? (i := 2) rfl
theorem fl_X7_save_7 : Cond.fieldLink RX7 7 "TwoFacedTilesModel" "z" "[I" ∈ wsX7_save := List.mem_of_getElem? (i := 3) rfl
def bd_X7_save_52 (Q : MV → Prop) (P : MV → Int32 → Prop) (K84 : MV → Prop) (vM : MV) (x1 : Int32) : Prop := (52 ≤ x1 → K84 vM) ∧ (¬ 52 ≤ x1 → vp_in x1 52 ∧ ∀ f_2 : Int32, f_2 = ((MV.z vM) (Int32.toNatClampNeg x1)) → vp_in ((52 * (MV.saves vM)) + x1) 416 ∧ ∀ s_4 : Nat → Int32, s_4 = upd (MV.saved vM) (Int32.toNatClampNeg ((52 * (MV.saves vM)) + x1)) f_2 → ∀ x1_5 : Int32, x1_5 = x1 + 1 → P (MV.s_saved vM s_4) x1_5)
def wp_X7_save_52 (Q : MV → Prop) (K84 : MV → Prop) (vM : MV) (x1 : Int32) : Prop := ∀ P : MV → Int32 → Prop, (∀ (vM : MV) (x1 : Int32), bd_X7_save_52 Q P K84 vM x1 → P vM x1) → P vM x1
set_option maxHeartbeats 4000000 in
set_option maxRecDepth 100000 in
theorem kb_X7_save_52 {p : Program} {l : Launch} {e : Env} {s : State} {m : MethodId} {below : List Frame} {meth : Method} {c : Code} {args : Array Value} {D : va_G} {t : T3} {A : Nat → Prop} (X : Cx p s m meth c args cX7_save 2 none RX7 wsX7_save D t A) (aM : MA) {Q : MV → Prop} {P : MV → Int32 → Prop} {K84 : MV → Prop} (hP : ∀ (vM : MV) (x1 : Int32) (H : Heap) (locs : List Loc) (ls : Array Slot), P vM x1 → Wd D A s.heap (mW t aM vM) H locs → lv_has ls 2 [(0, .ref (MA.o aM)), (1, .int x1)] → W p l e ({ frames := 0, cells := 0, slots := 0, locals := 0 } : Room) s m args below meth c H locs 0 0 (Ev below args s A D (fun (u : MV) => (mW t aM u)) (fun (u : MV) => Q u) 0 0) (F0 m 52 ls [])) (hK84 : ∀ (vM : MV) (H : Heap) (locs : List Loc) (ls : Array Slot), K84 vM → Wd D A s.heap (mW t aM vM) H locs → lv_has ls 2 [(0, .ref (MA.o aM))] → W p l e ({ frames := 0, cells := 0, slots := 0, locals := 0 } : Room) s m args below meth c H locs 0 0 (Ev below args s A D (fun (u : MV) => (mW t aM u)) (fun (u : MV) => Q u) 0 0) (F0 m 84 ls [])) : ∀ (vM : MV) (x1 : Int32) (H : Heap) (locs : List Loc) (ls : Array Slot), bd_X7_save_52 Q P K84 vM x1 → Wd D A s.heap (mW t aM vM) H locs → lv_has ls 2 [(0, .ref (MA.o aM)), (1, .int x1)] → W p l e ({ frames := 0, cells := 0, slots := 0, locals := 0 } : Room) s m args below meth c H locs 0 0 (Ev below args s A D (fun (u : MV) => (mW t aM u)) (fun (u : MV) => Q u) 0 0) (F0 m 52 ls []) := by
  intro vM x1 H locs ls h hw hl
  have hx := X.1.1
  have hb := X.1.2.1
  refine lv_iload_n hx hb dX7_save_52 rfl (lv_at hl 1 rfl) ?_
  refine lv_bipush (v := 52) hx hb dX7_save_53 (by decide) ?_
  refine lv_icmp_ge (tgt := 84) hx hb dX7_save_55 (by decide) (fun c_6 => ?_) (fun c_6 => ?_)
  · replace h := h.1 c_6
    exact hK84 _ _ _ _ h hw (lv_sub hl [0] rfl)
  replace h := h.2 c_6
  refine lv_aload_n hx hb dX7_save_58 rfl (lv_at hl 0 rfl) ?_
  refine r_get (ci := 7) (C := RX7) (T := TX7) (N := 16) X hw 0 rfl rfl 3 (by decide) in_X7_save_X7 fl_X7_save_13 (v := .ref (MA.saved aM)) rfl dX7_save_59 ?_
  refine lv_bipush (v := 52) hx hb dX7_save_62 (by decide) ?_
  refine lv_aload_n hx hb dX7_save_64 rfl (lv_at hl 0 rfl) ?_
  refine r_get (ci := 7) (C := RX7) (T := TX7) (N := 16) X hw 0 rfl rfl 2 (by decide) in_X7_save_X7 fl_X7_save_98 (v := .int (MV.saves vM)) rfl dX7_save_65 ?_
  refine lv_imul hx hb dX7_save_68 ?_
  refine lv_iload_n hx hb dX7_save_69 rfl (lv_at hl 1 rfl) ?_
  refine lv_iadd hx hb dX7_save_70 ?_
  refine lv_aload_n hx hb dX7_save_71 rfl (lv_at hl 0 rfl) ?_
  refine r_get (ci := 7) (C := RX7) (T := TX7) (N := 16) X hw 0 rfl rfl 1 (by decide) in_X7_save_X7 fl_X7_save_7 (v := .ref (MA.z aM)) rfl dX7_save_72 ?_
  refine lv_iload_n hx hb dX7_save_75 rfl (lv_at hl 1 rfl) ?_
  obtain ⟨hi_1, h⟩ := h
  refine r_iald (v := ((MV.z vM) (Int32.toNatClampNeg x1))) X hw 1 rfl hi_1 rfl dX7_save_76 ?_
  refine lv_topi (fun f_2 ef_2 => ?_)
  replace h := h f_2 ef_2
  obtain ⟨hi_3, h⟩ := h
  obtain ⟨s_4, es_4⟩ : ∃ z : Nat → Int32, z = upd (MV.saved vM) (Int32.toNatClampNeg ((52 * (MV.saves vM)) + x1)) f_2 := ⟨_, rfl⟩
  replace h := h s_4 es_4
  refine r_iast (ws' := (mW t aM (MV.s_saved vM s_4))) X hw 2 rfl hi_3 (by subst es_4; rfl) dX7_save_77 (fun H locs hw => ?_)
  obtain ⟨x1_5, ex1_5⟩ : ∃ z : Int32, z = x1 + 1 := ⟨_, rfl⟩
  replace h := h x1_5 ex1_5
  refine lv_iinc (v := x1_5) (lv' := [(1, .int x1_5), (0, .ref (MA.o aM))]) hx hb dX7_save_78 hl (k := 1) rfl (by rw [ex1_5]; rfl) (by decide) rfl (fun ls hl => ?_)
  refine lv_goto (tgt := 52) hx hb dX7_save_81 (by decide) ?_
  exact hP _ _ _ _ _ h hw (lv_sub hl [1, 0] rfl)
set_option maxHeartbeats 4000000 in
set_option maxRecDepth 100000 in
theorem k_X7_save_52 {p : Program} {l : Launch} {e : Env} {s : State} {m : MethodId} {below : List Frame} {meth : Method} {c : Code} {args : Array Value} {D : va_G} {t : T3} {A : Nat → Prop} (X : Cx p s m meth c args cX7_save 2 none RX7 wsX7_save D t A) (aM : MA) {Q : MV → Prop} {K84 : MV → Prop} (hK84 : ∀ (vM : MV) (H : Heap) (locs : List Loc) (ls : Array Slot), K84 vM → Wd D A s.heap (mW t aM vM) H locs → lv_has ls 2 [(0, .ref (MA.o aM))] → W p l e ({ frames := 0, cells := 0, slots := 0, locals := 0 } : Room) s m args below meth c H locs 0 0 (Ev below args s A D (fun (u : MV) => (mW t aM u)) (fun (u : MV) => Q u) 0 0) (F0 m 84 ls [])) : ∀ (vM : MV) (x1 : Int32) (H : Heap) (locs : List Loc) (ls : Array Slot), wp_X7_save_52 Q K84 vM x1 → Wd D A s.heap (mW t aM vM) H locs → lv_has ls 2 [(0, .ref (MA.o aM)), (1, .int x1)] → W p l e ({ frames := 0, cells := 0, slots := 0, locals := 0 } : Room) s m args below meth c H locs 0 0 (Ev below args s A D (fun (u : MV) => (mW t aM u)) (fun (u : MV) => Q u) 0 0) (F0 m 52 ls []) := by
  intro vM x1 H locs ls h hw hl
  have hx := X.1.1
  have hb := X.1.2.1
  refine h (fun (vM : MV) (x1 : Int32) => ∀ (H : Heap) (locs : List Loc) (ls : Array Slot), Wd D A s.heap (mW t aM vM) H locs → lv_has ls 2 [(0, .ref (MA.o aM)), (1, .int x1)] → W p l e ({ frames := 0, cells := 0, slots := 0, locals := 0 } : Room) s m args below meth c H locs 0 0 (Ev below args s A D (fun (u : MV) => (mW t aM u)) (fun (u : MV) => Q u) 0 0) (F0 m 52 ls [])) (fun vM x1 h H locs ls hw hl => ?_) H locs ls hw hl
  exact kb_X7_save_52 X aM (fun vM x1 H locs ls q hw hl => q H locs ls hw hl) hK84 vM x1 _ _ _ h hw hl
def wp_X7_save_50 (Q : MV → Prop) (vM : MV) : Prop := wp_X7_save_52 Q (fun (vM_7 : MV) => ∀ f_8 : Int32, f_8 = ((MV.saves vM_7) + 1) → Q (MV.s_saves vM_7 f_8)) vM 0
set_option maxHeartbeats 4000000 in
set_option maxRecDepth 100000 in
theorem k_X7_save_50 {p : Program} {l : Launch} {e : Env} {s : State} {m : MethodId} {below : List Frame} {meth : Method} {c : Code} {args : Array Value} {D : va_G} {t : T3} {A : Nat → Prop} (X : Cx p s m meth c args cX7_save 2 none RX7 wsX7_save D t A) (aM : MA) {Q : MV → Prop}  : ∀ (vM : MV) (H : Heap) (locs : List Loc) (ls : Array Slot), wp_X7_save_50 Q vM → Wd D A s.heap (mW t aM vM) H locs → lv_has ls 2 [(0, .ref (MA.o aM))] → W p l e ({ frames := 0, cells := 0, slots := 0, locals := 0 } : Room) s m args below meth c H locs 0 0 (Ev below args s A D (fun (u : MV) => (mW t aM u)) (fun (u : MV) => Q u) 0 0) (F0 m 50 ls []) := by
  intro vM H locs ls h hw hl
  have hx := X.1.1
  have hb := X.1.2.1
  refine lv_iconst (v := 0) hx hb dX7_save_50 (by decide) ?_
  refine lv_istore_n (lv' := [(1, .int 0), (0, .ref (MA.o aM))]) hx hb dX7_save_51 rfl hl (by decide) rfl (fun ls hl => ?_)
  refine k_X7_save_52 X aM (fun vM_7 H locs ls h hw hl => ?_) _ _ _ _ _ h hw (lv_sub hl [1, 0] rfl)
  refine lv_aload_n hx hb dX7_save_84 rfl (lv_at hl 0 rfl) ?_
  refine lv_dup hx hb dX7_save_85 rfl ?_
  refine r_get (ci := 7) (C := RX7) (T := TX7) (N := 16) X hw 0 rfl rfl 2 (by decide) in_X7_save_X7 fl_X7_save_98 (v := .int (MV.saves vM_7)) rfl dX7_save_86 ?_
  refine lv_iconst (v := 1) hx hb dX7_save_89 (by decide) ?_
  refine lv_iadd hx hb dX7_save_90 ?_
  refine lv_topi (fun f_8 ef_8 => ?_)
  replace h := h f_8 ef_8
  refine r_put (ci := 7) (C := RX7) (T := TX7) (N := 16) (v := .int f_8) (ws' := (mW t aM (MV.s_saves vM_7 f_8))) X hw 0 rfl rfl 2 (by decide) in_X7_save_X7 tyX7 tyX7_ok nmX7 fl_X7_save_98 rfl rfl rfl (Nat.le_of_ble_eq_true rfl) rfl dX7_save_91 (fun H locs hw => ?_)
  exact e_v (w1 := (fun (u : MV) => (mW t aM u))) X ((MV.s_saves vM_7 f_8)) hw h dX7_save_94
def bd_X7_save_12 (Q : MV → Prop) (P : MV → Int32 → Prop) (K40 : MV → Prop) (vM : MV) (x1 : Int32) : Prop := (416 ≤ x1 → K40 vM) ∧ (¬ 416 ≤ x1 → vp_in x1 416 ∧ ∀ f_10 : Int32, f_10 = ((MV.saved vM) (Int32.toNatClampNeg x1)) → vp_in (x1 - 52) 416 ∧ ∀ s_12 : Nat → Int32, s_12 = upd (MV.saved vM) (Int32.toNatClampNeg (x1 - 52)) f_10 → ∀ x1_13 : Int32, x1_13 = x1 + 1 → P (MV.s_saved vM s_12) x1_13)
def wp_X7_save_12 (Q : MV → Prop) (K40 : MV → Prop) (vM : MV) (x1 : Int32) : Prop := ∀ P : MV → Int32 → Prop, (∀ (vM : MV) (x1 : Int32), bd_X7_save_12 Q P K40 vM x1 → P vM x1) → P vM x1
set_option maxHeartbeats 4000000 in
set_option maxRecDepth 100000 in
theorem kb_X7_save_12 {p : Program} {l : Launch} {e : Env} {s : State} {m : MethodId} {below : List Frame} {meth : Method} {c : Code} {args : Array Value} {D : va_G} {t : T3} {A : Nat → Prop} (X : Cx p s m meth c args cX7_save 2 none RX7 wsX7_save D t A) (aM : MA) {Q : MV → Prop} {P : MV → Int32 → Prop} {K40 : MV → Prop} (hP : ∀ (vM : MV) (x1 : Int32) (H : Heap) (locs : List Loc) (ls : Array Slot), P vM x1 → Wd D A s.heap (mW t aM vM) H locs → lv_has ls 2 [(0, .ref (MA.o aM)), (1, .int x1)] → W p l e ({ frames := 0, cells := 0, slots := 0, locals := 0 } : Room) s m args below meth c H locs 0 0 (Ev below args s A D (fun (u : MV) => (mW t aM u)) (fun (u : MV) => Q u) 0 0) (F0 m 12 ls [])) (hK40 : ∀ (vM : MV) (H : Heap) (locs : List Loc) (ls : Array Slot), K40 vM → Wd D A s.heap (mW t aM vM) H locs → lv_has ls 2 [(0, .ref (MA.o aM))] → W p l e ({ frames := 0, cells := 0, slots := 0, locals := 0 } : Room) s m args below meth c H locs 0 0 (Ev below args s A D (fun (u : MV) => (mW t aM u)) (fun (u : MV) => Q u) 0 0) (F0 m 40 ls [])) : ∀ (vM : MV) (x1 : Int32) (H : Heap) (locs : List Loc) (ls : Array Slot), bd_X7_save_12 Q P K40 vM x1 → Wd D A s.heap (mW t aM vM) H locs → lv_has ls 2 [(0, .ref (MA.o aM)), (1, .int x1)] → W p l e ({ frames := 0, cells := 0, slots := 0, locals := 0 } : Room) s m args below meth c H locs 0 0 (Ev below args s A D (fun (u : MV) => (mW t aM u)) (fun (u : MV) => Q u) 0 0) (F0 m 12 ls []) := by
  intro vM x1 H locs ls h hw hl
  have hx := X.1.1
  have hb := X.1.2.1
  refine lv_iload_n hx hb dX7_save_12 rfl (lv_at hl 1 rfl) ?_
  refine lv_sipush (v := 416) hx hb dX7_save_13 (by decide) ?_
  refine lv_icmp_ge (tgt := 40) hx hb dX7_save_16 (by decide) (fun c_14 => ?_) (fun c_14 => ?_)
  · replace h := h.1 c_14
    exact hK40 _ _ _ _ h hw (lv_sub hl [0] rfl)
  replace h := h.2 c_14
  refine lv_aload_n hx hb dX7_save_19 rfl (lv_at hl 0 rfl) ?_
  refine r_get (ci := 7) (C := RX7) (T := TX7) (N := 16) X hw 0 rfl rfl 3 (by decide) in_X7_save_X7 fl_X7_save_13 (v := .ref (MA.saved aM)) rfl dX7_save_20 ?_
  refine lv_iload_n hx hb dX7_save_23 rfl (lv_at hl 1 rfl) ?_
  refine lv_bipush (v := 52) hx hb dX7_save_24 (by decide) ?_
  refine lv_isub hx hb dX7_save_26 ?_
  refine lv_aload_n hx hb dX7_save_27 rfl (lv_at hl 0 rfl) ?_
  refine r_get (ci := 7) (C := RX7) (T := TX7) (N := 16) X hw 0 rfl rfl 3 (by decide) in_X7_save_X7 fl_X7_save_13 (v := .ref (MA.saved aM)) rfl dX7_save_28 ?_
  refine lv_iload_n hx hb dX7_save_31 rfl (lv_at hl 1 rfl) ?_
  obtain ⟨hi_9, h⟩ := h
  refine r_iald (v := ((MV.saved vM) (Int32.toNatClampNeg x1))) X hw 2 rfl hi_9 rfl dX7_save_32 ?_
  refine lv_topi (fun f_10 ef_10 => ?_)
  replace h := h f_10 ef_10
  obtain ⟨hi_11, h⟩ := h
  obtain ⟨s_12, es_12⟩ : ∃ z : Nat → Int32, z = upd (MV.saved vM) (Int32.toNatClampNeg (x1 - 52)) f_10 := ⟨_, rfl⟩
  replace h := h s_12 es_12
  refine r_iast (ws' := (mW t aM (MV.s_saved vM s_12))) X hw 2 rfl hi_11 (by subst es_12; rfl) dX7_save_33 (fun H locs hw => ?_)
  obtain ⟨x1_13, ex1_13⟩ : ∃ z : Int32, z = x1 + 1 := ⟨_, rfl⟩
  replace h := h x1_13 ex1_13
  refine lv_iinc (v := x1_13) (lv' := [(1, .int x1_13), (0, .ref (MA.o aM))]) hx hb dX7_save_34 hl (k := 1) rfl (by rw [ex1_13]; rfl) (by decide) rfl (fun ls hl => ?_)
  refine lv_goto (tgt := 12) hx hb dX7_save_37 (by decide) ?_
  exact hP _ _ _ _ _ h hw (lv_sub hl [1, 0] rfl)
set_option maxHeartbeats 4000000 in
set_option maxRecDepth 100000 in
theorem k_X7_save_12 {p : Program} {l : Launch} {e : Env} {s : State} {m : MethodId} {below : List Frame} {meth : Method} {c : Code} {args : Array Value} {D : va_G} {t : T3} {A : Nat → Prop} (X : Cx p s m meth c args cX7_save 2 none RX7 wsX7_save D t A) (aM : MA) {Q : MV → Prop} {K40 : MV → Prop} (hK40 : ∀ (vM : MV) (H : Heap) (locs : List Loc) (ls : Array Slot), K40 vM → Wd D A s.heap (mW t aM vM) H locs → lv_has ls 2 [(0, .ref (MA.o aM))] → W p l e ({ frames := 0, cells := 0, slots := 0, locals := 0 } : Room) s m args below meth c H locs 0 0 (Ev below args s A D (fun (u : MV) => (mW t aM u)) (fun (u : MV) => Q u) 0 0) (F0 m 40 ls [])) : ∀ (vM : MV) (x1 : Int32) (H : Heap) (locs : List Loc) (ls : Array Slot), wp_X7_save_12 Q K40 vM x1 → Wd D A s.heap (mW t aM vM) H locs → lv_has ls 2 [(0, .ref (MA.o aM)), (1, .int x1)] → W p l e ({ frames := 0, cells := 0, slots := 0, locals := 0 } : Room) s m args below meth c H locs 0 0 (Ev below args s A D (fun (u : MV) => (mW t aM u)) (fun (u : MV) => Q u) 0 0) (F0 m 12 ls []) := by
  intro vM x1 H locs ls h hw hl
  have hx := X.1.1
  have hb := X.1.2.1
  refine h (fun (vM : MV) (x1 : Int32) => ∀ (H : Heap) (locs : List Loc) (ls : Array Slot), Wd D A s.heap (mW t aM vM) H locs → lv_has ls 2 [(0, .ref (MA.o aM)), (1, .int x1)] → W p l e ({ frames := 0, cells := 0, slots := 0, locals := 0 } : Room) s m args below meth c H locs 0 0 (Ev below args s A D (fun (u : MV) => (mW t aM u)) (fun (u : MV) => Q u) 0 0) (F0 m 12 ls [])) (fun vM x1 h H locs ls hw hl => ?_) H locs ls hw hl
  exact kb_X7_save_12 X aM (fun vM x1 H locs ls q hw hl => q H locs ls hw hl) hK40 vM x1 _ _ _ h hw hl
def wp_X7_save (vM : MV) (Q : MV → Prop) : Prop := (¬ (MV.saves vM) = 8 → wp_X7_save_50  Q vM) ∧ ((MV.saves vM) = 8 → wp_X7_save_12 Q (fun (vM_15 : MV) => ∀ f_16 : Int32, f_16 = ((MV.saves vM_15) - 1) → wp_X7_save_50  Q (MV.s_saves vM_15 f_16)) vM 52)
set_option maxHeartbeats 4000000 in
set_option maxRecDepth 100000 in
theorem c_X7_save (l : Launch) (D : va_G) (t : T3) (aM : MA) (vM : MV) (Q : MV → Prop) (h : wp_X7_save vM Q) : Ct l yX7_save wsX7_save 0 0 0 0 [.ref (MA.o aM)] D t (mW t aM vM) (fun sz => Qv D (mW t aM vM) (fun (u : MV) => (mW t aM u)) (fun (u : MV) => Q u) sz) := by
  refine Ct.of (Qf := fun _ A => va_Qv (fun (u : MV) => Q u) (B1 D (fun (u : MV) => (mW t aM u)) A) A) cX7_save 2 none (by decide) rfl (Nat.le_of_ble_eq_true rfl) ?_
  intro p e s m below meth c A ls hAe hin X hw hl
  generalize ([.ref (MA.o aM)] : List Value).toArray = args at X ⊢
  have hl : lv_has ls 2 [(0, .ref (MA.o aM))] := hl
  have hx := X.1.1
  have hb := X.1.2.1
  refine lv_aload_n hx hb dX7_save_0 rfl (lv_at hl 0 rfl) ?_
  refine r_get (ci := 7) (C := RX7) (T := TX7) (N := 16) X hw 0 rfl rfl 2 (by decide) in_X7_save_X7 fl_X7_save_98 (v := .int (MV.saves vM)) rfl dX7_save_1 ?_
  refine lv_bipush (v := 8) hx hb dX7_save_4 (by decide) ?_
  refine lv_icmp_ne (tgt := 50) hx hb dX7_save_6 (by decide) (fun c_17 => ?_) (fun c_17 => ?_)
  · replace h := h.1 c_17
    exact k_X7_save_50 X aM _ _ _ _ h hw hl
  replace h := h.2 c_17
  refine lv_bipush (v := 52) hx hb dX7_save_9 (by decide) ?_
  refine lv_istore_n (lv' := [(1, .int 52), (0, .ref (MA.o aM))]) hx hb dX7_save_11 rfl hl (by decide) rfl (fun ls hl => ?_)
  refine k_X7_save_12 X aM (fun vM_15 H locs ls h hw hl => ?_) _ _ _ _ _ h hw (lv_sub hl [1, 0] rfl)
  refine lv_aload_n hx hb dX7_save_40 rfl (lv_at hl 0 rfl) ?_
  refine lv_dup hx hb dX7_save_41 rfl ?_
  refine r_get (ci := 7) (C := RX7) (T := TX7) (N := 16) X hw 0 rfl rfl 2 (by decide) in_X7_save_X7 fl_X7_save_98 (v := .int (MV.saves vM_15)) rfl dX7_save_42 ?_
  refine lv_iconst (v := 1) hx hb dX7_save_45 (by decide) ?_
  refine lv_isub hx hb dX7_save_46 ?_
  refine lv_topi (fun f_16 ef_16 => ?_)
  replace h := h f_16 ef_16
  refine r_put (ci := 7) (C := RX7) (T := TX7) (N := 16) (v := .int f_16) (ws' := (mW t aM (MV.s_saves vM_15 f_16))) X hw 0 rfl rfl 2 (by decide) in_X7_save_X7 tyX7 tyX7_ok nmX7 fl_X7_save_98 rfl rfl rfl (Nat.le_of_ble_eq_true rfl) rfl dX7_save_47 (fun H locs hw => ?_)
  exact k_X7_save_50 X aM _ _ _ _ h hw hl
/-! X7_restore -/
theorem in_X7_restore_X7 : ∀ w ∈ u_ws RX7 TX7 16, w ∈ wsX7_restore := fun w h => (List.mem_cons_of_mem _ (List.mem_append_right _ h))
theorem fl_X7_restore_98 : Cond.fieldLink RX7 98 "TwoFacedTilesModel" "saves" "I" ∈ wsX7_restore := List.mem_of_getElem? (i := 1) rfl
theorem fl_X7_restore_7 : Cond.fieldLink RX7 7 "TwoFacedTilesModel" "z" "[I" ∈ wsX7_restore := List.mem_of_getElem? (i := 2) rfl
theorem fl_X7_restore_13 : Cond.fieldLink RX7 13 "TwoFacedTilesModel" "saved" "[I" ∈ wsX7_restore := List.mem_of_getElem? (i := 3) rfl
def bd_X7_restore_12 (Q : MV → Prop) (P : MV → Int32 → Prop) (vM : MV) (x1 : Int32) : Prop := (52 ≤ x1 → Q vM) ∧ (¬ 52 ≤ x1 → vp_in ((52 * (MV.saves vM)) + x1) 416 ∧ ∀ f_3 : Int32, f_3 = ((MV.saved vM) (Int32.toNatClampNeg ((52 * (MV.saves vM)) + x1))) → vp_in x1 52 ∧ ∀ z_5 : Nat → Int32, z_5 = upd (MV.z vM) (Int32.toNatClampNeg x1) f_3 → ∀ x1_6 : Int32, x1_6 = x1 + 1 → P (MV.s_z vM z_5) x1_6)
def wp_X7_restore_12 (Q : MV → Prop)  (vM : MV) (x1 : Int32) : Prop := ∀ P : MV → Int32 → Prop, (∀ (vM : MV) (x1 : Int32), bd_X7_restore_12 Q P  vM x1 → P vM x1) → P vM x1
set_option maxHeartbeats 4000000 in
set_option maxRecDepth 100000 in
theorem kb_X7_restore_12 {p : Program} {l : Launch} {e : Env} {s : State} {m : MethodId} {below : List Frame} {meth : Method} {c : Code} {args : Array Value} {D : va_G} {t : T3} {A : Nat → Prop} (X : Cx p s m meth c args cX7_restore 2 none RX7 wsX7_restore D t A) (aM : MA) {Q : MV → Prop} {P : MV → Int32 → Prop} (hP : ∀ (vM : MV) (x1 : Int32) (H : Heap) (locs : List Loc) (ls : Array Slot), P vM x1 → Wd D A s.heap (mW t aM vM) H locs → lv_has ls 2 [(0, .ref (MA.o aM)), (1, .int x1)] → W p l e ({ frames := 0, cells := 0, slots := 0, locals := 0 } : Room) s m args below meth c H locs 0 0 (Ev below args s A D (fun (u : MV) => (mW t aM u)) (fun (u : MV) => Q u) 0 0) (F0 m 12 ls [])) : ∀ (vM : MV) (x1 : Int32) (H : Heap) (locs : List Loc) (ls : Array Slot), bd_X7_restore_12 Q P  vM x1 → Wd D A s.heap (mW t aM vM) H locs → lv_has ls 2 [(0, .ref (MA.o aM)), (1, .int x1)] → W p l e ({ frames := 0, cells := 0, slots := 0, locals := 0 } : Room) s m args below meth c H locs 0 0 (Ev below args s A D (fun (u : MV) => (mW t aM u)) (fun (u : MV) => Q u) 0 0) (F0 m 12 ls []) := by
  intro vM x1 H locs ls h hw hl
  have hx := X.1.1
  have hb := X.1.2.1
  refine lv_iload_n hx hb dX7_restore_12 rfl (lv_at hl 1 rfl) ?_
  refine lv_bipush (v := 52) hx hb dX7_restore_13 (by decide) ?_
  refine lv_icmp_ge (tgt := 44) hx hb dX7_restore_15 (by decide) (fun c_7 => ?_) (fun c_7 => ?_)
  · replace h := h.1 c_7
    exact e_v (w1 := (fun (u : MV) => (mW t aM u))) X (vM) hw h dX7_restore_44
  replace h := h.2 c_7
  refine lv_aload_n hx hb dX7_restore_18 rfl (lv_at hl 0 rfl) ?_
  refine r_get (ci := 7) (C := RX7) (T := TX7) (N := 16) X hw 0 rfl rfl 1 (by decide) in_X7_restore_X7 fl_X7_restore_7 (v := .ref (MA.z aM)) rfl dX7_restore_19 ?_
  refine lv_iload_n hx hb dX7_restore_22 rfl (lv_at hl 1 rfl) ?_
  refine lv_aload_n hx hb dX7_restore_23 rfl (lv_at hl 0 rfl) ?_
  refine r_get (ci := 7) (C := RX7) (T := TX7) (N := 16) X hw 0 rfl rfl 3 (by decide) in_X7_restore_X7 fl_X7_restore_13 (v := .ref (MA.saved aM)) rfl dX7_restore_24 ?_
  refine lv_bipush (v := 52) hx hb dX7_restore_27 (by decide) ?_
  refine lv_aload_n hx hb dX7_restore_29 rfl (lv_at hl 0 rfl) ?_
  refine r_get (ci := 7) (C := RX7) (T := TX7) (N := 16) X hw 0 rfl rfl 2 (by decide) in_X7_restore_X7 fl_X7_restore_98 (v := .int (MV.saves vM)) rfl dX7_restore_30 ?_
  refine lv_imul hx hb dX7_restore_33 ?_
  refine lv_iload_n hx hb dX7_restore_34 rfl (lv_at hl 1 rfl) ?_
  refine lv_iadd hx hb dX7_restore_35 ?_
  obtain ⟨hi_2, h⟩ := h
  refine r_iald (v := ((MV.saved vM) (Int32.toNatClampNeg ((52 * (MV.saves vM)) + x1)))) X hw 2 rfl hi_2 rfl dX7_restore_36 ?_
  refine lv_topi (fun f_3 ef_3 => ?_)
  replace h := h f_3 ef_3
  obtain ⟨hi_4, h⟩ := h
  obtain ⟨z_5, ez_5⟩ : ∃ z : Nat → Int32, z = upd (MV.z vM) (Int32.toNatClampNeg x1) f_3 := ⟨_, rfl⟩
  replace h := h z_5 ez_5
  refine r_iast (ws' := (mW t aM (MV.s_z vM z_5))) X hw 1 rfl hi_4 (by subst ez_5; rfl) dX7_restore_37 (fun H locs hw => ?_)
  obtain ⟨x1_6, ex1_6⟩ : ∃ z : Int32, z = x1 + 1 := ⟨_, rfl⟩
  replace h := h x1_6 ex1_6
  refine lv_iinc (v := x1_6) (lv' := [(1, .int x1_6), (0, .ref (MA.o aM))]) hx hb dX7_restore_38 hl (k := 1) rfl (by rw [ex1_6]; rfl) (by decide) rfl (fun ls hl => ?_)
  refine lv_goto (tgt := 12) hx hb dX7_restore_41 (by decide) ?_
  exact hP _ _ _ _ _ h hw (lv_sub hl [1, 0] rfl)
set_option maxHeartbeats 4000000 in
set_option maxRecDepth 100000 in
theorem k_X7_restore_12 {p : Program} {l : Launch} {e : Env} {s : State} {m : MethodId} {below : List Frame} {meth : Method} {c : Code} {args : Array Value} {D : va_G} {t : T3} {A : Nat → Prop} (X : Cx p s m meth c args cX7_restore 2 none RX7 wsX7_restore D t A) (aM : MA) {Q : MV → Prop}   : ∀ (vM : MV) (x1 : Int32) (H : Heap) (locs : List Loc) (ls : Array Slot), wp_X7_restore_12 Q  vM x1 → Wd D A s.heap (mW t aM vM) H locs → lv_has ls 2 [(0, .ref (MA.o aM)), (1, .int x1)] → W p l e ({ frames := 0, cells := 0, slots := 0, locals := 0 } : Room) s m args below meth c H locs 0 0 (Ev below args s A D (fun (u : MV) => (mW t aM u)) (fun (u : MV) => Q u) 0 0) (F0 m 12 ls []) := by
  intro vM x1 H locs ls h hw hl
  have hx := X.1.1
  have hb := X.1.2.1
  refine h (fun (vM : MV) (x1 : Int32) => ∀ (H : Heap) (locs : List Loc) (ls : Array Slot), Wd D A s.heap (mW t aM vM) H locs → lv_has ls 2 [(0, .ref (MA.o aM)), (1, .int x1)] → W p l e ({ frames := 0, cells := 0, slots := 0, locals := 0 } : Room) s m args below meth c H locs 0 0 (Ev below args s A D (fun (u : MV) => (mW t aM u)) (fun (u : MV) => Q u) 0 0) (F0 m 12 ls [])) (fun vM x1 h H locs ls hw hl => ?_) H locs ls hw hl
  exact kb_X7_restore_12 X aM (fun vM x1 H locs ls q hw hl => q H locs ls hw hl)  vM x1 _ _ _ h hw hl
def wp_X7_restore (vM : MV) (Q : MV → Prop) : Prop := ∀ f_1 : Int32, f_1 = ((MV.saves vM) - 1) → wp_X7_restore_12 Q  (MV.s_saves vM f_1) 0
set_option maxHeartbeats 4000000 in
set_option maxRecDepth 100000 in
theorem c_X7_restore (l : Launch) (D : va_G) (t : T3) (aM : MA) (vM : MV) (Q : MV → Prop) (h : wp_X7_restore vM Q) : Ct l yX7_restore wsX7_restore 0 0 0 0 [.ref (MA.o aM)] D t (mW t aM vM) (fun sz => Qv D (mW t aM vM) (fun (u : MV) => (mW t aM u)) (fun (u : MV) => Q u) sz) := by
  refine Ct.of (Qf := fun _ A => va_Qv (fun (u : MV) => Q u) (B1 D (fun (u : MV) => (mW t aM u)) A) A) cX7_restore 2 none (by decide) rfl (Nat.le_of_ble_eq_true rfl) ?_
  intro p e s m below meth c A ls hAe hin X hw hl
  generalize ([.ref (MA.o aM)] : List Value).toArray = args at X ⊢
  have hl : lv_has ls 2 [(0, .ref (MA.o aM))] := hl
  have hx := X.1.1
  have hb := X.1.2.1
  refine lv_aload_n hx hb dX7_restore_0 rfl (lv_at hl 0 rfl) ?_
  refine lv_dup hx hb dX7_restore_1 rfl ?_
  refine r_get (ci := 7) (C := RX7) (T := TX7) (N := 16) X hw 0 rfl rfl 2 (by decide) in_X7_restore_X7 fl_X7_restore_98 (v := .int (MV.saves vM)) rfl dX7_restore_2 ?_
  refine lv_iconst (v := 1) hx hb dX7_restore_5 (by decide) ?_
  refine lv_isub hx hb dX7_restore_6 ?_
  refine lv_topi (fun f_1 ef_1 => ?_)
  replace h := h f_1 ef_1
  refine r_put (ci := 7) (C := RX7) (T := TX7) (N := 16) (v := .int f_1) (ws' := (mW t aM (MV.s_saves vM f_1))) X hw 0 rfl rfl 2 (by decide) in_X7_restore_X7 tyX7 tyX7_ok nmX7 fl_X7_restore_98 rfl rfl rfl (Nat.le_of_ble_eq_true rfl) rfl dX7_restore_7 (fun H locs hw => ?_)
  refine lv_iconst (v := 0) hx hb dX7_restore_10 (by decide) ?_
  refine lv_istore_n (lv' := [(1, .int 0), (0, .ref (MA.o aM))]) hx hb dX7_restore_11 rfl hl (by decide) rfl (fun ls hl => ?_)
  refine k_X7_restore_12 X aM  _ _ _ _ _ h hw (lv_sub hl [1, 0] rfl)
/-! X7_undo -/
theorem in_X7_undo_X7 : ∀ w ∈ u_ws RX7 TX7 16, w ∈ wsX7_undo := fun w h => (List.mem_cons_of_mem _ (List.mem_append_right _ h))
theorem fl_X7_undo_98 : Cond.fieldLink RX7 98 "TwoFacedTilesModel" "saves" "I" ∈ wsX7_undo := List.mem_of_getElem? (i := 1) rfl
theorem fl_X7_undo_34 : Cond.fieldLink RX7 34 "TwoFacedTilesModel" "thrown" "I" ∈ wsX7_undo := List.mem_of_getElem? (i := 2) rfl
def wp_X7_undo_13 (Q : Int32 → MV → Prop) (vM : MV) (t1 : Int32) : Prop := (t1 ≤ 0 → wp_X7_restore (MV.s_thrown vM t1)  (fun (vM_1 : MV) => Q (MV.saves vM_1) vM_1)) ∧ (¬ t1 ≤ 0 → Q 0 (MV.s_thrown vM t1))
set_option maxHeartbeats 4000000 in
set_option maxRecDepth 100000 in
theorem k_X7_undo_13 {p : Program} {l : Launch} {e : Env} {s : State} {m : MethodId} {below : List Frame} {meth : Method} {c : Code} {args : Array Value} {D : va_G} {t : T3} {A : Nat → Prop} (X : Cx p s m meth c args cX7_undo 1 (some .int) RX7 wsX7_undo D t A) (aM : MA) {Q : Int32 → MV → Prop}  : ∀ (vM : MV) (t1 : Int32) (H : Heap) (locs : List Loc) (ls : Array Slot), wp_X7_undo_13 Q vM t1 → Wd D A s.heap (mW t aM vM) H locs → lv_has ls 1 [(0, .ref (MA.o aM))] → W p l e ({ frames := 1, cells := 0, slots := 0, locals := 21 } : Room) s m args below meth c H locs 0 0 (Ei below args s A D (fun (u : MV) => (mW t aM u)) (fun (r : Int32) (u : MV) => Q r u) 0 0) (F0 m 13 ls [.int t1, .ref (MA.o aM)]) := by
  intro vM t1 H locs ls h hw hl
  have hx := X.1.1
  have hb := X.1.2.1
  refine r_put (ci := 7) (C := RX7) (T := TX7) (N := 16) (v := .int t1) (ws' := (mW t aM (MV.s_thrown vM t1))) X hw 0 rfl rfl 0 (by decide) in_X7_undo_X7 tyX7 tyX7_ok nmX7 fl_X7_undo_34 rfl rfl rfl (Nat.le_of_ble_eq_true rfl) rfl dX7_undo_13 (fun H locs hw => ?_)
  refine lv_aload_n hx hb dX7_undo_16 rfl (lv_at hl 0 rfl) ?_
  refine r_get (ci := 7) (C := RX7) (T := TX7) (N := 16) X hw 0 rfl rfl 0 (by decide) in_X7_undo_X7 fl_X7_undo_34 (v := .int t1) rfl dX7_undo_17 ?_
  refine lv_if_le (tgt := 25) hx hb dX7_undo_20 (by decide) (fun c_2 => ?_) (fun c_2 => ?_)
  · replace h := h.1 c_2
    refine lv_aload_n hx hb dX7_undo_25 rfl (lv_at hl 0 rfl) ?_
    refine r_cv X hw pm_0 (wn := fun (u : MV) => (mW t aM u)) (fun u => pm_0.symm) (r_runV X hw (c_X7_restore l D t aM (MV.s_thrown vM t1) _ h) pm_0 (cwV 0 X.1.2.2.2.2 gX7_undo_X7_restore rfl rfl rfl (by decide +kernel) ⟨Nat.le_of_ble_eq_true rfl, Nat.le_of_ble_eq_true rfl⟩) (ci := 7) rfl rfl rfl rfl hl rfl (Nat.le_of_ble_eq_true rfl) dX7_undo_26 ⟨Nat.le_of_ble_eq_true rfl, Nat.le_of_ble_eq_true rfl⟩) (fun u H locs h hw => ?_)
    obtain ⟨vM_1, rfl⟩ : ∃ z, z = u := ⟨_, rfl⟩
    refine lv_aload_n hx hb dX7_undo_29 rfl (lv_at hl 0 rfl) ?_
    refine r_get (ci := 7) (C := RX7) (T := TX7) (N := 16) X hw 0 rfl rfl 2 (by decide) in_X7_undo_X7 fl_X7_undo_98 (v := .int (MV.saves vM_1)) rfl dX7_undo_30 ?_
    exact e_i (w1 := (fun (u : MV) => (mW t aM u))) X (vM_1) hw h dX7_undo_33
  replace h := h.2 c_2
  refine lv_iconst (v := 0) hx hb dX7_undo_23 (by decide) ?_
  exact e_i (w1 := (fun (u : MV) => (mW t aM u))) X ((MV.s_thrown vM t1)) hw h dX7_undo_24
def wp_X7_undo (vM : MV) (Q : Int32 → MV → Prop) : Prop := ((MV.saves vM) ≤ 0 → wp_X7_undo_13  Q vM 1) ∧ (¬ (MV.saves vM) ≤ 0 → wp_X7_undo_13  Q vM 0)
set_option maxHeartbeats 4000000 in
set_option maxRecDepth 100000 in
theorem c_X7_undo (l : Launch) (D : va_G) (t : T3) (aM : MA) (vM : MV) (Q : Int32 → MV → Prop) (h : wp_X7_undo vM Q) : Ct l yX7_undo wsX7_undo 1 21 0 0 [.ref (MA.o aM)] D t (mW t aM vM) (fun sz => Qi D (mW t aM vM) (fun (u : MV) => (mW t aM u)) (fun (r : Int32) (u : MV) => Q r u) sz) := by
  refine Ct.of (Qf := fun _ A => va_Qi (fun (r : Int32) (u : MV) => Q r u) (B1 D (fun (u : MV) => (mW t aM u)) A) A) cX7_undo 1 (some .int) (by decide) rfl (Nat.le_of_ble_eq_true rfl) ?_
  intro p e s m below meth c A ls hAe hin X hw hl
  generalize ([.ref (MA.o aM)] : List Value).toArray = args at X ⊢
  have hl : lv_has ls 1 [(0, .ref (MA.o aM))] := hl
  have hx := X.1.1
  have hb := X.1.2.1
  refine lv_aload_n hx hb dX7_undo_0 rfl (lv_at hl 0 rfl) ?_
  refine lv_aload_n hx hb dX7_undo_1 rfl (lv_at hl 0 rfl) ?_
  refine r_get (ci := 7) (C := RX7) (T := TX7) (N := 16) X hw 0 rfl rfl 2 (by decide) in_X7_undo_X7 fl_X7_undo_98 (v := .int (MV.saves vM)) rfl dX7_undo_2 ?_
  refine lv_if_le (tgt := 12) hx hb dX7_undo_5 (by decide) (fun c_3 => ?_) (fun c_3 => ?_)
  · replace h := h.1 c_3
    refine lv_iconst (v := 1) hx hb dX7_undo_12 (by decide) ?_
    exact k_X7_undo_13 X aM _ _ _ _ _ h hw hl
  replace h := h.2 c_3
  refine lv_iconst (v := 0) hx hb dX7_undo_8 (by decide) ?_
  refine lv_goto (tgt := 13) hx hb dX7_undo_9 (by decide) ?_
  exact k_X7_undo_13 X aM _ _ _ _ _ h hw hl
/-! X7_begin -/
theorem in_X7_begin_X7 : ∀ w ∈ u_ws RX7 TX7 16, w ∈ wsX7_begin := fun w h => (List.mem_cons_of_mem _ (List.mem_append_right _ h))
theorem fl_X7_begin_34 : Cond.fieldLink RX7 34 "TwoFacedTilesModel" "thrown" "I" ∈ wsX7_begin := List.mem_of_getElem? (i := 1) rfl
theorem fl_X7_begin_7 : Cond.fieldLink RX7 7 "TwoFacedTilesModel" "z" "[I" ∈ wsX7_begin := List.mem_of_getElem? (i := 2) rfl
def wp_X7_begin_24 (Q : Int32 → MV → Prop) (vM : MV) (x1 : Int32) (x2 : Int32) (t1 : Int32) : Prop := (t1 ≤ 0 → wp_X7_save (MV.s_thrown vM t1)  (fun (vM_2 : MV) => ∀ z_3 : Nat → Int32, z_3 = upd (MV.z vM_2) 0 x1 → ∀ z_4 : Nat → Int32, z_4 = upd z_3 1 x2 → wp_X7_emptyBoard (MV.s_z vM_2 z_4)  (fun (vM_5 : MV) => wp_X7_cells vM_5  (fun (r_7 : Int32) (vM_6 : MV) => Q r_7 vM_6)))) ∧ (¬ t1 ≤ 0 → Q 0 (MV.s_thrown vM t1))
set_option maxHeartbeats 4000000 in
set_option maxRecDepth 100000 in
theorem k_X7_begin_24 {p : Program} {l : Launch} {e : Env} {s : State} {m : MethodId} {below : List Frame} {meth : Method} {c : Code} {args : Array Value} {D : va_G} {t : T3} {A : Nat → Prop} (X : Cx p s m meth c args cX7_begin 3 (some .int) RX7 wsX7_begin D t A) (aM : MA) {Q : Int32 → MV → Prop}  : ∀ (vM : MV) (x1 : Int32) (x2 : Int32) (t1 : Int32) (H : Heap) (locs : List Loc) (ls : Array Slot), wp_X7_begin_24 Q vM x1 x2 t1 → Wd D A s.heap (mW t aM vM) H locs → lv_has ls 3 [(0, .ref (MA.o aM)), (1, .int x1), (2, .int x2)] → W p l e ({ frames := 1, cells := 0, slots := 0, locals := 22 } : Room) s m args below meth c H locs 0 0 (Ei below args s A D (fun (u : MV) => (mW t aM u)) (fun (r : Int32) (u : MV) => Q r u) 0 0) (F0 m 24 ls [.int t1, .ref (MA.o aM)]) := by
  intro vM x1 x2 t1 H locs ls h hw hl
  have hx := X.1.1
  have hb := X.1.2.1
  refine r_put (ci := 7) (C := RX7) (T := TX7) (N := 16) (v := .int t1) (ws' := (mW t aM (MV.s_thrown vM t1))) X hw 0 rfl rfl 0 (by decide) in_X7_begin_X7 tyX7 tyX7_ok nmX7 fl_X7_begin_34 rfl rfl rfl (Nat.le_of_ble_eq_true rfl) rfl dX7_begin_24 (fun H locs hw => ?_)
  refine lv_aload_n hx hb dX7_begin_27 rfl (lv_at hl 0 rfl) ?_
  refine r_get (ci := 7) (C := RX7) (T := TX7) (N := 16) X hw 0 rfl rfl 0 (by decide) in_X7_begin_X7 fl_X7_begin_34 (v := .int t1) rfl dX7_begin_28 ?_
  refine lv_if_le (tgt := 36) hx hb dX7_begin_31 (by decide) (fun c_8 => ?_) (fun c_8 => ?_)
  · replace h := h.1 c_8
    refine lv_aload_n hx hb dX7_begin_36 rfl (lv_at hl 0 rfl) ?_
    refine r_cv X hw pm_0 (wn := fun (u : MV) => (mW t aM u)) (fun u => pm_0.symm) (r_runV X hw (c_X7_save l D t aM (MV.s_thrown vM t1) _ h) pm_0 (cwV 0 X.1.2.2.2.2 gX7_begin_X7_save rfl rfl rfl (by decide +kernel) ⟨Nat.le_of_ble_eq_true rfl, Nat.le_of_ble_eq_true rfl⟩) (ci := 7) rfl rfl rfl rfl hl rfl (Nat.le_of_ble_eq_true rfl) dX7_begin_37 ⟨Nat.le_of_ble_eq_true rfl, Nat.le_of_ble_eq_true rfl⟩) (fun u H locs h hw => ?_)
    obtain ⟨vM_2, rfl⟩ : ∃ z, z = u := ⟨_, rfl⟩
    refine lv_aload_n hx hb dX7_begin_40 rfl (lv_at hl 0 rfl) ?_
    refine r_get (ci := 7) (C := RX7) (T := TX7) (N := 16) X hw 0 rfl rfl 1 (by decide) in_X7_begin_X7 fl_X7_begin_7 (v := .ref (MA.z aM)) rfl dX7_begin_41 ?_
    refine lv_iconst (v := 0) hx hb dX7_begin_44 (by decide) ?_
    refine lv_iload_n hx hb dX7_begin_45 rfl (lv_at hl 1 rfl) ?_
    obtain ⟨z_3, ez_3⟩ : ∃ z : Nat → Int32, z = upd (MV.z vM_2) 0 x1 := ⟨_, rfl⟩
    replace h := h z_3 ez_3
    refine r_iast (ws' := (mW t aM (MV.s_z vM_2 z_3))) X hw 1 rfl (vpl rfl) (by subst ez_3; rfl) dX7_begin_46 (fun H locs hw => ?_)
    refine lv_aload_n hx hb dX7_begin_47 rfl (lv_at hl 0 rfl) ?_
    refine r_get (ci := 7) (C := RX7) (T := TX7) (N := 16) X hw 0 rfl rfl 1 (by decide) in_X7_begin_X7 fl_X7_begin_7 (v := .ref (MA.z aM)) rfl dX7_begin_48 ?_
    refine lv_iconst (v := 1) hx hb dX7_begin_51 (by decide) ?_
    refine lv_iload_n hx hb dX7_begin_52 rfl (lv_at hl 2 rfl) ?_
    obtain ⟨z_4, ez_4⟩ : ∃ z : Nat → Int32, z = upd z_3 1 x2 := ⟨_, rfl⟩
    replace h := h z_4 ez_4
    refine r_iast (ws' := (mW t aM (MV.s_z vM_2 z_4))) X hw 1 rfl (vpl rfl) (by subst ez_4; rfl) dX7_begin_53 (fun H locs hw => ?_)
    refine lv_aload_n hx hb dX7_begin_54 rfl (lv_at hl 0 rfl) ?_
    refine r_cv X hw pm_0 (wn := fun (u : MV) => (mW t aM u)) (fun u => pm_0.symm) (r_runV X hw (c_X7_emptyBoard l D t aM (MV.s_z vM_2 z_4) _ h) pm_0 (cwV 0 X.1.2.2.2.2 gX7_begin_X7_emptyBoard rfl rfl rfl (by decide +kernel) ⟨Nat.le_of_ble_eq_true rfl, Nat.le_of_ble_eq_true rfl⟩) (ci := 7) rfl rfl rfl rfl hl rfl (Nat.le_of_ble_eq_true rfl) dX7_begin_55 ⟨Nat.le_of_ble_eq_true rfl, Nat.le_of_ble_eq_true rfl⟩) (fun u H locs h hw => ?_)
    obtain ⟨vM_5, rfl⟩ : ∃ z, z = u := ⟨_, rfl⟩
    refine lv_aload_n hx hb dX7_begin_58 rfl (lv_at hl 0 rfl) ?_
    refine r_ci X hw pm_0 (wn := fun (u : MV) => (mW t aM u)) (fun u => pm_0.symm) (r_runV X hw (c_X7_cells l D t aM vM_5 _ h) pm_0 (cwV 0 X.1.2.2.2.2 gX7_begin_X7_cells rfl rfl rfl (by decide +kernel) ⟨Nat.le_of_ble_eq_true rfl, Nat.le_of_ble_eq_true rfl⟩) (ci := 7) rfl rfl rfl rfl hl rfl (Nat.le_of_ble_eq_true rfl) dX7_begin_59 ⟨Nat.le_of_ble_eq_true rfl, Nat.le_of_ble_eq_true rfl⟩) (fun r_7 u H locs h hw => ?_)
    obtain ⟨vM_6, rfl⟩ : ∃ z, z = u := ⟨_, rfl⟩
    exact e_i (w1 := (fun (u : MV) => (mW t aM u))) X (vM_6) hw h dX7_begin_62
  replace h := h.2 c_8
  refine lv_iconst (v := 0) hx hb dX7_begin_34 (by decide) ?_
  exact e_i (w1 := (fun (u : MV) => (mW t aM u))) X ((MV.s_thrown vM t1)) hw h dX7_begin_35
def wp_X7_begin_23 (Q : Int32 → MV → Prop) (vM : MV) (x1 : Int32) (x2 : Int32) : Prop := wp_X7_begin_24  Q vM x1 x2 1
set_option maxHeartbeats 4000000 in
set_option maxRecDepth 100000 in
theorem k_X7_begin_23 {p : Program} {l : Launch} {e : Env} {s : State} {m : MethodId} {below : List Frame} {meth : Method} {c : Code} {args : Array Value} {D : va_G} {t : T3} {A : Nat → Prop} (X : Cx p s m meth c args cX7_begin 3 (some .int) RX7 wsX7_begin D t A) (aM : MA) {Q : Int32 → MV → Prop}  : ∀ (vM : MV) (x1 : Int32) (x2 : Int32) (H : Heap) (locs : List Loc) (ls : Array Slot), wp_X7_begin_23 Q vM x1 x2 → Wd D A s.heap (mW t aM vM) H locs → lv_has ls 3 [(0, .ref (MA.o aM)), (1, .int x1), (2, .int x2)] → W p l e ({ frames := 1, cells := 0, slots := 0, locals := 22 } : Room) s m args below meth c H locs 0 0 (Ei below args s A D (fun (u : MV) => (mW t aM u)) (fun (r : Int32) (u : MV) => Q r u) 0 0) (F0 m 23 ls [.ref (MA.o aM)]) := by
  intro vM x1 x2 H locs ls h hw hl
  have hx := X.1.1
  have hb := X.1.2.1
  refine lv_iconst (v := 1) hx hb dX7_begin_23 (by decide) ?_
  exact k_X7_begin_24 X aM _ _ _ _ _ _ _ h hw hl
def wp_X7_begin (vM : MV) (p1 : Int32) (p2 : Int32) (Q : Int32 → MV → Prop) : Prop := wp_X7_within  p1 1 3 (fun (r_1 : Int32) => (r_1 = 0 → wp_X7_begin_23  Q vM p1 p2) ∧ (¬ r_1 = 0 → wp_X7_within  p2 1 4 (fun (r_9 : Int32) => (r_9 = 0 → wp_X7_begin_23  Q vM p1 p2) ∧ (¬ r_9 = 0 → wp_X7_begin_24  Q vM p1 p2 0))))
set_option maxHeartbeats 4000000 in
set_option maxRecDepth 100000 in
theorem c_X7_begin (l : Launch) (D : va_G) (t : T3) (aM : MA) (vM : MV) (p1 : Int32) (p2 : Int32) (Q : Int32 → MV → Prop) (h : wp_X7_begin vM p1 p2 Q) : Ct l yX7_begin wsX7_begin 1 22 0 0 [.ref (MA.o aM), .int p1, .int p2] D t (mW t aM vM) (fun sz => Qi D (mW t aM vM) (fun (u : MV) => (mW t aM u)) (fun (r : Int32) (u : MV) => Q r u) sz) := by
  refine Ct.of (Qf := fun _ A => va_Qi (fun (r : Int32) (u : MV) => Q r u) (B1 D (fun (u : MV) => (mW t aM u)) A) A) cX7_begin 3 (some .int) (by decide) rfl (Nat.le_of_ble_eq_true rfl) ?_
  intro p e s m below meth c A ls hAe hin X hw hl
  generalize ([.ref (MA.o aM), .int p1, .int p2] : List Value).toArray = args at X ⊢
  have hl : lv_has ls 3 [(0, .ref (MA.o aM)), (1, .int p1), (2, .int p2)] := hl
  have hx := X.1.1
  have hb := X.1.2.1
  refine lv_aload_n hx hb dX7_begin_0 rfl (lv_at hl 0 rfl) ?_
  refine lv_iload_n hx hb dX7_begin_1 rfl (lv_at hl 1 rfl) ?_
  refine lv_iconst (v := 1) hx hb dX7_begin_2 (by decide) ?_
  refine lv_iconst (v := 3) hx hb dX7_begin_3 (by decide) ?_
  refine r_ci X hw pm_n (wn := fun (u : Unit) => (mW t aM vM)) (fun u => (pm_n).symm) (r_runS X hw (c_X7_within l D t p1 1 3 _ h) pm_n (va_cwS 3 X.1.2.2.2.2 gX7_begin_X7_within rfl rfl rfl (by decide +kernel) ⟨Nat.le_of_ble_eq_true rfl, Nat.le_of_ble_eq_true rfl⟩) rfl hl rfl (Nat.le_of_ble_eq_true rfl) dX7_begin_4 ⟨Nat.le_of_ble_eq_true rfl, Nat.le_of_ble_eq_true rfl⟩) (fun r_1 u H locs h hw => ?_)
  refine lv_if_eq (tgt := 23) hx hb dX7_begin_7 (by decide) (fun c_11 => ?_) (fun c_11 => ?_)
  · replace h := h.1 c_11
    exact k_X7_begin_23 X aM _ _ _ _ _ _ h hw hl
  replace h := h.2 c_11
  refine lv_iload_n hx hb dX7_begin_10 rfl (lv_at hl 2 rfl) ?_
  refine lv_iconst (v := 1) hx hb dX7_begin_11 (by decide) ?_
  refine lv_iconst (v := 4) hx hb dX7_begin_12 (by decide) ?_
  refine r_ci X hw pm_n (wn := fun (u : Unit) => (mW t aM vM)) (fun u => (pm_n).symm) (r_runS X hw (c_X7_within l D t p2 1 4 _ h) pm_n (va_cwS 3 X.1.2.2.2.2 gX7_begin_X7_within rfl rfl rfl (by decide +kernel) ⟨Nat.le_of_ble_eq_true rfl, Nat.le_of_ble_eq_true rfl⟩) rfl hl rfl (Nat.le_of_ble_eq_true rfl) dX7_begin_13 ⟨Nat.le_of_ble_eq_true rfl, Nat.le_of_ble_eq_true rfl⟩) (fun r_9 u H locs h hw => ?_)
  refine lv_if_eq (tgt := 23) hx hb dX7_begin_16 (by decide) (fun c_10 => ?_) (fun c_10 => ?_)
  · replace h := h.1 c_10
    exact k_X7_begin_23 X aM _ _ _ _ _ _ h hw hl
  replace h := h.2 c_10
  refine lv_iconst (v := 0) hx hb dX7_begin_19 (by decide) ?_
  refine lv_goto (tgt := 24) hx hb dX7_begin_20 (by decide) ?_
  exact k_X7_begin_24 X aM _ _ _ _ _ _ _ h hw hl
/-! X7_bring -/
theorem in_X7_bring_X7 : ∀ w ∈ u_ws RX7 TX7 16, w ∈ wsX7_bring := fun w h => (List.mem_cons_of_mem _ (List.mem_append_right _ h))
theorem fl_X7_bring_7 : Cond.fieldLink RX7 7 "TwoFacedTilesModel" "z" "[I" ∈ wsX7_bring := List.mem_of_getElem? (i := 1) rfl
def wp_X7_bring (vM : MV) (p1 : Int32) (p2 : Int32) (Q : MV → Prop) : Prop := vp_in (4 + (2 * ((MV.z vM) 3))) 52 ∧ ∀ z_2 : Nat → Int32, z_2 = upd (MV.z vM) (Int32.toNatClampNeg (4 + (2 * ((MV.z vM) 3)))) p1 → vp_in ((4 + (2 * (z_2 3))) + 1) 52 ∧ ∀ z_4 : Nat → Int32, z_4 = upd z_2 (Int32.toNatClampNeg ((4 + (2 * (z_2 3))) + 1)) p2 → ∀ f_5 : Int32, f_5 = ((z_4 3) + 1) → ∀ z_6 : Nat → Int32, z_6 = upd z_4 3 f_5 → Q (MV.s_z vM z_6)
set_option maxHeartbeats 4000000 in
set_option maxRecDepth 100000 in
theorem c_X7_bring (l : Launch) (D : va_G) (t : T3) (aM : MA) (vM : MV) (p1 : Int32) (p2 : Int32) (Q : MV → Prop) (h : wp_X7_bring vM p1 p2 Q) : Ct l yX7_bring wsX7_bring 0 0 0 0 [.ref (MA.o aM), .int p1, .int p2] D t (mW t aM vM) (fun sz => Qv D (mW t aM vM) (fun (u : MV) => (mW t aM u)) (fun (u : MV) => Q u) sz) := by
  refine Ct.of (Qf := fun _ A => va_Qv (fun (u : MV) => Q u) (B1 D (fun (u : MV) => (mW t aM u)) A) A) cX7_bring 3 none (by decide) rfl (Nat.le_of_ble_eq_true rfl) ?_
  intro p e s m below meth c A ls hAe hin X hw hl
  generalize ([.ref (MA.o aM), .int p1, .int p2] : List Value).toArray = args at X ⊢
  have hl : lv_has ls 3 [(0, .ref (MA.o aM)), (1, .int p1), (2, .int p2)] := hl
  have hx := X.1.1
  have hb := X.1.2.1
  refine lv_aload_n hx hb dX7_bring_0 rfl (lv_at hl 0 rfl) ?_
  refine r_get (ci := 7) (C := RX7) (T := TX7) (N := 16) X hw 0 rfl rfl 1 (by decide) in_X7_bring_X7 fl_X7_bring_7 (v := .ref (MA.z aM)) rfl dX7_bring_1 ?_
  refine lv_iconst (v := 4) hx hb dX7_bring_4 (by decide) ?_
  refine lv_iconst (v := 2) hx hb dX7_bring_5 (by decide) ?_
  refine lv_aload_n hx hb dX7_bring_6 rfl (lv_at hl 0 rfl) ?_
  refine r_get (ci := 7) (C := RX7) (T := TX7) (N := 16) X hw 0 rfl rfl 1 (by decide) in_X7_bring_X7 fl_X7_bring_7 (v := .ref (MA.z aM)) rfl dX7_bring_7 ?_
  refine lv_iconst (v := 3) hx hb dX7_bring_10 (by decide) ?_
  refine r_iald (v := ((MV.z vM) 3)) X hw 1 rfl (vpl rfl) rfl dX7_bring_11 ?_
  refine lv_imul hx hb dX7_bring_12 ?_
  refine lv_iadd hx hb dX7_bring_13 ?_
  refine lv_iload_n hx hb dX7_bring_14 rfl (lv_at hl 1 rfl) ?_
  obtain ⟨hi_1, h⟩ := h
  obtain ⟨z_2, ez_2⟩ : ∃ z : Nat → Int32, z = upd (MV.z vM) (Int32.toNatClampNeg (4 + (2 * ((MV.z vM) 3)))) p1 := ⟨_, rfl⟩
  replace h := h z_2 ez_2
  refine r_iast (ws' := (mW t aM (MV.s_z vM z_2))) X hw 1 rfl hi_1 (by subst ez_2; rfl) dX7_bring_15 (fun H locs hw => ?_)
  refine lv_aload_n hx hb dX7_bring_16 rfl (lv_at hl 0 rfl) ?_
  refine r_get (ci := 7) (C := RX7) (T := TX7) (N := 16) X hw 0 rfl rfl 1 (by decide) in_X7_bring_X7 fl_X7_bring_7 (v := .ref (MA.z aM)) rfl dX7_bring_17 ?_
  refine lv_iconst (v := 4) hx hb dX7_bring_20 (by decide) ?_
  refine lv_iconst (v := 2) hx hb dX7_bring_21 (by decide) ?_
  refine lv_aload_n hx hb dX7_bring_22 rfl (lv_at hl 0 rfl) ?_
  refine r_get (ci := 7) (C := RX7) (T := TX7) (N := 16) X hw 0 rfl rfl 1 (by decide) in_X7_bring_X7 fl_X7_bring_7 (v := .ref (MA.z aM)) rfl dX7_bring_23 ?_
  refine lv_iconst (v := 3) hx hb dX7_bring_26 (by decide) ?_
  refine r_iald (v := (z_2 3)) X hw 1 rfl (vpl rfl) rfl dX7_bring_27 ?_
  refine lv_imul hx hb dX7_bring_28 ?_
  refine lv_iadd hx hb dX7_bring_29 ?_
  refine lv_iconst (v := 1) hx hb dX7_bring_30 (by decide) ?_
  refine lv_iadd hx hb dX7_bring_31 ?_
  refine lv_iload_n hx hb dX7_bring_32 rfl (lv_at hl 2 rfl) ?_
  obtain ⟨hi_3, h⟩ := h
  obtain ⟨z_4, ez_4⟩ : ∃ z : Nat → Int32, z = upd z_2 (Int32.toNatClampNeg ((4 + (2 * (z_2 3))) + 1)) p2 := ⟨_, rfl⟩
  replace h := h z_4 ez_4
  refine r_iast (ws' := (mW t aM (MV.s_z vM z_4))) X hw 1 rfl hi_3 (by subst ez_4; rfl) dX7_bring_33 (fun H locs hw => ?_)
  refine lv_aload_n hx hb dX7_bring_34 rfl (lv_at hl 0 rfl) ?_
  refine r_get (ci := 7) (C := RX7) (T := TX7) (N := 16) X hw 0 rfl rfl 1 (by decide) in_X7_bring_X7 fl_X7_bring_7 (v := .ref (MA.z aM)) rfl dX7_bring_35 ?_
  refine lv_iconst (v := 3) hx hb dX7_bring_38 (by decide) ?_
  refine lv_dup2_11 hx hb dX7_bring_39 rfl rfl ?_
  refine r_iald (v := (z_4 3)) X hw 1 rfl (vpl rfl) rfl dX7_bring_40 ?_
  refine lv_iconst (v := 1) hx hb dX7_bring_41 (by decide) ?_
  refine lv_iadd hx hb dX7_bring_42 ?_
  refine lv_topi (fun f_5 ef_5 => ?_)
  replace h := h f_5 ef_5
  obtain ⟨z_6, ez_6⟩ : ∃ z : Nat → Int32, z = upd z_4 3 f_5 := ⟨_, rfl⟩
  replace h := h z_6 ez_6
  refine r_iast (ws' := (mW t aM (MV.s_z vM z_6))) X hw 1 rfl (vpl rfl) (by subst ez_6; rfl) dX7_bring_43 (fun H locs hw => ?_)
  exact e_v (w1 := (fun (u : MV) => (mW t aM u))) X ((MV.s_z vM z_6)) hw h dX7_bring_44
/-! X7_addTile -/
theorem in_X7_addTile_X7 : ∀ w ∈ u_ws RX7 TX7 16, w ∈ wsX7_addTile := fun w h => (List.mem_cons_of_mem _ (List.mem_append_right _ h))
theorem fl_X7_addTile_7 : Cond.fieldLink RX7 7 "TwoFacedTilesModel" "z" "[I" ∈ wsX7_addTile := List.mem_of_getElem? (i := 1) rfl
theorem fl_X7_addTile_34 : Cond.fieldLink RX7 34 "TwoFacedTilesModel" "thrown" "I" ∈ wsX7_addTile := List.mem_of_getElem? (i := 2) rfl
def wp_X7_addTile_53 (Q : Int32 → MV → Prop) (vM : MV) (x1 : Int32) (x2 : Int32) (t1 : Int32) : Prop := (t1 ≤ 0 → wp_X7_save (MV.s_thrown vM t1)  (fun (vM_2 : MV) => wp_X7_bring vM_2 x1 x2 (fun (vM_3 : MV) => Q (((MV.z vM_3) 3) - 1) vM_3))) ∧ (¬ t1 ≤ 0 → Q 0 (MV.s_thrown vM t1))
set_option maxHeartbeats 4000000 in
set_option maxRecDepth 100000 in
theorem k_X7_addTile_53 {p : Program} {l : Launch} {e : Env} {s : State} {m : MethodId} {below : List Frame} {meth : Method} {c : Code} {args : Array Value} {D : va_G} {t : T3} {A : Nat → Prop} (X : Cx p s m meth c args cX7_addTile 4 (some .int) RX7 wsX7_addTile D t A) (aM : MA) {Q : Int32 → MV → Prop}  : ∀ (vM : MV) (x1 : Int32) (x2 : Int32) (t1 : Int32) (H : Heap) (locs : List Loc) (ls : Array Slot), wp_X7_addTile_53 Q vM x1 x2 t1 → Wd D A s.heap (mW t aM vM) H locs → lv_has ls 4 [(0, .ref (MA.o aM)), (1, .int x1), (2, .int x2)] → W p l e ({ frames := 1, cells := 0, slots := 0, locals := 22 } : Room) s m args below meth c H locs 0 0 (Ei below args s A D (fun (u : MV) => (mW t aM u)) (fun (r : Int32) (u : MV) => Q r u) 0 0) (F0 m 53 ls [.int t1, .ref (MA.o aM)]) := by
  intro vM x1 x2 t1 H locs ls h hw hl
  have hx := X.1.1
  have hb := X.1.2.1
  refine r_put (ci := 7) (C := RX7) (T := TX7) (N := 16) (v := .int t1) (ws' := (mW t aM (MV.s_thrown vM t1))) X hw 0 rfl rfl 0 (by decide) in_X7_addTile_X7 tyX7 tyX7_ok nmX7 fl_X7_addTile_34 rfl rfl rfl (Nat.le_of_ble_eq_true rfl) rfl dX7_addTile_53 (fun H locs hw => ?_)
  refine lv_aload_n hx hb dX7_addTile_56 rfl (lv_at hl 0 rfl) ?_
  refine r_get (ci := 7) (C := RX7) (T := TX7) (N := 16) X hw 0 rfl rfl 0 (by decide) in_X7_addTile_X7 fl_X7_addTile_34 (v := .int t1) rfl dX7_addTile_57 ?_
  refine lv_if_le (tgt := 65) hx hb dX7_addTile_60 (by decide) (fun c_4 => ?_) (fun c_4 => ?_)
  · replace h := h.1 c_4
    refine lv_aload_n hx hb dX7_addTile_65 rfl (lv_at hl 0 rfl) ?_
    refine r_cv X hw pm_0 (wn := fun (u : MV) => (mW t aM u)) (fun u => pm_0.symm) (r_runV X hw (c_X7_save l D t aM (MV.s_thrown vM t1) _ h) pm_0 (cwV 0 X.1.2.2.2.2 gX7_addTile_X7_save rfl rfl rfl (by decide +kernel) ⟨Nat.le_of_ble_eq_true rfl, Nat.le_of_ble_eq_true rfl⟩) (ci := 7) rfl rfl rfl rfl hl rfl (Nat.le_of_ble_eq_true rfl) dX7_addTile_66 ⟨Nat.le_of_ble_eq_true rfl, Nat.le_of_ble_eq_true rfl⟩) (fun u H locs h hw => ?_)
    obtain ⟨vM_2, rfl⟩ : ∃ z, z = u := ⟨_, rfl⟩
    refine lv_aload_n hx hb dX7_addTile_69 rfl (lv_at hl 0 rfl) ?_
    refine lv_iload_n hx hb dX7_addTile_70 rfl (lv_at hl 1 rfl) ?_
    refine lv_iload_n hx hb dX7_addTile_71 rfl (lv_at hl 2 rfl) ?_
    refine r_cv X hw pm_0 (wn := fun (u : MV) => (mW t aM u)) (fun u => pm_0.symm) (r_runV X hw (c_X7_bring l D t aM vM_2 x1 x2 _ h) pm_0 (cwV 2 X.1.2.2.2.2 gX7_addTile_X7_bring rfl rfl rfl (by decide +kernel) ⟨Nat.le_of_ble_eq_true rfl, Nat.le_of_ble_eq_true rfl⟩) (ci := 7) rfl rfl rfl rfl hl rfl (Nat.le_of_ble_eq_true rfl) dX7_addTile_72 ⟨Nat.le_of_ble_eq_true rfl, Nat.le_of_ble_eq_true rfl⟩) (fun u H locs h hw => ?_)
    obtain ⟨vM_3, rfl⟩ : ∃ z, z = u := ⟨_, rfl⟩
    refine lv_aload_n hx hb dX7_addTile_75 rfl (lv_at hl 0 rfl) ?_
    refine r_get (ci := 7) (C := RX7) (T := TX7) (N := 16) X hw 0 rfl rfl 1 (by decide) in_X7_addTile_X7 fl_X7_addTile_7 (v := .ref (MA.z aM)) rfl dX7_addTile_76 ?_
    refine lv_iconst (v := 3) hx hb dX7_addTile_79 (by decide) ?_
    refine r_iald (v := ((MV.z vM_3) 3)) X hw 1 rfl (vpl rfl) rfl dX7_addTile_80 ?_
    refine lv_iconst (v := 1) hx hb dX7_addTile_81 (by decide) ?_
    refine lv_isub hx hb dX7_addTile_82 ?_
    exact e_i (w1 := (fun (u : MV) => (mW t aM u))) X (vM_3) hw h dX7_addTile_83
  replace h := h.2 c_4
  refine lv_iconst (v := 0) hx hb dX7_addTile_63 (by decide) ?_
  exact e_i (w1 := (fun (u : MV) => (mW t aM u))) X ((MV.s_thrown vM t1)) hw h dX7_addTile_64
def wp_X7_addTile_27 (Q : Int32 → MV → Prop) (vM : MV) (x1 : Int32) (x2 : Int32) (t0 : Int32) : Prop := (¬ t0 = 0 → (¬ ((MV.z vM) 3) = 12 → wp_X7_addTile_53  Q vM x1 x2 0) ∧ (((MV.z vM) 3) = 12 → wp_X7_addTile_53  Q vM x1 x2 2)) ∧ (t0 = 0 → wp_X7_addTile_53  Q vM x1 x2 1)
set_option maxHeartbeats 4000000 in
set_option maxRecDepth 100000 in
theorem k_X7_addTile_27 {p : Program} {l : Launch} {e : Env} {s : State} {m : MethodId} {below : List Frame} {meth : Method} {c : Code} {args : Array Value} {D : va_G} {t : T3} {A : Nat → Prop} (X : Cx p s m meth c args cX7_addTile 4 (some .int) RX7 wsX7_addTile D t A) (aM : MA) {Q : Int32 → MV → Prop}  : ∀ (vM : MV) (x1 : Int32) (x2 : Int32) (t0 : Int32) (H : Heap) (locs : List Loc) (ls : Array Slot), wp_X7_addTile_27 Q vM x1 x2 t0 → Wd D A s.heap (mW t aM vM) H locs → lv_has ls 4 [(0, .ref (MA.o aM)), (1, .int x1), (2, .int x2)] → W p l e ({ frames := 1, cells := 0, slots := 0, locals := 22 } : Room) s m args below meth c H locs 0 0 (Ei below args s A D (fun (u : MV) => (mW t aM u)) (fun (r : Int32) (u : MV) => Q r u) 0 0) (F0 m 27 ls [.int t0]) := by
  intro vM x1 x2 t0 H locs ls h hw hl
  have hx := X.1.1
  have hb := X.1.2.1
  refine lv_istore_n (lv' := [(3, .int t0), (0, .ref (MA.o aM)), (1, .int x1), (2, .int x2)]) hx hb dX7_addTile_27 rfl hl (by decide) rfl (fun ls hl => ?_)
  refine lv_aload_n hx hb dX7_addTile_28 rfl (lv_at hl 1 rfl) ?_
  refine lv_iload_n hx hb dX7_addTile_29 rfl (lv_at hl 0 rfl) ?_
  refine lv_if_ne (tgt := 37) hx hb dX7_addTile_30 (by decide) (fun c_6 => ?_) (fun c_6 => ?_)
  · replace h := h.1 c_6
    refine lv_aload_n hx hb dX7_addTile_37 rfl (lv_at hl 1 rfl) ?_
    refine r_get (ci := 7) (C := RX7) (T := TX7) (N := 16) X hw 0 rfl rfl 1 (by decide) in_X7_addTile_X7 fl_X7_addTile_7 (v := .ref (MA.z aM)) rfl dX7_addTile_38 ?_
    refine lv_iconst (v := 3) hx hb dX7_addTile_41 (by decide) ?_
    refine r_iald (v := ((MV.z vM) 3)) X hw 1 rfl (vpl rfl) rfl dX7_addTile_42 ?_
    refine lv_bipush (v := 12) hx hb dX7_addTile_43 (by decide) ?_
    refine lv_icmp_ne (tgt := 52) hx hb dX7_addTile_45 (by decide) (fun c_5 => ?_) (fun c_5 => ?_)
    · replace h := h.1 c_5
      refine lv_iconst (v := 0) hx hb dX7_addTile_52 (by decide) ?_
      exact k_X7_addTile_53 X aM _ _ _ _ _ _ _ h hw (lv_sub hl [1, 2, 3] rfl)
    replace h := h.2 c_5
    refine lv_iconst (v := 2) hx hb dX7_addTile_48 (by decide) ?_
    refine lv_goto (tgt := 53) hx hb dX7_addTile_49 (by decide) ?_
    exact k_X7_addTile_53 X aM _ _ _ _ _ _ _ h hw (lv_sub hl [1, 2, 3] rfl)
  replace h := h.2 c_6
  refine lv_iconst (v := 1) hx hb dX7_addTile_33 (by decide) ?_
  refine lv_goto (tgt := 53) hx hb dX7_addTile_34 (by decide) ?_
  exact k_X7_addTile_53 X aM _ _ _ _ _ _ _ h hw (lv_sub hl [1, 2, 3] rfl)
def wp_X7_addTile_26 (Q : Int32 → MV → Prop) (vM : MV) (x1 : Int32) (x2 : Int32) : Prop := wp_X7_addTile_27  Q vM x1 x2 0
set_option maxHeartbeats 4000000 in
set_option maxRecDepth 100000 in
theorem k_X7_addTile_26 {p : Program} {l : Launch} {e : Env} {s : State} {m : MethodId} {below : List Frame} {meth : Method} {c : Code} {args : Array Value} {D : va_G} {t : T3} {A : Nat → Prop} (X : Cx p s m meth c args cX7_addTile 4 (some .int) RX7 wsX7_addTile D t A) (aM : MA) {Q : Int32 → MV → Prop}  : ∀ (vM : MV) (x1 : Int32) (x2 : Int32) (H : Heap) (locs : List Loc) (ls : Array Slot), wp_X7_addTile_26 Q vM x1 x2 → Wd D A s.heap (mW t aM vM) H locs → lv_has ls 4 [(0, .ref (MA.o aM)), (1, .int x1), (2, .int x2)] → W p l e ({ frames := 1, cells := 0, slots := 0, locals := 22 } : Room) s m args below meth c H locs 0 0 (Ei below args s A D (fun (u : MV) => (mW t aM u)) (fun (r : Int32) (u : MV) => Q r u) 0 0) (F0 m 26 ls []) := by
  intro vM x1 x2 H locs ls h hw hl
  have hx := X.1.1
  have hb := X.1.2.1
  refine lv_iconst (v := 0) hx hb dX7_addTile_26 (by decide) ?_
  exact k_X7_addTile_27 X aM _ _ _ _ _ _ _ h hw hl
def wp_X7_addTile (vM : MV) (p1 : Int32) (p2 : Int32) (Q : Int32 → MV → Prop) : Prop := wp_X7_within  p1 0 9999 (fun (r_1 : Int32) => (r_1 = 0 → wp_X7_addTile_26  Q vM p1 p2) ∧ (¬ r_1 = 0 → wp_X7_within  p2 0 9999 (fun (r_7 : Int32) => (r_7 = 0 → wp_X7_addTile_26  Q vM p1 p2) ∧ (¬ r_7 = 0 → wp_X7_addTile_27  Q vM p1 p2 1))))
set_option maxHeartbeats 4000000 in
set_option maxRecDepth 100000 in
theorem c_X7_addTile (l : Launch) (D : va_G) (t : T3) (aM : MA) (vM : MV) (p1 : Int32) (p2 : Int32) (Q : Int32 → MV → Prop) (h : wp_X7_addTile vM p1 p2 Q) : Ct l yX7_addTile wsX7_addTile 1 22 0 0 [.ref (MA.o aM), .int p1, .int p2] D t (mW t aM vM) (fun sz => Qi D (mW t aM vM) (fun (u : MV) => (mW t aM u)) (fun (r : Int32) (u : MV) => Q r u) sz) := by
  refine Ct.of (Qf := fun _ A => va_Qi (fun (r : Int32) (u : MV) => Q r u) (B1 D (fun (u : MV) => (mW t aM u)) A) A) cX7_addTile 4 (some .int) (by decide) rfl (Nat.le_of_ble_eq_true rfl) ?_
  intro p e s m below meth c A ls hAe hin X hw hl
  generalize ([.ref (MA.o aM), .int p1, .int p2] : List Value).toArray = args at X ⊢
  have hl : lv_has ls 4 [(0, .ref (MA.o aM)), (1, .int p1), (2, .int p2)] := hl
  have hx := X.1.1
  have hb := X.1.2.1
  refine lv_iload_n hx hb dX7_addTile_0 rfl (lv_at hl 1 rfl) ?_
  refine lv_iconst (v := 0) hx hb dX7_addTile_1 (by decide) ?_
  refine lv_sipush (v := 9999) hx hb dX7_addTile_2 (by decide) ?_
  refine r_ci X hw pm_n (wn := fun (u : Unit) => (mW t aM vM)) (fun u => (pm_n).symm) (r_runS X hw (c_X7_within l D t p1 0 9999 _ h) pm_n (va_cwS 3 X.1.2.2.2.2 gX7_addTile_X7_within rfl rfl rfl (by decide +kernel) ⟨Nat.le_of_ble_eq_true rfl, Nat.le_of_ble_eq_true rfl⟩) rfl hl rfl (Nat.le_of_ble_eq_true rfl) dX7_addTile_5 ⟨Nat.le_of_ble_eq_true rfl, Nat.le_of_ble_eq_true rfl⟩) (fun r_1 u H locs h hw => ?_)
  refine lv_if_eq (tgt := 26) hx hb dX7_addTile_8 (by decide) (fun c_9 => ?_) (fun c_9 => ?_)
  · replace h := h.1 c_9
    exact k_X7_addTile_26 X aM _ _ _ _ _ _ h hw hl
  replace h := h.2 c_9
  refine lv_iload_n hx hb dX7_addTile_11 rfl (lv_at hl 2 rfl) ?_
  refine lv_iconst (v := 0) hx hb dX7_addTile_12 (by decide) ?_
  refine lv_sipush (v := 9999) hx hb dX7_addTile_13 (by decide) ?_
  refine r_ci X hw pm_n (wn := fun (u : Unit) => (mW t aM vM)) (fun u => (pm_n).symm) (r_runS X hw (c_X7_within l D t p2 0 9999 _ h) pm_n (va_cwS 3 X.1.2.2.2.2 gX7_addTile_X7_within rfl rfl rfl (by decide +kernel) ⟨Nat.le_of_ble_eq_true rfl, Nat.le_of_ble_eq_true rfl⟩) rfl hl rfl (Nat.le_of_ble_eq_true rfl) dX7_addTile_16 ⟨Nat.le_of_ble_eq_true rfl, Nat.le_of_ble_eq_true rfl⟩) (fun r_7 u H locs h hw => ?_)
  refine lv_if_eq (tgt := 26) hx hb dX7_addTile_19 (by decide) (fun c_8 => ?_) (fun c_8 => ?_)
  · replace h := h.1 c_8
    exact k_X7_addTile_26 X aM _ _ _ _ _ _ h hw hl
  replace h := h.2 c_8
  refine lv_iconst (v := 1) hx hb dX7_addTile_22 (by decide) ?_
  refine lv_goto (tgt := 27) hx hb dX7_addTile_23 (by decide) ?_
  exact k_X7_addTile_27 X aM _ _ _ _ _ _ _ h hw hl
/-! X7_dropTile -/
theorem in_X7_dropTile_X7 : ∀ w ∈ u_ws RX7 TX7 16, w ∈ wsX7_dropTile := fun w h => (List.mem_cons_of_mem _ (List.mem_append_right _ h))
theorem fl_X7_dropTile_7 : Cond.fieldLink RX7 7 "TwoFacedTilesModel" "z" "[I" ∈ wsX7_dropTile := List.mem_of_getElem? (i := 1) rfl
theorem fl_X7_dropTile_34 : Cond.fieldLink RX7 34 "TwoFacedTilesModel" "thrown" "I" ∈ wsX7_dropTile := List.mem_of_getElem? (i := 2) rfl
def wp_X7_dropTile_31 (Q : Int32 → MV → Prop) (vM : MV) (t1 : Int32) : Prop := (t1 ≤ 0 → wp_X7_save (MV.s_thrown vM t1)  (fun (vM_1 : MV) => ∀ f_2 : Int32, f_2 = (((MV.z vM_1) 3) - 1) → ∀ z_3 : Nat → Int32, z_3 = upd (MV.z vM_1) 3 f_2 → Q (z_3 3) (MV.s_z vM_1 z_3))) ∧ (¬ t1 ≤ 0 → Q 0 (MV.s_thrown vM t1))
set_option maxHeartbeats 4000000 in
set_option maxRecDepth 100000 in
theorem k_X7_dropTile_31 {p : Program} {l : Launch} {e : Env} {s : State} {m : MethodId} {below : List Frame} {meth : Method} {c : Code} {args : Array Value} {D : va_G} {t : T3} {A : Nat → Prop} (X : Cx p s m meth c args cX7_dropTile 1 (some .int) RX7 wsX7_dropTile D t A) (aM : MA) {Q : Int32 → MV → Prop}  : ∀ (vM : MV) (t1 : Int32) (H : Heap) (locs : List Loc) (ls : Array Slot), wp_X7_dropTile_31 Q vM t1 → Wd D A s.heap (mW t aM vM) H locs → lv_has ls 1 [(0, .ref (MA.o aM))] → W p l e ({ frames := 2, cells := 0, slots := 0, locals := 43 } : Room) s m args below meth c H locs 0 0 (Ei below args s A D (fun (u : MV) => (mW t aM u)) (fun (r : Int32) (u : MV) => Q r u) 0 0) (F0 m 31 ls [.int t1, .ref (MA.o aM)]) := by
  intro vM t1 H locs ls h hw hl
  have hx := X.1.1
  have hb := X.1.2.1
  refine r_put (ci := 7) (C := RX7) (T := TX7) (N := 16) (v := .int t1) (ws' := (mW t aM (MV.s_thrown vM t1))) X hw 0 rfl rfl 0 (by decide) in_X7_dropTile_X7 tyX7 tyX7_ok nmX7 fl_X7_dropTile_34 rfl rfl rfl (Nat.le_of_ble_eq_true rfl) rfl dX7_dropTile_31 (fun H locs hw => ?_)
  refine lv_aload_n hx hb dX7_dropTile_34 rfl (lv_at hl 0 rfl) ?_
  refine r_get (ci := 7) (C := RX7) (T := TX7) (N := 16) X hw 0 rfl rfl 0 (by decide) in_X7_dropTile_X7 fl_X7_dropTile_34 (v := .int t1) rfl dX7_dropTile_35 ?_
  refine lv_if_le (tgt := 43) hx hb dX7_dropTile_38 (by decide) (fun c_4 => ?_) (fun c_4 => ?_)
  · replace h := h.1 c_4
    refine lv_aload_n hx hb dX7_dropTile_43 rfl (lv_at hl 0 rfl) ?_
    refine r_cv X hw pm_0 (wn := fun (u : MV) => (mW t aM u)) (fun u => pm_0.symm) (r_runV X hw (c_X7_save l D t aM (MV.s_thrown vM t1) _ h) pm_0 (cwV 0 X.1.2.2.2.2 gX7_dropTile_X7_save rfl rfl rfl (by decide +kernel) ⟨Nat.le_of_ble_eq_true rfl, Nat.le_of_ble_eq_true rfl⟩) (ci := 7) rfl rfl rfl rfl hl rfl (Nat.le_of_ble_eq_true rfl) dX7_dropTile_44 ⟨Nat.le_of_ble_eq_true rfl, Nat.le_of_ble_eq_true rfl⟩) (fun u H locs h hw => ?_)
    obtain ⟨vM_1, rfl⟩ : ∃ z, z = u := ⟨_, rfl⟩
    refine lv_aload_n hx hb dX7_dropTile_47 rfl (lv_at hl 0 rfl) ?_
    refine r_get (ci := 7) (C := RX7) (T := TX7) (N := 16) X hw 0 rfl rfl 1 (by decide) in_X7_dropTile_X7 fl_X7_dropTile_7 (v := .ref (MA.z aM)) rfl dX7_dropTile_48 ?_
    refine lv_iconst (v := 3) hx hb dX7_dropTile_51 (by decide) ?_
    refine lv_dup2_11 hx hb dX7_dropTile_52 rfl rfl ?_
    refine r_iald (v := ((MV.z vM_1) 3)) X hw 1 rfl (vpl rfl) rfl dX7_dropTile_53 ?_
    refine lv_iconst (v := 1) hx hb dX7_dropTile_54 (by decide) ?_
    refine lv_isub hx hb dX7_dropTile_55 ?_
    refine lv_topi (fun f_2 ef_2 => ?_)
    replace h := h f_2 ef_2
    obtain ⟨z_3, ez_3⟩ : ∃ z : Nat → Int32, z = upd (MV.z vM_1) 3 f_2 := ⟨_, rfl⟩
    replace h := h z_3 ez_3
    refine r_iast (ws' := (mW t aM (MV.s_z vM_1 z_3))) X hw 1 rfl (vpl rfl) (by subst ez_3; rfl) dX7_dropTile_56 (fun H locs hw => ?_)
    refine lv_aload_n hx hb dX7_dropTile_57 rfl (lv_at hl 0 rfl) ?_
    refine r_get (ci := 7) (C := RX7) (T := TX7) (N := 16) X hw 0 rfl rfl 1 (by decide) in_X7_dropTile_X7 fl_X7_dropTile_7 (v := .ref (MA.z aM)) rfl dX7_dropTile_58 ?_
    refine lv_iconst (v := 3) hx hb dX7_dropTile_61 (by decide) ?_
    refine r_iald (v := (z_3 3)) X hw 1 rfl (vpl rfl) rfl dX7_dropTile_62 ?_
    exact e_i (w1 := (fun (u : MV) => (mW t aM u))) X ((MV.s_z vM_1 z_3)) hw h dX7_dropTile_63
  replace h := h.2 c_4
  refine lv_iconst (v := 0) hx hb dX7_dropTile_41 (by decide) ?_
  exact e_i (w1 := (fun (u : MV) => (mW t aM u))) X ((MV.s_thrown vM t1)) hw h dX7_dropTile_42
def wp_X7_dropTile_30 (Q : Int32 → MV → Prop) (vM : MV) : Prop := wp_X7_dropTile_31  Q vM 1
set_option maxHeartbeats 4000000 in
set_option maxRecDepth 100000 in
theorem k_X7_dropTile_30 {p : Program} {l : Launch} {e : Env} {s : State} {m : MethodId} {below : List Frame} {meth : Method} {c : Code} {args : Array Value} {D : va_G} {t : T3} {A : Nat → Prop} (X : Cx p s m meth c args cX7_dropTile 1 (some .int) RX7 wsX7_dropTile D t A) (aM : MA) {Q : Int32 → MV → Prop}  : ∀ (vM : MV) (H : Heap) (locs : List Loc) (ls : Array Slot), wp_X7_dropTile_30 Q vM → Wd D A s.heap (mW t aM vM) H locs → lv_has ls 1 [(0, .ref (MA.o aM))] → W p l e ({ frames := 2, cells := 0, slots := 0, locals := 43 } : Room) s m args below meth c H locs 0 0 (Ei below args s A D (fun (u : MV) => (mW t aM u)) (fun (r : Int32) (u : MV) => Q r u) 0 0) (F0 m 30 ls [.ref (MA.o aM)]) := by
  intro vM H locs ls h hw hl
  have hx := X.1.1
  have hb := X.1.2.1
  refine lv_iconst (v := 1) hx hb dX7_dropTile_30 (by decide) ?_
  exact k_X7_dropTile_31 X aM _ _ _ _ _ h hw hl
def wp_X7_dropTile (vM : MV) (Q : Int32 → MV → Prop) : Prop := (((MV.z vM) 3) ≤ 0 → wp_X7_dropTile_30  Q vM) ∧ (¬ ((MV.z vM) 3) ≤ 0 → wp_X7_cellOf vM (((MV.z vM) 3) - 1) (fun (r_6 : Int32) (vM_5 : MV) => (¬ r_6 = (-1) → wp_X7_dropTile_30  Q vM_5) ∧ (r_6 = (-1) → wp_X7_dropTile_31  Q vM_5 0)))
set_option maxHeartbeats 4000000 in
set_option maxRecDepth 100000 in
theorem c_X7_dropTile (l : Launch) (D : va_G) (t : T3) (aM : MA) (vM : MV) (Q : Int32 → MV → Prop) (h : wp_X7_dropTile vM Q) : Ct l yX7_dropTile wsX7_dropTile 2 43 0 0 [.ref (MA.o aM)] D t (mW t aM vM) (fun sz => Qi D (mW t aM vM) (fun (u : MV) => (mW t aM u)) (fun (r : Int32) (u : MV) => Q r u) sz) := by
  refine Ct.of (Qf := fun _ A => va_Qi (fun (r : Int32) (u : MV) => Q r u) (B1 D (fun (u : MV) => (mW t aM u)) A) A) cX7_dropTile 1 (some .int) (by decide) rfl (Nat.le_of_ble_eq_true rfl) ?_
  intro p e s m below meth c A ls hAe hin X hw hl
  generalize ([.ref (MA.o aM)] : List Value).toArray = args at X ⊢
  have hl : lv_has ls 1 [(0, .ref (MA.o aM))] := hl
  have hx := X.1.1
  have hb := X.1.2.1
  refine lv_aload_n hx hb dX7_dropTile_0 rfl (lv_at hl 0 rfl) ?_
  refine lv_aload_n hx hb dX7_dropTile_1 rfl (lv_at hl 0 rfl) ?_
  refine r_get (ci := 7) (C := RX7) (T := TX7) (N := 16) X hw 0 rfl rfl 1 (by decide) in_X7_dropTile_X7 fl_X7_dropTile_7 (v := .ref (MA.z aM)) rfl dX7_dropTile_2 ?_
  refine lv_iconst (v := 3) hx hb dX7_dropTile_5 (by decide) ?_
  refine r_iald (v := ((MV.z vM) 3)) X hw 1 rfl (vpl rfl) rfl dX7_dropTile_6 ?_
  refine lv_if_le (tgt := 30) hx hb dX7_dropTile_7 (by decide) (fun c_8 => ?_) (fun c_8 => ?_)
  · replace h := h.1 c_8
    exact k_X7_dropTile_30 X aM _ _ _ _ h hw hl
  replace h := h.2 c_8
  refine lv_aload_n hx hb dX7_dropTile_10 rfl (lv_at hl 0 rfl) ?_
  refine lv_aload_n hx hb dX7_dropTile_11 rfl (lv_at hl 0 rfl) ?_
  refine r_get (ci := 7) (C := RX7) (T := TX7) (N := 16) X hw 0 rfl rfl 1 (by decide) in_X7_dropTile_X7 fl_X7_dropTile_7 (v := .ref (MA.z aM)) rfl dX7_dropTile_12 ?_
  refine lv_iconst (v := 3) hx hb dX7_dropTile_15 (by decide) ?_
  refine r_iald (v := ((MV.z vM) 3)) X hw 1 rfl (vpl rfl) rfl dX7_dropTile_16 ?_
  refine lv_iconst (v := 1) hx hb dX7_dropTile_17 (by decide) ?_
  refine lv_isub hx hb dX7_dropTile_18 ?_
  refine r_ci X hw pm_0 (wn := fun (u : MV) => (mW t aM u)) (fun u => pm_0.symm) (r_runV X hw (c_X7_cellOf l D t aM vM (((MV.z vM) 3) - 1) _ h) pm_0 (cwV 1 X.1.2.2.2.2 gX7_dropTile_X7_cellOf rfl rfl rfl (by decide +kernel) ⟨Nat.le_of_ble_eq_true rfl, Nat.le_of_ble_eq_true rfl⟩) (ci := 7) rfl rfl rfl rfl hl rfl (Nat.le_of_ble_eq_true rfl) dX7_dropTile_19 ⟨Nat.le_of_ble_eq_true rfl, Nat.le_of_ble_eq_true rfl⟩) (fun r_6 u H locs h hw => ?_)
  obtain ⟨vM_5, rfl⟩ : ∃ z, z = u := ⟨_, rfl⟩
  refine lv_iconst (v := (-1)) hx hb dX7_dropTile_22 (by decide) ?_
  refine lv_icmp_ne (tgt := 30) hx hb dX7_dropTile_23 (by decide) (fun c_7 => ?_) (fun c_7 => ?_)
  · replace h := h.1 c_7
    exact k_X7_dropTile_30 X aM _ _ _ _ h hw hl
  replace h := h.2 c_7
  refine lv_iconst (v := 0) hx hb dX7_dropTile_26 (by decide) ?_
  refine lv_goto (tgt := 31) hx hb dX7_dropTile_27 (by decide) ?_
  exact k_X7_dropTile_31 X aM _ _ _ _ _ h hw hl
/-! X7_setRule -/
theorem in_X7_setRule_X7 : ∀ w ∈ u_ws RX7 TX7 16, w ∈ wsX7_setRule := fun w h => (List.mem_cons_of_mem _ (List.mem_append_right _ h))
theorem fl_X7_setRule_34 : Cond.fieldLink RX7 34 "TwoFacedTilesModel" "thrown" "I" ∈ wsX7_setRule := List.mem_of_getElem? (i := 1) rfl
theorem fl_X7_setRule_7 : Cond.fieldLink RX7 7 "TwoFacedTilesModel" "z" "[I" ∈ wsX7_setRule := List.mem_of_getElem? (i := 2) rfl
def wp_X7_setRule_15 (Q : Int32 → MV → Prop) (vM : MV) (x1 : Int32) (t1 : Int32) : Prop := (t1 ≤ 0 → wp_X7_save (MV.s_thrown vM t1)  (fun (vM_2 : MV) => ∀ x2_3 : Int32, x2_3 = ((MV.z vM_2) 2) → ∀ z_4 : Nat → Int32, z_4 = upd (MV.z vM_2) 2 x1 → Q x2_3 (MV.s_z vM_2 z_4))) ∧ (¬ t1 ≤ 0 → Q 0 (MV.s_thrown vM t1))
set_option maxHeartbeats 4000000 in
set_option maxRecDepth 100000 in
theorem k_X7_setRule_15 {p : Program} {l : Launch} {e : Env} {s : State} {m : MethodId} {below : List Frame} {meth : Method} {c : Code} {args : Array Value} {D : va_G} {t : T3} {A : Nat → Prop} (X : Cx p s m meth c args cX7_setRule 3 (some .int) RX7 wsX7_setRule D t A) (aM : MA) {Q : Int32 → MV → Prop}  : ∀ (vM : MV) (x1 : Int32) (t1 : Int32) (H : Heap) (locs : List Loc) (ls : Array Slot), wp_X7_setRule_15 Q vM x1 t1 → Wd D A s.heap (mW t aM vM) H locs → lv_has ls 3 [(0, .ref (MA.o aM)), (1, .int x1)] → W p l e ({ frames := 1, cells := 0, slots := 0, locals := 22 } : Room) s m args below meth c H locs 0 0 (Ei below args s A D (fun (u : MV) => (mW t aM u)) (fun (r : Int32) (u : MV) => Q r u) 0 0) (F0 m 15 ls [.int t1, .ref (MA.o aM)]) := by
  intro vM x1 t1 H locs ls h hw hl
  have hx := X.1.1
  have hb := X.1.2.1
  refine r_put (ci := 7) (C := RX7) (T := TX7) (N := 16) (v := .int t1) (ws' := (mW t aM (MV.s_thrown vM t1))) X hw 0 rfl rfl 0 (by decide) in_X7_setRule_X7 tyX7 tyX7_ok nmX7 fl_X7_setRule_34 rfl rfl rfl (Nat.le_of_ble_eq_true rfl) rfl dX7_setRule_15 (fun H locs hw => ?_)
  refine lv_aload_n hx hb dX7_setRule_18 rfl (lv_at hl 0 rfl) ?_
  refine r_get (ci := 7) (C := RX7) (T := TX7) (N := 16) X hw 0 rfl rfl 0 (by decide) in_X7_setRule_X7 fl_X7_setRule_34 (v := .int t1) rfl dX7_setRule_19 ?_
  refine lv_if_le (tgt := 27) hx hb dX7_setRule_22 (by decide) (fun c_5 => ?_) (fun c_5 => ?_)
  · replace h := h.1 c_5
    refine lv_aload_n hx hb dX7_setRule_27 rfl (lv_at hl 0 rfl) ?_
    refine r_cv X hw pm_0 (wn := fun (u : MV) => (mW t aM u)) (fun u => pm_0.symm) (r_runV X hw (c_X7_save l D t aM (MV.s_thrown vM t1) _ h) pm_0 (cwV 0 X.1.2.2.2.2 gX7_setRule_X7_save rfl rfl rfl (by decide +kernel) ⟨Nat.le_of_ble_eq_true rfl, Nat.le_of_ble_eq_true rfl⟩) (ci := 7) rfl rfl rfl rfl hl rfl (Nat.le_of_ble_eq_true rfl) dX7_setRule_28 ⟨Nat.le_of_ble_eq_true rfl, Nat.le_of_ble_eq_true rfl⟩) (fun u H locs h hw => ?_)
    obtain ⟨vM_2, rfl⟩ : ∃ z, z = u := ⟨_, rfl⟩
    refine lv_aload_n hx hb dX7_setRule_31 rfl (lv_at hl 0 rfl) ?_
    refine r_get (ci := 7) (C := RX7) (T := TX7) (N := 16) X hw 0 rfl rfl 1 (by decide) in_X7_setRule_X7 fl_X7_setRule_7 (v := .ref (MA.z aM)) rfl dX7_setRule_32 ?_
    refine lv_iconst (v := 2) hx hb dX7_setRule_35 (by decide) ?_
    refine r_iald (v := ((MV.z vM_2) 2)) X hw 1 rfl (vpl rfl) rfl dX7_setRule_36 ?_
    refine lv_topi (fun x2_3 ex2_3 => ?_)
    replace h := h x2_3 ex2_3
    refine lv_istore_n (lv' := [(2, .int x2_3), (0, .ref (MA.o aM)), (1, .int x1)]) hx hb dX7_setRule_37 rfl hl (by decide) rfl (fun ls hl => ?_)
    refine lv_aload_n hx hb dX7_setRule_38 rfl (lv_at hl 1 rfl) ?_
    refine r_get (ci := 7) (C := RX7) (T := TX7) (N := 16) X hw 0 rfl rfl 1 (by decide) in_X7_setRule_X7 fl_X7_setRule_7 (v := .ref (MA.z aM)) rfl dX7_setRule_39 ?_
    refine lv_iconst (v := 2) hx hb dX7_setRule_42 (by decide) ?_
    refine lv_iload_n hx hb dX7_setRule_43 rfl (lv_at hl 2 rfl) ?_
    obtain ⟨z_4, ez_4⟩ : ∃ z : Nat → Int32, z = upd (MV.z vM_2) 2 x1 := ⟨_, rfl⟩
    replace h := h z_4 ez_4
    refine r_iast (ws' := (mW t aM (MV.s_z vM_2 z_4))) X hw 1 rfl (vpl rfl) (by subst ez_4; rfl) dX7_setRule_44 (fun H locs hw => ?_)
    refine lv_iload_n hx hb dX7_setRule_45 rfl (lv_at hl 0 rfl) ?_
    exact e_i (w1 := (fun (u : MV) => (mW t aM u))) X ((MV.s_z vM_2 z_4)) hw h dX7_setRule_46
  replace h := h.2 c_5
  refine lv_iconst (v := 0) hx hb dX7_setRule_25 (by decide) ?_
  exact e_i (w1 := (fun (u : MV) => (mW t aM u))) X ((MV.s_thrown vM t1)) hw h dX7_setRule_26
def wp_X7_setRule (vM : MV) (p1 : Int32) (Q : Int32 → MV → Prop) : Prop := wp_X7_within  p1 0 2 (fun (r_1 : Int32) => (r_1 = 0 → wp_X7_setRule_15  Q vM p1 1) ∧ (¬ r_1 = 0 → wp_X7_setRule_15  Q vM p1 0))
set_option maxHeartbeats 4000000 in
set_option maxRecDepth 100000 in
theorem c_X7_setRule (l : Launch) (D : va_G) (t : T3) (aM : MA) (vM : MV) (p1 : Int32) (Q : Int32 → MV → Prop) (h : wp_X7_setRule vM p1 Q) : Ct l yX7_setRule wsX7_setRule 1 22 0 0 [.ref (MA.o aM), .int p1] D t (mW t aM vM) (fun sz => Qi D (mW t aM vM) (fun (u : MV) => (mW t aM u)) (fun (r : Int32) (u : MV) => Q r u) sz) := by
  refine Ct.of (Qf := fun _ A => va_Qi (fun (r : Int32) (u : MV) => Q r u) (B1 D (fun (u : MV) => (mW t aM u)) A) A) cX7_setRule 3 (some .int) (by decide) rfl (Nat.le_of_ble_eq_true rfl) ?_
  intro p e s m below meth c A ls hAe hin X hw hl
  generalize ([.ref (MA.o aM), .int p1] : List Value).toArray = args at X ⊢
  have hl : lv_has ls 3 [(0, .ref (MA.o aM)), (1, .int p1)] := hl
  have hx := X.1.1
  have hb := X.1.2.1
  refine lv_aload_n hx hb dX7_setRule_0 rfl (lv_at hl 0 rfl) ?_
  refine lv_iload_n hx hb dX7_setRule_1 rfl (lv_at hl 1 rfl) ?_
  refine lv_iconst (v := 0) hx hb dX7_setRule_2 (by decide) ?_
  refine lv_iconst (v := 2) hx hb dX7_setRule_3 (by decide) ?_
  refine r_ci X hw pm_n (wn := fun (u : Unit) => (mW t aM vM)) (fun u => (pm_n).symm) (r_runS X hw (c_X7_within l D t p1 0 2 _ h) pm_n (va_cwS 3 X.1.2.2.2.2 gX7_setRule_X7_within rfl rfl rfl (by decide +kernel) ⟨Nat.le_of_ble_eq_true rfl, Nat.le_of_ble_eq_true rfl⟩) rfl hl rfl (Nat.le_of_ble_eq_true rfl) dX7_setRule_4 ⟨Nat.le_of_ble_eq_true rfl, Nat.le_of_ble_eq_true rfl⟩) (fun r_1 u H locs h hw => ?_)
  refine lv_if_eq (tgt := 14) hx hb dX7_setRule_7 (by decide) (fun c_6 => ?_) (fun c_6 => ?_)
  · replace h := h.1 c_6
    refine lv_iconst (v := 1) hx hb dX7_setRule_14 (by decide) ?_
    exact k_X7_setRule_15 X aM _ _ _ _ _ _ h hw hl
  replace h := h.2 c_6
  refine lv_iconst (v := 0) hx hb dX7_setRule_10 (by decide) ?_
  refine lv_goto (tgt := 15) hx hb dX7_setRule_11 (by decide) ?_
  exact k_X7_setRule_15 X aM _ _ _ _ _ _ h hw hl
/-! X7_drawColor -/
theorem in_X7_drawColor_X7 : ∀ w ∈ u_ws RX7 TX7 16, w ∈ wsX7_drawColor := fun w h => (List.mem_cons_of_mem _ (List.mem_append_right _ h))
theorem fl_X7_drawColor_111 : Cond.fieldLink RX7 111 "TwoFacedTilesModel" "digits" "I" ∈ wsX7_drawColor := List.mem_of_getElem? (i := 1) rfl
def wp_X7_drawColor_16 (Q : Int32 → MV → Prop) (vM : MV) (x2 : Int32) (t1 : Int32) : Prop := ∀ x3_1 : Int32, x3_1 = (jrem t1 10) → ∀ f_2 : Int32, f_2 = (t1 / 10) → ¬ x2 = 0 ∧ Q (1 + (jrem x3_1 x2)) (MV.s_digits vM f_2)
set_option maxHeartbeats 4000000 in
set_option maxRecDepth 100000 in
theorem k_X7_drawColor_16 {p : Program} {l : Launch} {e : Env} {s : State} {m : MethodId} {below : List Frame} {meth : Method} {c : Code} {args : Array Value} {D : va_G} {t : T3} {A : Nat → Prop} (X : Cx p s m meth c args cX7_drawColor 4 (some .int) RX7 wsX7_drawColor D t A) (aM : MA) {Q : Int32 → MV → Prop}  : ∀ (vM : MV) (x2 : Int32) (t1 : Int32) (H : Heap) (locs : List Loc) (ls : Array Slot), wp_X7_drawColor_16 Q vM x2 t1 → Wd D A s.heap (mW t aM vM) H locs → lv_has ls 4 [(0, .ref (MA.o aM)), (2, .int x2)] → W p l e ({ frames := 0, cells := 0, slots := 0, locals := 0 } : Room) s m args below meth c H locs 0 0 (Ei below args s A D (fun (u : MV) => (mW t aM u)) (fun (r : Int32) (u : MV) => Q r u) 0 0) (F0 m 16 ls [.int t1, .ref (MA.o aM)]) := by
  intro vM x2 t1 H locs ls h hw hl
  have hx := X.1.1
  have hb := X.1.2.1
  refine r_put (ci := 7) (C := RX7) (T := TX7) (N := 16) (v := .int t1) (ws' := (mW t aM (MV.s_digits vM t1))) X hw 0 rfl rfl 11 (by decide) in_X7_drawColor_X7 tyX7 tyX7_ok nmX7 fl_X7_drawColor_111 rfl rfl rfl (Nat.le_of_ble_eq_true rfl) rfl dX7_drawColor_16 (fun H locs hw => ?_)
  refine lv_aload_n hx hb dX7_drawColor_19 rfl (lv_at hl 0 rfl) ?_
  refine r_get (ci := 7) (C := RX7) (T := TX7) (N := 16) X hw 0 rfl rfl 11 (by decide) in_X7_drawColor_X7 fl_X7_drawColor_111 (v := .int t1) rfl dX7_drawColor_20 ?_
  refine lv_bipush (v := 10) hx hb dX7_drawColor_23 (by decide) ?_
  refine r_irem hx hb dX7_drawColor_25 (by decide) ?_
  refine lv_topi (fun x3_1 ex3_1 => ?_)
  replace h := h x3_1 ex3_1
  refine lv_istore_n (lv' := [(3, .int x3_1), (0, .ref (MA.o aM)), (2, .int x2)]) hx hb dX7_drawColor_26 rfl hl (by decide) rfl (fun ls hl => ?_)
  refine lv_aload_n hx hb dX7_drawColor_27 rfl (lv_at hl 1 rfl) ?_
  refine lv_dup hx hb dX7_drawColor_28 rfl ?_
  refine r_get (ci := 7) (C := RX7) (T := TX7) (N := 16) X hw 0 rfl rfl 11 (by decide) in_X7_drawColor_X7 fl_X7_drawColor_111 (v := .int t1) rfl dX7_drawColor_29 ?_
  refine lv_bipush (v := 10) hx hb dX7_drawColor_32 (by decide) ?_
  refine lv_idiv hx hb dX7_drawColor_34 (by decide) ?_
  refine lv_topi (fun f_2 ef_2 => ?_)
  replace h := h f_2 ef_2
  refine r_put (ci := 7) (C := RX7) (T := TX7) (N := 16) (v := .int f_2) (ws' := (mW t aM (MV.s_digits vM f_2))) X hw 0 rfl rfl 11 (by decide) in_X7_drawColor_X7 tyX7 tyX7_ok nmX7 fl_X7_drawColor_111 rfl rfl rfl (Nat.le_of_ble_eq_true rfl) rfl dX7_drawColor_35 (fun H locs hw => ?_)
  refine lv_iconst (v := 1) hx hb dX7_drawColor_38 (by decide) ?_
  refine lv_iload_n hx hb dX7_drawColor_39 rfl (lv_at hl 0 rfl) ?_
  refine lv_iload_n hx hb dX7_drawColor_40 rfl (lv_at hl 2 rfl) ?_
  obtain ⟨hn_3, h⟩ := h
  refine r_irem hx hb dX7_drawColor_41 hn_3 ?_
  refine lv_iadd hx hb dX7_drawColor_42 ?_
  exact e_i (w1 := (fun (u : MV) => (mW t aM u))) X ((MV.s_digits vM f_2)) hw h dX7_drawColor_43
def wp_X7_drawColor (vM : MV) (p1 : Int32) (p2 : Int32) (Q : Int32 → MV → Prop) : Prop := (¬ (MV.digits vM) = 0 → wp_X7_drawColor_16  Q vM p2 (MV.digits vM)) ∧ ((MV.digits vM) = 0 → wp_X7_drawColor_16  Q vM p2 p1)
set_option maxHeartbeats 4000000 in
set_option maxRecDepth 100000 in
theorem c_X7_drawColor (l : Launch) (D : va_G) (t : T3) (aM : MA) (vM : MV) (p1 : Int32) (p2 : Int32) (Q : Int32 → MV → Prop) (h : wp_X7_drawColor vM p1 p2 Q) : Ct l yX7_drawColor wsX7_drawColor 0 0 0 0 [.ref (MA.o aM), .int p1, .int p2] D t (mW t aM vM) (fun sz => Qi D (mW t aM vM) (fun (u : MV) => (mW t aM u)) (fun (r : Int32) (u : MV) => Q r u) sz) := by
  refine Ct.of (Qf := fun _ A => va_Qi (fun (r : Int32) (u : MV) => Q r u) (B1 D (fun (u : MV) => (mW t aM u)) A) A) cX7_drawColor 4 (some .int) (by decide) rfl (Nat.le_of_ble_eq_true rfl) ?_
  intro p e s m below meth c A ls hAe hin X hw hl
  generalize ([.ref (MA.o aM), .int p1, .int p2] : List Value).toArray = args at X ⊢
  have hl : lv_has ls 4 [(0, .ref (MA.o aM)), (1, .int p1), (2, .int p2)] := hl
  have hx := X.1.1
  have hb := X.1.2.1
  refine lv_aload_n hx hb dX7_drawColor_0 rfl (lv_at hl 0 rfl) ?_
  refine lv_aload_n hx hb dX7_drawColor_1 rfl (lv_at hl 0 rfl) ?_
  refine r_get (ci := 7) (C := RX7) (T := TX7) (N := 16) X hw 0 rfl rfl 11 (by decide) in_X7_drawColor_X7 fl_X7_drawColor_111 (v := .int (MV.digits vM)) rfl dX7_drawColor_2 ?_
  refine lv_if_ne (tgt := 12) hx hb dX7_drawColor_5 (by decide) (fun c_4 => ?_) (fun c_4 => ?_)
  · replace h := h.1 c_4
    refine lv_aload_n hx hb dX7_drawColor_12 rfl (lv_at hl 0 rfl) ?_
    refine r_get (ci := 7) (C := RX7) (T := TX7) (N := 16) X hw 0 rfl rfl 11 (by decide) in_X7_drawColor_X7 fl_X7_drawColor_111 (v := .int (MV.digits vM)) rfl dX7_drawColor_13 ?_
    exact k_X7_drawColor_16 X aM _ _ _ _ _ _ h hw (lv_sub hl [0, 2] rfl)
  replace h := h.2 c_4
  refine lv_iload_n hx hb dX7_drawColor_8 rfl (lv_at hl 1 rfl) ?_
  refine lv_goto (tgt := 16) hx hb dX7_drawColor_9 (by decide) ?_
  exact k_X7_drawColor_16 X aM _ _ _ _ _ _ h hw (lv_sub hl [0, 2] rfl)
/-! X7_drawSide -/
theorem in_X7_drawSide_X7 : ∀ w ∈ u_ws RX7 TX7 16, w ∈ wsX7_drawSide := fun w h => (List.mem_cons_of_mem _ (List.mem_append_right _ h))
theorem fl_X7_drawSide_22 : Cond.fieldLink RX7 22 "TwoFacedTilesModel" "drawn" "[I" ∈ wsX7_drawSide := List.mem_of_getElem? (i := 1) rfl
def bd_X7_drawSide_11 (Q : MV → Prop) (P : MV → Int32 → Int32 → Int32 → Int32 → Int32 → Int32 → Prop) (vM : MV) (x1 : Int32) (x2 : Int32) (x3 : Int32) (x4 : Int32) (x5 : Int32) (x6 : Int32) : Prop := (8 ≤ x6 → Q vM) ∧ (¬ 8 ≤ x6 → (x5 = (-1) → Q vM) ∧ (¬ x5 = (-1) → wp_X7_drawColor vM x3 x4 (fun (r_4 : Int32) (vM_3 : MV) => vp_in (((8 * x1) + x6) + x2) 96 ∧ ∀ d_6 : Nat → Int32, d_6 = upd (MV.drawn vM_3) (Int32.toNatClampNeg (((8 * x1) + x6) + x2)) r_4 → vp_in (((8 * x5) + x6) + (jrem (x2 + 2) 4)) 96 ∧ ∀ d_8 : Nat → Int32, d_8 = upd d_6 (Int32.toNatClampNeg (((8 * x5) + x6) + (jrem (x2 + 2) 4))) r_4 → ∀ x6_9 : Int32, x6_9 = x6 + 4 → P (MV.s_drawn vM_3 d_8) x1 x2 x3 x4 x5 x6_9)))
def wp_X7_drawSide_11 (Q : MV → Prop)  (vM : MV) (x1 : Int32) (x2 : Int32) (x3 : Int32) (x4 : Int32) (x5 : Int32) (x6 : Int32) : Prop := ∀ P : MV → Int32 → Int32 → Int32 → Int32 → Int32 → Int32 → Prop, (∀ (vM : MV) (x1 : Int32) (x2 : Int32) (x3 : Int32) (x4 : Int32) (x5 : Int32) (x6 : Int32), bd_X7_drawSide_11 Q P  vM x1 x2 x3 x4 x5 x6 → P vM x1 x2 x3 x4 x5 x6) → P vM x1 x2 x3 x4 x5 x6
set_option maxHeartbeats 4000000 in
set_option maxRecDepth 100000 in
theorem kb_X7_drawSide_11 {p : Program} {l : Launch} {e : Env} {s : State} {m : MethodId} {below : List Frame} {meth : Method} {c : Code} {args : Array Value} {D : va_G} {t : T3} {A : Nat → Prop} (X : Cx p s m meth c args cX7_drawSide 8 none RX7 wsX7_drawSide D t A) (aM : MA) {Q : MV → Prop} {P : MV → Int32 → Int32 → Int32 → Int32 → Int32 → Int32 → Prop} (hP : ∀ (vM : MV) (x1 : Int32) (x2 : Int32) (x3 : Int32) (x4 : Int32) (x5 : Int32) (x6 : Int32) (H : Heap) (locs : List Loc) (ls : Array Slot), P vM x1 x2 x3 x4 x5 x6 → Wd D A s.heap (mW t aM vM) H locs → lv_has ls 8 [(0, .ref (MA.o aM)), (1, .int x1), (2, .int x2), (3, .int x3), (4, .int x4), (5, .int x5), (6, .int x6)] → W p l e ({ frames := 1, cells := 0, slots := 0, locals := 24 } : Room) s m args below meth c H locs 0 0 (Ev below args s A D (fun (u : MV) => (mW t aM u)) (fun (u : MV) => Q u) 0 0) (F0 m 11 ls [])) : ∀ (vM : MV) (x1 : Int32) (x2 : Int32) (x3 : Int32) (x4 : Int32) (x5 : Int32) (x6 : Int32) (H : Heap) (locs : List Loc) (ls : Array Slot), bd_X7_drawSide_11 Q P  vM x1 x2 x3 x4 x5 x6 → Wd D A s.heap (mW t aM vM) H locs → lv_has ls 8 [(0, .ref (MA.o aM)), (1, .int x1), (2, .int x2), (3, .int x3), (4, .int x4), (5, .int x5), (6, .int x6)] → W p l e ({ frames := 1, cells := 0, slots := 0, locals := 24 } : Room) s m args below meth c H locs 0 0 (Ev below args s A D (fun (u : MV) => (mW t aM u)) (fun (u : MV) => Q u) 0 0) (F0 m 11 ls []) := by
  intro vM x1 x2 x3 x4 x5 x6 H locs ls h hw hl
  have hx := X.1.1
  have hb := X.1.2.1
  refine lv_iload hx hb dX7_drawSide_11 (lv_at hl 6 rfl) ?_
  refine lv_bipush (v := 8) hx hb dX7_drawSide_13 (by decide) ?_
  refine lv_icmp_ge (tgt := 76) hx hb dX7_drawSide_15 (by decide) (fun c_11 => ?_) (fun c_11 => ?_)
  · replace h := h.1 c_11
    exact e_v (w1 := (fun (u : MV) => (mW t aM u))) X (vM) hw h dX7_drawSide_76
  replace h := h.2 c_11
  refine lv_iload hx hb dX7_drawSide_18 (lv_at hl 5 rfl) ?_
  refine lv_iconst (v := (-1)) hx hb dX7_drawSide_20 (by decide) ?_
  refine lv_icmp_eq (tgt := 76) hx hb dX7_drawSide_21 (by decide) (fun c_10 => ?_) (fun c_10 => ?_)
  · replace h := h.1 c_10
    exact e_v (w1 := (fun (u : MV) => (mW t aM u))) X (vM) hw h dX7_drawSide_76
  replace h := h.2 c_10
  refine lv_aload_n hx hb dX7_drawSide_24 rfl (lv_at hl 0 rfl) ?_
  refine lv_iload_n hx hb dX7_drawSide_25 rfl (lv_at hl 3 rfl) ?_
  refine lv_iload hx hb dX7_drawSide_26 (lv_at hl 4 rfl) ?_
  refine r_ci X hw pm_0 (wn := fun (u : MV) => (mW t aM u)) (fun u => pm_0.symm) (r_runV X hw (c_X7_drawColor l D t aM vM x3 x4 _ h) pm_0 (cwV 2 X.1.2.2.2.2 gX7_drawSide_X7_drawColor rfl rfl rfl (by decide +kernel) ⟨Nat.le_of_ble_eq_true rfl, Nat.le_of_ble_eq_true rfl⟩) (ci := 7) rfl rfl rfl rfl hl rfl (Nat.le_of_ble_eq_true rfl) dX7_drawSide_28 ⟨Nat.le_of_ble_eq_true rfl, Nat.le_of_ble_eq_true rfl⟩) (fun r_4 u H locs h hw => ?_)
  obtain ⟨vM_3, rfl⟩ : ∃ z, z = u := ⟨_, rfl⟩
  refine lv_istore (lv' := [(7, .int r_4), (0, .ref (MA.o aM)), (1, .int x1), (2, .int x2), (3, .int x3), (4, .int x4), (5, .int x5), (6, .int x6)]) hx hb dX7_drawSide_31 hl (by decide) rfl (fun ls hl => ?_)
  refine lv_aload_n hx hb dX7_drawSide_33 rfl (lv_at hl 1 rfl) ?_
  refine r_get (ci := 7) (C := RX7) (T := TX7) (N := 16) X hw 0 rfl rfl 10 (by decide) in_X7_drawSide_X7 fl_X7_drawSide_22 (v := .ref (MA.drawn aM)) rfl dX7_drawSide_34 ?_
  refine lv_bipush (v := 8) hx hb dX7_drawSide_37 (by decide) ?_
  refine lv_iload_n hx hb dX7_drawSide_39 rfl (lv_at hl 2 rfl) ?_
  refine lv_imul hx hb dX7_drawSide_40 ?_
  refine lv_iload hx hb dX7_drawSide_41 (lv_at hl 7 rfl) ?_
  refine lv_iadd hx hb dX7_drawSide_43 ?_
  refine lv_iload_n hx hb dX7_drawSide_44 rfl (lv_at hl 3 rfl) ?_
  refine lv_iadd hx hb dX7_drawSide_45 ?_
  refine lv_iload hx hb dX7_drawSide_46 (lv_at hl 0 rfl) ?_
  obtain ⟨hi_5, h⟩ := h
  obtain ⟨d_6, ed_6⟩ : ∃ z : Nat → Int32, z = upd (MV.drawn vM_3) (Int32.toNatClampNeg (((8 * x1) + x6) + x2)) r_4 := ⟨_, rfl⟩
  replace h := h d_6 ed_6
  refine r_iast (ws' := (mW t aM (MV.s_drawn vM_3 d_6))) X hw 5 rfl hi_5 (by subst ed_6; rfl) dX7_drawSide_48 (fun H locs hw => ?_)
  refine lv_aload_n hx hb dX7_drawSide_49 rfl (lv_at hl 1 rfl) ?_
  refine r_get (ci := 7) (C := RX7) (T := TX7) (N := 16) X hw 0 rfl rfl 10 (by decide) in_X7_drawSide_X7 fl_X7_drawSide_22 (v := .ref (MA.drawn aM)) rfl dX7_drawSide_50 ?_
  refine lv_bipush (v := 8) hx hb dX7_drawSide_53 (by decide) ?_
  refine lv_iload hx hb dX7_drawSide_55 (lv_at hl 6 rfl) ?_
  refine lv_imul hx hb dX7_drawSide_57 ?_
  refine lv_iload hx hb dX7_drawSide_58 (lv_at hl 7 rfl) ?_
  refine lv_iadd hx hb dX7_drawSide_60 ?_
  refine lv_iload_n hx hb dX7_drawSide_61 rfl (lv_at hl 3 rfl) ?_
  refine lv_iconst (v := 2) hx hb dX7_drawSide_62 (by decide) ?_
  refine lv_iadd hx hb dX7_drawSide_63 ?_
  refine lv_iconst (v := 4) hx hb dX7_drawSide_64 (by decide) ?_
  refine r_irem hx hb dX7_drawSide_65 (by decide) ?_
  refine lv_iadd hx hb dX7_drawSide_66 ?_
  refine lv_iload hx hb dX7_drawSide_67 (lv_at hl 0 rfl) ?_
  obtain ⟨hi_7, h⟩ := h
  obtain ⟨d_8, ed_8⟩ : ∃ z : Nat → Int32, z = upd d_6 (Int32.toNatClampNeg (((8 * x5) + x6) + (jrem (x2 + 2) 4))) r_4 := ⟨_, rfl⟩
  replace h := h d_8 ed_8
  refine r_iast (ws' := (mW t aM (MV.s_drawn vM_3 d_8))) X hw 5 rfl hi_7 (by subst ed_8; rfl) dX7_drawSide_69 (fun H locs hw => ?_)
  obtain ⟨x6_9, ex6_9⟩ : ∃ z : Int32, z = x6 + 4 := ⟨_, rfl⟩
  replace h := h x6_9 ex6_9
  refine lv_iinc (v := x6_9) (lv' := [(6, .int x6_9), (7, .int r_4), (0, .ref (MA.o aM)), (1, .int x1), (2, .int x2), (3, .int x3), (4, .int x4), (5, .int x5)]) hx hb dX7_drawSide_70 hl (k := 7) rfl (by rw [ex6_9]; rfl) (by decide) rfl (fun ls hl => ?_)
  refine lv_goto (tgt := 11) hx hb dX7_drawSide_73 (by decide) ?_
  exact hP _ _ _ _ _ _ _ _ _ _ h hw (lv_sub hl [2, 3, 4, 5, 6, 7, 0] rfl)
set_option maxHeartbeats 4000000 in
set_option maxRecDepth 100000 in
theorem k_X7_drawSide_11 {p : Program} {l : Launch} {e : Env} {s : State} {m : MethodId} {below : List Frame} {meth : Method} {c : Code} {args : Array Value} {D : va_G} {t : T3} {A : Nat → Prop} (X : Cx p s m meth c args cX7_drawSide 8 none RX7 wsX7_drawSide D t A) (aM : MA) {Q : MV → Prop}   : ∀ (vM : MV) (x1 : Int32) (x2 : Int32) (x3 : Int32) (x4 : Int32) (x5 : Int32) (x6 : Int32) (H : Heap) (locs : List Loc) (ls : Array Slot), wp_X7_drawSide_11 Q  vM x1 x2 x3 x4 x5 x6 → Wd D A s.heap (mW t aM vM) H locs → lv_has ls 8 [(0, .ref (MA.o aM)), (1, .int x1), (2, .int x2), (3, .int x3), (4, .int x4), (5, .int x5), (6, .int x6)] → W p l e ({ frames := 1, cells := 0, slots := 0, locals := 24 } : Room) s m args below meth c H locs 0 0 (Ev below args s A D (fun (u : MV) => (mW t aM u)) (fun (u : MV) => Q u) 0 0) (F0 m 11 ls []) := by
  intro vM x1 x2 x3 x4 x5 x6 H locs ls h hw hl
  have hx := X.1.1
  have hb := X.1.2.1
  refine h (fun (vM : MV) (x1 : Int32) (x2 : Int32) (x3 : Int32) (x4 : Int32) (x5 : Int32) (x6 : Int32) => ∀ (H : Heap) (locs : List Loc) (ls : Array Slot), Wd D A s.heap (mW t aM vM) H locs → lv_has ls 8 [(0, .ref (MA.o aM)), (1, .int x1), (2, .int x2), (3, .int x3), (4, .int x4), (5, .int x5), (6, .int x6)] → W p l e ({ frames := 1, cells := 0, slots := 0, locals := 24 } : Room) s m args below meth c H locs 0 0 (Ev below args s A D (fun (u : MV) => (mW t aM u)) (fun (u : MV) => Q u) 0 0) (F0 m 11 ls [])) (fun vM x1 x2 x3 x4 x5 x6 h H locs ls hw hl => ?_) H locs ls hw hl
  exact kb_X7_drawSide_11 X aM (fun vM x1 x2 x3 x4 x5 x6 H locs ls q hw hl => q H locs ls hw hl)  vM x1 x2 x3 x4 x5 x6 _ _ _ h hw hl
def wp_X7_drawSide (vM : MV) (p1 : Int32) (p2 : Int32) (p3 : Int32) (p4 : Int32) (Q : MV → Prop) : Prop := wp_X7_beyond vM p1 p2 (fun (r_2 : Int32) (vM_1 : MV) => wp_X7_drawSide_11 Q  vM_1 p1 p2 p3 p4 r_2 0)
set_option maxHeartbeats 4000000 in
set_option maxRecDepth 100000 in
theorem c_X7_drawSide (l : Launch) (D : va_G) (t : T3) (aM : MA) (vM : MV) (p1 : Int32) (p2 : Int32) (p3 : Int32) (p4 : Int32) (Q : MV → Prop) (h : wp_X7_drawSide vM p1 p2 p3 p4 Q) : Ct l yX7_drawSide wsX7_drawSide 1 24 0 0 [.ref (MA.o aM), .int p1, .int p2, .int p3, .int p4] D t (mW t aM vM) (fun sz => Qv D (mW t aM vM) (fun (u : MV) => (mW t aM u)) (fun (u : MV) => Q u) sz) := by
  refine Ct.of (Qf := fun _ A => va_Qv (fun (u : MV) => Q u) (B1 D (fun (u : MV) => (mW t aM u)) A) A) cX7_drawSide 8 none (by decide) rfl (Nat.le_of_ble_eq_true rfl) ?_
  intro p e s m below meth c A ls hAe hin X hw hl
  generalize ([.ref (MA.o aM), .int p1, .int p2, .int p3, .int p4] : List Value).toArray = args at X ⊢
  have hl : lv_has ls 8 [(0, .ref (MA.o aM)), (1, .int p1), (2, .int p2), (3, .int p3), (4, .int p4)] := hl
  have hx := X.1.1
  have hb := X.1.2.1
  refine lv_aload_n hx hb dX7_drawSide_0 rfl (lv_at hl 0 rfl) ?_
  refine lv_iload_n hx hb dX7_drawSide_1 rfl (lv_at hl 1 rfl) ?_
  refine lv_iload_n hx hb dX7_drawSide_2 rfl (lv_at hl 2 rfl) ?_
  refine r_ci X hw pm_0 (wn := fun (u : MV) => (mW t aM u)) (fun u => pm_0.symm) (r_runV X hw (c_X7_beyond l D t aM vM p1 p2 _ h) pm_0 (cwV 2 X.1.2.2.2.2 gX7_drawSide_X7_beyond rfl rfl rfl (by decide +kernel) ⟨Nat.le_of_ble_eq_true rfl, Nat.le_of_ble_eq_true rfl⟩) (ci := 7) rfl rfl rfl rfl hl rfl (Nat.le_of_ble_eq_true rfl) dX7_drawSide_3 ⟨Nat.le_of_ble_eq_true rfl, Nat.le_of_ble_eq_true rfl⟩) (fun r_2 u H locs h hw => ?_)
  obtain ⟨vM_1, rfl⟩ : ∃ z, z = u := ⟨_, rfl⟩
  refine lv_istore (lv' := [(5, .int r_2), (0, .ref (MA.o aM)), (1, .int p1), (2, .int p2), (3, .int p3), (4, .int p4)]) hx hb dX7_drawSide_6 hl (by decide) rfl (fun ls hl => ?_)
  refine lv_iconst (v := 0) hx hb dX7_drawSide_8 (by decide) ?_
  refine lv_istore (lv' := [(6, .int 0), (5, .int r_2), (0, .ref (MA.o aM)), (1, .int p1), (2, .int p2), (3, .int p3), (4, .int p4)]) hx hb dX7_drawSide_9 hl (by decide) rfl (fun ls hl => ?_)
  refine k_X7_drawSide_11 X aM  _ _ _ _ _ _ _ _ _ _ h hw (lv_sub hl [2, 3, 4, 5, 6, 1, 0] rfl)
/-! X7_cut -/
theorem k_X7_cut_117 : Cond.constant RX7 117 (999999999) ∈ wsX7_cut := List.mem_of_getElem? (i := 1) rfl
theorem in_X7_cut_X7 : ∀ w ∈ u_ws RX7 TX7 16, w ∈ wsX7_cut := fun w h => (List.mem_cons_of_mem _ (List.mem_append_right _ h))
theorem fl_X7_cut_34 : Cond.fieldLink RX7 34 "TwoFacedTilesModel" "thrown" "I" ∈ wsX7_cut := List.mem_of_getElem? (i := 2) rfl
theorem fl_X7_cut_111 : Cond.fieldLink RX7 111 "TwoFacedTilesModel" "digits" "I" ∈ wsX7_cut := List.mem_of_getElem? (i := 3) rfl
theorem fl_X7_cut_22 : Cond.fieldLink RX7 22 "TwoFacedTilesModel" "drawn" "[I" ∈ wsX7_cut := List.mem_of_getElem? (i := 4) rfl
theorem fl_X7_cut_7 : Cond.fieldLink RX7 7 "TwoFacedTilesModel" "z" "[I" ∈ wsX7_cut := List.mem_of_getElem? (i := 5) rfl
def bd_X7_cut_53 (Q : Int32 → MV → Prop) (P : MV → Int32 → Int32 → Int32 → Prop) (K72 : MV → Int32 → Int32 → Prop) (vM : MV) (x1 : Int32) (x2 : Int32) (x3 : Int32) : Prop := (96 ≤ x3 → K72 vM x1 x2) ∧ (¬ 96 ≤ x3 → vp_in x3 96 ∧ ∀ d_5 : Nat → Int32, d_5 = upd (MV.drawn vM) (Int32.toNatClampNeg x3) 0 → ∀ x3_6 : Int32, x3_6 = x3 + 1 → P (MV.s_drawn vM d_5) x1 x2 x3_6)
def wp_X7_cut_53 (Q : Int32 → MV → Prop) (K72 : MV → Int32 → Int32 → Prop) (vM : MV) (x1 : Int32) (x2 : Int32) (x3 : Int32) : Prop := ∀ P : MV → Int32 → Int32 → Int32 → Prop, (∀ (vM : MV) (x1 : Int32) (x2 : Int32) (x3 : Int32), bd_X7_cut_53 Q P K72 vM x1 x2 x3 → P vM x1 x2 x3) → P vM x1 x2 x3
set_option maxHeartbeats 4000000 in
set_option maxRecDepth 100000 in
theorem kb_X7_cut_53 {p : Program} {l : Launch} {e : Env} {s : State} {m : MethodId} {below : List Frame} {meth : Method} {c : Code} {args : Array Value} {D : va_G} {t : T3} {A : Nat → Prop} (X : Cx p s m meth c args cX7_cut 7 (some .int) RX7 wsX7_cut D t A) (aM : MA) {Q : Int32 → MV → Prop} {P : MV → Int32 → Int32 → Int32 → Prop} {K72 : MV → Int32 → Int32 → Prop} (hP : ∀ (vM : MV) (x1 : Int32) (x2 : Int32) (x3 : Int32) (H : Heap) (locs : List Loc) (ls : Array Slot), P vM x1 x2 x3 → Wd D A s.heap (mW t aM vM) H locs → lv_has ls 7 [(0, .ref (MA.o aM)), (1, .int x1), (2, .int x2), (3, .int x3)] → W p l e ({ frames := 2, cells := 0, slots := 0, locals := 51 } : Room) s m args below meth c H locs 0 0 (Ei below args s A D (fun (u : MV) => (mW t aM u)) (fun (r : Int32) (u : MV) => Q r u) 0 0) (F0 m 53 ls [])) (hK72 : ∀ (vM : MV) (x1 : Int32) (x2 : Int32) (H : Heap) (locs : List Loc) (ls : Array Slot), K72 vM x1 x2 → Wd D A s.heap (mW t aM vM) H locs → lv_has ls 7 [(0, .ref (MA.o aM)), (1, .int x1), (2, .int x2)] → W p l e ({ frames := 2, cells := 0, slots := 0, locals := 51 } : Room) s m args below meth c H locs 0 0 (Ei below args s A D (fun (u : MV) => (mW t aM u)) (fun (r : Int32) (u : MV) => Q r u) 0 0) (F0 m 72 ls [])) : ∀ (vM : MV) (x1 : Int32) (x2 : Int32) (x3 : Int32) (H : Heap) (locs : List Loc) (ls : Array Slot), bd_X7_cut_53 Q P K72 vM x1 x2 x3 → Wd D A s.heap (mW t aM vM) H locs → lv_has ls 7 [(0, .ref (MA.o aM)), (1, .int x1), (2, .int x2), (3, .int x3)] → W p l e ({ frames := 2, cells := 0, slots := 0, locals := 51 } : Room) s m args below meth c H locs 0 0 (Ei below args s A D (fun (u : MV) => (mW t aM u)) (fun (r : Int32) (u : MV) => Q r u) 0 0) (F0 m 53 ls []) := by
  intro vM x1 x2 x3 H locs ls h hw hl
  have hx := X.1.1
  have hb := X.1.2.1
  refine lv_iload_n hx hb dX7_cut_53 rfl (lv_at hl 3 rfl) ?_
  refine lv_bipush (v := 96) hx hb dX7_cut_54 (by decide) ?_
  refine lv_icmp_ge (tgt := 72) hx hb dX7_cut_56 (by decide) (fun c_7 => ?_) (fun c_7 => ?_)
  · replace h := h.1 c_7
    exact hK72 _ _ _ _ _ _ h hw (lv_sub hl [0, 1, 2] rfl)
  replace h := h.2 c_7
  refine lv_aload_n hx hb dX7_cut_59 rfl (lv_at hl 0 rfl) ?_
  refine r_get (ci := 7) (C := RX7) (T := TX7) (N := 16) X hw 0 rfl rfl 10 (by decide) in_X7_cut_X7 fl_X7_cut_22 (v := .ref (MA.drawn aM)) rfl dX7_cut_60 ?_
  refine lv_iload_n hx hb dX7_cut_63 rfl (lv_at hl 3 rfl) ?_
  refine lv_iconst (v := 0) hx hb dX7_cut_64 (by decide) ?_
  obtain ⟨hi_4, h⟩ := h
  obtain ⟨d_5, ed_5⟩ : ∃ z : Nat → Int32, z = upd (MV.drawn vM) (Int32.toNatClampNeg x3) 0 := ⟨_, rfl⟩
  replace h := h d_5 ed_5
  refine r_iast (ws' := (mW t aM (MV.s_drawn vM d_5))) X hw 5 rfl hi_4 (by subst ed_5; rfl) dX7_cut_65 (fun H locs hw => ?_)
  obtain ⟨x3_6, ex3_6⟩ : ∃ z : Int32, z = x3 + 1 := ⟨_, rfl⟩
  replace h := h x3_6 ex3_6
  refine lv_iinc (v := x3_6) (lv' := [(3, .int x3_6), (0, .ref (MA.o aM)), (1, .int x1), (2, .int x2)]) hx hb dX7_cut_66 hl (k := 3) rfl (by rw [ex3_6]; rfl) (by decide) rfl (fun ls hl => ?_)
  refine lv_goto (tgt := 53) hx hb dX7_cut_69 (by decide) ?_
  exact hP _ _ _ _ _ _ _ h hw (lv_sub hl [1, 2, 3, 0] rfl)
set_option maxHeartbeats 4000000 in
set_option maxRecDepth 100000 in
theorem k_X7_cut_53 {p : Program} {l : Launch} {e : Env} {s : State} {m : MethodId} {below : List Frame} {meth : Method} {c : Code} {args : Array Value} {D : va_G} {t : T3} {A : Nat → Prop} (X : Cx p s m meth c args cX7_cut 7 (some .int) RX7 wsX7_cut D t A) (aM : MA) {Q : Int32 → MV → Prop} {K72 : MV → Int32 → Int32 → Prop} (hK72 : ∀ (vM : MV) (x1 : Int32) (x2 : Int32) (H : Heap) (locs : List Loc) (ls : Array Slot), K72 vM x1 x2 → Wd D A s.heap (mW t aM vM) H locs → lv_has ls 7 [(0, .ref (MA.o aM)), (1, .int x1), (2, .int x2)] → W p l e ({ frames := 2, cells := 0, slots := 0, locals := 51 } : Room) s m args below meth c H locs 0 0 (Ei below args s A D (fun (u : MV) => (mW t aM u)) (fun (r : Int32) (u : MV) => Q r u) 0 0) (F0 m 72 ls [])) : ∀ (vM : MV) (x1 : Int32) (x2 : Int32) (x3 : Int32) (H : Heap) (locs : List Loc) (ls : Array Slot), wp_X7_cut_53 Q K72 vM x1 x2 x3 → Wd D A s.heap (mW t aM vM) H locs → lv_has ls 7 [(0, .ref (MA.o aM)), (1, .int x1), (2, .int x2), (3, .int x3)] → W p l e ({ frames := 2, cells := 0, slots := 0, locals := 51 } : Room) s m args below meth c H locs 0 0 (Ei below args s A D (fun (u : MV) => (mW t aM u)) (fun (r : Int32) (u : MV) => Q r u) 0 0) (F0 m 53 ls []) := by
  intro vM x1 x2 x3 H locs ls h hw hl
  have hx := X.1.1
  have hb := X.1.2.1
  refine h (fun (vM : MV) (x1 : Int32) (x2 : Int32) (x3 : Int32) => ∀ (H : Heap) (locs : List Loc) (ls : Array Slot), Wd D A s.heap (mW t aM vM) H locs → lv_has ls 7 [(0, .ref (MA.o aM)), (1, .int x1), (2, .int x2), (3, .int x3)] → W p l e ({ frames := 2, cells := 0, slots := 0, locals := 51 } : Room) s m args below meth c H locs 0 0 (Ei below args s A D (fun (u : MV) => (mW t aM u)) (fun (r : Int32) (u : MV) => Q r u) 0 0) (F0 m 53 ls [])) (fun vM x1 x2 x3 h H locs ls hw hl => ?_) H locs ls hw hl
  exact kb_X7_cut_53 X aM (fun vM x1 x2 x3 H locs ls q hw hl => q H locs ls hw hl) hK72 vM x1 x2 x3 _ _ _ h hw hl
def bd_X7_cut_74 (Q : Int32 → MV → Prop) (P : MV → Int32 → Int32 → Int32 → Prop) (K104 : MV → Prop) (vM : MV) (x1 : Int32) (x2 : Int32) (x3 : Int32) : Prop := wp_X7_cells vM  (fun (r_12 : Int32) (vM_11 : MV) => (r_12 ≤ x3 → K104 vM_11) ∧ (¬ r_12 ≤ x3 → wp_X7_drawSide vM_11 x3 1 x1 x2 (fun (vM_13 : MV) => wp_X7_drawSide vM_13 x3 2 x1 x2 (fun (vM_14 : MV) => ∀ x3_15 : Int32, x3_15 = x3 + 1 → P vM_14 x1 x2 x3_15))))
def wp_X7_cut_74 (Q : Int32 → MV → Prop) (K104 : MV → Prop) (vM : MV) (x1 : Int32) (x2 : Int32) (x3 : Int32) : Prop := ∀ P : MV → Int32 → Int32 → Int32 → Prop, (∀ (vM : MV) (x1 : Int32) (x2 : Int32) (x3 : Int32), bd_X7_cut_74 Q P K104 vM x1 x2 x3 → P vM x1 x2 x3) → P vM x1 x2 x3
set_option maxHeartbeats 4000000 in
set_option maxRecDepth 100000 in
theorem kb_X7_cut_74 {p : Program} {l : Launch} {e : Env} {s : State} {m : MethodId} {below : List Frame} {meth : Method} {c : Code} {args : Array Value} {D : va_G} {t : T3} {A : Nat → Prop} (X : Cx p s m meth c args cX7_cut 7 (some .int) RX7 wsX7_cut D t A) (aM : MA) {Q : Int32 → MV → Prop} {P : MV → Int32 → Int32 → Int32 → Prop} {K104 : MV → Prop} (hP : ∀ (vM : MV) (x1 : Int32) (x2 : Int32) (x3 : Int32) (H : Heap) (locs : List Loc) (ls : Array Slot), P vM x1 x2 x3 → Wd D A s.heap (mW t aM vM) H locs → lv_has ls 7 [(0, .ref (MA.o aM)), (1, .int x1), (2, .int x2), (3, .int x3)] → W p l e ({ frames := 2, cells := 0, slots := 0, locals := 51 } : Room) s m args below meth c H locs 0 0 (Ei below args s A D (fun (u : MV) => (mW t aM u)) (fun (r : Int32) (u : MV) => Q r u) 0 0) (F0 m 74 ls [])) (hK104 : ∀ (vM : MV) (H : Heap) (locs : List Loc) (ls : Array Slot), K104 vM → Wd D A s.heap (mW t aM vM) H locs → lv_has ls 7 [(0, .ref (MA.o aM))] → W p l e ({ frames := 2, cells := 0, slots := 0, locals := 51 } : Room) s m args below meth c H locs 0 0 (Ei below args s A D (fun (u : MV) => (mW t aM u)) (fun (r : Int32) (u : MV) => Q r u) 0 0) (F0 m 104 ls [])) : ∀ (vM : MV) (x1 : Int32) (x2 : Int32) (x3 : Int32) (H : Heap) (locs : List Loc) (ls : Array Slot), bd_X7_cut_74 Q P K104 vM x1 x2 x3 → Wd D A s.heap (mW t aM vM) H locs → lv_has ls 7 [(0, .ref (MA.o aM)), (1, .int x1), (2, .int x2), (3, .int x3)] → W p l e ({ frames := 2, cells := 0, slots := 0, locals := 51 } : Room) s m args below meth c H locs 0 0 (Ei below args s A D (fun (u : MV) => (mW t aM u)) (fun (r : Int32) (u : MV) => Q r u) 0 0) (F0 m 74 ls []) := by
  intro vM x1 x2 x3 H locs ls h hw hl
  have hx := X.1.1
  have hb := X.1.2.1
  refine lv_iload_n hx hb dX7_cut_74 rfl (lv_at hl 3 rfl) ?_
  refine lv_aload_n hx hb dX7_cut_75 rfl (lv_at hl 0 rfl) ?_
  refine r_ci X hw pm_0 (wn := fun (u : MV) => (mW t aM u)) (fun u => pm_0.symm) (r_runV X hw (c_X7_cells l D t aM vM _ h) pm_0 (cwV 0 X.1.2.2.2.2 gX7_cut_X7_cells rfl rfl rfl (by decide +kernel) ⟨Nat.le_of_ble_eq_true rfl, Nat.le_of_ble_eq_true rfl⟩) (ci := 7) rfl rfl rfl rfl hl rfl (Nat.le_of_ble_eq_true rfl) dX7_cut_76 ⟨Nat.le_of_ble_eq_true rfl, Nat.le_of_ble_eq_true rfl⟩) (fun r_12 u H locs h hw => ?_)
  obtain ⟨vM_11, rfl⟩ : ∃ z, z = u := ⟨_, rfl⟩
  refine lv_icmp_ge (tgt := 104) hx hb dX7_cut_79 (by decide) (fun c_16 => ?_) (fun c_16 => ?_)
  · replace h := h.1 c_16
    exact hK104 _ _ _ _ h hw (lv_sub hl [0] rfl)
  replace h := h.2 c_16
  refine lv_aload_n hx hb dX7_cut_82 rfl (lv_at hl 0 rfl) ?_
  refine lv_iload_n hx hb dX7_cut_83 rfl (lv_at hl 3 rfl) ?_
  refine lv_iconst (v := 1) hx hb dX7_cut_84 (by decide) ?_
  refine lv_iload_n hx hb dX7_cut_85 rfl (lv_at hl 1 rfl) ?_
  refine lv_iload_n hx hb dX7_cut_86 rfl (lv_at hl 2 rfl) ?_
  refine r_cv X hw pm_0 (wn := fun (u : MV) => (mW t aM u)) (fun u => pm_0.symm) (r_runV X hw (c_X7_drawSide l D t aM vM_11 x3 1 x1 x2 _ h) pm_0 (cwV 4 X.1.2.2.2.2 gX7_cut_X7_drawSide rfl rfl rfl (by decide +kernel) ⟨Nat.le_of_ble_eq_true rfl, Nat.le_of_ble_eq_true rfl⟩) (ci := 7) rfl rfl rfl rfl hl rfl (Nat.le_of_ble_eq_true rfl) dX7_cut_87 ⟨Nat.le_of_ble_eq_true rfl, Nat.le_of_ble_eq_true rfl⟩) (fun u H locs h hw => ?_)
  obtain ⟨vM_13, rfl⟩ : ∃ z, z = u := ⟨_, rfl⟩
  refine lv_aload_n hx hb dX7_cut_90 rfl (lv_at hl 0 rfl) ?_
  refine lv_iload_n hx hb dX7_cut_91 rfl (lv_at hl 3 rfl) ?_
  refine lv_iconst (v := 2) hx hb dX7_cut_92 (by decide) ?_
  refine lv_iload_n hx hb dX7_cut_93 rfl (lv_at hl 1 rfl) ?_
  refine lv_iload_n hx hb dX7_cut_94 rfl (lv_at hl 2 rfl) ?_
  refine r_cv X hw pm_0 (wn := fun (u : MV) => (mW t aM u)) (fun u => pm_0.symm) (r_runV X hw (c_X7_drawSide l D t aM vM_13 x3 2 x1 x2 _ h) pm_0 (cwV 4 X.1.2.2.2.2 gX7_cut_X7_drawSide rfl rfl rfl (by decide +kernel) ⟨Nat.le_of_ble_eq_true rfl, Nat.le_of_ble_eq_true rfl⟩) (ci := 7) rfl rfl rfl rfl hl rfl (Nat.le_of_ble_eq_true rfl) dX7_cut_95 ⟨Nat.le_of_ble_eq_true rfl, Nat.le_of_ble_eq_true rfl⟩) (fun u H locs h hw => ?_)
  obtain ⟨vM_14, rfl⟩ : ∃ z, z = u := ⟨_, rfl⟩
  obtain ⟨x3_15, ex3_15⟩ : ∃ z : Int32, z = x3 + 1 := ⟨_, rfl⟩
  replace h := h x3_15 ex3_15
  refine lv_iinc (v := x3_15) (lv' := [(3, .int x3_15), (0, .ref (MA.o aM)), (1, .int x1), (2, .int x2)]) hx hb dX7_cut_98 hl (k := 3) rfl (by rw [ex3_15]; rfl) (by decide) rfl (fun ls hl => ?_)
  refine lv_goto (tgt := 74) hx hb dX7_cut_101 (by decide) ?_
  exact hP _ _ _ _ _ _ _ h hw (lv_sub hl [1, 2, 3, 0] rfl)
set_option maxHeartbeats 4000000 in
set_option maxRecDepth 100000 in
theorem k_X7_cut_74 {p : Program} {l : Launch} {e : Env} {s : State} {m : MethodId} {below : List Frame} {meth : Method} {c : Code} {args : Array Value} {D : va_G} {t : T3} {A : Nat → Prop} (X : Cx p s m meth c args cX7_cut 7 (some .int) RX7 wsX7_cut D t A) (aM : MA) {Q : Int32 → MV → Prop} {K104 : MV → Prop} (hK104 : ∀ (vM : MV) (H : Heap) (locs : List Loc) (ls : Array Slot), K104 vM → Wd D A s.heap (mW t aM vM) H locs → lv_has ls 7 [(0, .ref (MA.o aM))] → W p l e ({ frames := 2, cells := 0, slots := 0, locals := 51 } : Room) s m args below meth c H locs 0 0 (Ei below args s A D (fun (u : MV) => (mW t aM u)) (fun (r : Int32) (u : MV) => Q r u) 0 0) (F0 m 104 ls [])) : ∀ (vM : MV) (x1 : Int32) (x2 : Int32) (x3 : Int32) (H : Heap) (locs : List Loc) (ls : Array Slot), wp_X7_cut_74 Q K104 vM x1 x2 x3 → Wd D A s.heap (mW t aM vM) H locs → lv_has ls 7 [(0, .ref (MA.o aM)), (1, .int x1), (2, .int x2), (3, .int x3)] → W p l e ({ frames := 2, cells := 0, slots := 0, locals := 51 } : Room) s m args below meth c H locs 0 0 (Ei below args s A D (fun (u : MV) => (mW t aM u)) (fun (r : Int32) (u : MV) => Q r u) 0 0) (F0 m 74 ls []) := by
  intro vM x1 x2 x3 H locs ls h hw hl
  have hx := X.1.1
  have hb := X.1.2.1
  refine h (fun (vM : MV) (x1 : Int32) (x2 : Int32) (x3 : Int32) => ∀ (H : Heap) (locs : List Loc) (ls : Array Slot), Wd D A s.heap (mW t aM vM) H locs → lv_has ls 7 [(0, .ref (MA.o aM)), (1, .int x1), (2, .int x2), (3, .int x3)] → W p l e ({ frames := 2, cells := 0, slots := 0, locals := 51 } : Room) s m args below meth c H locs 0 0 (Ei below args s A D (fun (u : MV) => (mW t aM u)) (fun (r : Int32) (u : MV) => Q r u) 0 0) (F0 m 74 ls [])) (fun vM x1 x2 x3 h H locs ls hw hl => ?_) H locs ls hw hl
  exact kb_X7_cut_74 X aM (fun vM x1 x2 x3 H locs ls q hw hl => q H locs ls hw hl) hK104 vM x1 x2 x3 _ _ _ h hw hl
def bd_X7_cut_130 (Q : Int32 → MV → Prop) (P : MV → Int32 → Int32 → Int32 → Int32 → Prop) (K188 : MV → Int32 → Int32 → Int32 → Prop) (vM : MV) (x3 : Int32) (x4 : Int32) (x5 : Int32) (x6 : Int32) : Prop := (4 ≤ x6 → K188 vM x3 x4 x5) ∧ (¬ 4 ≤ x6 → vp_in ((8 * x3) + x6) 96 ∧ ∀ x4_22 : Int32, x4_22 = ((10 * x4) + ((MV.drawn vM) (Int32.toNatClampNeg ((8 * x3) + x6)))) → vp_in (((8 * x3) + 4) + (jrem (4 - x6) 4)) 96 ∧ ∀ x5_24 : Int32, x5_24 = ((10 * x5) + ((MV.drawn vM) (Int32.toNatClampNeg (((8 * x3) + 4) + (jrem (4 - x6) 4))))) → ∀ x6_25 : Int32, x6_25 = x6 + 1 → P vM x3 x4_22 x5_24 x6_25)
def wp_X7_cut_130 (Q : Int32 → MV → Prop) (K188 : MV → Int32 → Int32 → Int32 → Prop) (vM : MV) (x3 : Int32) (x4 : Int32) (x5 : Int32) (x6 : Int32) : Prop := ∀ P : MV → Int32 → Int32 → Int32 → Int32 → Prop, (∀ (vM : MV) (x3 : Int32) (x4 : Int32) (x5 : Int32) (x6 : Int32), bd_X7_cut_130 Q P K188 vM x3 x4 x5 x6 → P vM x3 x4 x5 x6) → P vM x3 x4 x5 x6
set_option maxHeartbeats 4000000 in
set_option maxRecDepth 100000 in
theorem kb_X7_cut_130 {p : Program} {l : Launch} {e : Env} {s : State} {m : MethodId} {below : List Frame} {meth : Method} {c : Code} {args : Array Value} {D : va_G} {t : T3} {A : Nat → Prop} (X : Cx p s m meth c args cX7_cut 7 (some .int) RX7 wsX7_cut D t A) (aM : MA) {Q : Int32 → MV → Prop} {P : MV → Int32 → Int32 → Int32 → Int32 → Prop} {K188 : MV → Int32 → Int32 → Int32 → Prop} (hP : ∀ (vM : MV) (x3 : Int32) (x4 : Int32) (x5 : Int32) (x6 : Int32) (H : Heap) (locs : List Loc) (ls : Array Slot), P vM x3 x4 x5 x6 → Wd D A s.heap (mW t aM vM) H locs → lv_has ls 7 [(0, .ref (MA.o aM)), (3, .int x3), (4, .int x4), (5, .int x5), (6, .int x6)] → W p l e ({ frames := 2, cells := 0, slots := 0, locals := 51 } : Room) s m args below meth c H locs 0 0 (Ei below args s A D (fun (u : MV) => (mW t aM u)) (fun (r : Int32) (u : MV) => Q r u) 0 0) (F0 m 130 ls [])) (hK188 : ∀ (vM : MV) (x3 : Int32) (x4 : Int32) (x5 : Int32) (H : Heap) (locs : List Loc) (ls : Array Slot), K188 vM x3 x4 x5 → Wd D A s.heap (mW t aM vM) H locs → lv_has ls 7 [(0, .ref (MA.o aM)), (3, .int x3), (4, .int x4), (5, .int x5)] → W p l e ({ frames := 2, cells := 0, slots := 0, locals := 51 } : Room) s m args below meth c H locs 0 0 (Ei below args s A D (fun (u : MV) => (mW t aM u)) (fun (r : Int32) (u : MV) => Q r u) 0 0) (F0 m 188 ls [])) : ∀ (vM : MV) (x3 : Int32) (x4 : Int32) (x5 : Int32) (x6 : Int32) (H : Heap) (locs : List Loc) (ls : Array Slot), bd_X7_cut_130 Q P K188 vM x3 x4 x5 x6 → Wd D A s.heap (mW t aM vM) H locs → lv_has ls 7 [(0, .ref (MA.o aM)), (3, .int x3), (4, .int x4), (5, .int x5), (6, .int x6)] → W p l e ({ frames := 2, cells := 0, slots := 0, locals := 51 } : Room) s m args below meth c H locs 0 0 (Ei below args s A D (fun (u : MV) => (mW t aM u)) (fun (r : Int32) (u : MV) => Q r u) 0 0) (F0 m 130 ls []) := by
  intro vM x3 x4 x5 x6 H locs ls h hw hl
  have hx := X.1.1
  have hb := X.1.2.1
  refine lv_iload hx hb dX7_cut_130 (lv_at hl 4 rfl) ?_
  refine lv_iconst (v := 4) hx hb dX7_cut_132 (by decide) ?_
  refine lv_icmp_ge (tgt := 188) hx hb dX7_cut_133 (by decide) (fun c_26 => ?_) (fun c_26 => ?_)
  · replace h := h.1 c_26
    exact hK188 _ _ _ _ _ _ _ h hw (lv_sub hl [0, 1, 2, 3] rfl)
  replace h := h.2 c_26
  refine lv_bipush (v := 10) hx hb dX7_cut_136 (by decide) ?_
  refine lv_iload hx hb dX7_cut_138 (lv_at hl 2 rfl) ?_
  refine lv_imul hx hb dX7_cut_140 ?_
  refine lv_aload_n hx hb dX7_cut_141 rfl (lv_at hl 0 rfl) ?_
  refine r_get (ci := 7) (C := RX7) (T := TX7) (N := 16) X hw 0 rfl rfl 10 (by decide) in_X7_cut_X7 fl_X7_cut_22 (v := .ref (MA.drawn aM)) rfl dX7_cut_142 ?_
  refine lv_bipush (v := 8) hx hb dX7_cut_145 (by decide) ?_
  refine lv_iload_n hx hb dX7_cut_147 rfl (lv_at hl 1 rfl) ?_
  refine lv_imul hx hb dX7_cut_148 ?_
  refine lv_iload hx hb dX7_cut_149 (lv_at hl 4 rfl) ?_
  refine lv_iadd hx hb dX7_cut_151 ?_
  obtain ⟨hi_21, h⟩ := h
  refine r_iald (v := ((MV.drawn vM) (Int32.toNatClampNeg ((8 * x3) + x6)))) X hw 5 rfl hi_21 rfl dX7_cut_152 ?_
  refine lv_iadd hx hb dX7_cut_153 ?_
  refine lv_topi (fun x4_22 ex4_22 => ?_)
  replace h := h x4_22 ex4_22
  refine lv_istore (lv' := [(4, .int x4_22), (0, .ref (MA.o aM)), (3, .int x3), (5, .int x5), (6, .int x6)]) hx hb dX7_cut_154 hl (by decide) rfl (fun ls hl => ?_)
  refine lv_bipush (v := 10) hx hb dX7_cut_156 (by decide) ?_
  refine lv_iload hx hb dX7_cut_158 (lv_at hl 3 rfl) ?_
  refine lv_imul hx hb dX7_cut_160 ?_
  refine lv_aload_n hx hb dX7_cut_161 rfl (lv_at hl 1 rfl) ?_
  refine r_get (ci := 7) (C := RX7) (T := TX7) (N := 16) X hw 0 rfl rfl 10 (by decide) in_X7_cut_X7 fl_X7_cut_22 (v := .ref (MA.drawn aM)) rfl dX7_cut_162 ?_
  refine lv_bipush (v := 8) hx hb dX7_cut_165 (by decide) ?_
  refine lv_iload_n hx hb dX7_cut_167 rfl (lv_at hl 2 rfl) ?_
  refine lv_imul hx hb dX7_cut_168 ?_
  refine lv_iconst (v := 4) hx hb dX7_cut_169 (by decide) ?_
  refine lv_iadd hx hb dX7_cut_170 ?_
  refine lv_iconst (v := 4) hx hb dX7_cut_171 (by decide) ?_
  refine lv_iload hx hb dX7_cut_172 (lv_at hl 4 rfl) ?_
  refine lv_isub hx hb dX7_cut_174 ?_
  refine lv_iconst (v := 4) hx hb dX7_cut_175 (by decide) ?_
  refine r_irem hx hb dX7_cut_176 (by decide) ?_
  refine lv_iadd hx hb dX7_cut_177 ?_
  obtain ⟨hi_23, h⟩ := h
  refine r_iald (v := ((MV.drawn vM) (Int32.toNatClampNeg (((8 * x3) + 4) + (jrem (4 - x6) 4))))) X hw 5 rfl hi_23 rfl dX7_cut_178 ?_
  refine lv_iadd hx hb dX7_cut_179 ?_
  refine lv_topi (fun x5_24 ex5_24 => ?_)
  replace h := h x5_24 ex5_24
  refine lv_istore (lv' := [(5, .int x5_24), (4, .int x4_22), (0, .ref (MA.o aM)), (3, .int x3), (6, .int x6)]) hx hb dX7_cut_180 hl (by decide) rfl (fun ls hl => ?_)
  obtain ⟨x6_25, ex6_25⟩ : ∃ z : Int32, z = x6 + 1 := ⟨_, rfl⟩
  replace h := h x6_25 ex6_25
  refine lv_iinc (v := x6_25) (lv' := [(6, .int x6_25), (5, .int x5_24), (4, .int x4_22), (0, .ref (MA.o aM)), (3, .int x3)]) hx hb dX7_cut_182 hl (k := 4) rfl (by rw [ex6_25]; rfl) (by decide) rfl (fun ls hl => ?_)
  refine lv_goto (tgt := 130) hx hb dX7_cut_185 (by decide) ?_
  exact hP _ _ _ _ _ _ _ _ h hw (lv_sub hl [3, 4, 2, 1, 0] rfl)
set_option maxHeartbeats 4000000 in
set_option maxRecDepth 100000 in
theorem k_X7_cut_130 {p : Program} {l : Launch} {e : Env} {s : State} {m : MethodId} {below : List Frame} {meth : Method} {c : Code} {args : Array Value} {D : va_G} {t : T3} {A : Nat → Prop} (X : Cx p s m meth c args cX7_cut 7 (some .int) RX7 wsX7_cut D t A) (aM : MA) {Q : Int32 → MV → Prop} {K188 : MV → Int32 → Int32 → Int32 → Prop} (hK188 : ∀ (vM : MV) (x3 : Int32) (x4 : Int32) (x5 : Int32) (H : Heap) (locs : List Loc) (ls : Array Slot), K188 vM x3 x4 x5 → Wd D A s.heap (mW t aM vM) H locs → lv_has ls 7 [(0, .ref (MA.o aM)), (3, .int x3), (4, .int x4), (5, .int x5)] → W p l e ({ frames := 2, cells := 0, slots := 0, locals := 51 } : Room) s m args below meth c H locs 0 0 (Ei below args s A D (fun (u : MV) => (mW t aM u)) (fun (r : Int32) (u : MV) => Q r u) 0 0) (F0 m 188 ls [])) : ∀ (vM : MV) (x3 : Int32) (x4 : Int32) (x5 : Int32) (x6 : Int32) (H : Heap) (locs : List Loc) (ls : Array Slot), wp_X7_cut_130 Q K188 vM x3 x4 x5 x6 → Wd D A s.heap (mW t aM vM) H locs → lv_has ls 7 [(0, .ref (MA.o aM)), (3, .int x3), (4, .int x4), (5, .int x5), (6, .int x6)] → W p l e ({ frames := 2, cells := 0, slots := 0, locals := 51 } : Room) s m args below meth c H locs 0 0 (Ei below args s A D (fun (u : MV) => (mW t aM u)) (fun (r : Int32) (u : MV) => Q r u) 0 0) (F0 m 130 ls []) := by
  intro vM x3 x4 x5 x6 H locs ls h hw hl
  have hx := X.1.1
  have hb := X.1.2.1
  refine h (fun (vM : MV) (x3 : Int32) (x4 : Int32) (x5 : Int32) (x6 : Int32) => ∀ (H : Heap) (locs : List Loc) (ls : Array Slot), Wd D A s.heap (mW t aM vM) H locs → lv_has ls 7 [(0, .ref (MA.o aM)), (3, .int x3), (4, .int x4), (5, .int x5), (6, .int x6)] → W p l e ({ frames := 2, cells := 0, slots := 0, locals := 51 } : Room) s m args below meth c H locs 0 0 (Ei below args s A D (fun (u : MV) => (mW t aM u)) (fun (r : Int32) (u : MV) => Q r u) 0 0) (F0 m 130 ls [])) (fun vM x3 x4 x5 x6 h H locs ls hw hl => ?_) H locs ls hw hl
  exact kb_X7_cut_130 X aM (fun vM x3 x4 x5 x6 H locs ls q hw hl => q H locs ls hw hl) hK188 vM x3 x4 x5 x6 _ _ _ h hw hl
def bd_X7_cut_113 (Q : Int32 → MV → Prop) (P : MV → Int32 → Prop) (vM : MV) (x3 : Int32) : Prop := wp_X7_cells vM  (fun (r_20 : Int32) (vM_19 : MV) => (r_20 ≤ x3 → Q ((MV.z vM_19) 3) vM_19) ∧ (¬ r_20 ≤ x3 → wp_X7_cut_130 Q (fun (vM_27 : MV) (x3_28 : Int32) (x4_29 : Int32) (x5_30 : Int32) => wp_X7_bring vM_27 x4_29 x5_30 (fun (vM_31 : MV) => ∀ x3_32 : Int32, x3_32 = x3_28 + 1 → P vM_31 x3_32)) vM_19 x3 0 0 0))
def wp_X7_cut_113 (Q : Int32 → MV → Prop)  (vM : MV) (x3 : Int32) : Prop := ∀ P : MV → Int32 → Prop, (∀ (vM : MV) (x3 : Int32), bd_X7_cut_113 Q P  vM x3 → P vM x3) → P vM x3
set_option maxHeartbeats 4000000 in
set_option maxRecDepth 100000 in
theorem kb_X7_cut_113 {p : Program} {l : Launch} {e : Env} {s : State} {m : MethodId} {below : List Frame} {meth : Method} {c : Code} {args : Array Value} {D : va_G} {t : T3} {A : Nat → Prop} (X : Cx p s m meth c args cX7_cut 7 (some .int) RX7 wsX7_cut D t A) (aM : MA) {Q : Int32 → MV → Prop} {P : MV → Int32 → Prop} (hP : ∀ (vM : MV) (x3 : Int32) (H : Heap) (locs : List Loc) (ls : Array Slot), P vM x3 → Wd D A s.heap (mW t aM vM) H locs → lv_has ls 7 [(0, .ref (MA.o aM)), (3, .int x3)] → W p l e ({ frames := 2, cells := 0, slots := 0, locals := 51 } : Room) s m args below meth c H locs 0 0 (Ei below args s A D (fun (u : MV) => (mW t aM u)) (fun (r : Int32) (u : MV) => Q r u) 0 0) (F0 m 113 ls [])) : ∀ (vM : MV) (x3 : Int32) (H : Heap) (locs : List Loc) (ls : Array Slot), bd_X7_cut_113 Q P  vM x3 → Wd D A s.heap (mW t aM vM) H locs → lv_has ls 7 [(0, .ref (MA.o aM)), (3, .int x3)] → W p l e ({ frames := 2, cells := 0, slots := 0, locals := 51 } : Room) s m args below meth c H locs 0 0 (Ei below args s A D (fun (u : MV) => (mW t aM u)) (fun (r : Int32) (u : MV) => Q r u) 0 0) (F0 m 113 ls []) := by
  intro vM x3 H locs ls h hw hl
  have hx := X.1.1
  have hb := X.1.2.1
  refine lv_iload_n hx hb dX7_cut_113 rfl (lv_at hl 1 rfl) ?_
  refine lv_aload_n hx hb dX7_cut_114 rfl (lv_at hl 0 rfl) ?_
  refine r_ci X hw pm_0 (wn := fun (u : MV) => (mW t aM u)) (fun u => pm_0.symm) (r_runV X hw (c_X7_cells l D t aM vM _ h) pm_0 (cwV 0 X.1.2.2.2.2 gX7_cut_X7_cells rfl rfl rfl (by decide +kernel) ⟨Nat.le_of_ble_eq_true rfl, Nat.le_of_ble_eq_true rfl⟩) (ci := 7) rfl rfl rfl rfl hl rfl (Nat.le_of_ble_eq_true rfl) dX7_cut_115 ⟨Nat.le_of_ble_eq_true rfl, Nat.le_of_ble_eq_true rfl⟩) (fun r_20 u H locs h hw => ?_)
  obtain ⟨vM_19, rfl⟩ : ∃ z, z = u := ⟨_, rfl⟩
  refine lv_icmp_ge (tgt := 202) hx hb dX7_cut_118 (by decide) (fun c_33 => ?_) (fun c_33 => ?_)
  · replace h := h.1 c_33
    refine lv_aload_n hx hb dX7_cut_202 rfl (lv_at hl 0 rfl) ?_
    refine r_get (ci := 7) (C := RX7) (T := TX7) (N := 16) X hw 0 rfl rfl 1 (by decide) in_X7_cut_X7 fl_X7_cut_7 (v := .ref (MA.z aM)) rfl dX7_cut_203 ?_
    refine lv_iconst (v := 3) hx hb dX7_cut_206 (by decide) ?_
    refine r_iald (v := ((MV.z vM_19) 3)) X hw 1 rfl (vpl rfl) rfl dX7_cut_207 ?_
    exact e_i (w1 := (fun (u : MV) => (mW t aM u))) X (vM_19) hw h dX7_cut_208
  replace h := h.2 c_33
  refine lv_iconst (v := 0) hx hb dX7_cut_121 (by decide) ?_
  refine lv_istore (lv' := [(4, .int 0), (0, .ref (MA.o aM)), (3, .int x3)]) hx hb dX7_cut_122 hl (by decide) rfl (fun ls hl => ?_)
  refine lv_iconst (v := 0) hx hb dX7_cut_124 (by decide) ?_
  refine lv_istore (lv' := [(5, .int 0), (4, .int 0), (0, .ref (MA.o aM)), (3, .int x3)]) hx hb dX7_cut_125 hl (by decide) rfl (fun ls hl => ?_)
  refine lv_iconst (v := 0) hx hb dX7_cut_127 (by decide) ?_
  refine lv_istore (lv' := [(6, .int 0), (5, .int 0), (4, .int 0), (0, .ref (MA.o aM)), (3, .int x3)]) hx hb dX7_cut_128 hl (by decide) rfl (fun ls hl => ?_)
  refine k_X7_cut_130 X aM (fun vM_27 x3_28 x4_29 x5_30 H locs ls h hw hl => ?_) _ _ _ _ _ _ _ _ h hw (lv_sub hl [3, 4, 2, 1, 0] rfl)
  refine lv_aload_n hx hb dX7_cut_188 rfl (lv_at hl 0 rfl) ?_
  refine lv_iload hx hb dX7_cut_189 (lv_at hl 2 rfl) ?_
  refine lv_iload hx hb dX7_cut_191 (lv_at hl 3 rfl) ?_
  refine r_cv X hw pm_0 (wn := fun (u : MV) => (mW t aM u)) (fun u => pm_0.symm) (r_runV X hw (c_X7_bring l D t aM vM_27 x4_29 x5_30 _ h) pm_0 (cwV 2 X.1.2.2.2.2 gX7_cut_X7_bring rfl rfl rfl (by decide +kernel) ⟨Nat.le_of_ble_eq_true rfl, Nat.le_of_ble_eq_true rfl⟩) (ci := 7) rfl rfl rfl rfl hl rfl (Nat.le_of_ble_eq_true rfl) dX7_cut_193 ⟨Nat.le_of_ble_eq_true rfl, Nat.le_of_ble_eq_true rfl⟩) (fun u H locs h hw => ?_)
  obtain ⟨vM_31, rfl⟩ : ∃ z, z = u := ⟨_, rfl⟩
  obtain ⟨x3_32, ex3_32⟩ : ∃ z : Int32, z = x3_28 + 1 := ⟨_, rfl⟩
  replace h := h x3_32 ex3_32
  refine lv_iinc (v := x3_32) (lv' := [(3, .int x3_32), (0, .ref (MA.o aM)), (4, .int x4_29), (5, .int x5_30)]) hx hb dX7_cut_196 hl (k := 1) rfl (by rw [ex3_32]; rfl) (by decide) rfl (fun ls hl => ?_)
  refine lv_goto (tgt := 113) hx hb dX7_cut_199 (by decide) ?_
  exact hP _ _ _ _ _ h hw (lv_sub hl [1, 0] rfl)
set_option maxHeartbeats 4000000 in
set_option maxRecDepth 100000 in
theorem k_X7_cut_113 {p : Program} {l : Launch} {e : Env} {s : State} {m : MethodId} {below : List Frame} {meth : Method} {c : Code} {args : Array Value} {D : va_G} {t : T3} {A : Nat → Prop} (X : Cx p s m meth c args cX7_cut 7 (some .int) RX7 wsX7_cut D t A) (aM : MA) {Q : Int32 → MV → Prop}   : ∀ (vM : MV) (x3 : Int32) (H : Heap) (locs : List Loc) (ls : Array Slot), wp_X7_cut_113 Q  vM x3 → Wd D A s.heap (mW t aM vM) H locs → lv_has ls 7 [(0, .ref (MA.o aM)), (3, .int x3)] → W p l e ({ frames := 2, cells := 0, slots := 0, locals := 51 } : Room) s m args below meth c H locs 0 0 (Ei below args s A D (fun (u : MV) => (mW t aM u)) (fun (r : Int32) (u : MV) => Q r u) 0 0) (F0 m 113 ls []) := by
  intro vM x3 H locs ls h hw hl
  have hx := X.1.1
  have hb := X.1.2.1
  refine h (fun (vM : MV) (x3 : Int32) => ∀ (H : Heap) (locs : List Loc) (ls : Array Slot), Wd D A s.heap (mW t aM vM) H locs → lv_has ls 7 [(0, .ref (MA.o aM)), (3, .int x3)] → W p l e ({ frames := 2, cells := 0, slots := 0, locals := 51 } : Room) s m args below meth c H locs 0 0 (Ei below args s A D (fun (u : MV) => (mW t aM u)) (fun (r : Int32) (u : MV) => Q r u) 0 0) (F0 m 113 ls [])) (fun vM x3 h H locs ls hw hl => ?_) H locs ls hw hl
  exact kb_X7_cut_113 X aM (fun vM x3 H locs ls q hw hl => q H locs ls hw hl)  vM x3 _ _ _ h hw hl
def wp_X7_cut_26 (Q : Int32 → MV → Prop) (vM : MV) (x1 : Int32) (x2 : Int32) (t1 : Int32) : Prop := (t1 ≤ 0 → wp_X7_save (MV.s_thrown vM t1)  (fun (vM_2 : MV) => wp_X7_emptyBoard vM_2  (fun (vM_3 : MV) => wp_X7_cut_53 Q (fun (vM_8 : MV) (x1_9 : Int32) (x2_10 : Int32) => wp_X7_cut_74 Q (fun (vM_17 : MV) => ∀ z_18 : Nat → Int32, z_18 = upd (MV.z vM_17) 3 0 → wp_X7_cut_113 Q  (MV.s_z vM_17 z_18) 0) vM_8 x1_9 x2_10 0) (MV.s_digits vM_3 0) x1 x2 0))) ∧ (¬ t1 ≤ 0 → Q 0 (MV.s_thrown vM t1))
set_option maxHeartbeats 4000000 in
set_option maxRecDepth 100000 in
theorem k_X7_cut_26 {p : Program} {l : Launch} {e : Env} {s : State} {m : MethodId} {below : List Frame} {meth : Method} {c : Code} {args : Array Value} {D : va_G} {t : T3} {A : Nat → Prop} (X : Cx p s m meth c args cX7_cut 7 (some .int) RX7 wsX7_cut D t A) (aM : MA) {Q : Int32 → MV → Prop}  : ∀ (vM : MV) (x1 : Int32) (x2 : Int32) (t1 : Int32) (H : Heap) (locs : List Loc) (ls : Array Slot), wp_X7_cut_26 Q vM x1 x2 t1 → Wd D A s.heap (mW t aM vM) H locs → lv_has ls 7 [(0, .ref (MA.o aM)), (1, .int x1), (2, .int x2)] → W p l e ({ frames := 2, cells := 0, slots := 0, locals := 51 } : Room) s m args below meth c H locs 0 0 (Ei below args s A D (fun (u : MV) => (mW t aM u)) (fun (r : Int32) (u : MV) => Q r u) 0 0) (F0 m 26 ls [.int t1, .ref (MA.o aM)]) := by
  intro vM x1 x2 t1 H locs ls h hw hl
  have hx := X.1.1
  have hb := X.1.2.1
  refine r_put (ci := 7) (C := RX7) (T := TX7) (N := 16) (v := .int t1) (ws' := (mW t aM (MV.s_thrown vM t1))) X hw 0 rfl rfl 0 (by decide) in_X7_cut_X7 tyX7 tyX7_ok nmX7 fl_X7_cut_34 rfl rfl rfl (Nat.le_of_ble_eq_true rfl) rfl dX7_cut_26 (fun H locs hw => ?_)
  refine lv_aload_n hx hb dX7_cut_29 rfl (lv_at hl 0 rfl) ?_
  refine r_get (ci := 7) (C := RX7) (T := TX7) (N := 16) X hw 0 rfl rfl 0 (by decide) in_X7_cut_X7 fl_X7_cut_34 (v := .int t1) rfl dX7_cut_30 ?_
  refine lv_if_le (tgt := 38) hx hb dX7_cut_33 (by decide) (fun c_34 => ?_) (fun c_34 => ?_)
  · replace h := h.1 c_34
    refine lv_aload_n hx hb dX7_cut_38 rfl (lv_at hl 0 rfl) ?_
    refine r_cv X hw pm_0 (wn := fun (u : MV) => (mW t aM u)) (fun u => pm_0.symm) (r_runV X hw (c_X7_save l D t aM (MV.s_thrown vM t1) _ h) pm_0 (cwV 0 X.1.2.2.2.2 gX7_cut_X7_save rfl rfl rfl (by decide +kernel) ⟨Nat.le_of_ble_eq_true rfl, Nat.le_of_ble_eq_true rfl⟩) (ci := 7) rfl rfl rfl rfl hl rfl (Nat.le_of_ble_eq_true rfl) dX7_cut_39 ⟨Nat.le_of_ble_eq_true rfl, Nat.le_of_ble_eq_true rfl⟩) (fun u H locs h hw => ?_)
    obtain ⟨vM_2, rfl⟩ : ∃ z, z = u := ⟨_, rfl⟩
    refine lv_aload_n hx hb dX7_cut_42 rfl (lv_at hl 0 rfl) ?_
    refine r_cv X hw pm_0 (wn := fun (u : MV) => (mW t aM u)) (fun u => pm_0.symm) (r_runV X hw (c_X7_emptyBoard l D t aM vM_2 _ h) pm_0 (cwV 0 X.1.2.2.2.2 gX7_cut_X7_emptyBoard rfl rfl rfl (by decide +kernel) ⟨Nat.le_of_ble_eq_true rfl, Nat.le_of_ble_eq_true rfl⟩) (ci := 7) rfl rfl rfl rfl hl rfl (Nat.le_of_ble_eq_true rfl) dX7_cut_43 ⟨Nat.le_of_ble_eq_true rfl, Nat.le_of_ble_eq_true rfl⟩) (fun u H locs h hw => ?_)
    obtain ⟨vM_3, rfl⟩ : ∃ z, z = u := ⟨_, rfl⟩
    refine lv_aload_n hx hb dX7_cut_46 rfl (lv_at hl 0 rfl) ?_
    refine lv_iconst (v := 0) hx hb dX7_cut_47 (by decide) ?_
    refine r_put (ci := 7) (C := RX7) (T := TX7) (N := 16) (v := .int 0) (ws' := (mW t aM (MV.s_digits vM_3 0))) X hw 0 rfl rfl 11 (by decide) in_X7_cut_X7 tyX7 tyX7_ok nmX7 fl_X7_cut_111 rfl rfl rfl (Nat.le_of_ble_eq_true rfl) rfl dX7_cut_48 (fun H locs hw => ?_)
    refine lv_iconst (v := 0) hx hb dX7_cut_51 (by decide) ?_
    refine lv_istore_n (lv' := [(3, .int 0), (0, .ref (MA.o aM)), (1, .int x1), (2, .int x2)]) hx hb dX7_cut_52 rfl hl (by decide) rfl (fun ls hl => ?_)
    refine k_X7_cut_53 X aM (fun vM_8 x1_9 x2_10 H locs ls h hw hl => ?_) _ _ _ _ _ _ _ h hw (lv_sub hl [1, 2, 3, 0] rfl)
    refine lv_iconst (v := 0) hx hb dX7_cut_72 (by decide) ?_
    refine lv_istore_n (lv' := [(3, .int 0), (0, .ref (MA.o aM)), (1, .int x1_9), (2, .int x2_10)]) hx hb dX7_cut_73 rfl hl (by decide) rfl (fun ls hl => ?_)
    refine k_X7_cut_74 X aM (fun vM_17 H locs ls h hw hl => ?_) _ _ _ _ _ _ _ h hw (lv_sub hl [1, 2, 3, 0] rfl)
    refine lv_aload_n hx hb dX7_cut_104 rfl (lv_at hl 0 rfl) ?_
    refine r_get (ci := 7) (C := RX7) (T := TX7) (N := 16) X hw 0 rfl rfl 1 (by decide) in_X7_cut_X7 fl_X7_cut_7 (v := .ref (MA.z aM)) rfl dX7_cut_105 ?_
    refine lv_iconst (v := 3) hx hb dX7_cut_108 (by decide) ?_
    refine lv_iconst (v := 0) hx hb dX7_cut_109 (by decide) ?_
    obtain ⟨z_18, ez_18⟩ : ∃ z : Nat → Int32, z = upd (MV.z vM_17) 3 0 := ⟨_, rfl⟩
    replace h := h z_18 ez_18
    refine r_iast (ws' := (mW t aM (MV.s_z vM_17 z_18))) X hw 1 rfl (vpl rfl) (by subst ez_18; rfl) dX7_cut_110 (fun H locs hw => ?_)
    refine lv_iconst (v := 0) hx hb dX7_cut_111 (by decide) ?_
    refine lv_istore_n (lv' := [(3, .int 0), (0, .ref (MA.o aM))]) hx hb dX7_cut_112 rfl hl (by decide) rfl (fun ls hl => ?_)
    refine k_X7_cut_113 X aM  _ _ _ _ _ h hw (lv_sub hl [1, 0] rfl)
  replace h := h.2 c_34
  refine lv_iconst (v := 0) hx hb dX7_cut_36 (by decide) ?_
  exact e_i (w1 := (fun (u : MV) => (mW t aM u))) X ((MV.s_thrown vM t1)) hw h dX7_cut_37
def wp_X7_cut_25 (Q : Int32 → MV → Prop) (vM : MV) (x1 : Int32) (x2 : Int32) : Prop := wp_X7_cut_26  Q vM x1 x2 1
set_option maxHeartbeats 4000000 in
set_option maxRecDepth 100000 in
theorem k_X7_cut_25 {p : Program} {l : Launch} {e : Env} {s : State} {m : MethodId} {below : List Frame} {meth : Method} {c : Code} {args : Array Value} {D : va_G} {t : T3} {A : Nat → Prop} (X : Cx p s m meth c args cX7_cut 7 (some .int) RX7 wsX7_cut D t A) (aM : MA) {Q : Int32 → MV → Prop}  : ∀ (vM : MV) (x1 : Int32) (x2 : Int32) (H : Heap) (locs : List Loc) (ls : Array Slot), wp_X7_cut_25 Q vM x1 x2 → Wd D A s.heap (mW t aM vM) H locs → lv_has ls 7 [(0, .ref (MA.o aM)), (1, .int x1), (2, .int x2)] → W p l e ({ frames := 2, cells := 0, slots := 0, locals := 51 } : Room) s m args below meth c H locs 0 0 (Ei below args s A D (fun (u : MV) => (mW t aM u)) (fun (r : Int32) (u : MV) => Q r u) 0 0) (F0 m 25 ls [.ref (MA.o aM)]) := by
  intro vM x1 x2 H locs ls h hw hl
  have hx := X.1.1
  have hb := X.1.2.1
  refine lv_iconst (v := 1) hx hb dX7_cut_25 (by decide) ?_
  exact k_X7_cut_26 X aM _ _ _ _ _ _ _ h hw hl
def wp_X7_cut (vM : MV) (p1 : Int32) (p2 : Int32) (Q : Int32 → MV → Prop) : Prop := wp_X7_within  p1 1 999999999 (fun (r_1 : Int32) => (r_1 = 0 → wp_X7_cut_25  Q vM p1 p2) ∧ (¬ r_1 = 0 → wp_X7_within  p2 1 9 (fun (r_35 : Int32) => (r_35 = 0 → wp_X7_cut_25  Q vM p1 p2) ∧ (¬ r_35 = 0 → wp_X7_cut_26  Q vM p1 p2 0))))
set_option maxHeartbeats 4000000 in
set_option maxRecDepth 100000 in
theorem c_X7_cut (l : Launch) (D : va_G) (t : T3) (aM : MA) (vM : MV) (p1 : Int32) (p2 : Int32) (Q : Int32 → MV → Prop) (h : wp_X7_cut vM p1 p2 Q) : Ct l yX7_cut wsX7_cut 2 51 0 0 [.ref (MA.o aM), .int p1, .int p2] D t (mW t aM vM) (fun sz => Qi D (mW t aM vM) (fun (u : MV) => (mW t aM u)) (fun (r : Int32) (u : MV) => Q r u) sz) := by
  refine Ct.of (Qf := fun _ A => va_Qi (fun (r : Int32) (u : MV) => Q r u) (B1 D (fun (u : MV) => (mW t aM u)) A) A) cX7_cut 7 (some .int) (by decide) rfl (Nat.le_of_ble_eq_true rfl) ?_
  intro p e s m below meth c A ls hAe hin X hw hl
  generalize ([.ref (MA.o aM), .int p1, .int p2] : List Value).toArray = args at X ⊢
  have hl : lv_has ls 7 [(0, .ref (MA.o aM)), (1, .int p1), (2, .int p2)] := hl
  have hx := X.1.1
  have hb := X.1.2.1
  refine lv_aload_n hx hb dX7_cut_0 rfl (lv_at hl 0 rfl) ?_
  refine lv_iload_n hx hb dX7_cut_1 rfl (lv_at hl 1 rfl) ?_
  refine lv_iconst (v := 1) hx hb dX7_cut_2 (by decide) ?_
  refine lv_ldc (v := 999999999) hx hb X.1.2.2.2.1 (X.1.2.2.2.2 _ k_X7_cut_117) dX7_cut_3 ?_
  refine r_ci X hw pm_n (wn := fun (u : Unit) => (mW t aM vM)) (fun u => (pm_n).symm) (r_runS X hw (c_X7_within l D t p1 1 999999999 _ h) pm_n (va_cwS 3 X.1.2.2.2.2 gX7_cut_X7_within rfl rfl rfl (by decide +kernel) ⟨Nat.le_of_ble_eq_true rfl, Nat.le_of_ble_eq_true rfl⟩) rfl hl rfl (Nat.le_of_ble_eq_true rfl) dX7_cut_5 ⟨Nat.le_of_ble_eq_true rfl, Nat.le_of_ble_eq_true rfl⟩) (fun r_1 u H locs h hw => ?_)
  refine lv_if_eq (tgt := 25) hx hb dX7_cut_8 (by decide) (fun c_37 => ?_) (fun c_37 => ?_)
  · replace h := h.1 c_37
    exact k_X7_cut_25 X aM _ _ _ _ _ _ h hw hl
  replace h := h.2 c_37
  refine lv_iload_n hx hb dX7_cut_11 rfl (lv_at hl 2 rfl) ?_
  refine lv_iconst (v := 1) hx hb dX7_cut_12 (by decide) ?_
  refine lv_bipush (v := 9) hx hb dX7_cut_13 (by decide) ?_
  refine r_ci X hw pm_n (wn := fun (u : Unit) => (mW t aM vM)) (fun u => (pm_n).symm) (r_runS X hw (c_X7_within l D t p2 1 9 _ h) pm_n (va_cwS 3 X.1.2.2.2.2 gX7_cut_X7_within rfl rfl rfl (by decide +kernel) ⟨Nat.le_of_ble_eq_true rfl, Nat.le_of_ble_eq_true rfl⟩) rfl hl rfl (Nat.le_of_ble_eq_true rfl) dX7_cut_15 ⟨Nat.le_of_ble_eq_true rfl, Nat.le_of_ble_eq_true rfl⟩) (fun r_35 u H locs h hw => ?_)
  refine lv_if_eq (tgt := 25) hx hb dX7_cut_18 (by decide) (fun c_36 => ?_) (fun c_36 => ?_)
  · replace h := h.1 c_36
    exact k_X7_cut_25 X aM _ _ _ _ _ _ h hw hl
  replace h := h.2 c_36
  refine lv_iconst (v := 0) hx hb dX7_cut_21 (by decide) ?_
  refine lv_goto (tgt := 26) hx hb dX7_cut_22 (by decide) ?_
  exact k_X7_cut_26 X aM _ _ _ _ _ _ _ h hw hl
/-! X7_empties -/
theorem in_X7_empties_X7 : ∀ w ∈ u_ws RX7 TX7 16, w ∈ wsX7_empties := fun w h => (List.mem_cons_of_mem _ (List.mem_append_right _ h))
theorem fl_X7_empties_7 : Cond.fieldLink RX7 7 "TwoFacedTilesModel" "z" "[I" ∈ wsX7_empties := List.mem_of_getElem? (i := 1) rfl
def wp_X7_empties_31 (P : MV → Int32 → Int32 → Prop) (Q : Int32 → MV → Prop) (vM : MV) (x2 : Int32) (t0 : Int32) (t1 : Int32) : Prop := ∀ x1_4 : Int32, x1_4 = (t0 + t1) → ∀ x2_5 : Int32, x2_5 = x2 + 1 → P vM x1_4 x2_5
set_option maxHeartbeats 4000000 in
set_option maxRecDepth 100000 in
theorem k_X7_empties_31 {p : Program} {l : Launch} {e : Env} {s : State} {m : MethodId} {below : List Frame} {meth : Method} {c : Code} {args : Array Value} {D : va_G} {t : T3} {A : Nat → Prop} (X : Cx p s m meth c args cX7_empties 3 (some .int) RX7 wsX7_empties D t A) (aM : MA) {P : MV → Int32 → Int32 → Prop} {Q : Int32 → MV → Prop} (hP : ∀ (vM : MV) (x1 : Int32) (x2 : Int32) (H : Heap) (locs : List Loc) (ls : Array Slot), P vM x1 x2 → Wd D A s.heap (mW t aM vM) H locs → lv_has ls 3 [(0, .ref (MA.o aM)), (1, .int x1), (2, .int x2)] → W p l e ({ frames := 1, cells := 0, slots := 0, locals := 20 } : Room) s m args below meth c H locs 0 0 (Ei below args s A D (fun (u : MV) => (mW t aM u)) (fun (r : Int32) (u : MV) => Q r u) 0 0) (F0 m 4 ls [])) : ∀ (vM : MV) (x2 : Int32) (t0 : Int32) (t1 : Int32) (H : Heap) (locs : List Loc) (ls : Array Slot), wp_X7_empties_31 P Q vM x2 t0 t1 → Wd D A s.heap (mW t aM vM) H locs → lv_has ls 3 [(0, .ref (MA.o aM)), (2, .int x2)] → W p l e ({ frames := 1, cells := 0, slots := 0, locals := 20 } : Room) s m args below meth c H locs 0 0 (Ei below args s A D (fun (u : MV) => (mW t aM u)) (fun (r : Int32) (u : MV) => Q r u) 0 0) (F0 m 31 ls [.int t1, .int t0]) := by
  intro vM x2 t0 t1 H locs ls h hw hl
  have hx := X.1.1
  have hb := X.1.2.1
  refine lv_iadd hx hb dX7_empties_31 ?_
  refine lv_topi (fun x1_4 ex1_4 => ?_)
  replace h := h x1_4 ex1_4
  refine lv_istore_n (lv' := [(1, .int x1_4), (0, .ref (MA.o aM)), (2, .int x2)]) hx hb dX7_empties_32 rfl hl (by decide) rfl (fun ls hl => ?_)
  obtain ⟨x2_5, ex2_5⟩ : ∃ z : Int32, z = x2 + 1 := ⟨_, rfl⟩
  replace h := h x2_5 ex2_5
  refine lv_iinc (v := x2_5) (lv' := [(2, .int x2_5), (1, .int x1_4), (0, .ref (MA.o aM))]) hx hb dX7_empties_33 hl (k := 2) rfl (by rw [ex2_5]; rfl) (by decide) rfl (fun ls hl => ?_)
  refine lv_goto (tgt := 4) hx hb dX7_empties_36 (by decide) ?_
  exact hP _ _ _ _ _ _ h hw (lv_sub hl [2, 1, 0] rfl)
def bd_X7_empties_4 (Q : Int32 → MV → Prop) (P : MV → Int32 → Int32 → Prop) (vM : MV) (x1 : Int32) (x2 : Int32) : Prop := wp_X7_cells vM  (fun (r_2 : Int32) (vM_1 : MV) => (r_2 ≤ x2 → Q x1 vM_1) ∧ (¬ r_2 ≤ x2 → vp_in (28 + x2) 52 ∧ (¬ ((MV.z vM_1) (Int32.toNatClampNeg (28 + x2))) = (-1) → wp_X7_empties_31  P Q vM_1 x2 x1 0) ∧ (((MV.z vM_1) (Int32.toNatClampNeg (28 + x2))) = (-1) → wp_X7_empties_31  P Q vM_1 x2 x1 1)))
def wp_X7_empties_4 (Q : Int32 → MV → Prop)  (vM : MV) (x1 : Int32) (x2 : Int32) : Prop := ∀ P : MV → Int32 → Int32 → Prop, (∀ (vM : MV) (x1 : Int32) (x2 : Int32), bd_X7_empties_4 Q P  vM x1 x2 → P vM x1 x2) → P vM x1 x2
set_option maxHeartbeats 4000000 in
set_option maxRecDepth 100000 in
theorem kb_X7_empties_4 {p : Program} {l : Launch} {e : Env} {s : State} {m : MethodId} {below : List Frame} {meth : Method} {c : Code} {args : Array Value} {D : va_G} {t : T3} {A : Nat → Prop} (X : Cx p s m meth c args cX7_empties 3 (some .int) RX7 wsX7_empties D t A) (aM : MA) {Q : Int32 → MV → Prop} {P : MV → Int32 → Int32 → Prop} (hP : ∀ (vM : MV) (x1 : Int32) (x2 : Int32) (H : Heap) (locs : List Loc) (ls : Array Slot), P vM x1 x2 → Wd D A s.heap (mW t aM vM) H locs → lv_has ls 3 [(0, .ref (MA.o aM)), (1, .int x1), (2, .int x2)] → W p l e ({ frames := 1, cells := 0, slots := 0, locals := 20 } : Room) s m args below meth c H locs 0 0 (Ei below args s A D (fun (u : MV) => (mW t aM u)) (fun (r : Int32) (u : MV) => Q r u) 0 0) (F0 m 4 ls [])) : ∀ (vM : MV) (x1 : Int32) (x2 : Int32) (H : Heap) (locs : List Loc) (ls : Array Slot), bd_X7_empties_4 Q P  vM x1 x2 → Wd D A s.heap (mW t aM vM) H locs → lv_has ls 3 [(0, .ref (MA.o aM)), (1, .int x1), (2, .int x2)] → W p l e ({ frames := 1, cells := 0, slots := 0, locals := 20 } : Room) s m args below meth c H locs 0 0 (Ei below args s A D (fun (u : MV) => (mW t aM u)) (fun (r : Int32) (u : MV) => Q r u) 0 0) (F0 m 4 ls []) := by
  intro vM x1 x2 H locs ls h hw hl
  have hx := X.1.1
  have hb := X.1.2.1
  refine lv_iload_n hx hb dX7_empties_4 rfl (lv_at hl 2 rfl) ?_
  refine lv_aload_n hx hb dX7_empties_5 rfl (lv_at hl 0 rfl) ?_
  refine r_ci X hw pm_0 (wn := fun (u : MV) => (mW t aM u)) (fun u => pm_0.symm) (r_runV X hw (c_X7_cells l D t aM vM _ h) pm_0 (cwV 0 X.1.2.2.2.2 gX7_empties_X7_cells rfl rfl rfl (by decide +kernel) ⟨Nat.le_of_ble_eq_true rfl, Nat.le_of_ble_eq_true rfl⟩) (ci := 7) rfl rfl rfl rfl hl rfl (Nat.le_of_ble_eq_true rfl) dX7_empties_6 ⟨Nat.le_of_ble_eq_true rfl, Nat.le_of_ble_eq_true rfl⟩) (fun r_2 u H locs h hw => ?_)
  obtain ⟨vM_1, rfl⟩ : ∃ z, z = u := ⟨_, rfl⟩
  refine lv_icmp_ge (tgt := 39) hx hb dX7_empties_9 (by decide) (fun c_7 => ?_) (fun c_7 => ?_)
  · replace h := h.1 c_7
    refine lv_iload_n hx hb dX7_empties_39 rfl (lv_at hl 1 rfl) ?_
    exact e_i (w1 := (fun (u : MV) => (mW t aM u))) X (vM_1) hw h dX7_empties_40
  replace h := h.2 c_7
  refine lv_iload_n hx hb dX7_empties_12 rfl (lv_at hl 1 rfl) ?_
  refine lv_aload_n hx hb dX7_empties_13 rfl (lv_at hl 0 rfl) ?_
  refine r_get (ci := 7) (C := RX7) (T := TX7) (N := 16) X hw 0 rfl rfl 1 (by decide) in_X7_empties_X7 fl_X7_empties_7 (v := .ref (MA.z aM)) rfl dX7_empties_14 ?_
  refine lv_bipush (v := 28) hx hb dX7_empties_17 (by decide) ?_
  refine lv_iload_n hx hb dX7_empties_19 rfl (lv_at hl 2 rfl) ?_
  refine lv_iadd hx hb dX7_empties_20 ?_
  obtain ⟨hi_3, h⟩ := h
  refine r_iald (v := ((MV.z vM_1) (Int32.toNatClampNeg (28 + x2)))) X hw 1 rfl hi_3 rfl dX7_empties_21 ?_
  refine lv_iconst (v := (-1)) hx hb dX7_empties_22 (by decide) ?_
  refine lv_icmp_ne (tgt := 30) hx hb dX7_empties_23 (by decide) (fun c_6 => ?_) (fun c_6 => ?_)
  · replace h := h.1 c_6
    refine lv_iconst (v := 0) hx hb dX7_empties_30 (by decide) ?_
    exact k_X7_empties_31 X aM hP _ _ _ _ _ _ _ h hw (lv_sub hl [0, 2] rfl)
  replace h := h.2 c_6
  refine lv_iconst (v := 1) hx hb dX7_empties_26 (by decide) ?_
  refine lv_goto (tgt := 31) hx hb dX7_empties_27 (by decide) ?_
  exact k_X7_empties_31 X aM hP _ _ _ _ _ _ _ h hw (lv_sub hl [0, 2] rfl)
set_option maxHeartbeats 4000000 in
set_option maxRecDepth 100000 in
theorem k_X7_empties_4 {p : Program} {l : Launch} {e : Env} {s : State} {m : MethodId} {below : List Frame} {meth : Method} {c : Code} {args : Array Value} {D : va_G} {t : T3} {A : Nat → Prop} (X : Cx p s m meth c args cX7_empties 3 (some .int) RX7 wsX7_empties D t A) (aM : MA) {Q : Int32 → MV → Prop}   : ∀ (vM : MV) (x1 : Int32) (x2 : Int32) (H : Heap) (locs : List Loc) (ls : Array Slot), wp_X7_empties_4 Q  vM x1 x2 → Wd D A s.heap (mW t aM vM) H locs → lv_has ls 3 [(0, .ref (MA.o aM)), (1, .int x1), (2, .int x2)] → W p l e ({ frames := 1, cells := 0, slots := 0, locals := 20 } : Room) s m args below meth c H locs 0 0 (Ei below args s A D (fun (u : MV) => (mW t aM u)) (fun (r : Int32) (u : MV) => Q r u) 0 0) (F0 m 4 ls []) := by
  intro vM x1 x2 H locs ls h hw hl
  have hx := X.1.1
  have hb := X.1.2.1
  refine h (fun (vM : MV) (x1 : Int32) (x2 : Int32) => ∀ (H : Heap) (locs : List Loc) (ls : Array Slot), Wd D A s.heap (mW t aM vM) H locs → lv_has ls 3 [(0, .ref (MA.o aM)), (1, .int x1), (2, .int x2)] → W p l e ({ frames := 1, cells := 0, slots := 0, locals := 20 } : Room) s m args below meth c H locs 0 0 (Ei below args s A D (fun (u : MV) => (mW t aM u)) (fun (r : Int32) (u : MV) => Q r u) 0 0) (F0 m 4 ls [])) (fun vM x1 x2 h H locs ls hw hl => ?_) H locs ls hw hl
  exact kb_X7_empties_4 X aM (fun vM x1 x2 H locs ls q hw hl => q H locs ls hw hl)  vM x1 x2 _ _ _ h hw hl
def wp_X7_empties (vM : MV) (Q : Int32 → MV → Prop) : Prop := wp_X7_empties_4 Q  vM 0 0
set_option maxHeartbeats 4000000 in
set_option maxRecDepth 100000 in
theorem c_X7_empties (l : Launch) (D : va_G) (t : T3) (aM : MA) (vM : MV) (Q : Int32 → MV → Prop) (h : wp_X7_empties vM Q) : Ct l yX7_empties wsX7_empties 1 20 0 0 [.ref (MA.o aM)] D t (mW t aM vM) (fun sz => Qi D (mW t aM vM) (fun (u : MV) => (mW t aM u)) (fun (r : Int32) (u : MV) => Q r u) sz) := by
  refine Ct.of (Qf := fun _ A => va_Qi (fun (r : Int32) (u : MV) => Q r u) (B1 D (fun (u : MV) => (mW t aM u)) A) A) cX7_empties 3 (some .int) (by decide) rfl (Nat.le_of_ble_eq_true rfl) ?_
  intro p e s m below meth c A ls hAe hin X hw hl
  generalize ([.ref (MA.o aM)] : List Value).toArray = args at X ⊢
  have hl : lv_has ls 3 [(0, .ref (MA.o aM))] := hl
  have hx := X.1.1
  have hb := X.1.2.1
  refine lv_iconst (v := 0) hx hb dX7_empties_0 (by decide) ?_
  refine lv_istore_n (lv' := [(1, .int 0), (0, .ref (MA.o aM))]) hx hb dX7_empties_1 rfl hl (by decide) rfl (fun ls hl => ?_)
  refine lv_iconst (v := 0) hx hb dX7_empties_2 (by decide) ?_
  refine lv_istore_n (lv' := [(2, .int 0), (1, .int 0), (0, .ref (MA.o aM))]) hx hb dX7_empties_3 rfl hl (by decide) rfl (fun ls hl => ?_)
  refine k_X7_empties_4 X aM  _ _ _ _ _ _ h hw (lv_sub hl [2, 1, 0] rfl)
/-! X7_lay -/
theorem in_X7_lay_X7 : ∀ w ∈ u_ws RX7 TX7 16, w ∈ wsX7_lay := fun w h => (List.mem_cons_of_mem _ (List.mem_append_right _ h))
theorem fl_X7_lay_34 : Cond.fieldLink RX7 34 "TwoFacedTilesModel" "thrown" "I" ∈ wsX7_lay := List.mem_of_getElem? (i := 1) rfl
theorem fl_X7_lay_7 : Cond.fieldLink RX7 7 "TwoFacedTilesModel" "z" "[I" ∈ wsX7_lay := List.mem_of_getElem? (i := 2) rfl
def wp_X7_lay_45 (Q : Int32 → MV → Prop) (vM : MV) (x1 : Int32) (x2 : Int32) (t1 : Int32) : Prop := (t1 ≤ 0 → wp_X7_save (MV.s_thrown vM t1)  (fun (vM_5 : MV) => vp_in (28 + x1) 52 ∧ ∀ z_7 : Nat → Int32, z_7 = upd (MV.z vM_5) (Int32.toNatClampNeg (28 + x1)) x2 → wp_X7_empties (MV.s_z vM_5 z_7)  (fun (r_9 : Int32) (vM_8 : MV) => Q r_9 vM_8))) ∧ (¬ t1 ≤ 0 → Q 0 (MV.s_thrown vM t1))
set_option maxHeartbeats 4000000 in
set_option maxRecDepth 100000 in
theorem k_X7_lay_45 {p : Program} {l : Launch} {e : Env} {s : State} {m : MethodId} {below : List Frame} {meth : Method} {c : Code} {args : Array Value} {D : va_G} {t : T3} {A : Nat → Prop} (X : Cx p s m meth c args cX7_lay 4 (some .int) RX7 wsX7_lay D t A) (aM : MA) {Q : Int32 → MV → Prop}  : ∀ (vM : MV) (x1 : Int32) (x2 : Int32) (t1 : Int32) (H : Heap) (locs : List Loc) (ls : Array Slot), wp_X7_lay_45 Q vM x1 x2 t1 → Wd D A s.heap (mW t aM vM) H locs → lv_has ls 4 [(0, .ref (MA.o aM)), (1, .int x1), (2, .int x2)] → W p l e ({ frames := 6, cells := 0, slots := 0, locals := 145 } : Room) s m args below meth c H locs 0 0 (Ei below args s A D (fun (u : MV) => (mW t aM u)) (fun (r : Int32) (u : MV) => Q r u) 0 0) (F0 m 45 ls [.int t1, .ref (MA.o aM)]) := by
  intro vM x1 x2 t1 H locs ls h hw hl
  have hx := X.1.1
  have hb := X.1.2.1
  refine r_put (ci := 7) (C := RX7) (T := TX7) (N := 16) (v := .int t1) (ws' := (mW t aM (MV.s_thrown vM t1))) X hw 0 rfl rfl 0 (by decide) in_X7_lay_X7 tyX7 tyX7_ok nmX7 fl_X7_lay_34 rfl rfl rfl (Nat.le_of_ble_eq_true rfl) rfl dX7_lay_45 (fun H locs hw => ?_)
  refine lv_aload_n hx hb dX7_lay_48 rfl (lv_at hl 0 rfl) ?_
  refine r_get (ci := 7) (C := RX7) (T := TX7) (N := 16) X hw 0 rfl rfl 0 (by decide) in_X7_lay_X7 fl_X7_lay_34 (v := .int t1) rfl dX7_lay_49 ?_
  refine lv_if_le (tgt := 57) hx hb dX7_lay_52 (by decide) (fun c_10 => ?_) (fun c_10 => ?_)
  · replace h := h.1 c_10
    refine lv_aload_n hx hb dX7_lay_57 rfl (lv_at hl 0 rfl) ?_
    refine r_cv X hw pm_0 (wn := fun (u : MV) => (mW t aM u)) (fun u => pm_0.symm) (r_runV X hw (c_X7_save l D t aM (MV.s_thrown vM t1) _ h) pm_0 (cwV 0 X.1.2.2.2.2 gX7_lay_X7_save rfl rfl rfl (by decide +kernel) ⟨Nat.le_of_ble_eq_true rfl, Nat.le_of_ble_eq_true rfl⟩) (ci := 7) rfl rfl rfl rfl hl rfl (Nat.le_of_ble_eq_true rfl) dX7_lay_58 ⟨Nat.le_of_ble_eq_true rfl, Nat.le_of_ble_eq_true rfl⟩) (fun u H locs h hw => ?_)
    obtain ⟨vM_5, rfl⟩ : ∃ z, z = u := ⟨_, rfl⟩
    refine lv_aload_n hx hb dX7_lay_61 rfl (lv_at hl 0 rfl) ?_
    refine r_get (ci := 7) (C := RX7) (T := TX7) (N := 16) X hw 0 rfl rfl 1 (by decide) in_X7_lay_X7 fl_X7_lay_7 (v := .ref (MA.z aM)) rfl dX7_lay_62 ?_
    refine lv_bipush (v := 28) hx hb dX7_lay_65 (by decide) ?_
    refine lv_iload_n hx hb dX7_lay_67 rfl (lv_at hl 1 rfl) ?_
    refine lv_iadd hx hb dX7_lay_68 ?_
    refine lv_iload_n hx hb dX7_lay_69 rfl (lv_at hl 2 rfl) ?_
    obtain ⟨hi_6, h⟩ := h
    obtain ⟨z_7, ez_7⟩ : ∃ z : Nat → Int32, z = upd (MV.z vM_5) (Int32.toNatClampNeg (28 + x1)) x2 := ⟨_, rfl⟩
    replace h := h z_7 ez_7
    refine r_iast (ws' := (mW t aM (MV.s_z vM_5 z_7))) X hw 1 rfl hi_6 (by subst ez_7; rfl) dX7_lay_70 (fun H locs hw => ?_)
    refine lv_aload_n hx hb dX7_lay_71 rfl (lv_at hl 0 rfl) ?_
    refine r_ci X hw pm_0 (wn := fun (u : MV) => (mW t aM u)) (fun u => pm_0.symm) (r_runV X hw (c_X7_empties l D t aM (MV.s_z vM_5 z_7) _ h) pm_0 (cwV 0 X.1.2.2.2.2 gX7_lay_X7_empties rfl rfl rfl (by decide +kernel) ⟨Nat.le_of_ble_eq_true rfl, Nat.le_of_ble_eq_true rfl⟩) (ci := 7) rfl rfl rfl rfl hl rfl (Nat.le_of_ble_eq_true rfl) dX7_lay_72 ⟨Nat.le_of_ble_eq_true rfl, Nat.le_of_ble_eq_true rfl⟩) (fun r_9 u H locs h hw => ?_)
    obtain ⟨vM_8, rfl⟩ : ∃ z, z = u := ⟨_, rfl⟩
    exact e_i (w1 := (fun (u : MV) => (mW t aM u))) X (vM_8) hw h dX7_lay_75
  replace h := h.2 c_10
  refine lv_iconst (v := 0) hx hb dX7_lay_55 (by decide) ?_
  exact e_i (w1 := (fun (u : MV) => (mW t aM u))) X ((MV.s_thrown vM t1)) hw h dX7_lay_56
def wp_X7_lay_21 (Q : Int32 → MV → Prop) (vM : MV) (x1 : Int32) (x2 : Int32) (t0 : Int32) : Prop := (¬ t0 = 0 → wp_X7_whyNot vM x1 x2 (fun (r_4 : Int32) (vM_3 : MV) => (¬ r_4 = 0 → wp_X7_lay_45  Q vM_3 x1 x2 2) ∧ (r_4 = 0 → wp_X7_lay_45  Q vM_3 x1 x2 0))) ∧ (t0 = 0 → wp_X7_lay_45  Q vM x1 x2 1)
set_option maxHeartbeats 4000000 in
set_option maxRecDepth 100000 in
theorem k_X7_lay_21 {p : Program} {l : Launch} {e : Env} {s : State} {m : MethodId} {below : List Frame} {meth : Method} {c : Code} {args : Array Value} {D : va_G} {t : T3} {A : Nat → Prop} (X : Cx p s m meth c args cX7_lay 4 (some .int) RX7 wsX7_lay D t A) (aM : MA) {Q : Int32 → MV → Prop}  : ∀ (vM : MV) (x1 : Int32) (x2 : Int32) (t0 : Int32) (H : Heap) (locs : List Loc) (ls : Array Slot), wp_X7_lay_21 Q vM x1 x2 t0 → Wd D A s.heap (mW t aM vM) H locs → lv_has ls 4 [(0, .ref (MA.o aM)), (1, .int x1), (2, .int x2)] → W p l e ({ frames := 6, cells := 0, slots := 0, locals := 145 } : Room) s m args below meth c H locs 0 0 (Ei below args s A D (fun (u : MV) => (mW t aM u)) (fun (r : Int32) (u : MV) => Q r u) 0 0) (F0 m 21 ls [.int t0]) := by
  intro vM x1 x2 t0 H locs ls h hw hl
  have hx := X.1.1
  have hb := X.1.2.1
  refine lv_istore_n (lv' := [(3, .int t0), (0, .ref (MA.o aM)), (1, .int x1), (2, .int x2)]) hx hb dX7_lay_21 rfl hl (by decide) rfl (fun ls hl => ?_)
  refine lv_aload_n hx hb dX7_lay_22 rfl (lv_at hl 1 rfl) ?_
  refine lv_iload_n hx hb dX7_lay_23 rfl (lv_at hl 0 rfl) ?_
  refine lv_if_ne (tgt := 31) hx hb dX7_lay_24 (by decide) (fun c_12 => ?_) (fun c_12 => ?_)
  · replace h := h.1 c_12
    refine lv_aload_n hx hb dX7_lay_31 rfl (lv_at hl 1 rfl) ?_
    refine lv_iload_n hx hb dX7_lay_32 rfl (lv_at hl 2 rfl) ?_
    refine lv_iload_n hx hb dX7_lay_33 rfl (lv_at hl 3 rfl) ?_
    refine r_ci X hw pm_0 (wn := fun (u : MV) => (mW t aM u)) (fun u => pm_0.symm) (r_runV X hw (c_X7_whyNot l D t aM vM x1 x2 _ h) pm_0 (cwV 2 X.1.2.2.2.2 gX7_lay_X7_whyNot rfl rfl rfl (by decide +kernel) ⟨Nat.le_of_ble_eq_true rfl, Nat.le_of_ble_eq_true rfl⟩) (ci := 7) rfl rfl rfl rfl hl rfl (Nat.le_of_ble_eq_true rfl) dX7_lay_34 ⟨Nat.le_of_ble_eq_true rfl, Nat.le_of_ble_eq_true rfl⟩) (fun r_4 u H locs h hw => ?_)
    obtain ⟨vM_3, rfl⟩ : ∃ z, z = u := ⟨_, rfl⟩
    refine lv_if_ne (tgt := 44) hx hb dX7_lay_37 (by decide) (fun c_11 => ?_) (fun c_11 => ?_)
    · replace h := h.1 c_11
      refine lv_iconst (v := 2) hx hb dX7_lay_44 (by decide) ?_
      exact k_X7_lay_45 X aM _ _ _ _ _ _ _ h hw (lv_sub hl [1, 2, 3] rfl)
    replace h := h.2 c_11
    refine lv_iconst (v := 0) hx hb dX7_lay_40 (by decide) ?_
    refine lv_goto (tgt := 45) hx hb dX7_lay_41 (by decide) ?_
    exact k_X7_lay_45 X aM _ _ _ _ _ _ _ h hw (lv_sub hl [1, 2, 3] rfl)
  replace h := h.2 c_12
  refine lv_iconst (v := 1) hx hb dX7_lay_27 (by decide) ?_
  refine lv_goto (tgt := 45) hx hb dX7_lay_28 (by decide) ?_
  exact k_X7_lay_45 X aM _ _ _ _ _ _ _ h hw (lv_sub hl [1, 2, 3] rfl)
def wp_X7_lay_20 (Q : Int32 → MV → Prop) (vM : MV) (x1 : Int32) (x2 : Int32) : Prop := wp_X7_lay_21  Q vM x1 x2 0
set_option maxHeartbeats 4000000 in
set_option maxRecDepth 100000 in
theorem k_X7_lay_20 {p : Program} {l : Launch} {e : Env} {s : State} {m : MethodId} {below : List Frame} {meth : Method} {c : Code} {args : Array Value} {D : va_G} {t : T3} {A : Nat → Prop} (X : Cx p s m meth c args cX7_lay 4 (some .int) RX7 wsX7_lay D t A) (aM : MA) {Q : Int32 → MV → Prop}  : ∀ (vM : MV) (x1 : Int32) (x2 : Int32) (H : Heap) (locs : List Loc) (ls : Array Slot), wp_X7_lay_20 Q vM x1 x2 → Wd D A s.heap (mW t aM vM) H locs → lv_has ls 4 [(0, .ref (MA.o aM)), (1, .int x1), (2, .int x2)] → W p l e ({ frames := 6, cells := 0, slots := 0, locals := 145 } : Room) s m args below meth c H locs 0 0 (Ei below args s A D (fun (u : MV) => (mW t aM u)) (fun (r : Int32) (u : MV) => Q r u) 0 0) (F0 m 20 ls []) := by
  intro vM x1 x2 H locs ls h hw hl
  have hx := X.1.1
  have hb := X.1.2.1
  refine lv_iconst (v := 0) hx hb dX7_lay_20 (by decide) ?_
  exact k_X7_lay_21 X aM _ _ _ _ _ _ _ h hw hl
def wp_X7_lay (vM : MV) (p1 : Int32) (p2 : Int32) (Q : Int32 → MV → Prop) : Prop := wp_X7_isCell vM p1 (fun (r_2 : Int32) (vM_1 : MV) => (r_2 = 0 → wp_X7_lay_20  Q vM_1 p1 p2) ∧ (¬ r_2 = 0 → wp_X7_isPlacing vM_1 p2 (fun (r_14 : Int32) (vM_13 : MV) => (r_14 = 0 → wp_X7_lay_20  Q vM_13 p1 p2) ∧ (¬ r_14 = 0 → wp_X7_lay_21  Q vM_13 p1 p2 1))))
set_option maxHeartbeats 4000000 in
set_option maxRecDepth 100000 in
theorem c_X7_lay (l : Launch) (D : va_G) (t : T3) (aM : MA) (vM : MV) (p1 : Int32) (p2 : Int32) (Q : Int32 → MV → Prop) (h : wp_X7_lay vM p1 p2 Q) : Ct l yX7_lay wsX7_lay 6 145 0 0 [.ref (MA.o aM), .int p1, .int p2] D t (mW t aM vM) (fun sz => Qi D (mW t aM vM) (fun (u : MV) => (mW t aM u)) (fun (r : Int32) (u : MV) => Q r u) sz) := by
  refine Ct.of (Qf := fun _ A => va_Qi (fun (r : Int32) (u : MV) => Q r u) (B1 D (fun (u : MV) => (mW t aM u)) A) A) cX7_lay 4 (some .int) (by decide) rfl (Nat.le_of_ble_eq_true rfl) ?_
  intro p e s m below meth c A ls hAe hin X hw hl
  generalize ([.ref (MA.o aM), .int p1, .int p2] : List Value).toArray = args at X ⊢
  have hl : lv_has ls 4 [(0, .ref (MA.o aM)), (1, .int p1), (2, .int p2)] := hl
  have hx := X.1.1
  have hb := X.1.2.1
  refine lv_aload_n hx hb dX7_lay_0 rfl (lv_at hl 0 rfl) ?_
  refine lv_iload_n hx hb dX7_lay_1 rfl (lv_at hl 1 rfl) ?_
  refine r_ci X hw pm_0 (wn := fun (u : MV) => (mW t aM u)) (fun u => pm_0.symm) (r_runV X hw (c_X7_isCell l D t aM vM p1 _ h) pm_0 (cwV 1 X.1.2.2.2.2 gX7_lay_X7_isCell rfl rfl rfl (by decide +kernel) ⟨Nat.le_of_ble_eq_true rfl, Nat.le_of_ble_eq_true rfl⟩) (ci := 7) rfl rfl rfl rfl hl rfl (Nat.le_of_ble_eq_true rfl) dX7_lay_2 ⟨Nat.le_of_ble_eq_true rfl, Nat.le_of_ble_eq_true rfl⟩) (fun r_2 u H locs h hw => ?_)
  obtain ⟨vM_1, rfl⟩ : ∃ z, z = u := ⟨_, rfl⟩
  refine lv_if_eq (tgt := 20) hx hb dX7_lay_5 (by decide) (fun c_16 => ?_) (fun c_16 => ?_)
  · replace h := h.1 c_16
    exact k_X7_lay_20 X aM _ _ _ _ _ _ h hw hl
  replace h := h.2 c_16
  refine lv_aload_n hx hb dX7_lay_8 rfl (lv_at hl 0 rfl) ?_
  refine lv_iload_n hx hb dX7_lay_9 rfl (lv_at hl 2 rfl) ?_
  refine r_ci X hw pm_0 (wn := fun (u : MV) => (mW t aM u)) (fun u => pm_0.symm) (r_runV X hw (c_X7_isPlacing l D t aM vM_1 p2 _ h) pm_0 (cwV 1 X.1.2.2.2.2 gX7_lay_X7_isPlacing rfl rfl rfl (by decide +kernel) ⟨Nat.le_of_ble_eq_true rfl, Nat.le_of_ble_eq_true rfl⟩) (ci := 7) rfl rfl rfl rfl hl rfl (Nat.le_of_ble_eq_true rfl) dX7_lay_10 ⟨Nat.le_of_ble_eq_true rfl, Nat.le_of_ble_eq_true rfl⟩) (fun r_14 u H locs h hw => ?_)
  obtain ⟨vM_13, rfl⟩ : ∃ z, z = u := ⟨_, rfl⟩
  refine lv_if_eq (tgt := 20) hx hb dX7_lay_13 (by decide) (fun c_15 => ?_) (fun c_15 => ?_)
  · replace h := h.1 c_15
    exact k_X7_lay_20 X aM _ _ _ _ _ _ h hw hl
  replace h := h.2 c_15
  refine lv_iconst (v := 1) hx hb dX7_lay_16 (by decide) ?_
  refine lv_goto (tgt := 21) hx hb dX7_lay_17 (by decide) ?_
  exact k_X7_lay_21 X aM _ _ _ _ _ _ _ h hw hl
/-! X7_take -/
theorem in_X7_take_X7 : ∀ w ∈ u_ws RX7 TX7 16, w ∈ wsX7_take := fun w h => (List.mem_cons_of_mem _ (List.mem_append_right _ h))
theorem fl_X7_take_7 : Cond.fieldLink RX7 7 "TwoFacedTilesModel" "z" "[I" ∈ wsX7_take := List.mem_of_getElem? (i := 1) rfl
theorem fl_X7_take_34 : Cond.fieldLink RX7 34 "TwoFacedTilesModel" "thrown" "I" ∈ wsX7_take := List.mem_of_getElem? (i := 2) rfl
def wp_X7_take_44 (Q : Int32 → MV → Prop) (vM : MV) (x1 : Int32) (t1 : Int32) : Prop := (t1 ≤ 0 → wp_X7_save (MV.s_thrown vM t1)  (fun (vM_4 : MV) => vp_in (28 + x1) 52 ∧ ∀ x2_6 : Int32, x2_6 = ((MV.z vM_4) (Int32.toNatClampNeg (28 + x1))) → vp_in (28 + x1) 52 ∧ ∀ z_8 : Nat → Int32, z_8 = upd (MV.z vM_4) (Int32.toNatClampNeg (28 + x1)) (-1) → Q x2_6 (MV.s_z vM_4 z_8))) ∧ (¬ t1 ≤ 0 → Q 0 (MV.s_thrown vM t1))
set_option maxHeartbeats 4000000 in
set_option maxRecDepth 100000 in
theorem k_X7_take_44 {p : Program} {l : Launch} {e : Env} {s : State} {m : MethodId} {below : List Frame} {meth : Method} {c : Code} {args : Array Value} {D : va_G} {t : T3} {A : Nat → Prop} (X : Cx p s m meth c args cX7_take 3 (some .int) RX7 wsX7_take D t A) (aM : MA) {Q : Int32 → MV → Prop}  : ∀ (vM : MV) (x1 : Int32) (t1 : Int32) (H : Heap) (locs : List Loc) (ls : Array Slot), wp_X7_take_44 Q vM x1 t1 → Wd D A s.heap (mW t aM vM) H locs → lv_has ls 3 [(0, .ref (MA.o aM)), (1, .int x1)] → W p l e ({ frames := 2, cells := 0, slots := 0, locals := 43 } : Room) s m args below meth c H locs 0 0 (Ei below args s A D (fun (u : MV) => (mW t aM u)) (fun (r : Int32) (u : MV) => Q r u) 0 0) (F0 m 44 ls [.int t1, .ref (MA.o aM)]) := by
  intro vM x1 t1 H locs ls h hw hl
  have hx := X.1.1
  have hb := X.1.2.1
  refine r_put (ci := 7) (C := RX7) (T := TX7) (N := 16) (v := .int t1) (ws' := (mW t aM (MV.s_thrown vM t1))) X hw 0 rfl rfl 0 (by decide) in_X7_take_X7 tyX7 tyX7_ok nmX7 fl_X7_take_34 rfl rfl rfl (Nat.le_of_ble_eq_true rfl) rfl dX7_take_44 (fun H locs hw => ?_)
  refine lv_aload_n hx hb dX7_take_47 rfl (lv_at hl 0 rfl) ?_
  refine r_get (ci := 7) (C := RX7) (T := TX7) (N := 16) X hw 0 rfl rfl 0 (by decide) in_X7_take_X7 fl_X7_take_34 (v := .int t1) rfl dX7_take_48 ?_
  refine lv_if_le (tgt := 56) hx hb dX7_take_51 (by decide) (fun c_9 => ?_) (fun c_9 => ?_)
  · replace h := h.1 c_9
    refine lv_aload_n hx hb dX7_take_56 rfl (lv_at hl 0 rfl) ?_
    refine r_cv X hw pm_0 (wn := fun (u : MV) => (mW t aM u)) (fun u => pm_0.symm) (r_runV X hw (c_X7_save l D t aM (MV.s_thrown vM t1) _ h) pm_0 (cwV 0 X.1.2.2.2.2 gX7_take_X7_save rfl rfl rfl (by decide +kernel) ⟨Nat.le_of_ble_eq_true rfl, Nat.le_of_ble_eq_true rfl⟩) (ci := 7) rfl rfl rfl rfl hl rfl (Nat.le_of_ble_eq_true rfl) dX7_take_57 ⟨Nat.le_of_ble_eq_true rfl, Nat.le_of_ble_eq_true rfl⟩) (fun u H locs h hw => ?_)
    obtain ⟨vM_4, rfl⟩ : ∃ z, z = u := ⟨_, rfl⟩
    refine lv_aload_n hx hb dX7_take_60 rfl (lv_at hl 0 rfl) ?_
    refine r_get (ci := 7) (C := RX7) (T := TX7) (N := 16) X hw 0 rfl rfl 1 (by decide) in_X7_take_X7 fl_X7_take_7 (v := .ref (MA.z aM)) rfl dX7_take_61 ?_
    refine lv_bipush (v := 28) hx hb dX7_take_64 (by decide) ?_
    refine lv_iload_n hx hb dX7_take_66 rfl (lv_at hl 1 rfl) ?_
    refine lv_iadd hx hb dX7_take_67 ?_
    obtain ⟨hi_5, h⟩ := h
    refine r_iald (v := ((MV.z vM_4) (Int32.toNatClampNeg (28 + x1)))) X hw 1 rfl hi_5 rfl dX7_take_68 ?_
    refine lv_topi (fun x2_6 ex2_6 => ?_)
    replace h := h x2_6 ex2_6
    refine lv_istore_n (lv' := [(2, .int x2_6), (0, .ref (MA.o aM)), (1, .int x1)]) hx hb dX7_take_69 rfl hl (by decide) rfl (fun ls hl => ?_)
    refine lv_aload_n hx hb dX7_take_70 rfl (lv_at hl 1 rfl) ?_
    refine r_get (ci := 7) (C := RX7) (T := TX7) (N := 16) X hw 0 rfl rfl 1 (by decide) in_X7_take_X7 fl_X7_take_7 (v := .ref (MA.z aM)) rfl dX7_take_71 ?_
    refine lv_bipush (v := 28) hx hb dX7_take_74 (by decide) ?_
    refine lv_iload_n hx hb dX7_take_76 rfl (lv_at hl 2 rfl) ?_
    refine lv_iadd hx hb dX7_take_77 ?_
    refine lv_iconst (v := (-1)) hx hb dX7_take_78 (by decide) ?_
    obtain ⟨hi_7, h⟩ := h
    obtain ⟨z_8, ez_8⟩ : ∃ z : Nat → Int32, z = upd (MV.z vM_4) (Int32.toNatClampNeg (28 + x1)) (-1) := ⟨_, rfl⟩
    replace h := h z_8 ez_8
    refine r_iast (ws' := (mW t aM (MV.s_z vM_4 z_8))) X hw 1 rfl hi_7 (by subst ez_8; rfl) dX7_take_79 (fun H locs hw => ?_)
    refine lv_iload_n hx hb dX7_take_80 rfl (lv_at hl 0 rfl) ?_
    exact e_i (w1 := (fun (u : MV) => (mW t aM u))) X ((MV.s_z vM_4 z_8)) hw h dX7_take_81
  replace h := h.2 c_9
  refine lv_iconst (v := 0) hx hb dX7_take_54 (by decide) ?_
  exact e_i (w1 := (fun (u : MV) => (mW t aM u))) X ((MV.s_thrown vM t1)) hw h dX7_take_55
def wp_X7_take_39 (Q : Int32 → MV → Prop) (vM : MV) (x1 : Int32) : Prop := wp_X7_take_44  Q vM x1 2
set_option maxHeartbeats 4000000 in
set_option maxRecDepth 100000 in
theorem k_X7_take_39 {p : Program} {l : Launch} {e : Env} {s : State} {m : MethodId} {below : List Frame} {meth : Method} {c : Code} {args : Array Value} {D : va_G} {t : T3} {A : Nat → Prop} (X : Cx p s m meth c args cX7_take 3 (some .int) RX7 wsX7_take D t A) (aM : MA) {Q : Int32 → MV → Prop}  : ∀ (vM : MV) (x1 : Int32) (H : Heap) (locs : List Loc) (ls : Array Slot), wp_X7_take_39 Q vM x1 → Wd D A s.heap (mW t aM vM) H locs → lv_has ls 3 [(0, .ref (MA.o aM)), (1, .int x1)] → W p l e ({ frames := 2, cells := 0, slots := 0, locals := 43 } : Room) s m args below meth c H locs 0 0 (Ei below args s A D (fun (u : MV) => (mW t aM u)) (fun (r : Int32) (u : MV) => Q r u) 0 0) (F0 m 39 ls [.ref (MA.o aM)]) := by
  intro vM x1 H locs ls h hw hl
  have hx := X.1.1
  have hb := X.1.2.1
  refine lv_iconst (v := 2) hx hb dX7_take_39 (by decide) ?_
  refine lv_goto (tgt := 44) hx hb dX7_take_40 (by decide) ?_
  exact k_X7_take_44 X aM _ _ _ _ _ _ h hw hl
def wp_X7_take (vM : MV) (p1 : Int32) (Q : Int32 → MV → Prop) : Prop := wp_X7_isCell vM p1 (fun (r_2 : Int32) (vM_1 : MV) => (¬ r_2 = 0 → vp_in (28 + p1) 52 ∧ (((MV.z vM_1) (Int32.toNatClampNeg (28 + p1))) = (-1) → wp_X7_take_39  Q vM_1 p1) ∧ (¬ ((MV.z vM_1) (Int32.toNatClampNeg (28 + p1))) = (-1) → vp_in (40 + p1) 52 ∧ (¬ ((MV.z vM_1) (Int32.toNatClampNeg (40 + p1))) = 1 → wp_X7_take_44  Q vM_1 p1 0) ∧ (((MV.z vM_1) (Int32.toNatClampNeg (40 + p1))) = 1 → wp_X7_take_39  Q vM_1 p1))) ∧ (r_2 = 0 → wp_X7_take_44  Q vM_1 p1 1))
set_option maxHeartbeats 4000000 in
set_option maxRecDepth 100000 in
theorem c_X7_take (l : Launch) (D : va_G) (t : T3) (aM : MA) (vM : MV) (p1 : Int32) (Q : Int32 → MV → Prop) (h : wp_X7_take vM p1 Q) : Ct l yX7_take wsX7_take 2 43 0 0 [.ref (MA.o aM), .int p1] D t (mW t aM vM) (fun sz => Qi D (mW t aM vM) (fun (u : MV) => (mW t aM u)) (fun (r : Int32) (u : MV) => Q r u) sz) := by
  refine Ct.of (Qf := fun _ A => va_Qi (fun (r : Int32) (u : MV) => Q r u) (B1 D (fun (u : MV) => (mW t aM u)) A) A) cX7_take 3 (some .int) (by decide) rfl (Nat.le_of_ble_eq_true rfl) ?_
  intro p e s m below meth c A ls hAe hin X hw hl
  generalize ([.ref (MA.o aM), .int p1] : List Value).toArray = args at X ⊢
  have hl : lv_has ls 3 [(0, .ref (MA.o aM)), (1, .int p1)] := hl
  have hx := X.1.1
  have hb := X.1.2.1
  refine lv_aload_n hx hb dX7_take_0 rfl (lv_at hl 0 rfl) ?_
  refine lv_aload_n hx hb dX7_take_1 rfl (lv_at hl 0 rfl) ?_
  refine lv_iload_n hx hb dX7_take_2 rfl (lv_at hl 1 rfl) ?_
  refine r_ci X hw pm_0 (wn := fun (u : MV) => (mW t aM u)) (fun u => pm_0.symm) (r_runV X hw (c_X7_isCell l D t aM vM p1 _ h) pm_0 (cwV 1 X.1.2.2.2.2 gX7_take_X7_isCell rfl rfl rfl (by decide +kernel) ⟨Nat.le_of_ble_eq_true rfl, Nat.le_of_ble_eq_true rfl⟩) (ci := 7) rfl rfl rfl rfl hl rfl (Nat.le_of_ble_eq_true rfl) dX7_take_3 ⟨Nat.le_of_ble_eq_true rfl, Nat.le_of_ble_eq_true rfl⟩) (fun r_2 u H locs h hw => ?_)
  obtain ⟨vM_1, rfl⟩ : ∃ z, z = u := ⟨_, rfl⟩
  refine lv_if_ne (tgt := 13) hx hb dX7_take_6 (by decide) (fun c_13 => ?_) (fun c_13 => ?_)
  · replace h := h.1 c_13
    refine lv_aload_n hx hb dX7_take_13 rfl (lv_at hl 0 rfl) ?_
    refine r_get (ci := 7) (C := RX7) (T := TX7) (N := 16) X hw 0 rfl rfl 1 (by decide) in_X7_take_X7 fl_X7_take_7 (v := .ref (MA.z aM)) rfl dX7_take_14 ?_
    refine lv_bipush (v := 28) hx hb dX7_take_17 (by decide) ?_
    refine lv_iload_n hx hb dX7_take_19 rfl (lv_at hl 1 rfl) ?_
    refine lv_iadd hx hb dX7_take_20 ?_
    obtain ⟨hi_3, h⟩ := h
    refine r_iald (v := ((MV.z vM_1) (Int32.toNatClampNeg (28 + p1)))) X hw 1 rfl hi_3 rfl dX7_take_21 ?_
    refine lv_iconst (v := (-1)) hx hb dX7_take_22 (by decide) ?_
    refine lv_icmp_eq (tgt := 39) hx hb dX7_take_23 (by decide) (fun c_12 => ?_) (fun c_12 => ?_)
    · replace h := h.1 c_12
      exact k_X7_take_39 X aM _ _ _ _ _ h hw hl
    replace h := h.2 c_12
    refine lv_aload_n hx hb dX7_take_26 rfl (lv_at hl 0 rfl) ?_
    refine r_get (ci := 7) (C := RX7) (T := TX7) (N := 16) X hw 0 rfl rfl 1 (by decide) in_X7_take_X7 fl_X7_take_7 (v := .ref (MA.z aM)) rfl dX7_take_27 ?_
    refine lv_bipush (v := 40) hx hb dX7_take_30 (by decide) ?_
    refine lv_iload_n hx hb dX7_take_32 rfl (lv_at hl 1 rfl) ?_
    refine lv_iadd hx hb dX7_take_33 ?_
    obtain ⟨hi_10, h⟩ := h
    refine r_iald (v := ((MV.z vM_1) (Int32.toNatClampNeg (40 + p1)))) X hw 1 rfl hi_10 rfl dX7_take_34 ?_
    refine lv_iconst (v := 1) hx hb dX7_take_35 (by decide) ?_
    refine lv_icmp_ne (tgt := 43) hx hb dX7_take_36 (by decide) (fun c_11 => ?_) (fun c_11 => ?_)
    · replace h := h.1 c_11
      refine lv_iconst (v := 0) hx hb dX7_take_43 (by decide) ?_
      exact k_X7_take_44 X aM _ _ _ _ _ _ h hw hl
    replace h := h.2 c_11
    exact k_X7_take_39 X aM _ _ _ _ _ h hw hl
  replace h := h.2 c_13
  refine lv_iconst (v := 1) hx hb dX7_take_9 (by decide) ?_
  refine lv_goto (tgt := 44) hx hb dX7_take_10 (by decide) ?_
  exact k_X7_take_44 X aM _ _ _ _ _ _ h hw hl
/-! X7_fix -/
theorem in_X7_fix_X7 : ∀ w ∈ u_ws RX7 TX7 16, w ∈ wsX7_fix := fun w h => (List.mem_cons_of_mem _ (List.mem_append_right _ h))
theorem fl_X7_fix_7 : Cond.fieldLink RX7 7 "TwoFacedTilesModel" "z" "[I" ∈ wsX7_fix := List.mem_of_getElem? (i := 1) rfl
theorem fl_X7_fix_34 : Cond.fieldLink RX7 34 "TwoFacedTilesModel" "thrown" "I" ∈ wsX7_fix := List.mem_of_getElem? (i := 2) rfl
def wp_X7_fix_31 (Q : Int32 → MV → Prop) (vM : MV) (x1 : Int32) (t1 : Int32) : Prop := (t1 ≤ 0 → wp_X7_save (MV.s_thrown vM t1)  (fun (vM_4 : MV) => vp_in (40 + x1) 52 ∧ ∀ f_6 : Int32, f_6 = (1 - ((MV.z vM_4) (Int32.toNatClampNeg (40 + x1)))) → vp_in (40 + x1) 52 ∧ ∀ z_8 : Nat → Int32, z_8 = upd (MV.z vM_4) (Int32.toNatClampNeg (40 + x1)) f_6 → vp_in (40 + x1) 52 ∧ Q (z_8 (Int32.toNatClampNeg (40 + x1))) (MV.s_z vM_4 z_8))) ∧ (¬ t1 ≤ 0 → Q 0 (MV.s_thrown vM t1))
set_option maxHeartbeats 4000000 in
set_option maxRecDepth 100000 in
theorem k_X7_fix_31 {p : Program} {l : Launch} {e : Env} {s : State} {m : MethodId} {below : List Frame} {meth : Method} {c : Code} {args : Array Value} {D : va_G} {t : T3} {A : Nat → Prop} (X : Cx p s m meth c args cX7_fix 2 (some .int) RX7 wsX7_fix D t A) (aM : MA) {Q : Int32 → MV → Prop}  : ∀ (vM : MV) (x1 : Int32) (t1 : Int32) (H : Heap) (locs : List Loc) (ls : Array Slot), wp_X7_fix_31 Q vM x1 t1 → Wd D A s.heap (mW t aM vM) H locs → lv_has ls 2 [(0, .ref (MA.o aM)), (1, .int x1)] → W p l e ({ frames := 2, cells := 0, slots := 0, locals := 43 } : Room) s m args below meth c H locs 0 0 (Ei below args s A D (fun (u : MV) => (mW t aM u)) (fun (r : Int32) (u : MV) => Q r u) 0 0) (F0 m 31 ls [.int t1, .ref (MA.o aM)]) := by
  intro vM x1 t1 H locs ls h hw hl
  have hx := X.1.1
  have hb := X.1.2.1
  refine r_put (ci := 7) (C := RX7) (T := TX7) (N := 16) (v := .int t1) (ws' := (mW t aM (MV.s_thrown vM t1))) X hw 0 rfl rfl 0 (by decide) in_X7_fix_X7 tyX7 tyX7_ok nmX7 fl_X7_fix_34 rfl rfl rfl (Nat.le_of_ble_eq_true rfl) rfl dX7_fix_31 (fun H locs hw => ?_)
  refine lv_aload_n hx hb dX7_fix_34 rfl (lv_at hl 0 rfl) ?_
  refine r_get (ci := 7) (C := RX7) (T := TX7) (N := 16) X hw 0 rfl rfl 0 (by decide) in_X7_fix_X7 fl_X7_fix_34 (v := .int t1) rfl dX7_fix_35 ?_
  refine lv_if_le (tgt := 43) hx hb dX7_fix_38 (by decide) (fun c_10 => ?_) (fun c_10 => ?_)
  · replace h := h.1 c_10
    refine lv_aload_n hx hb dX7_fix_43 rfl (lv_at hl 0 rfl) ?_
    refine r_cv X hw pm_0 (wn := fun (u : MV) => (mW t aM u)) (fun u => pm_0.symm) (r_runV X hw (c_X7_save l D t aM (MV.s_thrown vM t1) _ h) pm_0 (cwV 0 X.1.2.2.2.2 gX7_fix_X7_save rfl rfl rfl (by decide +kernel) ⟨Nat.le_of_ble_eq_true rfl, Nat.le_of_ble_eq_true rfl⟩) (ci := 7) rfl rfl rfl rfl hl rfl (Nat.le_of_ble_eq_true rfl) dX7_fix_44 ⟨Nat.le_of_ble_eq_true rfl, Nat.le_of_ble_eq_true rfl⟩) (fun u H locs h hw => ?_)
    obtain ⟨vM_4, rfl⟩ : ∃ z, z = u := ⟨_, rfl⟩
    refine lv_aload_n hx hb dX7_fix_47 rfl (lv_at hl 0 rfl) ?_
    refine r_get (ci := 7) (C := RX7) (T := TX7) (N := 16) X hw 0 rfl rfl 1 (by decide) in_X7_fix_X7 fl_X7_fix_7 (v := .ref (MA.z aM)) rfl dX7_fix_48 ?_
    refine lv_bipush (v := 40) hx hb dX7_fix_51 (by decide) ?_
    refine lv_iload_n hx hb dX7_fix_53 rfl (lv_at hl 1 rfl) ?_
    refine lv_iadd hx hb dX7_fix_54 ?_
    refine lv_iconst (v := 1) hx hb dX7_fix_55 (by decide) ?_
    refine lv_aload_n hx hb dX7_fix_56 rfl (lv_at hl 0 rfl) ?_
    refine r_get (ci := 7) (C := RX7) (T := TX7) (N := 16) X hw 0 rfl rfl 1 (by decide) in_X7_fix_X7 fl_X7_fix_7 (v := .ref (MA.z aM)) rfl dX7_fix_57 ?_
    refine lv_bipush (v := 40) hx hb dX7_fix_60 (by decide) ?_
    refine lv_iload_n hx hb dX7_fix_62 rfl (lv_at hl 1 rfl) ?_
    refine lv_iadd hx hb dX7_fix_63 ?_
    obtain ⟨hi_5, h⟩ := h
    refine r_iald (v := ((MV.z vM_4) (Int32.toNatClampNeg (40 + x1)))) X hw 1 rfl hi_5 rfl dX7_fix_64 ?_
    refine lv_isub hx hb dX7_fix_65 ?_
    refine lv_topi (fun f_6 ef_6 => ?_)
    replace h := h f_6 ef_6
    obtain ⟨hi_7, h⟩ := h
    obtain ⟨z_8, ez_8⟩ : ∃ z : Nat → Int32, z = upd (MV.z vM_4) (Int32.toNatClampNeg (40 + x1)) f_6 := ⟨_, rfl⟩
    replace h := h z_8 ez_8
    refine r_iast (ws' := (mW t aM (MV.s_z vM_4 z_8))) X hw 1 rfl hi_7 (by subst ez_8; rfl) dX7_fix_66 (fun H locs hw => ?_)
    refine lv_aload_n hx hb dX7_fix_67 rfl (lv_at hl 0 rfl) ?_
    refine r_get (ci := 7) (C := RX7) (T := TX7) (N := 16) X hw 0 rfl rfl 1 (by decide) in_X7_fix_X7 fl_X7_fix_7 (v := .ref (MA.z aM)) rfl dX7_fix_68 ?_
    refine lv_bipush (v := 40) hx hb dX7_fix_71 (by decide) ?_
    refine lv_iload_n hx hb dX7_fix_73 rfl (lv_at hl 1 rfl) ?_
    refine lv_iadd hx hb dX7_fix_74 ?_
    obtain ⟨hi_9, h⟩ := h
    refine r_iald (v := (z_8 (Int32.toNatClampNeg (40 + x1)))) X hw 1 rfl hi_9 rfl dX7_fix_75 ?_
    exact e_i (w1 := (fun (u : MV) => (mW t aM u))) X ((MV.s_z vM_4 z_8)) hw h dX7_fix_76
  replace h := h.2 c_10
  refine lv_iconst (v := 0) hx hb dX7_fix_41 (by decide) ?_
  exact e_i (w1 := (fun (u : MV) => (mW t aM u))) X ((MV.s_thrown vM t1)) hw h dX7_fix_42
def wp_X7_fix (vM : MV) (p1 : Int32) (Q : Int32 → MV → Prop) : Prop := wp_X7_isCell vM p1 (fun (r_2 : Int32) (vM_1 : MV) => (¬ r_2 = 0 → vp_in (28 + p1) 52 ∧ (¬ ((MV.z vM_1) (Int32.toNatClampNeg (28 + p1))) = (-1) → wp_X7_fix_31  Q vM_1 p1 0) ∧ (((MV.z vM_1) (Int32.toNatClampNeg (28 + p1))) = (-1) → wp_X7_fix_31  Q vM_1 p1 2)) ∧ (r_2 = 0 → wp_X7_fix_31  Q vM_1 p1 1))
set_option maxHeartbeats 4000000 in
set_option maxRecDepth 100000 in
theorem c_X7_fix (l : Launch) (D : va_G) (t : T3) (aM : MA) (vM : MV) (p1 : Int32) (Q : Int32 → MV → Prop) (h : wp_X7_fix vM p1 Q) : Ct l yX7_fix wsX7_fix 2 43 0 0 [.ref (MA.o aM), .int p1] D t (mW t aM vM) (fun sz => Qi D (mW t aM vM) (fun (u : MV) => (mW t aM u)) (fun (r : Int32) (u : MV) => Q r u) sz) := by
  refine Ct.of (Qf := fun _ A => va_Qi (fun (r : Int32) (u : MV) => Q r u) (B1 D (fun (u : MV) => (mW t aM u)) A) A) cX7_fix 2 (some .int) (by decide) rfl (Nat.le_of_ble_eq_true rfl) ?_
  intro p e s m below meth c A ls hAe hin X hw hl
  generalize ([.ref (MA.o aM), .int p1] : List Value).toArray = args at X ⊢
  have hl : lv_has ls 2 [(0, .ref (MA.o aM)), (1, .int p1)] := hl
  have hx := X.1.1
  have hb := X.1.2.1
  refine lv_aload_n hx hb dX7_fix_0 rfl (lv_at hl 0 rfl) ?_
  refine lv_aload_n hx hb dX7_fix_1 rfl (lv_at hl 0 rfl) ?_
  refine lv_iload_n hx hb dX7_fix_2 rfl (lv_at hl 1 rfl) ?_
  refine r_ci X hw pm_0 (wn := fun (u : MV) => (mW t aM u)) (fun u => pm_0.symm) (r_runV X hw (c_X7_isCell l D t aM vM p1 _ h) pm_0 (cwV 1 X.1.2.2.2.2 gX7_fix_X7_isCell rfl rfl rfl (by decide +kernel) ⟨Nat.le_of_ble_eq_true rfl, Nat.le_of_ble_eq_true rfl⟩) (ci := 7) rfl rfl rfl rfl hl rfl (Nat.le_of_ble_eq_true rfl) dX7_fix_3 ⟨Nat.le_of_ble_eq_true rfl, Nat.le_of_ble_eq_true rfl⟩) (fun r_2 u H locs h hw => ?_)
  obtain ⟨vM_1, rfl⟩ : ∃ z, z = u := ⟨_, rfl⟩
  refine lv_if_ne (tgt := 13) hx hb dX7_fix_6 (by decide) (fun c_12 => ?_) (fun c_12 => ?_)
  · replace h := h.1 c_12
    refine lv_aload_n hx hb dX7_fix_13 rfl (lv_at hl 0 rfl) ?_
    refine r_get (ci := 7) (C := RX7) (T := TX7) (N := 16) X hw 0 rfl rfl 1 (by decide) in_X7_fix_X7 fl_X7_fix_7 (v := .ref (MA.z aM)) rfl dX7_fix_14 ?_
    refine lv_bipush (v := 28) hx hb dX7_fix_17 (by decide) ?_
    refine lv_iload_n hx hb dX7_fix_19 rfl (lv_at hl 1 rfl) ?_
    refine lv_iadd hx hb dX7_fix_20 ?_
    obtain ⟨hi_3, h⟩ := h
    refine r_iald (v := ((MV.z vM_1) (Int32.toNatClampNeg (28 + p1)))) X hw 1 rfl hi_3 rfl dX7_fix_21 ?_
    refine lv_iconst (v := (-1)) hx hb dX7_fix_22 (by decide) ?_
    refine lv_icmp_ne (tgt := 30) hx hb dX7_fix_23 (by decide) (fun c_11 => ?_) (fun c_11 => ?_)
    · replace h := h.1 c_11
      refine lv_iconst (v := 0) hx hb dX7_fix_30 (by decide) ?_
      exact k_X7_fix_31 X aM _ _ _ _ _ _ h hw hl
    replace h := h.2 c_11
    refine lv_iconst (v := 2) hx hb dX7_fix_26 (by decide) ?_
    refine lv_goto (tgt := 31) hx hb dX7_fix_27 (by decide) ?_
    exact k_X7_fix_31 X aM _ _ _ _ _ _ h hw hl
  replace h := h.2 c_12
  refine lv_iconst (v := 1) hx hb dX7_fix_9 (by decide) ?_
  refine lv_goto (tgt := 31) hx hb dX7_fix_10 (by decide) ?_
  exact k_X7_fix_31 X aM _ _ _ _ _ _ h hw hl
/-! X7_clear -/
theorem in_X7_clear_X7 : ∀ w ∈ u_ws RX7 TX7 16, w ∈ wsX7_clear := fun w h => (List.mem_cons_of_mem _ (List.mem_append_right _ h))
theorem fl_X7_clear_34 : Cond.fieldLink RX7 34 "TwoFacedTilesModel" "thrown" "I" ∈ wsX7_clear := List.mem_of_getElem? (i := 1) rfl
theorem fl_X7_clear_7 : Cond.fieldLink RX7 7 "TwoFacedTilesModel" "z" "[I" ∈ wsX7_clear := List.mem_of_getElem? (i := 2) rfl
def wp_X7_clear_59 (P : MV → Int32 → Int32 → Prop) (Q : Int32 → MV → Prop) (vM : MV) (x1 : Int32) (x2 : Int32) : Prop := ∀ x2_5 : Int32, x2_5 = x2 + 1 → P vM x1 x2_5
set_option maxHeartbeats 4000000 in
set_option maxRecDepth 100000 in
theorem k_X7_clear_59 {p : Program} {l : Launch} {e : Env} {s : State} {m : MethodId} {below : List Frame} {meth : Method} {c : Code} {args : Array Value} {D : va_G} {t : T3} {A : Nat → Prop} (X : Cx p s m meth c args cX7_clear 3 (some .int) RX7 wsX7_clear D t A) (aM : MA) {P : MV → Int32 → Int32 → Prop} {Q : Int32 → MV → Prop} (hP : ∀ (vM : MV) (x1 : Int32) (x2 : Int32) (H : Heap) (locs : List Loc) (ls : Array Slot), P vM x1 x2 → Wd D A s.heap (mW t aM vM) H locs → lv_has ls 3 [(0, .ref (MA.o aM)), (1, .int x1), (2, .int x2)] → W p l e ({ frames := 1, cells := 0, slots := 0, locals := 21 } : Room) s m args below meth c H locs 0 0 (Ei below args s A D (fun (u : MV) => (mW t aM u)) (fun (r : Int32) (u : MV) => Q r u) 0 0) (F0 m 13 ls [])) : ∀ (vM : MV) (x1 : Int32) (x2 : Int32) (H : Heap) (locs : List Loc) (ls : Array Slot), wp_X7_clear_59 P Q vM x1 x2 → Wd D A s.heap (mW t aM vM) H locs → lv_has ls 3 [(0, .ref (MA.o aM)), (1, .int x1), (2, .int x2)] → W p l e ({ frames := 1, cells := 0, slots := 0, locals := 21 } : Room) s m args below meth c H locs 0 0 (Ei below args s A D (fun (u : MV) => (mW t aM u)) (fun (r : Int32) (u : MV) => Q r u) 0 0) (F0 m 59 ls []) := by
  intro vM x1 x2 H locs ls h hw hl
  have hx := X.1.1
  have hb := X.1.2.1
  obtain ⟨x2_5, ex2_5⟩ : ∃ z : Int32, z = x2 + 1 := ⟨_, rfl⟩
  replace h := h x2_5 ex2_5
  refine lv_iinc (v := x2_5) (lv' := [(2, .int x2_5), (0, .ref (MA.o aM)), (1, .int x1)]) hx hb dX7_clear_59 hl (k := 2) rfl (by rw [ex2_5]; rfl) (by decide) rfl (fun ls hl => ?_)
  refine lv_goto (tgt := 13) hx hb dX7_clear_62 (by decide) ?_
  exact hP _ _ _ _ _ _ h hw (lv_sub hl [1, 2, 0] rfl)
def bd_X7_clear_13 (Q : Int32 → MV → Prop) (P : MV → Int32 → Int32 → Prop) (vM : MV) (x1 : Int32) (x2 : Int32) : Prop := wp_X7_cells vM  (fun (r_3 : Int32) (vM_2 : MV) => (r_3 ≤ x2 → Q x1 vM_2) ∧ (¬ r_3 ≤ x2 → vp_in (28 + x2) 52 ∧ (((MV.z vM_2) (Int32.toNatClampNeg (28 + x2))) = (-1) → wp_X7_clear_59  P Q vM_2 x1 x2) ∧ (¬ ((MV.z vM_2) (Int32.toNatClampNeg (28 + x2))) = (-1) → vp_in (40 + x2) 52 ∧ (¬ ((MV.z vM_2) (Int32.toNatClampNeg (40 + x2))) = 0 → wp_X7_clear_59  P Q vM_2 x1 x2) ∧ (((MV.z vM_2) (Int32.toNatClampNeg (40 + x2))) = 0 → vp_in (28 + x2) 52 ∧ ∀ z_8 : Nat → Int32, z_8 = upd (MV.z vM_2) (Int32.toNatClampNeg (28 + x2)) (-1) → ∀ x1_9 : Int32, x1_9 = x1 + 1 → wp_X7_clear_59  P Q (MV.s_z vM_2 z_8) x1_9 x2))))
def wp_X7_clear_13 (Q : Int32 → MV → Prop)  (vM : MV) (x1 : Int32) (x2 : Int32) : Prop := ∀ P : MV → Int32 → Int32 → Prop, (∀ (vM : MV) (x1 : Int32) (x2 : Int32), bd_X7_clear_13 Q P  vM x1 x2 → P vM x1 x2) → P vM x1 x2
set_option maxHeartbeats 4000000 in
set_option maxRecDepth 100000 in
theorem kb_X7_clear_13 {p : Program} {l : Launch} {e : Env} {s : State} {m : MethodId} {below : List Frame} {meth : Method} {c : Code} {args : Array Value} {D : va_G} {t : T3} {A : Nat → Prop} (X : Cx p s m meth c args cX7_clear 3 (some .int) RX7 wsX7_clear D t A) (aM : MA) {Q : Int32 → MV → Prop} {P : MV → Int32 → Int32 → Prop} (hP : ∀ (vM : MV) (x1 : Int32) (x2 : Int32) (H : Heap) (locs : List Loc) (ls : Array Slot), P vM x1 x2 → Wd D A s.heap (mW t aM vM) H locs → lv_has ls 3 [(0, .ref (MA.o aM)), (1, .int x1), (2, .int x2)] → W p l e ({ frames := 1, cells := 0, slots := 0, locals := 21 } : Room) s m args below meth c H locs 0 0 (Ei below args s A D (fun (u : MV) => (mW t aM u)) (fun (r : Int32) (u : MV) => Q r u) 0 0) (F0 m 13 ls [])) : ∀ (vM : MV) (x1 : Int32) (x2 : Int32) (H : Heap) (locs : List Loc) (ls : Array Slot), bd_X7_clear_13 Q P  vM x1 x2 → Wd D A s.heap (mW t aM vM) H locs → lv_has ls 3 [(0, .ref (MA.o aM)), (1, .int x1), (2, .int x2)] → W p l e ({ frames := 1, cells := 0, slots := 0, locals := 21 } : Room) s m args below meth c H locs 0 0 (Ei below args s A D (fun (u : MV) => (mW t aM u)) (fun (r : Int32) (u : MV) => Q r u) 0 0) (F0 m 13 ls []) := by
  intro vM x1 x2 H locs ls h hw hl
  have hx := X.1.1
  have hb := X.1.2.1
  refine lv_iload_n hx hb dX7_clear_13 rfl (lv_at hl 2 rfl) ?_
  refine lv_aload_n hx hb dX7_clear_14 rfl (lv_at hl 0 rfl) ?_
  refine r_ci X hw pm_0 (wn := fun (u : MV) => (mW t aM u)) (fun u => pm_0.symm) (r_runV X hw (c_X7_cells l D t aM vM _ h) pm_0 (cwV 0 X.1.2.2.2.2 gX7_clear_X7_cells rfl rfl rfl (by decide +kernel) ⟨Nat.le_of_ble_eq_true rfl, Nat.le_of_ble_eq_true rfl⟩) (ci := 7) rfl rfl rfl rfl hl rfl (Nat.le_of_ble_eq_true rfl) dX7_clear_15 ⟨Nat.le_of_ble_eq_true rfl, Nat.le_of_ble_eq_true rfl⟩) (fun r_3 u H locs h hw => ?_)
  obtain ⟨vM_2, rfl⟩ : ∃ z, z = u := ⟨_, rfl⟩
  refine lv_icmp_ge (tgt := 65) hx hb dX7_clear_18 (by decide) (fun c_12 => ?_) (fun c_12 => ?_)
  · replace h := h.1 c_12
    refine lv_iload_n hx hb dX7_clear_65 rfl (lv_at hl 1 rfl) ?_
    exact e_i (w1 := (fun (u : MV) => (mW t aM u))) X (vM_2) hw h dX7_clear_66
  replace h := h.2 c_12
  refine lv_aload_n hx hb dX7_clear_21 rfl (lv_at hl 0 rfl) ?_
  refine r_get (ci := 7) (C := RX7) (T := TX7) (N := 16) X hw 0 rfl rfl 1 (by decide) in_X7_clear_X7 fl_X7_clear_7 (v := .ref (MA.z aM)) rfl dX7_clear_22 ?_
  refine lv_bipush (v := 28) hx hb dX7_clear_25 (by decide) ?_
  refine lv_iload_n hx hb dX7_clear_27 rfl (lv_at hl 2 rfl) ?_
  refine lv_iadd hx hb dX7_clear_28 ?_
  obtain ⟨hi_4, h⟩ := h
  refine r_iald (v := ((MV.z vM_2) (Int32.toNatClampNeg (28 + x2)))) X hw 1 rfl hi_4 rfl dX7_clear_29 ?_
  refine lv_iconst (v := (-1)) hx hb dX7_clear_30 (by decide) ?_
  refine lv_icmp_eq (tgt := 59) hx hb dX7_clear_31 (by decide) (fun c_11 => ?_) (fun c_11 => ?_)
  · replace h := h.1 c_11
    exact k_X7_clear_59 X aM hP _ _ _ _ _ _ h hw hl
  replace h := h.2 c_11
  refine lv_aload_n hx hb dX7_clear_34 rfl (lv_at hl 0 rfl) ?_
  refine r_get (ci := 7) (C := RX7) (T := TX7) (N := 16) X hw 0 rfl rfl 1 (by decide) in_X7_clear_X7 fl_X7_clear_7 (v := .ref (MA.z aM)) rfl dX7_clear_35 ?_
  refine lv_bipush (v := 40) hx hb dX7_clear_38 (by decide) ?_
  refine lv_iload_n hx hb dX7_clear_40 rfl (lv_at hl 2 rfl) ?_
  refine lv_iadd hx hb dX7_clear_41 ?_
  obtain ⟨hi_6, h⟩ := h
  refine r_iald (v := ((MV.z vM_2) (Int32.toNatClampNeg (40 + x2)))) X hw 1 rfl hi_6 rfl dX7_clear_42 ?_
  refine lv_if_ne (tgt := 59) hx hb dX7_clear_43 (by decide) (fun c_10 => ?_) (fun c_10 => ?_)
  · replace h := h.1 c_10
    exact k_X7_clear_59 X aM hP _ _ _ _ _ _ h hw hl
  replace h := h.2 c_10
  refine lv_aload_n hx hb dX7_clear_46 rfl (lv_at hl 0 rfl) ?_
  refine r_get (ci := 7) (C := RX7) (T := TX7) (N := 16) X hw 0 rfl rfl 1 (by decide) in_X7_clear_X7 fl_X7_clear_7 (v := .ref (MA.z aM)) rfl dX7_clear_47 ?_
  refine lv_bipush (v := 28) hx hb dX7_clear_50 (by decide) ?_
  refine lv_iload_n hx hb dX7_clear_52 rfl (lv_at hl 2 rfl) ?_
  refine lv_iadd hx hb dX7_clear_53 ?_
  refine lv_iconst (v := (-1)) hx hb dX7_clear_54 (by decide) ?_
  obtain ⟨hi_7, h⟩ := h
  obtain ⟨z_8, ez_8⟩ : ∃ z : Nat → Int32, z = upd (MV.z vM_2) (Int32.toNatClampNeg (28 + x2)) (-1) := ⟨_, rfl⟩
  replace h := h z_8 ez_8
  refine r_iast (ws' := (mW t aM (MV.s_z vM_2 z_8))) X hw 1 rfl hi_7 (by subst ez_8; rfl) dX7_clear_55 (fun H locs hw => ?_)
  obtain ⟨x1_9, ex1_9⟩ : ∃ z : Int32, z = x1 + 1 := ⟨_, rfl⟩
  replace h := h x1_9 ex1_9
  refine lv_iinc (v := x1_9) (lv' := [(1, .int x1_9), (0, .ref (MA.o aM)), (2, .int x2)]) hx hb dX7_clear_56 hl (k := 1) rfl (by rw [ex1_9]; rfl) (by decide) rfl (fun ls hl => ?_)
  exact k_X7_clear_59 X aM hP _ _ _ _ _ _ h hw (lv_sub hl [1, 0, 2] rfl)
set_option maxHeartbeats 4000000 in
set_option maxRecDepth 100000 in
theorem k_X7_clear_13 {p : Program} {l : Launch} {e : Env} {s : State} {m : MethodId} {below : List Frame} {meth : Method} {c : Code} {args : Array Value} {D : va_G} {t : T3} {A : Nat → Prop} (X : Cx p s m meth c args cX7_clear 3 (some .int) RX7 wsX7_clear D t A) (aM : MA) {Q : Int32 → MV → Prop}   : ∀ (vM : MV) (x1 : Int32) (x2 : Int32) (H : Heap) (locs : List Loc) (ls : Array Slot), wp_X7_clear_13 Q  vM x1 x2 → Wd D A s.heap (mW t aM vM) H locs → lv_has ls 3 [(0, .ref (MA.o aM)), (1, .int x1), (2, .int x2)] → W p l e ({ frames := 1, cells := 0, slots := 0, locals := 21 } : Room) s m args below meth c H locs 0 0 (Ei below args s A D (fun (u : MV) => (mW t aM u)) (fun (r : Int32) (u : MV) => Q r u) 0 0) (F0 m 13 ls []) := by
  intro vM x1 x2 H locs ls h hw hl
  have hx := X.1.1
  have hb := X.1.2.1
  refine h (fun (vM : MV) (x1 : Int32) (x2 : Int32) => ∀ (H : Heap) (locs : List Loc) (ls : Array Slot), Wd D A s.heap (mW t aM vM) H locs → lv_has ls 3 [(0, .ref (MA.o aM)), (1, .int x1), (2, .int x2)] → W p l e ({ frames := 1, cells := 0, slots := 0, locals := 21 } : Room) s m args below meth c H locs 0 0 (Ei below args s A D (fun (u : MV) => (mW t aM u)) (fun (r : Int32) (u : MV) => Q r u) 0 0) (F0 m 13 ls [])) (fun vM x1 x2 h H locs ls hw hl => ?_) H locs ls hw hl
  exact kb_X7_clear_13 X aM (fun vM x1 x2 H locs ls q hw hl => q H locs ls hw hl)  vM x1 x2 _ _ _ h hw hl
def wp_X7_clear (vM : MV) (Q : Int32 → MV → Prop) : Prop := wp_X7_save (MV.s_thrown vM 0)  (fun (vM_1 : MV) => wp_X7_clear_13 Q  vM_1 0 0)
set_option maxHeartbeats 4000000 in
set_option maxRecDepth 100000 in
theorem c_X7_clear (l : Launch) (D : va_G) (t : T3) (aM : MA) (vM : MV) (Q : Int32 → MV → Prop) (h : wp_X7_clear vM Q) : Ct l yX7_clear wsX7_clear 1 21 0 0 [.ref (MA.o aM)] D t (mW t aM vM) (fun sz => Qi D (mW t aM vM) (fun (u : MV) => (mW t aM u)) (fun (r : Int32) (u : MV) => Q r u) sz) := by
  refine Ct.of (Qf := fun _ A => va_Qi (fun (r : Int32) (u : MV) => Q r u) (B1 D (fun (u : MV) => (mW t aM u)) A) A) cX7_clear 3 (some .int) (by decide) rfl (Nat.le_of_ble_eq_true rfl) ?_
  intro p e s m below meth c A ls hAe hin X hw hl
  generalize ([.ref (MA.o aM)] : List Value).toArray = args at X ⊢
  have hl : lv_has ls 3 [(0, .ref (MA.o aM))] := hl
  have hx := X.1.1
  have hb := X.1.2.1
  refine lv_aload_n hx hb dX7_clear_0 rfl (lv_at hl 0 rfl) ?_
  refine lv_iconst (v := 0) hx hb dX7_clear_1 (by decide) ?_
  refine r_put (ci := 7) (C := RX7) (T := TX7) (N := 16) (v := .int 0) (ws' := (mW t aM (MV.s_thrown vM 0))) X hw 0 rfl rfl 0 (by decide) in_X7_clear_X7 tyX7 tyX7_ok nmX7 fl_X7_clear_34 rfl rfl rfl (Nat.le_of_ble_eq_true rfl) rfl dX7_clear_2 (fun H locs hw => ?_)
  refine lv_aload_n hx hb dX7_clear_5 rfl (lv_at hl 0 rfl) ?_
  refine r_cv X hw pm_0 (wn := fun (u : MV) => (mW t aM u)) (fun u => pm_0.symm) (r_runV X hw (c_X7_save l D t aM (MV.s_thrown vM 0) _ h) pm_0 (cwV 0 X.1.2.2.2.2 gX7_clear_X7_save rfl rfl rfl (by decide +kernel) ⟨Nat.le_of_ble_eq_true rfl, Nat.le_of_ble_eq_true rfl⟩) (ci := 7) rfl rfl rfl rfl hl rfl (Nat.le_of_ble_eq_true rfl) dX7_clear_6 ⟨Nat.le_of_ble_eq_true rfl, Nat.le_of_ble_eq_true rfl⟩) (fun u H locs h hw => ?_)
  obtain ⟨vM_1, rfl⟩ : ∃ z, z = u := ⟨_, rfl⟩
  refine lv_iconst (v := 0) hx hb dX7_clear_9 (by decide) ?_
  refine lv_istore_n (lv' := [(1, .int 0), (0, .ref (MA.o aM))]) hx hb dX7_clear_10 rfl hl (by decide) rfl (fun ls hl => ?_)
  refine lv_iconst (v := 0) hx hb dX7_clear_11 (by decide) ?_
  refine lv_istore_n (lv' := [(2, .int 0), (1, .int 0), (0, .ref (MA.o aM))]) hx hb dX7_clear_12 rfl hl (by decide) rfl (fun ls hl => ?_)
  refine k_X7_clear_13 X aM  _ _ _ _ _ _ h hw (lv_sub hl [2, 1, 0] rfl)
/-! X7_turned -/
def wp_X7_turned (p0 : Int32) (Q : Int32 → Prop) : Prop := (¬ p0 = (-1) → Q ((((p0 / 8) * 8) + (4 * (1 - (jrem (p0 / 4) 2)))) + (jrem (4 - (jrem p0 4)) 4)) ) ∧ (p0 = (-1) → Q (-1) )
set_option maxHeartbeats 4000000 in
set_option maxRecDepth 100000 in
theorem c_X7_turned (l : Launch) (D : va_G) (t : T3)  (p0 : Int32) (Q : Int32 → Prop) (h : wp_X7_turned p0 Q) : Ct l yX7_turned wsX7_turned 0 0 0 0 [.int p0] D t ([] : va_W) (fun sz => Qi D ([] : va_W) (fun (u : Unit) => ([] : va_W)) (fun (r : Int32) (u : Unit) => Q r ) sz) := by
  refine Ct.of (Qf := fun _ A => va_Qi (fun (r : Int32) (u : Unit) => Q r ) (B1 D (fun (u : Unit) => ([] : va_W)) A) A) cX7_turned 1 (some .int) (by decide) rfl (Nat.le_of_ble_eq_true rfl) ?_
  intro p e s m below meth c A ls hAe hin X hw hl
  generalize ([.int p0] : List Value).toArray = args at X ⊢
  have hl : lv_has ls 1 [(0, .int p0)] := hl
  have hx := X.1.1
  have hb := X.1.2.1
  refine lv_iload_n hx hb dX7_turned_0 rfl (lv_at hl 0 rfl) ?_
  refine lv_iconst (v := (-1)) hx hb dX7_turned_1 (by decide) ?_
  refine lv_icmp_ne (tgt := 9) hx hb dX7_turned_2 (by decide) (fun c_1 => ?_) (fun c_1 => ?_)
  · replace h := h.1 c_1
    refine lv_iload_n hx hb dX7_turned_9 rfl (lv_at hl 0 rfl) ?_
    refine lv_bipush (v := 8) hx hb dX7_turned_10 (by decide) ?_
    refine lv_idiv hx hb dX7_turned_12 (by decide) ?_
    refine lv_bipush (v := 8) hx hb dX7_turned_13 (by decide) ?_
    refine lv_imul hx hb dX7_turned_15 ?_
    refine lv_iconst (v := 4) hx hb dX7_turned_16 (by decide) ?_
    refine lv_iconst (v := 1) hx hb dX7_turned_17 (by decide) ?_
    refine lv_iload_n hx hb dX7_turned_18 rfl (lv_at hl 0 rfl) ?_
    refine lv_iconst (v := 4) hx hb dX7_turned_19 (by decide) ?_
    refine lv_idiv hx hb dX7_turned_20 (by decide) ?_
    refine lv_iconst (v := 2) hx hb dX7_turned_21 (by decide) ?_
    refine r_irem hx hb dX7_turned_22 (by decide) ?_
    refine lv_isub hx hb dX7_turned_23 ?_
    refine lv_imul hx hb dX7_turned_24 ?_
    refine lv_iadd hx hb dX7_turned_25 ?_
    refine lv_iconst (v := 4) hx hb dX7_turned_26 (by decide) ?_
    refine lv_iload_n hx hb dX7_turned_27 rfl (lv_at hl 0 rfl) ?_
    refine lv_iconst (v := 4) hx hb dX7_turned_28 (by decide) ?_
    refine r_irem hx hb dX7_turned_29 (by decide) ?_
    refine lv_isub hx hb dX7_turned_30 ?_
    refine lv_iconst (v := 4) hx hb dX7_turned_31 (by decide) ?_
    refine r_irem hx hb dX7_turned_32 (by decide) ?_
    refine lv_iadd hx hb dX7_turned_33 ?_
    exact e_i (w1 := (fun (u : Unit) => ([] : va_W))) X () hw h dX7_turned_34
  replace h := h.2 c_1
  refine lv_iconst (v := (-1)) hx hb dX7_turned_5 (by decide) ?_
  refine lv_goto (tgt := 34) hx hb dX7_turned_6 (by decide) ?_
  exact e_i (w1 := (fun (u : Unit) => ([] : va_W))) X () hw h dX7_turned_34
/-! X7_turnOver -/
theorem in_X7_turnOver_X7 : ∀ w ∈ u_ws RX7 TX7 16, w ∈ wsX7_turnOver := fun w h => (List.mem_cons_of_mem _ (List.mem_append_right _ h))
theorem fl_X7_turnOver_34 : Cond.fieldLink RX7 34 "TwoFacedTilesModel" "thrown" "I" ∈ wsX7_turnOver := List.mem_of_getElem? (i := 1) rfl
theorem fl_X7_turnOver_98 : Cond.fieldLink RX7 98 "TwoFacedTilesModel" "saves" "I" ∈ wsX7_turnOver := List.mem_of_getElem? (i := 2) rfl
theorem fl_X7_turnOver_7 : Cond.fieldLink RX7 7 "TwoFacedTilesModel" "z" "[I" ∈ wsX7_turnOver := List.mem_of_getElem? (i := 3) rfl
theorem fl_X7_turnOver_13 : Cond.fieldLink RX7 13 "TwoFacedTilesModel" "saved" "[I" ∈ wsX7_turnOver := List.mem_of_getElem? (i := 4) rfl
def bd_X7_turnOver_21 (Q : Int32 → MV → Prop) (P : MV → Int32 → Int32 → Prop) (K107 : MV → Prop) (vM : MV) (x1 : Int32) (x2 : Int32) : Prop := wp_X7_cells vM  (fun (r_4 : Int32) (vM_3 : MV) => (r_4 ≤ x2 → K107 vM_3) ∧ (¬ r_4 ≤ x2 → ¬ ((MV.z vM_3) 1) = 0 ∧ ¬ ((MV.z vM_3) 1) = 0 ∧ ∀ x3_7 : Int32, x3_7 = ((((x2 - (jrem x2 ((MV.z vM_3) 1))) + ((MV.z vM_3) 1)) - 1) - (jrem x2 ((MV.z vM_3) 1))) → vp_in ((x1 + 28) + x3_7) 416 ∧ wp_X7_turned  ((MV.saved vM_3) (Int32.toNatClampNeg ((x1 + 28) + x3_7))) (fun (r_9 : Int32) => vp_in (28 + x2) 52 ∧ ∀ z_11 : Nat → Int32, z_11 = upd (MV.z vM_3) (Int32.toNatClampNeg (28 + x2)) r_9 → vp_in ((x1 + 40) + x3_7) 416 ∧ ∀ f_13 : Int32, f_13 = ((MV.saved vM_3) (Int32.toNatClampNeg ((x1 + 40) + x3_7))) → vp_in (40 + x2) 52 ∧ ∀ z_15 : Nat → Int32, z_15 = upd z_11 (Int32.toNatClampNeg (40 + x2)) f_13 → ∀ x2_16 : Int32, x2_16 = x2 + 1 → P (MV.s_z vM_3 z_15) x1 x2_16)))
def wp_X7_turnOver_21 (Q : Int32 → MV → Prop) (K107 : MV → Prop) (vM : MV) (x1 : Int32) (x2 : Int32) : Prop := ∀ P : MV → Int32 → Int32 → Prop, (∀ (vM : MV) (x1 : Int32) (x2 : Int32), bd_X7_turnOver_21 Q P K107 vM x1 x2 → P vM x1 x2) → P vM x1 x2
set_option maxHeartbeats 4000000 in
set_option maxRecDepth 100000 in
theorem kb_X7_turnOver_21 {p : Program} {l : Launch} {e : Env} {s : State} {m : MethodId} {below : List Frame} {meth : Method} {c : Code} {args : Array Value} {D : va_G} {t : T3} {A : Nat → Prop} (X : Cx p s m meth c args cX7_turnOver 4 (some .int) RX7 wsX7_turnOver D t A) (aM : MA) {Q : Int32 → MV → Prop} {P : MV → Int32 → Int32 → Prop} {K107 : MV → Prop} (hP : ∀ (vM : MV) (x1 : Int32) (x2 : Int32) (H : Heap) (locs : List Loc) (ls : Array Slot), P vM x1 x2 → Wd D A s.heap (mW t aM vM) H locs → lv_has ls 4 [(0, .ref (MA.o aM)), (1, .int x1), (2, .int x2)] → W p l e ({ frames := 2, cells := 0, slots := 0, locals := 42 } : Room) s m args below meth c H locs 0 0 (Ei below args s A D (fun (u : MV) => (mW t aM u)) (fun (r : Int32) (u : MV) => Q r u) 0 0) (F0 m 21 ls [])) (hK107 : ∀ (vM : MV) (H : Heap) (locs : List Loc) (ls : Array Slot), K107 vM → Wd D A s.heap (mW t aM vM) H locs → lv_has ls 4 [(0, .ref (MA.o aM))] → W p l e ({ frames := 2, cells := 0, slots := 0, locals := 42 } : Room) s m args below meth c H locs 0 0 (Ei below args s A D (fun (u : MV) => (mW t aM u)) (fun (r : Int32) (u : MV) => Q r u) 0 0) (F0 m 107 ls [])) : ∀ (vM : MV) (x1 : Int32) (x2 : Int32) (H : Heap) (locs : List Loc) (ls : Array Slot), bd_X7_turnOver_21 Q P K107 vM x1 x2 → Wd D A s.heap (mW t aM vM) H locs → lv_has ls 4 [(0, .ref (MA.o aM)), (1, .int x1), (2, .int x2)] → W p l e ({ frames := 2, cells := 0, slots := 0, locals := 42 } : Room) s m args below meth c H locs 0 0 (Ei below args s A D (fun (u : MV) => (mW t aM u)) (fun (r : Int32) (u : MV) => Q r u) 0 0) (F0 m 21 ls []) := by
  intro vM x1 x2 H locs ls h hw hl
  have hx := X.1.1
  have hb := X.1.2.1
  refine lv_iload_n hx hb dX7_turnOver_21 rfl (lv_at hl 2 rfl) ?_
  refine lv_aload_n hx hb dX7_turnOver_22 rfl (lv_at hl 0 rfl) ?_
  refine r_ci X hw pm_0 (wn := fun (u : MV) => (mW t aM u)) (fun u => pm_0.symm) (r_runV X hw (c_X7_cells l D t aM vM _ h) pm_0 (cwV 0 X.1.2.2.2.2 gX7_turnOver_X7_cells rfl rfl rfl (by decide +kernel) ⟨Nat.le_of_ble_eq_true rfl, Nat.le_of_ble_eq_true rfl⟩) (ci := 7) rfl rfl rfl rfl hl rfl (Nat.le_of_ble_eq_true rfl) dX7_turnOver_23 ⟨Nat.le_of_ble_eq_true rfl, Nat.le_of_ble_eq_true rfl⟩) (fun r_4 u H locs h hw => ?_)
  obtain ⟨vM_3, rfl⟩ : ∃ z, z = u := ⟨_, rfl⟩
  refine lv_icmp_ge (tgt := 107) hx hb dX7_turnOver_26 (by decide) (fun c_17 => ?_) (fun c_17 => ?_)
  · replace h := h.1 c_17
    exact hK107 _ _ _ _ h hw (lv_sub hl [0] rfl)
  replace h := h.2 c_17
  refine lv_iload_n hx hb dX7_turnOver_29 rfl (lv_at hl 2 rfl) ?_
  refine lv_iload_n hx hb dX7_turnOver_30 rfl (lv_at hl 2 rfl) ?_
  refine lv_aload_n hx hb dX7_turnOver_31 rfl (lv_at hl 0 rfl) ?_
  refine r_get (ci := 7) (C := RX7) (T := TX7) (N := 16) X hw 0 rfl rfl 1 (by decide) in_X7_turnOver_X7 fl_X7_turnOver_7 (v := .ref (MA.z aM)) rfl dX7_turnOver_32 ?_
  refine lv_iconst (v := 1) hx hb dX7_turnOver_35 (by decide) ?_
  refine r_iald (v := ((MV.z vM_3) 1)) X hw 1 rfl (vpl rfl) rfl dX7_turnOver_36 ?_
  obtain ⟨hn_5, h⟩ := h
  refine r_irem hx hb dX7_turnOver_37 hn_5 ?_
  refine lv_isub hx hb dX7_turnOver_38 ?_
  refine lv_aload_n hx hb dX7_turnOver_39 rfl (lv_at hl 0 rfl) ?_
  refine r_get (ci := 7) (C := RX7) (T := TX7) (N := 16) X hw 0 rfl rfl 1 (by decide) in_X7_turnOver_X7 fl_X7_turnOver_7 (v := .ref (MA.z aM)) rfl dX7_turnOver_40 ?_
  refine lv_iconst (v := 1) hx hb dX7_turnOver_43 (by decide) ?_
  refine r_iald (v := ((MV.z vM_3) 1)) X hw 1 rfl (vpl rfl) rfl dX7_turnOver_44 ?_
  refine lv_iadd hx hb dX7_turnOver_45 ?_
  refine lv_iconst (v := 1) hx hb dX7_turnOver_46 (by decide) ?_
  refine lv_isub hx hb dX7_turnOver_47 ?_
  refine lv_iload_n hx hb dX7_turnOver_48 rfl (lv_at hl 2 rfl) ?_
  refine lv_aload_n hx hb dX7_turnOver_49 rfl (lv_at hl 0 rfl) ?_
  refine r_get (ci := 7) (C := RX7) (T := TX7) (N := 16) X hw 0 rfl rfl 1 (by decide) in_X7_turnOver_X7 fl_X7_turnOver_7 (v := .ref (MA.z aM)) rfl dX7_turnOver_50 ?_
  refine lv_iconst (v := 1) hx hb dX7_turnOver_53 (by decide) ?_
  refine r_iald (v := ((MV.z vM_3) 1)) X hw 1 rfl (vpl rfl) rfl dX7_turnOver_54 ?_
  obtain ⟨hn_6, h⟩ := h
  refine r_irem hx hb dX7_turnOver_55 hn_6 ?_
  refine lv_isub hx hb dX7_turnOver_56 ?_
  refine lv_topi (fun x3_7 ex3_7 => ?_)
  replace h := h x3_7 ex3_7
  refine lv_istore_n (lv' := [(3, .int x3_7), (0, .ref (MA.o aM)), (1, .int x1), (2, .int x2)]) hx hb dX7_turnOver_57 rfl hl (by decide) rfl (fun ls hl => ?_)
  refine lv_aload_n hx hb dX7_turnOver_58 rfl (lv_at hl 1 rfl) ?_
  refine r_get (ci := 7) (C := RX7) (T := TX7) (N := 16) X hw 0 rfl rfl 1 (by decide) in_X7_turnOver_X7 fl_X7_turnOver_7 (v := .ref (MA.z aM)) rfl dX7_turnOver_59 ?_
  refine lv_bipush (v := 28) hx hb dX7_turnOver_62 (by decide) ?_
  refine lv_iload_n hx hb dX7_turnOver_64 rfl (lv_at hl 3 rfl) ?_
  refine lv_iadd hx hb dX7_turnOver_65 ?_
  refine lv_aload_n hx hb dX7_turnOver_66 rfl (lv_at hl 1 rfl) ?_
  refine r_get (ci := 7) (C := RX7) (T := TX7) (N := 16) X hw 0 rfl rfl 3 (by decide) in_X7_turnOver_X7 fl_X7_turnOver_13 (v := .ref (MA.saved aM)) rfl dX7_turnOver_67 ?_
  refine lv_iload_n hx hb dX7_turnOver_70 rfl (lv_at hl 2 rfl) ?_
  refine lv_bipush (v := 28) hx hb dX7_turnOver_71 (by decide) ?_
  refine lv_iadd hx hb dX7_turnOver_73 ?_
  refine lv_iload_n hx hb dX7_turnOver_74 rfl (lv_at hl 0 rfl) ?_
  refine lv_iadd hx hb dX7_turnOver_75 ?_
  obtain ⟨hi_8, h⟩ := h
  refine r_iald (v := ((MV.saved vM_3) (Int32.toNatClampNeg ((x1 + 28) + x3_7)))) X hw 2 rfl hi_8 rfl dX7_turnOver_76 ?_
  refine r_ci X hw pm_n (wn := fun (u : Unit) => (mW t aM vM_3)) (fun u => (pm_n).symm) (r_runS X hw (c_X7_turned l D t ((MV.saved vM_3) (Int32.toNatClampNeg ((x1 + 28) + x3_7))) _ h) pm_n (va_cwS 1 X.1.2.2.2.2 gX7_turnOver_X7_turned rfl rfl rfl (by decide +kernel) ⟨Nat.le_of_ble_eq_true rfl, Nat.le_of_ble_eq_true rfl⟩) rfl hl rfl (Nat.le_of_ble_eq_true rfl) dX7_turnOver_77 ⟨Nat.le_of_ble_eq_true rfl, Nat.le_of_ble_eq_true rfl⟩) (fun r_9 u H locs h hw => ?_)
  obtain ⟨hi_10, h⟩ := h
  obtain ⟨z_11, ez_11⟩ : ∃ z : Nat → Int32, z = upd (MV.z vM_3) (Int32.toNatClampNeg (28 + x2)) r_9 := ⟨_, rfl⟩
  replace h := h z_11 ez_11
  refine r_iast (ws' := (mW t aM (MV.s_z vM_3 z_11))) X hw 1 rfl hi_10 (by subst ez_11; rfl) dX7_turnOver_80 (fun H locs hw => ?_)
  refine lv_aload_n hx hb dX7_turnOver_81 rfl (lv_at hl 1 rfl) ?_
  refine r_get (ci := 7) (C := RX7) (T := TX7) (N := 16) X hw 0 rfl rfl 1 (by decide) in_X7_turnOver_X7 fl_X7_turnOver_7 (v := .ref (MA.z aM)) rfl dX7_turnOver_82 ?_
  refine lv_bipush (v := 40) hx hb dX7_turnOver_85 (by decide) ?_
  refine lv_iload_n hx hb dX7_turnOver_87 rfl (lv_at hl 3 rfl) ?_
  refine lv_iadd hx hb dX7_turnOver_88 ?_
  refine lv_aload_n hx hb dX7_turnOver_89 rfl (lv_at hl 1 rfl) ?_
  refine r_get (ci := 7) (C := RX7) (T := TX7) (N := 16) X hw 0 rfl rfl 3 (by decide) in_X7_turnOver_X7 fl_X7_turnOver_13 (v := .ref (MA.saved aM)) rfl dX7_turnOver_90 ?_
  refine lv_iload_n hx hb dX7_turnOver_93 rfl (lv_at hl 2 rfl) ?_
  refine lv_bipush (v := 40) hx hb dX7_turnOver_94 (by decide) ?_
  refine lv_iadd hx hb dX7_turnOver_96 ?_
  refine lv_iload_n hx hb dX7_turnOver_97 rfl (lv_at hl 0 rfl) ?_
  refine lv_iadd hx hb dX7_turnOver_98 ?_
  obtain ⟨hi_12, h⟩ := h
  refine r_iald (v := ((MV.saved vM_3) (Int32.toNatClampNeg ((x1 + 40) + x3_7)))) X hw 2 rfl hi_12 rfl dX7_turnOver_99 ?_
  refine lv_topi (fun f_13 ef_13 => ?_)
  replace h := h f_13 ef_13
  obtain ⟨hi_14, h⟩ := h
  obtain ⟨z_15, ez_15⟩ : ∃ z : Nat → Int32, z = upd z_11 (Int32.toNatClampNeg (40 + x2)) f_13 := ⟨_, rfl⟩
  replace h := h z_15 ez_15
  refine r_iast (ws' := (mW t aM (MV.s_z vM_3 z_15))) X hw 1 rfl hi_14 (by subst ez_15; rfl) dX7_turnOver_100 (fun H locs hw => ?_)
  obtain ⟨x2_16, ex2_16⟩ : ∃ z : Int32, z = x2 + 1 := ⟨_, rfl⟩
  replace h := h x2_16 ex2_16
  refine lv_iinc (v := x2_16) (lv' := [(2, .int x2_16), (3, .int x3_7), (0, .ref (MA.o aM)), (1, .int x1)]) hx hb dX7_turnOver_101 hl (k := 3) rfl (by rw [ex2_16]; rfl) (by decide) rfl (fun ls hl => ?_)
  refine lv_goto (tgt := 21) hx hb dX7_turnOver_104 (by decide) ?_
  exact hP _ _ _ _ _ _ h hw (lv_sub hl [2, 3, 0] rfl)
set_option maxHeartbeats 4000000 in
set_option maxRecDepth 100000 in
theorem k_X7_turnOver_21 {p : Program} {l : Launch} {e : Env} {s : State} {m : MethodId} {below : List Frame} {meth : Method} {c : Code} {args : Array Value} {D : va_G} {t : T3} {A : Nat → Prop} (X : Cx p s m meth c args cX7_turnOver 4 (some .int) RX7 wsX7_turnOver D t A) (aM : MA) {Q : Int32 → MV → Prop} {K107 : MV → Prop} (hK107 : ∀ (vM : MV) (H : Heap) (locs : List Loc) (ls : Array Slot), K107 vM → Wd D A s.heap (mW t aM vM) H locs → lv_has ls 4 [(0, .ref (MA.o aM))] → W p l e ({ frames := 2, cells := 0, slots := 0, locals := 42 } : Room) s m args below meth c H locs 0 0 (Ei below args s A D (fun (u : MV) => (mW t aM u)) (fun (r : Int32) (u : MV) => Q r u) 0 0) (F0 m 107 ls [])) : ∀ (vM : MV) (x1 : Int32) (x2 : Int32) (H : Heap) (locs : List Loc) (ls : Array Slot), wp_X7_turnOver_21 Q K107 vM x1 x2 → Wd D A s.heap (mW t aM vM) H locs → lv_has ls 4 [(0, .ref (MA.o aM)), (1, .int x1), (2, .int x2)] → W p l e ({ frames := 2, cells := 0, slots := 0, locals := 42 } : Room) s m args below meth c H locs 0 0 (Ei below args s A D (fun (u : MV) => (mW t aM u)) (fun (r : Int32) (u : MV) => Q r u) 0 0) (F0 m 21 ls []) := by
  intro vM x1 x2 H locs ls h hw hl
  have hx := X.1.1
  have hb := X.1.2.1
  refine h (fun (vM : MV) (x1 : Int32) (x2 : Int32) => ∀ (H : Heap) (locs : List Loc) (ls : Array Slot), Wd D A s.heap (mW t aM vM) H locs → lv_has ls 4 [(0, .ref (MA.o aM)), (1, .int x1), (2, .int x2)] → W p l e ({ frames := 2, cells := 0, slots := 0, locals := 42 } : Room) s m args below meth c H locs 0 0 (Ei below args s A D (fun (u : MV) => (mW t aM u)) (fun (r : Int32) (u : MV) => Q r u) 0 0) (F0 m 21 ls [])) (fun vM x1 x2 h H locs ls hw hl => ?_) H locs ls hw hl
  exact kb_X7_turnOver_21 X aM (fun vM x1 x2 H locs ls q hw hl => q H locs ls hw hl) hK107 vM x1 x2 _ _ _ h hw hl
def wp_X7_turnOver (vM : MV) (Q : Int32 → MV → Prop) : Prop := wp_X7_save (MV.s_thrown vM 0)  (fun (vM_1 : MV) => ∀ x1_2 : Int32, x1_2 = (52 * ((MV.saves vM_1) - 1)) → wp_X7_turnOver_21 Q (fun (vM_18 : MV) => wp_X7_cells vM_18  (fun (r_20 : Int32) (vM_19 : MV) => wp_X7_empties vM_19  (fun (r_22 : Int32) (vM_21 : MV) => Q (r_20 - r_22) vM_21))) vM_1 x1_2 0)
set_option maxHeartbeats 4000000 in
set_option maxRecDepth 100000 in
theorem c_X7_turnOver (l : Launch) (D : va_G) (t : T3) (aM : MA) (vM : MV) (Q : Int32 → MV → Prop) (h : wp_X7_turnOver vM Q) : Ct l yX7_turnOver wsX7_turnOver 2 42 0 0 [.ref (MA.o aM)] D t (mW t aM vM) (fun sz => Qi D (mW t aM vM) (fun (u : MV) => (mW t aM u)) (fun (r : Int32) (u : MV) => Q r u) sz) := by
  refine Ct.of (Qf := fun _ A => va_Qi (fun (r : Int32) (u : MV) => Q r u) (B1 D (fun (u : MV) => (mW t aM u)) A) A) cX7_turnOver 4 (some .int) (by decide) rfl (Nat.le_of_ble_eq_true rfl) ?_
  intro p e s m below meth c A ls hAe hin X hw hl
  generalize ([.ref (MA.o aM)] : List Value).toArray = args at X ⊢
  have hl : lv_has ls 4 [(0, .ref (MA.o aM))] := hl
  have hx := X.1.1
  have hb := X.1.2.1
  refine lv_aload_n hx hb dX7_turnOver_0 rfl (lv_at hl 0 rfl) ?_
  refine lv_iconst (v := 0) hx hb dX7_turnOver_1 (by decide) ?_
  refine r_put (ci := 7) (C := RX7) (T := TX7) (N := 16) (v := .int 0) (ws' := (mW t aM (MV.s_thrown vM 0))) X hw 0 rfl rfl 0 (by decide) in_X7_turnOver_X7 tyX7 tyX7_ok nmX7 fl_X7_turnOver_34 rfl rfl rfl (Nat.le_of_ble_eq_true rfl) rfl dX7_turnOver_2 (fun H locs hw => ?_)
  refine lv_aload_n hx hb dX7_turnOver_5 rfl (lv_at hl 0 rfl) ?_
  refine r_cv X hw pm_0 (wn := fun (u : MV) => (mW t aM u)) (fun u => pm_0.symm) (r_runV X hw (c_X7_save l D t aM (MV.s_thrown vM 0) _ h) pm_0 (cwV 0 X.1.2.2.2.2 gX7_turnOver_X7_save rfl rfl rfl (by decide +kernel) ⟨Nat.le_of_ble_eq_true rfl, Nat.le_of_ble_eq_true rfl⟩) (ci := 7) rfl rfl rfl rfl hl rfl (Nat.le_of_ble_eq_true rfl) dX7_turnOver_6 ⟨Nat.le_of_ble_eq_true rfl, Nat.le_of_ble_eq_true rfl⟩) (fun u H locs h hw => ?_)
  obtain ⟨vM_1, rfl⟩ : ∃ z, z = u := ⟨_, rfl⟩
  refine lv_bipush (v := 52) hx hb dX7_turnOver_9 (by decide) ?_
  refine lv_aload_n hx hb dX7_turnOver_11 rfl (lv_at hl 0 rfl) ?_
  refine r_get (ci := 7) (C := RX7) (T := TX7) (N := 16) X hw 0 rfl rfl 2 (by decide) in_X7_turnOver_X7 fl_X7_turnOver_98 (v := .int (MV.saves vM_1)) rfl dX7_turnOver_12 ?_
  refine lv_iconst (v := 1) hx hb dX7_turnOver_15 (by decide) ?_
  refine lv_isub hx hb dX7_turnOver_16 ?_
  refine lv_imul hx hb dX7_turnOver_17 ?_
  refine lv_topi (fun x1_2 ex1_2 => ?_)
  replace h := h x1_2 ex1_2
  refine lv_istore_n (lv' := [(1, .int x1_2), (0, .ref (MA.o aM))]) hx hb dX7_turnOver_18 rfl hl (by decide) rfl (fun ls hl => ?_)
  refine lv_iconst (v := 0) hx hb dX7_turnOver_19 (by decide) ?_
  refine lv_istore_n (lv' := [(2, .int 0), (1, .int x1_2), (0, .ref (MA.o aM))]) hx hb dX7_turnOver_20 rfl hl (by decide) rfl (fun ls hl => ?_)
  refine k_X7_turnOver_21 X aM (fun vM_18 H locs ls h hw hl => ?_) _ _ _ _ _ _ h hw (lv_sub hl [2, 1, 0] rfl)
  refine lv_aload_n hx hb dX7_turnOver_107 rfl (lv_at hl 0 rfl) ?_
  refine r_ci X hw pm_0 (wn := fun (u : MV) => (mW t aM u)) (fun u => pm_0.symm) (r_runV X hw (c_X7_cells l D t aM vM_18 _ h) pm_0 (cwV 0 X.1.2.2.2.2 gX7_turnOver_X7_cells rfl rfl rfl (by decide +kernel) ⟨Nat.le_of_ble_eq_true rfl, Nat.le_of_ble_eq_true rfl⟩) (ci := 7) rfl rfl rfl rfl hl rfl (Nat.le_of_ble_eq_true rfl) dX7_turnOver_108 ⟨Nat.le_of_ble_eq_true rfl, Nat.le_of_ble_eq_true rfl⟩) (fun r_20 u H locs h hw => ?_)
  obtain ⟨vM_19, rfl⟩ : ∃ z, z = u := ⟨_, rfl⟩
  refine lv_aload_n hx hb dX7_turnOver_111 rfl (lv_at hl 0 rfl) ?_
  refine r_ci X hw pm_0 (wn := fun (u : MV) => (mW t aM u)) (fun u => pm_0.symm) (r_runV X hw (c_X7_empties l D t aM vM_19 _ h) pm_0 (cwV 0 X.1.2.2.2.2 gX7_turnOver_X7_empties rfl rfl rfl (by decide +kernel) ⟨Nat.le_of_ble_eq_true rfl, Nat.le_of_ble_eq_true rfl⟩) (ci := 7) rfl rfl rfl rfl hl rfl (Nat.le_of_ble_eq_true rfl) dX7_turnOver_112 ⟨Nat.le_of_ble_eq_true rfl, Nat.le_of_ble_eq_true rfl⟩) (fun r_22 u H locs h hw => ?_)
  obtain ⟨vM_21, rfl⟩ : ∃ z, z = u := ⟨_, rfl⟩
  refine lv_isub hx hb dX7_turnOver_115 ?_
  exact e_i (w1 := (fun (u : MV) => (mW t aM u))) X (vM_21) hw h dX7_turnOver_116
/-! X7_solve -/
theorem in_X7_solve_X7 : ∀ w ∈ u_ws RX7 TX7 16, w ∈ wsX7_solve := fun w h => (List.mem_cons_of_mem _ (List.mem_append_right _ h))
theorem fl_X7_solve_85 : Cond.fieldLink RX7 85 "TwoFacedTilesModel" "found" "I" ∈ wsX7_solve := List.mem_of_getElem? (i := 1) rfl
theorem fl_X7_solve_34 : Cond.fieldLink RX7 34 "TwoFacedTilesModel" "thrown" "I" ∈ wsX7_solve := List.mem_of_getElem? (i := 2) rfl
def wp_X7_solve_25 (Q : Int32 → MV → Prop) (vM : MV) (x1 : Int32) (t1 : Int32) : Prop := (t1 ≤ 0 → wp_X7_save (MV.s_thrown vM t1)  (fun (vM_4 : MV) => wp_X7_search vM_4 1 1 (fun (vM_5 : MV) => Q x1 vM_5))) ∧ (¬ t1 ≤ 0 → Q 0 (MV.s_thrown vM t1))
set_option maxHeartbeats 4000000 in
set_option maxRecDepth 100000 in
theorem k_X7_solve_25 {p : Program} {l : Launch} {e : Env} {s : State} {m : MethodId} {below : List Frame} {meth : Method} {c : Code} {args : Array Value} {D : va_G} {t : T3} {A : Nat → Prop} (X : Cx p s m meth c args cX7_solve 2 (some .int) RX7 wsX7_solve D t A) (aM : MA) {Q : Int32 → MV → Prop}  : ∀ (vM : MV) (x1 : Int32) (t1 : Int32) (H : Heap) (locs : List Loc) (ls : Array Slot), wp_X7_solve_25 Q vM x1 t1 → Wd D A s.heap (mW t aM vM) H locs → lv_has ls 2 [(0, .ref (MA.o aM)), (1, .int x1)] → W p l e ({ frames := 8, cells := 0, slots := 0, locals := 195 } : Room) s m args below meth c H locs 0 0 (Ei below args s A D (fun (u : MV) => (mW t aM u)) (fun (r : Int32) (u : MV) => Q r u) 0 0) (F0 m 25 ls [.int t1, .ref (MA.o aM)]) := by
  intro vM x1 t1 H locs ls h hw hl
  have hx := X.1.1
  have hb := X.1.2.1
  refine r_put (ci := 7) (C := RX7) (T := TX7) (N := 16) (v := .int t1) (ws' := (mW t aM (MV.s_thrown vM t1))) X hw 0 rfl rfl 0 (by decide) in_X7_solve_X7 tyX7 tyX7_ok nmX7 fl_X7_solve_34 rfl rfl rfl (Nat.le_of_ble_eq_true rfl) rfl dX7_solve_25 (fun H locs hw => ?_)
  refine lv_aload_n hx hb dX7_solve_28 rfl (lv_at hl 0 rfl) ?_
  refine r_get (ci := 7) (C := RX7) (T := TX7) (N := 16) X hw 0 rfl rfl 0 (by decide) in_X7_solve_X7 fl_X7_solve_34 (v := .int t1) rfl dX7_solve_29 ?_
  refine lv_if_le (tgt := 37) hx hb dX7_solve_32 (by decide) (fun c_6 => ?_) (fun c_6 => ?_)
  · replace h := h.1 c_6
    refine lv_aload_n hx hb dX7_solve_37 rfl (lv_at hl 0 rfl) ?_
    refine r_cv X hw pm_0 (wn := fun (u : MV) => (mW t aM u)) (fun u => pm_0.symm) (r_runV X hw (c_X7_save l D t aM (MV.s_thrown vM t1) _ h) pm_0 (cwV 0 X.1.2.2.2.2 gX7_solve_X7_save rfl rfl rfl (by decide +kernel) ⟨Nat.le_of_ble_eq_true rfl, Nat.le_of_ble_eq_true rfl⟩) (ci := 7) rfl rfl rfl rfl hl rfl (Nat.le_of_ble_eq_true rfl) dX7_solve_38 ⟨Nat.le_of_ble_eq_true rfl, Nat.le_of_ble_eq_true rfl⟩) (fun u H locs h hw => ?_)
    obtain ⟨vM_4, rfl⟩ : ∃ z, z = u := ⟨_, rfl⟩
    refine lv_aload_n hx hb dX7_solve_41 rfl (lv_at hl 0 rfl) ?_
    refine lv_iconst (v := 1) hx hb dX7_solve_42 (by decide) ?_
    refine lv_iconst (v := 1) hx hb dX7_solve_43 (by decide) ?_
    refine r_cv X hw pm_0 (wn := fun (u : MV) => (mW t aM u)) (fun u => pm_0.symm) (r_runV X hw (c_X7_search l D t aM vM_4 1 1 _ h) pm_0 (cwV 2 X.1.2.2.2.2 gX7_solve_X7_search rfl rfl rfl (by decide +kernel) ⟨Nat.le_of_ble_eq_true rfl, Nat.le_of_ble_eq_true rfl⟩) (ci := 7) rfl rfl rfl rfl hl rfl (Nat.le_of_ble_eq_true rfl) dX7_solve_44 ⟨Nat.le_of_ble_eq_true rfl, Nat.le_of_ble_eq_true rfl⟩) (fun u H locs h hw => ?_)
    obtain ⟨vM_5, rfl⟩ : ∃ z, z = u := ⟨_, rfl⟩
    refine lv_iload_n hx hb dX7_solve_47 rfl (lv_at hl 1 rfl) ?_
    exact e_i (w1 := (fun (u : MV) => (mW t aM u))) X (vM_5) hw h dX7_solve_48
  replace h := h.2 c_6
  refine lv_iconst (v := 0) hx hb dX7_solve_35 (by decide) ?_
  exact e_i (w1 := (fun (u : MV) => (mW t aM u))) X ((MV.s_thrown vM t1)) hw h dX7_solve_36
def wp_X7_solve (vM : MV) (Q : Int32 → MV → Prop) : Prop := wp_X7_empties vM  (fun (r_2 : Int32) (vM_1 : MV) => wp_X7_search vM_1 1 0 (fun (vM_3 : MV) => (¬ (MV.found vM_3) = 1 → wp_X7_solve_25  Q vM_3 r_2 1) ∧ ((MV.found vM_3) = 1 → wp_X7_solve_25  Q vM_3 r_2 0)))
set_option maxHeartbeats 4000000 in
set_option maxRecDepth 100000 in
theorem c_X7_solve (l : Launch) (D : va_G) (t : T3) (aM : MA) (vM : MV) (Q : Int32 → MV → Prop) (h : wp_X7_solve vM Q) : Ct l yX7_solve wsX7_solve 8 195 0 0 [.ref (MA.o aM)] D t (mW t aM vM) (fun sz => Qi D (mW t aM vM) (fun (u : MV) => (mW t aM u)) (fun (r : Int32) (u : MV) => Q r u) sz) := by
  refine Ct.of (Qf := fun _ A => va_Qi (fun (r : Int32) (u : MV) => Q r u) (B1 D (fun (u : MV) => (mW t aM u)) A) A) cX7_solve 2 (some .int) (by decide) rfl (Nat.le_of_ble_eq_true rfl) ?_
  intro p e s m below meth c A ls hAe hin X hw hl
  generalize ([.ref (MA.o aM)] : List Value).toArray = args at X ⊢
  have hl : lv_has ls 2 [(0, .ref (MA.o aM))] := hl
  have hx := X.1.1
  have hb := X.1.2.1
  refine lv_aload_n hx hb dX7_solve_0 rfl (lv_at hl 0 rfl) ?_
  refine r_ci X hw pm_0 (wn := fun (u : MV) => (mW t aM u)) (fun u => pm_0.symm) (r_runV X hw (c_X7_empties l D t aM vM _ h) pm_0 (cwV 0 X.1.2.2.2.2 gX7_solve_X7_empties rfl rfl rfl (by decide +kernel) ⟨Nat.le_of_ble_eq_true rfl, Nat.le_of_ble_eq_true rfl⟩) (ci := 7) rfl rfl rfl rfl hl rfl (Nat.le_of_ble_eq_true rfl) dX7_solve_1 ⟨Nat.le_of_ble_eq_true rfl, Nat.le_of_ble_eq_true rfl⟩) (fun r_2 u H locs h hw => ?_)
  obtain ⟨vM_1, rfl⟩ : ∃ z, z = u := ⟨_, rfl⟩
  refine lv_istore_n (lv' := [(1, .int r_2), (0, .ref (MA.o aM))]) hx hb dX7_solve_4 rfl hl (by decide) rfl (fun ls hl => ?_)
  refine lv_aload_n hx hb dX7_solve_5 rfl (lv_at hl 1 rfl) ?_
  refine lv_iconst (v := 1) hx hb dX7_solve_6 (by decide) ?_
  refine lv_iconst (v := 0) hx hb dX7_solve_7 (by decide) ?_
  refine r_cv X hw pm_0 (wn := fun (u : MV) => (mW t aM u)) (fun u => pm_0.symm) (r_runV X hw (c_X7_search l D t aM vM_1 1 0 _ h) pm_0 (cwV 2 X.1.2.2.2.2 gX7_solve_X7_search rfl rfl rfl (by decide +kernel) ⟨Nat.le_of_ble_eq_true rfl, Nat.le_of_ble_eq_true rfl⟩) (ci := 7) rfl rfl rfl rfl hl rfl (Nat.le_of_ble_eq_true rfl) dX7_solve_8 ⟨Nat.le_of_ble_eq_true rfl, Nat.le_of_ble_eq_true rfl⟩) (fun u H locs h hw => ?_)
  obtain ⟨vM_3, rfl⟩ : ∃ z, z = u := ⟨_, rfl⟩
  refine lv_aload_n hx hb dX7_solve_11 rfl (lv_at hl 1 rfl) ?_
  refine lv_aload_n hx hb dX7_solve_12 rfl (lv_at hl 1 rfl) ?_
  refine r_get (ci := 7) (C := RX7) (T := TX7) (N := 16) X hw 0 rfl rfl 7 (by decide) in_X7_solve_X7 fl_X7_solve_85 (v := .int (MV.found vM_3)) rfl dX7_solve_13 ?_
  refine lv_iconst (v := 1) hx hb dX7_solve_16 (by decide) ?_
  refine lv_icmp_ne (tgt := 24) hx hb dX7_solve_17 (by decide) (fun c_7 => ?_) (fun c_7 => ?_)
  · replace h := h.1 c_7
    refine lv_iconst (v := 1) hx hb dX7_solve_24 (by decide) ?_
    exact k_X7_solve_25 X aM _ _ _ _ _ _ h hw (lv_sub hl [1, 0] rfl)
  replace h := h.2 c_7
  refine lv_iconst (v := 0) hx hb dX7_solve_20 (by decide) ?_
  refine lv_goto (tgt := 25) hx hb dX7_solve_21 (by decide) ?_
  exact k_X7_solve_25 X aM _ _ _ _ _ _ h hw (lv_sub hl [1, 0] rfl)
/-! X7_readText -/
theorem in_X7_readText_X7 : ∀ w ∈ u_ws RX7 TX7 16, w ∈ wsX7_readText := fun w h => (List.mem_cons_of_mem _ (List.mem_append_right _ h))
theorem fl_X7_readText_138 : Cond.fieldLink RX7 138 "TwoFacedTilesModel" "numbers" "I" ∈ wsX7_readText := List.mem_of_getElem? (i := 1) rfl
theorem fl_X7_readText_141 : Cond.fieldLink RX7 141 "TwoFacedTilesModel" "length" "I" ∈ wsX7_readText := List.mem_of_getElem? (i := 2) rfl
theorem fl_X7_readText_16 : Cond.fieldLink RX7 16 "TwoFacedTilesModel" "text" "[I" ∈ wsX7_readText := List.mem_of_getElem? (i := 3) rfl
theorem fl_X7_readText_25 : Cond.fieldLink RX7 25 "TwoFacedTilesModel" "read" "[I" ∈ wsX7_readText := List.mem_of_getElem? (i := 4) rfl
def wp_X7_readText_153 (P : MV → Int32 → Prop) (Q : Int32 → MV → Prop) (vM : MV) (x1 : Int32) : Prop := ∀ x1_8 : Int32, x1_8 = x1 + 1 → P vM x1_8
set_option maxHeartbeats 4000000 in
set_option maxRecDepth 100000 in
theorem k_X7_readText_153 {p : Program} {l : Launch} {e : Env} {s : State} {m : MethodId} {below : List Frame} {meth : Method} {c : Code} {args : Array Value} {D : va_G} {t : T3} {A : Nat → Prop} (X : Cx p s m meth c args cX7_readText 5 (some .int) RX7 wsX7_readText D t A) (aM : MA) {P : MV → Int32 → Prop} {Q : Int32 → MV → Prop} (hP : ∀ (vM : MV) (x1 : Int32) (H : Heap) (locs : List Loc) (ls : Array Slot), P vM x1 → Wd D A s.heap (mW t aM vM) H locs → lv_has ls 5 [(0, .ref (MA.o aM)), (1, .int x1)] → W p l e ({ frames := 1, cells := 0, slots := 0, locals := 22 } : Room) s m args below meth c H locs 0 0 (Ei below args s A D (fun (u : MV) => (mW t aM u)) (fun (r : Int32) (u : MV) => Q r u) 0 0) (F0 m 7 ls [])) : ∀ (vM : MV) (x1 : Int32) (H : Heap) (locs : List Loc) (ls : Array Slot), wp_X7_readText_153 P Q vM x1 → Wd D A s.heap (mW t aM vM) H locs → lv_has ls 5 [(0, .ref (MA.o aM)), (1, .int x1)] → W p l e ({ frames := 1, cells := 0, slots := 0, locals := 22 } : Room) s m args below meth c H locs 0 0 (Ei below args s A D (fun (u : MV) => (mW t aM u)) (fun (r : Int32) (u : MV) => Q r u) 0 0) (F0 m 153 ls []) := by
  intro vM x1 H locs ls h hw hl
  have hx := X.1.1
  have hb := X.1.2.1
  obtain ⟨x1_8, ex1_8⟩ : ∃ z : Int32, z = x1 + 1 := ⟨_, rfl⟩
  replace h := h x1_8 ex1_8
  refine lv_iinc (v := x1_8) (lv' := [(1, .int x1_8), (0, .ref (MA.o aM))]) hx hb dX7_readText_153 hl (k := 1) rfl (by rw [ex1_8]; rfl) (by decide) rfl (fun ls hl => ?_)
  refine lv_goto (tgt := 7) hx hb dX7_readText_156 (by decide) ?_
  exact hP _ _ _ _ _ h hw (lv_sub hl [1, 0] rfl)
def wp_X7_readText_112 (P : MV → Int32 → Prop) (Q : Int32 → MV → Prop) (vM : MV) (x1 : Int32) (x2 : Int32) (x3 : Int32) : Prop := (x2 = 4 → wp_X7_readText_153  P Q vM x1) ∧ (¬ x2 = 4 → (x2 = 9 → wp_X7_readText_153  P Q vM x1) ∧ (¬ x2 = 9 → vp_in ((MV.numbers vM) - 1) 16 ∧ ∀ f_10 : Int32, f_10 = (((10 * ((MV.read vM) (Int32.toNatClampNeg ((MV.numbers vM) - 1)))) + x3) - 48) → vp_in ((MV.numbers vM) - 1) 16 ∧ ∀ r_12 : Nat → Int32, r_12 = upd (MV.read vM) (Int32.toNatClampNeg ((MV.numbers vM) - 1)) f_10 → wp_X7_readText_153  P Q (MV.s_read vM r_12) x1))
set_option maxHeartbeats 4000000 in
set_option maxRecDepth 100000 in
theorem k_X7_readText_112 {p : Program} {l : Launch} {e : Env} {s : State} {m : MethodId} {below : List Frame} {meth : Method} {c : Code} {args : Array Value} {D : va_G} {t : T3} {A : Nat → Prop} (X : Cx p s m meth c args cX7_readText 5 (some .int) RX7 wsX7_readText D t A) (aM : MA) {P : MV → Int32 → Prop} {Q : Int32 → MV → Prop} (hP : ∀ (vM : MV) (x1 : Int32) (H : Heap) (locs : List Loc) (ls : Array Slot), P vM x1 → Wd D A s.heap (mW t aM vM) H locs → lv_has ls 5 [(0, .ref (MA.o aM)), (1, .int x1)] → W p l e ({ frames := 1, cells := 0, slots := 0, locals := 22 } : Room) s m args below meth c H locs 0 0 (Ei below args s A D (fun (u : MV) => (mW t aM u)) (fun (r : Int32) (u : MV) => Q r u) 0 0) (F0 m 7 ls [])) : ∀ (vM : MV) (x1 : Int32) (x2 : Int32) (x3 : Int32) (H : Heap) (locs : List Loc) (ls : Array Slot), wp_X7_readText_112 P Q vM x1 x2 x3 → Wd D A s.heap (mW t aM vM) H locs → lv_has ls 5 [(0, .ref (MA.o aM)), (1, .int x1), (2, .int x2), (3, .int x3)] → W p l e ({ frames := 1, cells := 0, slots := 0, locals := 22 } : Room) s m args below meth c H locs 0 0 (Ei below args s A D (fun (u : MV) => (mW t aM u)) (fun (r : Int32) (u : MV) => Q r u) 0 0) (F0 m 112 ls []) := by
  intro vM x1 x2 x3 H locs ls h hw hl
  have hx := X.1.1
  have hb := X.1.2.1
  refine lv_iload_n hx hb dX7_readText_112 rfl (lv_at hl 2 rfl) ?_
  refine lv_iconst (v := 4) hx hb dX7_readText_113 (by decide) ?_
  refine lv_icmp_eq (tgt := 153) hx hb dX7_readText_114 (by decide) (fun c_14 => ?_) (fun c_14 => ?_)
  · replace h := h.1 c_14
    exact k_X7_readText_153 X aM hP _ _ _ _ _ h hw (lv_sub hl [0, 1] rfl)
  replace h := h.2 c_14
  refine lv_iload_n hx hb dX7_readText_117 rfl (lv_at hl 2 rfl) ?_
  refine lv_bipush (v := 9) hx hb dX7_readText_118 (by decide) ?_
  refine lv_icmp_eq (tgt := 153) hx hb dX7_readText_120 (by decide) (fun c_13 => ?_) (fun c_13 => ?_)
  · replace h := h.1 c_13
    exact k_X7_readText_153 X aM hP _ _ _ _ _ h hw (lv_sub hl [0, 1] rfl)
  replace h := h.2 c_13
  refine lv_aload_n hx hb dX7_readText_123 rfl (lv_at hl 0 rfl) ?_
  refine r_get (ci := 7) (C := RX7) (T := TX7) (N := 16) X hw 0 rfl rfl 13 (by decide) in_X7_readText_X7 fl_X7_readText_25 (v := .ref (MA.read aM)) rfl dX7_readText_124 ?_
  refine lv_aload_n hx hb dX7_readText_127 rfl (lv_at hl 0 rfl) ?_
  refine r_get (ci := 7) (C := RX7) (T := TX7) (N := 16) X hw 0 rfl rfl 12 (by decide) in_X7_readText_X7 fl_X7_readText_138 (v := .int (MV.numbers vM)) rfl dX7_readText_128 ?_
  refine lv_iconst (v := 1) hx hb dX7_readText_131 (by decide) ?_
  refine lv_isub hx hb dX7_readText_132 ?_
  refine lv_bipush (v := 10) hx hb dX7_readText_133 (by decide) ?_
  refine lv_aload_n hx hb dX7_readText_135 rfl (lv_at hl 0 rfl) ?_
  refine r_get (ci := 7) (C := RX7) (T := TX7) (N := 16) X hw 0 rfl rfl 13 (by decide) in_X7_readText_X7 fl_X7_readText_25 (v := .ref (MA.read aM)) rfl dX7_readText_136 ?_
  refine lv_aload_n hx hb dX7_readText_139 rfl (lv_at hl 0 rfl) ?_
  refine r_get (ci := 7) (C := RX7) (T := TX7) (N := 16) X hw 0 rfl rfl 12 (by decide) in_X7_readText_X7 fl_X7_readText_138 (v := .int (MV.numbers vM)) rfl dX7_readText_140 ?_
  refine lv_iconst (v := 1) hx hb dX7_readText_143 (by decide) ?_
  refine lv_isub hx hb dX7_readText_144 ?_
  obtain ⟨hi_9, h⟩ := h
  refine r_iald (v := ((MV.read vM) (Int32.toNatClampNeg ((MV.numbers vM) - 1)))) X hw 6 rfl hi_9 rfl dX7_readText_145 ?_
  refine lv_imul hx hb dX7_readText_146 ?_
  refine lv_iload_n hx hb dX7_readText_147 rfl (lv_at hl 3 rfl) ?_
  refine lv_iadd hx hb dX7_readText_148 ?_
  refine lv_bipush (v := 48) hx hb dX7_readText_149 (by decide) ?_
  refine lv_isub hx hb dX7_readText_151 ?_
  refine lv_topi (fun f_10 ef_10 => ?_)
  replace h := h f_10 ef_10
  obtain ⟨hi_11, h⟩ := h
  obtain ⟨r_12, er_12⟩ : ∃ z : Nat → Int32, z = upd (MV.read vM) (Int32.toNatClampNeg ((MV.numbers vM) - 1)) f_10 := ⟨_, rfl⟩
  replace h := h r_12 er_12
  refine r_iast (ws' := (mW t aM (MV.s_read vM r_12))) X hw 6 rfl hi_11 (by subst er_12; rfl) dX7_readText_152 (fun H locs hw => ?_)
  exact k_X7_readText_153 X aM hP _ _ _ _ _ h hw (lv_sub hl [0, 1] rfl)
def wp_X7_readText_92 (P : MV → Int32 → Prop) (Q : Int32 → MV → Prop) (vM : MV) (x1 : Int32) (x2 : Int32) (x3 : Int32) : Prop := vp_in (MV.numbers vM) 16 ∧ ∀ r_6 : Nat → Int32, r_6 = upd (MV.read vM) (Int32.toNatClampNeg (MV.numbers vM)) 0 → ∀ f_7 : Int32, f_7 = ((MV.numbers vM) + 1) → wp_X7_readText_112  P Q (MV.s_read (MV.s_numbers vM f_7) r_6) x1 x2 x3
set_option maxHeartbeats 4000000 in
set_option maxRecDepth 100000 in
theorem k_X7_readText_92 {p : Program} {l : Launch} {e : Env} {s : State} {m : MethodId} {below : List Frame} {meth : Method} {c : Code} {args : Array Value} {D : va_G} {t : T3} {A : Nat → Prop} (X : Cx p s m meth c args cX7_readText 5 (some .int) RX7 wsX7_readText D t A) (aM : MA) {P : MV → Int32 → Prop} {Q : Int32 → MV → Prop} (hP : ∀ (vM : MV) (x1 : Int32) (H : Heap) (locs : List Loc) (ls : Array Slot), P vM x1 → Wd D A s.heap (mW t aM vM) H locs → lv_has ls 5 [(0, .ref (MA.o aM)), (1, .int x1)] → W p l e ({ frames := 1, cells := 0, slots := 0, locals := 22 } : Room) s m args below meth c H locs 0 0 (Ei below args s A D (fun (u : MV) => (mW t aM u)) (fun (r : Int32) (u : MV) => Q r u) 0 0) (F0 m 7 ls [])) : ∀ (vM : MV) (x1 : Int32) (x2 : Int32) (x3 : Int32) (H : Heap) (locs : List Loc) (ls : Array Slot), wp_X7_readText_92 P Q vM x1 x2 x3 → Wd D A s.heap (mW t aM vM) H locs → lv_has ls 5 [(0, .ref (MA.o aM)), (1, .int x1), (2, .int x2), (3, .int x3)] → W p l e ({ frames := 1, cells := 0, slots := 0, locals := 22 } : Room) s m args below meth c H locs 0 0 (Ei below args s A D (fun (u : MV) => (mW t aM u)) (fun (r : Int32) (u : MV) => Q r u) 0 0) (F0 m 92 ls []) := by
  intro vM x1 x2 x3 H locs ls h hw hl
  have hx := X.1.1
  have hb := X.1.2.1
  refine lv_aload_n hx hb dX7_readText_92 rfl (lv_at hl 0 rfl) ?_
  refine r_get (ci := 7) (C := RX7) (T := TX7) (N := 16) X hw 0 rfl rfl 13 (by decide) in_X7_readText_X7 fl_X7_readText_25 (v := .ref (MA.read aM)) rfl dX7_readText_93 ?_
  refine lv_aload_n hx hb dX7_readText_96 rfl (lv_at hl 0 rfl) ?_
  refine r_get (ci := 7) (C := RX7) (T := TX7) (N := 16) X hw 0 rfl rfl 12 (by decide) in_X7_readText_X7 fl_X7_readText_138 (v := .int (MV.numbers vM)) rfl dX7_readText_97 ?_
  refine lv_iconst (v := 0) hx hb dX7_readText_100 (by decide) ?_
  obtain ⟨hi_5, h⟩ := h
  obtain ⟨r_6, er_6⟩ : ∃ z : Nat → Int32, z = upd (MV.read vM) (Int32.toNatClampNeg (MV.numbers vM)) 0 := ⟨_, rfl⟩
  replace h := h r_6 er_6
  refine r_iast (ws' := (mW t aM (MV.s_read vM r_6))) X hw 6 rfl hi_5 (by subst er_6; rfl) dX7_readText_101 (fun H locs hw => ?_)
  refine lv_aload_n hx hb dX7_readText_102 rfl (lv_at hl 0 rfl) ?_
  refine lv_dup hx hb dX7_readText_103 rfl ?_
  refine r_get (ci := 7) (C := RX7) (T := TX7) (N := 16) X hw 0 rfl rfl 12 (by decide) in_X7_readText_X7 fl_X7_readText_138 (v := .int (MV.numbers vM)) rfl dX7_readText_104 ?_
  refine lv_iconst (v := 1) hx hb dX7_readText_107 (by decide) ?_
  refine lv_iadd hx hb dX7_readText_108 ?_
  refine lv_topi (fun f_7 ef_7 => ?_)
  replace h := h f_7 ef_7
  refine r_put (ci := 7) (C := RX7) (T := TX7) (N := 16) (v := .int f_7) (ws' := (mW t aM (MV.s_read (MV.s_numbers vM f_7) r_6))) X hw 0 rfl rfl 12 (by decide) in_X7_readText_X7 tyX7 tyX7_ok nmX7 fl_X7_readText_138 rfl rfl rfl (Nat.le_of_ble_eq_true rfl) rfl dX7_readText_109 (fun H locs hw => ?_)
  exact k_X7_readText_112 X aM hP _ _ _ _ _ _ _ h hw hl
def wp_X7_readText_74 (P : MV → Int32 → Prop) (Q : Int32 → MV → Prop) (vM : MV) (x1 : Int32) (x2 : Int32) (x3 : Int32) (t0 : Int32) : Prop := (¬ t0 = 0 → (x2 = 0 → wp_X7_readText_92  P Q vM x1 x2 x3) ∧ (¬ x2 = 0 → (¬ x2 = 5 → wp_X7_readText_112  P Q vM x1 x2 x3) ∧ (x2 = 5 → wp_X7_readText_92  P Q vM x1 x2 x3))) ∧ (t0 = 0 → Q x1 vM)
set_option maxHeartbeats 4000000 in
set_option maxRecDepth 100000 in
theorem k_X7_readText_74 {p : Program} {l : Launch} {e : Env} {s : State} {m : MethodId} {below : List Frame} {meth : Method} {c : Code} {args : Array Value} {D : va_G} {t : T3} {A : Nat → Prop} (X : Cx p s m meth c args cX7_readText 5 (some .int) RX7 wsX7_readText D t A) (aM : MA) {P : MV → Int32 → Prop} {Q : Int32 → MV → Prop} (hP : ∀ (vM : MV) (x1 : Int32) (H : Heap) (locs : List Loc) (ls : Array Slot), P vM x1 → Wd D A s.heap (mW t aM vM) H locs → lv_has ls 5 [(0, .ref (MA.o aM)), (1, .int x1)] → W p l e ({ frames := 1, cells := 0, slots := 0, locals := 22 } : Room) s m args below meth c H locs 0 0 (Ei below args s A D (fun (u : MV) => (mW t aM u)) (fun (r : Int32) (u : MV) => Q r u) 0 0) (F0 m 7 ls [])) : ∀ (vM : MV) (x1 : Int32) (x2 : Int32) (x3 : Int32) (t0 : Int32) (H : Heap) (locs : List Loc) (ls : Array Slot), wp_X7_readText_74 P Q vM x1 x2 x3 t0 → Wd D A s.heap (mW t aM vM) H locs → lv_has ls 5 [(0, .ref (MA.o aM)), (1, .int x1), (2, .int x2), (3, .int x3)] → W p l e ({ frames := 1, cells := 0, slots := 0, locals := 22 } : Room) s m args below meth c H locs 0 0 (Ei below args s A D (fun (u : MV) => (mW t aM u)) (fun (r : Int32) (u : MV) => Q r u) 0 0) (F0 m 74 ls [.int t0]) := by
  intro vM x1 x2 x3 t0 H locs ls h hw hl
  have hx := X.1.1
  have hb := X.1.2.1
  refine lv_istore (lv' := [(4, .int t0), (0, .ref (MA.o aM)), (1, .int x1), (2, .int x2), (3, .int x3)]) hx hb dX7_readText_74 hl (by decide) rfl (fun ls hl => ?_)
  refine lv_iload hx hb dX7_readText_76 (lv_at hl 0 rfl) ?_
  refine lv_if_ne (tgt := 83) hx hb dX7_readText_78 (by decide) (fun c_17 => ?_) (fun c_17 => ?_)
  · replace h := h.1 c_17
    refine lv_iload_n hx hb dX7_readText_83 rfl (lv_at hl 3 rfl) ?_
    refine lv_if_eq (tgt := 92) hx hb dX7_readText_84 (by decide) (fun c_16 => ?_) (fun c_16 => ?_)
    · replace h := h.1 c_16
      exact k_X7_readText_92 X aM hP _ _ _ _ _ _ _ h hw (lv_sub hl [1, 2, 3, 4] rfl)
    replace h := h.2 c_16
    refine lv_iload_n hx hb dX7_readText_87 rfl (lv_at hl 3 rfl) ?_
    refine lv_iconst (v := 5) hx hb dX7_readText_88 (by decide) ?_
    refine lv_icmp_ne (tgt := 112) hx hb dX7_readText_89 (by decide) (fun c_15 => ?_) (fun c_15 => ?_)
    · replace h := h.1 c_15
      exact k_X7_readText_112 X aM hP _ _ _ _ _ _ _ h hw (lv_sub hl [1, 2, 3, 4] rfl)
    replace h := h.2 c_15
    exact k_X7_readText_92 X aM hP _ _ _ _ _ _ _ h hw (lv_sub hl [1, 2, 3, 4] rfl)
  replace h := h.2 c_17
  refine lv_iload_n hx hb dX7_readText_81 rfl (lv_at hl 2 rfl) ?_
  exact e_i (w1 := (fun (u : MV) => (mW t aM u))) X (vM) hw h dX7_readText_82
def bd_X7_readText_7 (Q : Int32 → MV → Prop) (P : MV → Int32 → Prop) (vM : MV) (x1 : Int32) : Prop := ((MV.length vM) ≤ x1 → Q (MV.length vM) vM) ∧ (¬ (MV.length vM) ≤ x1 → ∀ x2_1 : Int32, x2_1 = (jrem x1 10) → vp_in x1 60 ∧ ∀ x3_3 : Int32, x3_3 = ((MV.text vM) (Int32.toNatClampNeg x1)) → (¬ x2_1 = 4 → (¬ x2_1 = 9 → wp_X7_within  x3_3 48 57 (fun (r_4 : Int32) => wp_X7_readText_74  P Q vM x1 x2_1 x3_3 r_4)) ∧ (x2_1 = 9 → (¬ x3_3 = 59 → wp_X7_readText_74  P Q vM x1 x2_1 x3_3 0) ∧ (x3_3 = 59 → wp_X7_readText_74  P Q vM x1 x2_1 x3_3 1))) ∧ (x2_1 = 4 → (¬ x3_3 = 47 → wp_X7_readText_74  P Q vM x1 x2_1 x3_3 0) ∧ (x3_3 = 47 → wp_X7_readText_74  P Q vM x1 x2_1 x3_3 1)))
def wp_X7_readText_7 (Q : Int32 → MV → Prop)  (vM : MV) (x1 : Int32) : Prop := ∀ P : MV → Int32 → Prop, (∀ (vM : MV) (x1 : Int32), bd_X7_readText_7 Q P  vM x1 → P vM x1) → P vM x1
set_option maxHeartbeats 4000000 in
set_option maxRecDepth 100000 in
theorem kb_X7_readText_7 {p : Program} {l : Launch} {e : Env} {s : State} {m : MethodId} {below : List Frame} {meth : Method} {c : Code} {args : Array Value} {D : va_G} {t : T3} {A : Nat → Prop} (X : Cx p s m meth c args cX7_readText 5 (some .int) RX7 wsX7_readText D t A) (aM : MA) {Q : Int32 → MV → Prop} {P : MV → Int32 → Prop} (hP : ∀ (vM : MV) (x1 : Int32) (H : Heap) (locs : List Loc) (ls : Array Slot), P vM x1 → Wd D A s.heap (mW t aM vM) H locs → lv_has ls 5 [(0, .ref (MA.o aM)), (1, .int x1)] → W p l e ({ frames := 1, cells := 0, slots := 0, locals := 22 } : Room) s m args below meth c H locs 0 0 (Ei below args s A D (fun (u : MV) => (mW t aM u)) (fun (r : Int32) (u : MV) => Q r u) 0 0) (F0 m 7 ls [])) : ∀ (vM : MV) (x1 : Int32) (H : Heap) (locs : List Loc) (ls : Array Slot), bd_X7_readText_7 Q P  vM x1 → Wd D A s.heap (mW t aM vM) H locs → lv_has ls 5 [(0, .ref (MA.o aM)), (1, .int x1)] → W p l e ({ frames := 1, cells := 0, slots := 0, locals := 22 } : Room) s m args below meth c H locs 0 0 (Ei below args s A D (fun (u : MV) => (mW t aM u)) (fun (r : Int32) (u : MV) => Q r u) 0 0) (F0 m 7 ls []) := by
  intro vM x1 H locs ls h hw hl
  have hx := X.1.1
  have hb := X.1.2.1
  refine lv_iload_n hx hb dX7_readText_7 rfl (lv_at hl 1 rfl) ?_
  refine lv_aload_n hx hb dX7_readText_8 rfl (lv_at hl 0 rfl) ?_
  refine r_get (ci := 7) (C := RX7) (T := TX7) (N := 16) X hw 0 rfl rfl 4 (by decide) in_X7_readText_X7 fl_X7_readText_141 (v := .int (MV.length vM)) rfl dX7_readText_9 ?_
  refine lv_icmp_ge (tgt := 159) hx hb dX7_readText_12 (by decide) (fun c_22 => ?_) (fun c_22 => ?_)
  · replace h := h.1 c_22
    refine lv_aload_n hx hb dX7_readText_159 rfl (lv_at hl 0 rfl) ?_
    refine r_get (ci := 7) (C := RX7) (T := TX7) (N := 16) X hw 0 rfl rfl 4 (by decide) in_X7_readText_X7 fl_X7_readText_141 (v := .int (MV.length vM)) rfl dX7_readText_160 ?_
    exact e_i (w1 := (fun (u : MV) => (mW t aM u))) X (vM) hw h dX7_readText_163
  replace h := h.2 c_22
  refine lv_iload_n hx hb dX7_readText_15 rfl (lv_at hl 1 rfl) ?_
  refine lv_bipush (v := 10) hx hb dX7_readText_16 (by decide) ?_
  refine r_irem hx hb dX7_readText_18 (by decide) ?_
  refine lv_topi (fun x2_1 ex2_1 => ?_)
  replace h := h x2_1 ex2_1
  refine lv_istore_n (lv' := [(2, .int x2_1), (0, .ref (MA.o aM)), (1, .int x1)]) hx hb dX7_readText_19 rfl hl (by decide) rfl (fun ls hl => ?_)
  refine lv_aload_n hx hb dX7_readText_20 rfl (lv_at hl 1 rfl) ?_
  refine r_get (ci := 7) (C := RX7) (T := TX7) (N := 16) X hw 0 rfl rfl 5 (by decide) in_X7_readText_X7 fl_X7_readText_16 (v := .ref (MA.text aM)) rfl dX7_readText_21 ?_
  refine lv_iload_n hx hb dX7_readText_24 rfl (lv_at hl 2 rfl) ?_
  obtain ⟨hi_2, h⟩ := h
  refine r_iald (v := ((MV.text vM) (Int32.toNatClampNeg x1))) X hw 3 rfl hi_2 rfl dX7_readText_25 ?_
  refine lv_topi (fun x3_3 ex3_3 => ?_)
  replace h := h x3_3 ex3_3
  refine lv_istore_n (lv' := [(3, .int x3_3), (2, .int x2_1), (0, .ref (MA.o aM)), (1, .int x1)]) hx hb dX7_readText_26 rfl hl (by decide) rfl (fun ls hl => ?_)
  refine lv_iload_n hx hb dX7_readText_27 rfl (lv_at hl 1 rfl) ?_
  refine lv_iconst (v := 4) hx hb dX7_readText_28 (by decide) ?_
  refine lv_icmp_ne (tgt := 46) hx hb dX7_readText_29 (by decide) (fun c_21 => ?_) (fun c_21 => ?_)
  · replace h := h.1 c_21
    refine lv_iload_n hx hb dX7_readText_46 rfl (lv_at hl 1 rfl) ?_
    refine lv_bipush (v := 9) hx hb dX7_readText_47 (by decide) ?_
    refine lv_icmp_ne (tgt := 66) hx hb dX7_readText_49 (by decide) (fun c_19 => ?_) (fun c_19 => ?_)
    · replace h := h.1 c_19
      refine lv_iload_n hx hb dX7_readText_66 rfl (lv_at hl 0 rfl) ?_
      refine lv_bipush (v := 48) hx hb dX7_readText_67 (by decide) ?_
      refine lv_bipush (v := 57) hx hb dX7_readText_69 (by decide) ?_
      refine r_ci X hw pm_n (wn := fun (u : Unit) => (mW t aM vM)) (fun u => (pm_n).symm) (r_runS X hw (c_X7_within l D t x3_3 48 57 _ h) pm_n (va_cwS 3 X.1.2.2.2.2 gX7_readText_X7_within rfl rfl rfl (by decide +kernel) ⟨Nat.le_of_ble_eq_true rfl, Nat.le_of_ble_eq_true rfl⟩) rfl hl rfl (Nat.le_of_ble_eq_true rfl) dX7_readText_71 ⟨Nat.le_of_ble_eq_true rfl, Nat.le_of_ble_eq_true rfl⟩) (fun r_4 u H locs h hw => ?_)
      exact k_X7_readText_74 X aM hP _ _ _ _ _ _ _ _ h hw (lv_sub hl [2, 3, 1, 0] rfl)
    replace h := h.2 c_19
    refine lv_iload_n hx hb dX7_readText_52 rfl (lv_at hl 0 rfl) ?_
    refine lv_bipush (v := 59) hx hb dX7_readText_53 (by decide) ?_
    refine lv_icmp_ne (tgt := 62) hx hb dX7_readText_55 (by decide) (fun c_18 => ?_) (fun c_18 => ?_)
    · replace h := h.1 c_18
      refine lv_iconst (v := 0) hx hb dX7_readText_62 (by decide) ?_
      refine lv_goto (tgt := 74) hx hb dX7_readText_63 (by decide) ?_
      exact k_X7_readText_74 X aM hP _ _ _ _ _ _ _ _ h hw (lv_sub hl [2, 3, 1, 0] rfl)
    replace h := h.2 c_18
    refine lv_iconst (v := 1) hx hb dX7_readText_58 (by decide) ?_
    refine lv_goto (tgt := 74) hx hb dX7_readText_59 (by decide) ?_
    exact k_X7_readText_74 X aM hP _ _ _ _ _ _ _ _ h hw (lv_sub hl [2, 3, 1, 0] rfl)
  replace h := h.2 c_21
  refine lv_iload_n hx hb dX7_readText_32 rfl (lv_at hl 0 rfl) ?_
  refine lv_bipush (v := 47) hx hb dX7_readText_33 (by decide) ?_
  refine lv_icmp_ne (tgt := 42) hx hb dX7_readText_35 (by decide) (fun c_20 => ?_) (fun c_20 => ?_)
  · replace h := h.1 c_20
    refine lv_iconst (v := 0) hx hb dX7_readText_42 (by decide) ?_
    refine lv_goto (tgt := 74) hx hb dX7_readText_43 (by decide) ?_
    exact k_X7_readText_74 X aM hP _ _ _ _ _ _ _ _ h hw (lv_sub hl [2, 3, 1, 0] rfl)
  replace h := h.2 c_20
  refine lv_iconst (v := 1) hx hb dX7_readText_38 (by decide) ?_
  refine lv_goto (tgt := 74) hx hb dX7_readText_39 (by decide) ?_
  exact k_X7_readText_74 X aM hP _ _ _ _ _ _ _ _ h hw (lv_sub hl [2, 3, 1, 0] rfl)
set_option maxHeartbeats 4000000 in
set_option maxRecDepth 100000 in
theorem k_X7_readText_7 {p : Program} {l : Launch} {e : Env} {s : State} {m : MethodId} {below : List Frame} {meth : Method} {c : Code} {args : Array Value} {D : va_G} {t : T3} {A : Nat → Prop} (X : Cx p s m meth c args cX7_readText 5 (some .int) RX7 wsX7_readText D t A) (aM : MA) {Q : Int32 → MV → Prop}   : ∀ (vM : MV) (x1 : Int32) (H : Heap) (locs : List Loc) (ls : Array Slot), wp_X7_readText_7 Q  vM x1 → Wd D A s.heap (mW t aM vM) H locs → lv_has ls 5 [(0, .ref (MA.o aM)), (1, .int x1)] → W p l e ({ frames := 1, cells := 0, slots := 0, locals := 22 } : Room) s m args below meth c H locs 0 0 (Ei below args s A D (fun (u : MV) => (mW t aM u)) (fun (r : Int32) (u : MV) => Q r u) 0 0) (F0 m 7 ls []) := by
  intro vM x1 H locs ls h hw hl
  have hx := X.1.1
  have hb := X.1.2.1
  refine h (fun (vM : MV) (x1 : Int32) => ∀ (H : Heap) (locs : List Loc) (ls : Array Slot), Wd D A s.heap (mW t aM vM) H locs → lv_has ls 5 [(0, .ref (MA.o aM)), (1, .int x1)] → W p l e ({ frames := 1, cells := 0, slots := 0, locals := 22 } : Room) s m args below meth c H locs 0 0 (Ei below args s A D (fun (u : MV) => (mW t aM u)) (fun (r : Int32) (u : MV) => Q r u) 0 0) (F0 m 7 ls [])) (fun vM x1 h H locs ls hw hl => ?_) H locs ls hw hl
  exact kb_X7_readText_7 X aM (fun vM x1 H locs ls q hw hl => q H locs ls hw hl)  vM x1 _ _ _ h hw hl
def wp_X7_readText (vM : MV) (Q : Int32 → MV → Prop) : Prop := wp_X7_readText_7 Q  (MV.s_numbers vM 0) 0
set_option maxHeartbeats 4000000 in
set_option maxRecDepth 100000 in
theorem c_X7_readText (l : Launch) (D : va_G) (t : T3) (aM : MA) (vM : MV) (Q : Int32 → MV → Prop) (h : wp_X7_readText vM Q) : Ct l yX7_readText wsX7_readText 1 22 0 0 [.ref (MA.o aM)] D t (mW t aM vM) (fun sz => Qi D (mW t aM vM) (fun (u : MV) => (mW t aM u)) (fun (r : Int32) (u : MV) => Q r u) sz) := by
  refine Ct.of (Qf := fun _ A => va_Qi (fun (r : Int32) (u : MV) => Q r u) (B1 D (fun (u : MV) => (mW t aM u)) A) A) cX7_readText 5 (some .int) (by decide) rfl (Nat.le_of_ble_eq_true rfl) ?_
  intro p e s m below meth c A ls hAe hin X hw hl
  generalize ([.ref (MA.o aM)] : List Value).toArray = args at X ⊢
  have hl : lv_has ls 5 [(0, .ref (MA.o aM))] := hl
  have hx := X.1.1
  have hb := X.1.2.1
  refine lv_aload_n hx hb dX7_readText_0 rfl (lv_at hl 0 rfl) ?_
  refine lv_iconst (v := 0) hx hb dX7_readText_1 (by decide) ?_
  refine r_put (ci := 7) (C := RX7) (T := TX7) (N := 16) (v := .int 0) (ws' := (mW t aM (MV.s_numbers vM 0))) X hw 0 rfl rfl 12 (by decide) in_X7_readText_X7 tyX7 tyX7_ok nmX7 fl_X7_readText_138 rfl rfl rfl (Nat.le_of_ble_eq_true rfl) rfl dX7_readText_2 (fun H locs hw => ?_)
  refine lv_iconst (v := 0) hx hb dX7_readText_5 (by decide) ?_
  refine lv_istore_n (lv' := [(1, .int 0), (0, .ref (MA.o aM))]) hx hb dX7_readText_6 rfl hl (by decide) rfl (fun ls hl => ?_)
  refine k_X7_readText_7 X aM  _ _ _ _ _ h hw (lv_sub hl [1, 0] rfl)
/-! X7_firstError -/
theorem in_X7_firstError_X7 : ∀ w ∈ u_ws RX7 TX7 16, w ∈ wsX7_firstError := fun w h => (List.mem_cons_of_mem _ (List.mem_append_right _ h))
theorem fl_X7_firstError_34 : Cond.fieldLink RX7 34 "TwoFacedTilesModel" "thrown" "I" ∈ wsX7_firstError := List.mem_of_getElem? (i := 1) rfl
def wp_X7_firstError (vM : MV) (Q : Int32 → MV → Prop) : Prop := wp_X7_readText (MV.s_thrown vM 0)  (fun (r_2 : Int32) (vM_1 : MV) => Q r_2 vM_1)
set_option maxHeartbeats 4000000 in
set_option maxRecDepth 100000 in
theorem c_X7_firstError (l : Launch) (D : va_G) (t : T3) (aM : MA) (vM : MV) (Q : Int32 → MV → Prop) (h : wp_X7_firstError vM Q) : Ct l yX7_firstError wsX7_firstError 2 46 0 0 [.ref (MA.o aM)] D t (mW t aM vM) (fun sz => Qi D (mW t aM vM) (fun (u : MV) => (mW t aM u)) (fun (r : Int32) (u : MV) => Q r u) sz) := by
  refine Ct.of (Qf := fun _ A => va_Qi (fun (r : Int32) (u : MV) => Q r u) (B1 D (fun (u : MV) => (mW t aM u)) A) A) cX7_firstError 1 (some .int) (by decide) rfl (Nat.le_of_ble_eq_true rfl) ?_
  intro p e s m below meth c A ls hAe hin X hw hl
  generalize ([.ref (MA.o aM)] : List Value).toArray = args at X ⊢
  have hl : lv_has ls 1 [(0, .ref (MA.o aM))] := hl
  have hx := X.1.1
  have hb := X.1.2.1
  refine lv_aload_n hx hb dX7_firstError_0 rfl (lv_at hl 0 rfl) ?_
  refine lv_iconst (v := 0) hx hb dX7_firstError_1 (by decide) ?_
  refine r_put (ci := 7) (C := RX7) (T := TX7) (N := 16) (v := .int 0) (ws' := (mW t aM (MV.s_thrown vM 0))) X hw 0 rfl rfl 0 (by decide) in_X7_firstError_X7 tyX7 tyX7_ok nmX7 fl_X7_firstError_34 rfl rfl rfl (Nat.le_of_ble_eq_true rfl) rfl dX7_firstError_2 (fun H locs hw => ?_)
  refine lv_aload_n hx hb dX7_firstError_5 rfl (lv_at hl 0 rfl) ?_
  refine r_ci X hw pm_0 (wn := fun (u : MV) => (mW t aM u)) (fun u => pm_0.symm) (r_runV X hw (c_X7_readText l D t aM (MV.s_thrown vM 0) _ h) pm_0 (cwV 0 X.1.2.2.2.2 gX7_firstError_X7_readText rfl rfl rfl (by decide +kernel) ⟨Nat.le_of_ble_eq_true rfl, Nat.le_of_ble_eq_true rfl⟩) (ci := 7) rfl rfl rfl rfl hl rfl (Nat.le_of_ble_eq_true rfl) dX7_firstError_6 ⟨Nat.le_of_ble_eq_true rfl, Nat.le_of_ble_eq_true rfl⟩) (fun r_2 u H locs h hw => ?_)
  obtain ⟨vM_1, rfl⟩ : ∃ z, z = u := ⟨_, rfl⟩
  exact e_i (w1 := (fun (u : MV) => (mW t aM u))) X (vM_1) hw h dX7_firstError_9
/-! X7_append -/
theorem in_X7_append_X7 : ∀ w ∈ u_ws RX7 TX7 16, w ∈ wsX7_append := fun w h => (List.mem_cons_of_mem _ (List.mem_append_right _ h))
theorem fl_X7_append_141 : Cond.fieldLink RX7 141 "TwoFacedTilesModel" "length" "I" ∈ wsX7_append := List.mem_of_getElem? (i := 1) rfl
theorem fl_X7_append_34 : Cond.fieldLink RX7 34 "TwoFacedTilesModel" "thrown" "I" ∈ wsX7_append := List.mem_of_getElem? (i := 2) rfl
theorem fl_X7_append_16 : Cond.fieldLink RX7 16 "TwoFacedTilesModel" "text" "[I" ∈ wsX7_append := List.mem_of_getElem? (i := 3) rfl
def wp_X7_append_30 (Q : Int32 → MV → Prop) (vM : MV) (x1 : Int32) (t1 : Int32) : Prop := (t1 ≤ 0 → vp_in (MV.length vM) 60 ∧ ∀ t_3 : Nat → Int32, t_3 = upd (MV.text vM) (Int32.toNatClampNeg (MV.length vM)) x1 → ∀ f_4 : Int32, f_4 = ((MV.length vM) + 1) → Q f_4 (MV.s_text (MV.s_length (MV.s_thrown vM t1) f_4) t_3)) ∧ (¬ t1 ≤ 0 → Q 0 (MV.s_thrown vM t1))
set_option maxHeartbeats 4000000 in
set_option maxRecDepth 100000 in
theorem k_X7_append_30 {p : Program} {l : Launch} {e : Env} {s : State} {m : MethodId} {below : List Frame} {meth : Method} {c : Code} {args : Array Value} {D : va_G} {t : T3} {A : Nat → Prop} (X : Cx p s m meth c args cX7_append 2 (some .int) RX7 wsX7_append D t A) (aM : MA) {Q : Int32 → MV → Prop}  : ∀ (vM : MV) (x1 : Int32) (t1 : Int32) (H : Heap) (locs : List Loc) (ls : Array Slot), wp_X7_append_30 Q vM x1 t1 → Wd D A s.heap (mW t aM vM) H locs → lv_has ls 2 [(0, .ref (MA.o aM)), (1, .int x1)] → W p l e ({ frames := 1, cells := 0, slots := 0, locals := 22 } : Room) s m args below meth c H locs 0 0 (Ei below args s A D (fun (u : MV) => (mW t aM u)) (fun (r : Int32) (u : MV) => Q r u) 0 0) (F0 m 30 ls [.int t1, .ref (MA.o aM)]) := by
  intro vM x1 t1 H locs ls h hw hl
  have hx := X.1.1
  have hb := X.1.2.1
  refine r_put (ci := 7) (C := RX7) (T := TX7) (N := 16) (v := .int t1) (ws' := (mW t aM (MV.s_thrown vM t1))) X hw 0 rfl rfl 0 (by decide) in_X7_append_X7 tyX7 tyX7_ok nmX7 fl_X7_append_34 rfl rfl rfl (Nat.le_of_ble_eq_true rfl) rfl dX7_append_30 (fun H locs hw => ?_)
  refine lv_aload_n hx hb dX7_append_33 rfl (lv_at hl 0 rfl) ?_
  refine r_get (ci := 7) (C := RX7) (T := TX7) (N := 16) X hw 0 rfl rfl 0 (by decide) in_X7_append_X7 fl_X7_append_34 (v := .int t1) rfl dX7_append_34 ?_
  refine lv_if_le (tgt := 42) hx hb dX7_append_37 (by decide) (fun c_5 => ?_) (fun c_5 => ?_)
  · replace h := h.1 c_5
    refine lv_aload_n hx hb dX7_append_42 rfl (lv_at hl 0 rfl) ?_
    refine r_get (ci := 7) (C := RX7) (T := TX7) (N := 16) X hw 0 rfl rfl 5 (by decide) in_X7_append_X7 fl_X7_append_16 (v := .ref (MA.text aM)) rfl dX7_append_43 ?_
    refine lv_aload_n hx hb dX7_append_46 rfl (lv_at hl 0 rfl) ?_
    refine r_get (ci := 7) (C := RX7) (T := TX7) (N := 16) X hw 0 rfl rfl 4 (by decide) in_X7_append_X7 fl_X7_append_141 (v := .int (MV.length vM)) rfl dX7_append_47 ?_
    refine lv_iload_n hx hb dX7_append_50 rfl (lv_at hl 1 rfl) ?_
    obtain ⟨hi_2, h⟩ := h
    obtain ⟨t_3, et_3⟩ : ∃ z : Nat → Int32, z = upd (MV.text vM) (Int32.toNatClampNeg (MV.length vM)) x1 := ⟨_, rfl⟩
    replace h := h t_3 et_3
    refine r_iast (ws' := (mW t aM (MV.s_text (MV.s_thrown vM t1) t_3))) X hw 3 rfl hi_2 (by subst et_3; rfl) dX7_append_51 (fun H locs hw => ?_)
    refine lv_aload_n hx hb dX7_append_52 rfl (lv_at hl 0 rfl) ?_
    refine lv_dup hx hb dX7_append_53 rfl ?_
    refine r_get (ci := 7) (C := RX7) (T := TX7) (N := 16) X hw 0 rfl rfl 4 (by decide) in_X7_append_X7 fl_X7_append_141 (v := .int (MV.length vM)) rfl dX7_append_54 ?_
    refine lv_iconst (v := 1) hx hb dX7_append_57 (by decide) ?_
    refine lv_iadd hx hb dX7_append_58 ?_
    refine lv_topi (fun f_4 ef_4 => ?_)
    replace h := h f_4 ef_4
    refine r_put (ci := 7) (C := RX7) (T := TX7) (N := 16) (v := .int f_4) (ws' := (mW t aM (MV.s_text (MV.s_length (MV.s_thrown vM t1) f_4) t_3))) X hw 0 rfl rfl 4 (by decide) in_X7_append_X7 tyX7 tyX7_ok nmX7 fl_X7_append_141 rfl rfl rfl (Nat.le_of_ble_eq_true rfl) rfl dX7_append_59 (fun H locs hw => ?_)
    refine lv_aload_n hx hb dX7_append_62 rfl (lv_at hl 0 rfl) ?_
    refine r_get (ci := 7) (C := RX7) (T := TX7) (N := 16) X hw 0 rfl rfl 4 (by decide) in_X7_append_X7 fl_X7_append_141 (v := .int f_4) rfl dX7_append_63 ?_
    exact e_i (w1 := (fun (u : MV) => (mW t aM u))) X ((MV.s_text (MV.s_length (MV.s_thrown vM t1) f_4) t_3)) hw h dX7_append_66
  replace h := h.2 c_5
  refine lv_iconst (v := 0) hx hb dX7_append_40 (by decide) ?_
  exact e_i (w1 := (fun (u : MV) => (mW t aM u))) X ((MV.s_thrown vM t1)) hw h dX7_append_41
def wp_X7_append (vM : MV) (p1 : Int32) (Q : Int32 → MV → Prop) : Prop := wp_X7_within  p1 33 126 (fun (r_1 : Int32) => (¬ r_1 = 0 → (¬ (MV.length vM) = 60 → wp_X7_append_30  Q vM p1 0) ∧ ((MV.length vM) = 60 → wp_X7_append_30  Q vM p1 2)) ∧ (r_1 = 0 → wp_X7_append_30  Q vM p1 1))
set_option maxHeartbeats 4000000 in
set_option maxRecDepth 100000 in
theorem c_X7_append (l : Launch) (D : va_G) (t : T3) (aM : MA) (vM : MV) (p1 : Int32) (Q : Int32 → MV → Prop) (h : wp_X7_append vM p1 Q) : Ct l yX7_append wsX7_append 1 22 0 0 [.ref (MA.o aM), .int p1] D t (mW t aM vM) (fun sz => Qi D (mW t aM vM) (fun (u : MV) => (mW t aM u)) (fun (r : Int32) (u : MV) => Q r u) sz) := by
  refine Ct.of (Qf := fun _ A => va_Qi (fun (r : Int32) (u : MV) => Q r u) (B1 D (fun (u : MV) => (mW t aM u)) A) A) cX7_append 2 (some .int) (by decide) rfl (Nat.le_of_ble_eq_true rfl) ?_
  intro p e s m below meth c A ls hAe hin X hw hl
  generalize ([.ref (MA.o aM), .int p1] : List Value).toArray = args at X ⊢
  have hl : lv_has ls 2 [(0, .ref (MA.o aM)), (1, .int p1)] := hl
  have hx := X.1.1
  have hb := X.1.2.1
  refine lv_aload_n hx hb dX7_append_0 rfl (lv_at hl 0 rfl) ?_
  refine lv_iload_n hx hb dX7_append_1 rfl (lv_at hl 1 rfl) ?_
  refine lv_bipush (v := 33) hx hb dX7_append_2 (by decide) ?_
  refine lv_bipush (v := 126) hx hb dX7_append_4 (by decide) ?_
  refine r_ci X hw pm_n (wn := fun (u : Unit) => (mW t aM vM)) (fun u => (pm_n).symm) (r_runS X hw (c_X7_within l D t p1 33 126 _ h) pm_n (va_cwS 3 X.1.2.2.2.2 gX7_append_X7_within rfl rfl rfl (by decide +kernel) ⟨Nat.le_of_ble_eq_true rfl, Nat.le_of_ble_eq_true rfl⟩) rfl hl rfl (Nat.le_of_ble_eq_true rfl) dX7_append_6 ⟨Nat.le_of_ble_eq_true rfl, Nat.le_of_ble_eq_true rfl⟩) (fun r_1 u H locs h hw => ?_)
  refine lv_if_ne (tgt := 16) hx hb dX7_append_9 (by decide) (fun c_7 => ?_) (fun c_7 => ?_)
  · replace h := h.1 c_7
    refine lv_aload_n hx hb dX7_append_16 rfl (lv_at hl 0 rfl) ?_
    refine r_get (ci := 7) (C := RX7) (T := TX7) (N := 16) X hw 0 rfl rfl 4 (by decide) in_X7_append_X7 fl_X7_append_141 (v := .int (MV.length vM)) rfl dX7_append_17 ?_
    refine lv_bipush (v := 60) hx hb dX7_append_20 (by decide) ?_
    refine lv_icmp_ne (tgt := 29) hx hb dX7_append_22 (by decide) (fun c_6 => ?_) (fun c_6 => ?_)
    · replace h := h.1 c_6
      refine lv_iconst (v := 0) hx hb dX7_append_29 (by decide) ?_
      exact k_X7_append_30 X aM _ _ _ _ _ _ h hw hl
    replace h := h.2 c_6
    refine lv_iconst (v := 2) hx hb dX7_append_25 (by decide) ?_
    refine lv_goto (tgt := 30) hx hb dX7_append_26 (by decide) ?_
    exact k_X7_append_30 X aM _ _ _ _ _ _ h hw hl
  replace h := h.2 c_7
  refine lv_iconst (v := 1) hx hb dX7_append_12 (by decide) ?_
  refine lv_goto (tgt := 30) hx hb dX7_append_13 (by decide) ?_
  exact k_X7_append_30 X aM _ _ _ _ _ _ h hw hl
/-! X7_clearBuffer -/
theorem in_X7_clearBuffer_X7 : ∀ w ∈ u_ws RX7 TX7 16, w ∈ wsX7_clearBuffer := fun w h => (List.mem_cons_of_mem _ (List.mem_append_right _ h))
theorem fl_X7_clearBuffer_34 : Cond.fieldLink RX7 34 "TwoFacedTilesModel" "thrown" "I" ∈ wsX7_clearBuffer := List.mem_of_getElem? (i := 1) rfl
theorem fl_X7_clearBuffer_141 : Cond.fieldLink RX7 141 "TwoFacedTilesModel" "length" "I" ∈ wsX7_clearBuffer := List.mem_of_getElem? (i := 2) rfl
def wp_X7_clearBuffer (vM : MV) (Q : Int32 → MV → Prop) : Prop := ∀ x1_1 : Int32, x1_1 = (MV.length vM) → Q x1_1 (MV.s_length (MV.s_thrown vM 0) 0)
set_option maxHeartbeats 4000000 in
set_option maxRecDepth 100000 in
theorem c_X7_clearBuffer (l : Launch) (D : va_G) (t : T3) (aM : MA) (vM : MV) (Q : Int32 → MV → Prop) (h : wp_X7_clearBuffer vM Q) : Ct l yX7_clearBuffer wsX7_clearBuffer 0 0 0 0 [.ref (MA.o aM)] D t (mW t aM vM) (fun sz => Qi D (mW t aM vM) (fun (u : MV) => (mW t aM u)) (fun (r : Int32) (u : MV) => Q r u) sz) := by
  refine Ct.of (Qf := fun _ A => va_Qi (fun (r : Int32) (u : MV) => Q r u) (B1 D (fun (u : MV) => (mW t aM u)) A) A) cX7_clearBuffer 2 (some .int) (by decide) rfl (Nat.le_of_ble_eq_true rfl) ?_
  intro p e s m below meth c A ls hAe hin X hw hl
  generalize ([.ref (MA.o aM)] : List Value).toArray = args at X ⊢
  have hl : lv_has ls 2 [(0, .ref (MA.o aM))] := hl
  have hx := X.1.1
  have hb := X.1.2.1
  refine lv_aload_n hx hb dX7_clearBuffer_0 rfl (lv_at hl 0 rfl) ?_
  refine lv_iconst (v := 0) hx hb dX7_clearBuffer_1 (by decide) ?_
  refine r_put (ci := 7) (C := RX7) (T := TX7) (N := 16) (v := .int 0) (ws' := (mW t aM (MV.s_thrown vM 0))) X hw 0 rfl rfl 0 (by decide) in_X7_clearBuffer_X7 tyX7 tyX7_ok nmX7 fl_X7_clearBuffer_34 rfl rfl rfl (Nat.le_of_ble_eq_true rfl) rfl dX7_clearBuffer_2 (fun H locs hw => ?_)
  refine lv_aload_n hx hb dX7_clearBuffer_5 rfl (lv_at hl 0 rfl) ?_
  refine r_get (ci := 7) (C := RX7) (T := TX7) (N := 16) X hw 0 rfl rfl 4 (by decide) in_X7_clearBuffer_X7 fl_X7_clearBuffer_141 (v := .int (MV.length vM)) rfl dX7_clearBuffer_6 ?_
  refine lv_topi (fun x1_1 ex1_1 => ?_)
  replace h := h x1_1 ex1_1
  refine lv_istore_n (lv' := [(1, .int x1_1), (0, .ref (MA.o aM))]) hx hb dX7_clearBuffer_9 rfl hl (by decide) rfl (fun ls hl => ?_)
  refine lv_aload_n hx hb dX7_clearBuffer_10 rfl (lv_at hl 1 rfl) ?_
  refine lv_iconst (v := 0) hx hb dX7_clearBuffer_11 (by decide) ?_
  refine r_put (ci := 7) (C := RX7) (T := TX7) (N := 16) (v := .int 0) (ws' := (mW t aM (MV.s_length (MV.s_thrown vM 0) 0))) X hw 0 rfl rfl 4 (by decide) in_X7_clearBuffer_X7 tyX7 tyX7_ok nmX7 fl_X7_clearBuffer_141 rfl rfl rfl (Nat.le_of_ble_eq_true rfl) rfl dX7_clearBuffer_12 (fun H locs hw => ?_)
  refine lv_iload_n hx hb dX7_clearBuffer_15 rfl (lv_at hl 0 rfl) ?_
  exact e_i (w1 := (fun (u : MV) => (mW t aM u))) X ((MV.s_length (MV.s_thrown vM 0) 0)) hw h dX7_clearBuffer_16
/-! X7_load -/
theorem in_X7_load_X7 : ∀ w ∈ u_ws RX7 TX7 16, w ∈ wsX7_load := fun w h => (List.mem_cons_of_mem _ (List.mem_append_right _ h))
theorem fl_X7_load_141 : Cond.fieldLink RX7 141 "TwoFacedTilesModel" "length" "I" ∈ wsX7_load := List.mem_of_getElem? (i := 1) rfl
theorem fl_X7_load_7 : Cond.fieldLink RX7 7 "TwoFacedTilesModel" "z" "[I" ∈ wsX7_load := List.mem_of_getElem? (i := 2) rfl
theorem fl_X7_load_138 : Cond.fieldLink RX7 138 "TwoFacedTilesModel" "numbers" "I" ∈ wsX7_load := List.mem_of_getElem? (i := 3) rfl
theorem fl_X7_load_34 : Cond.fieldLink RX7 34 "TwoFacedTilesModel" "thrown" "I" ∈ wsX7_load := List.mem_of_getElem? (i := 4) rfl
theorem fl_X7_load_25 : Cond.fieldLink RX7 25 "TwoFacedTilesModel" "read" "[I" ∈ wsX7_load := List.mem_of_getElem? (i := 5) rfl
def bd_X7_load_79 (Q : Int32 → MV → Prop) (P : MV → Int32 → Prop) (K111 : MV → Prop) (vM : MV) (x2 : Int32) : Prop := ((MV.numbers vM) ≤ x2 → K111 vM) ∧ (¬ (MV.numbers vM) ≤ x2 → vp_in x2 16 ∧ vp_in (x2 + 1) 16 ∧ wp_X7_bring vM ((MV.read vM) (Int32.toNatClampNeg x2)) ((MV.read vM) (Int32.toNatClampNeg (x2 + 1))) (fun (vM_6 : MV) => ∀ x2_7 : Int32, x2_7 = x2 + 2 → P vM_6 x2_7))
def wp_X7_load_79 (Q : Int32 → MV → Prop) (K111 : MV → Prop) (vM : MV) (x2 : Int32) : Prop := ∀ P : MV → Int32 → Prop, (∀ (vM : MV) (x2 : Int32), bd_X7_load_79 Q P K111 vM x2 → P vM x2) → P vM x2
set_option maxHeartbeats 4000000 in
set_option maxRecDepth 100000 in
theorem kb_X7_load_79 {p : Program} {l : Launch} {e : Env} {s : State} {m : MethodId} {below : List Frame} {meth : Method} {c : Code} {args : Array Value} {D : va_G} {t : T3} {A : Nat → Prop} (X : Cx p s m meth c args cX7_load 3 (some .int) RX7 wsX7_load D t A) (aM : MA) {Q : Int32 → MV → Prop} {P : MV → Int32 → Prop} {K111 : MV → Prop} (hP : ∀ (vM : MV) (x2 : Int32) (H : Heap) (locs : List Loc) (ls : Array Slot), P vM x2 → Wd D A s.heap (mW t aM vM) H locs → lv_has ls 3 [(0, .ref (MA.o aM)), (2, .int x2)] → W p l e ({ frames := 2, cells := 0, slots := 0, locals := 46 } : Room) s m args below meth c H locs 0 0 (Ei below args s A D (fun (u : MV) => (mW t aM u)) (fun (r : Int32) (u : MV) => Q r u) 0 0) (F0 m 79 ls [])) (hK111 : ∀ (vM : MV) (H : Heap) (locs : List Loc) (ls : Array Slot), K111 vM → Wd D A s.heap (mW t aM vM) H locs → lv_has ls 3 [(0, .ref (MA.o aM))] → W p l e ({ frames := 2, cells := 0, slots := 0, locals := 46 } : Room) s m args below meth c H locs 0 0 (Ei below args s A D (fun (u : MV) => (mW t aM u)) (fun (r : Int32) (u : MV) => Q r u) 0 0) (F0 m 111 ls [])) : ∀ (vM : MV) (x2 : Int32) (H : Heap) (locs : List Loc) (ls : Array Slot), bd_X7_load_79 Q P K111 vM x2 → Wd D A s.heap (mW t aM vM) H locs → lv_has ls 3 [(0, .ref (MA.o aM)), (2, .int x2)] → W p l e ({ frames := 2, cells := 0, slots := 0, locals := 46 } : Room) s m args below meth c H locs 0 0 (Ei below args s A D (fun (u : MV) => (mW t aM u)) (fun (r : Int32) (u : MV) => Q r u) 0 0) (F0 m 79 ls []) := by
  intro vM x2 H locs ls h hw hl
  have hx := X.1.1
  have hb := X.1.2.1
  refine lv_iload_n hx hb dX7_load_79 rfl (lv_at hl 1 rfl) ?_
  refine lv_aload_n hx hb dX7_load_80 rfl (lv_at hl 0 rfl) ?_
  refine r_get (ci := 7) (C := RX7) (T := TX7) (N := 16) X hw 0 rfl rfl 12 (by decide) in_X7_load_X7 fl_X7_load_138 (v := .int (MV.numbers vM)) rfl dX7_load_81 ?_
  refine lv_icmp_ge (tgt := 111) hx hb dX7_load_84 (by decide) (fun c_8 => ?_) (fun c_8 => ?_)
  · replace h := h.1 c_8
    exact hK111 _ _ _ _ h hw (lv_sub hl [0] rfl)
  replace h := h.2 c_8
  refine lv_aload_n hx hb dX7_load_87 rfl (lv_at hl 0 rfl) ?_
  refine lv_aload_n hx hb dX7_load_88 rfl (lv_at hl 0 rfl) ?_
  refine r_get (ci := 7) (C := RX7) (T := TX7) (N := 16) X hw 0 rfl rfl 13 (by decide) in_X7_load_X7 fl_X7_load_25 (v := .ref (MA.read aM)) rfl dX7_load_89 ?_
  refine lv_iload_n hx hb dX7_load_92 rfl (lv_at hl 1 rfl) ?_
  obtain ⟨hi_4, h⟩ := h
  refine r_iald (v := ((MV.read vM) (Int32.toNatClampNeg x2))) X hw 6 rfl hi_4 rfl dX7_load_93 ?_
  refine lv_aload_n hx hb dX7_load_94 rfl (lv_at hl 0 rfl) ?_
  refine r_get (ci := 7) (C := RX7) (T := TX7) (N := 16) X hw 0 rfl rfl 13 (by decide) in_X7_load_X7 fl_X7_load_25 (v := .ref (MA.read aM)) rfl dX7_load_95 ?_
  refine lv_iload_n hx hb dX7_load_98 rfl (lv_at hl 1 rfl) ?_
  refine lv_iconst (v := 1) hx hb dX7_load_99 (by decide) ?_
  refine lv_iadd hx hb dX7_load_100 ?_
  obtain ⟨hi_5, h⟩ := h
  refine r_iald (v := ((MV.read vM) (Int32.toNatClampNeg (x2 + 1)))) X hw 6 rfl hi_5 rfl dX7_load_101 ?_
  refine r_cv X hw pm_0 (wn := fun (u : MV) => (mW t aM u)) (fun u => pm_0.symm) (r_runV X hw (c_X7_bring l D t aM vM ((MV.read vM) (Int32.toNatClampNeg x2)) ((MV.read vM) (Int32.toNatClampNeg (x2 + 1))) _ h) pm_0 (cwV 2 X.1.2.2.2.2 gX7_load_X7_bring rfl rfl rfl (by decide +kernel) ⟨Nat.le_of_ble_eq_true rfl, Nat.le_of_ble_eq_true rfl⟩) (ci := 7) rfl rfl rfl rfl hl rfl (Nat.le_of_ble_eq_true rfl) dX7_load_102 ⟨Nat.le_of_ble_eq_true rfl, Nat.le_of_ble_eq_true rfl⟩) (fun u H locs h hw => ?_)
  obtain ⟨vM_6, rfl⟩ : ∃ z, z = u := ⟨_, rfl⟩
  obtain ⟨x2_7, ex2_7⟩ : ∃ z : Int32, z = x2 + 2 := ⟨_, rfl⟩
  replace h := h x2_7 ex2_7
  refine lv_iinc (v := x2_7) (lv' := [(2, .int x2_7), (0, .ref (MA.o aM))]) hx hb dX7_load_105 hl (k := 1) rfl (by rw [ex2_7]; rfl) (by decide) rfl (fun ls hl => ?_)
  refine lv_goto (tgt := 79) hx hb dX7_load_108 (by decide) ?_
  exact hP _ _ _ _ _ h hw (lv_sub hl [1, 0] rfl)
set_option maxHeartbeats 4000000 in
set_option maxRecDepth 100000 in
theorem k_X7_load_79 {p : Program} {l : Launch} {e : Env} {s : State} {m : MethodId} {below : List Frame} {meth : Method} {c : Code} {args : Array Value} {D : va_G} {t : T3} {A : Nat → Prop} (X : Cx p s m meth c args cX7_load 3 (some .int) RX7 wsX7_load D t A) (aM : MA) {Q : Int32 → MV → Prop} {K111 : MV → Prop} (hK111 : ∀ (vM : MV) (H : Heap) (locs : List Loc) (ls : Array Slot), K111 vM → Wd D A s.heap (mW t aM vM) H locs → lv_has ls 3 [(0, .ref (MA.o aM))] → W p l e ({ frames := 2, cells := 0, slots := 0, locals := 46 } : Room) s m args below meth c H locs 0 0 (Ei below args s A D (fun (u : MV) => (mW t aM u)) (fun (r : Int32) (u : MV) => Q r u) 0 0) (F0 m 111 ls [])) : ∀ (vM : MV) (x2 : Int32) (H : Heap) (locs : List Loc) (ls : Array Slot), wp_X7_load_79 Q K111 vM x2 → Wd D A s.heap (mW t aM vM) H locs → lv_has ls 3 [(0, .ref (MA.o aM)), (2, .int x2)] → W p l e ({ frames := 2, cells := 0, slots := 0, locals := 46 } : Room) s m args below meth c H locs 0 0 (Ei below args s A D (fun (u : MV) => (mW t aM u)) (fun (r : Int32) (u : MV) => Q r u) 0 0) (F0 m 79 ls []) := by
  intro vM x2 H locs ls h hw hl
  have hx := X.1.1
  have hb := X.1.2.1
  refine h (fun (vM : MV) (x2 : Int32) => ∀ (H : Heap) (locs : List Loc) (ls : Array Slot), Wd D A s.heap (mW t aM vM) H locs → lv_has ls 3 [(0, .ref (MA.o aM)), (2, .int x2)] → W p l e ({ frames := 2, cells := 0, slots := 0, locals := 46 } : Room) s m args below meth c H locs 0 0 (Ei below args s A D (fun (u : MV) => (mW t aM u)) (fun (r : Int32) (u : MV) => Q r u) 0 0) (F0 m 79 ls [])) (fun vM x2 h H locs ls hw hl => ?_) H locs ls hw hl
  exact kb_X7_load_79 X aM (fun vM x2 H locs ls q hw hl => q H locs ls hw hl) hK111 vM x2 _ _ _ h hw hl
def wp_X7_load_61 (Q : Int32 → MV → Prop) (vM : MV) (t1 : Int32) : Prop := (t1 ≤ 0 → wp_X7_save (MV.s_thrown vM t1)  (fun (vM_3 : MV) => wp_X7_load_79 Q (fun (vM_9 : MV) => Q ((MV.z vM_9) 3) (MV.s_length vM_9 0)) vM_3 0)) ∧ (¬ t1 ≤ 0 → Q 0 (MV.s_thrown vM t1))
set_option maxHeartbeats 4000000 in
set_option maxRecDepth 100000 in
theorem k_X7_load_61 {p : Program} {l : Launch} {e : Env} {s : State} {m : MethodId} {below : List Frame} {meth : Method} {c : Code} {args : Array Value} {D : va_G} {t : T3} {A : Nat → Prop} (X : Cx p s m meth c args cX7_load 3 (some .int) RX7 wsX7_load D t A) (aM : MA) {Q : Int32 → MV → Prop}  : ∀ (vM : MV) (t1 : Int32) (H : Heap) (locs : List Loc) (ls : Array Slot), wp_X7_load_61 Q vM t1 → Wd D A s.heap (mW t aM vM) H locs → lv_has ls 3 [(0, .ref (MA.o aM))] → W p l e ({ frames := 2, cells := 0, slots := 0, locals := 46 } : Room) s m args below meth c H locs 0 0 (Ei below args s A D (fun (u : MV) => (mW t aM u)) (fun (r : Int32) (u : MV) => Q r u) 0 0) (F0 m 61 ls [.int t1, .ref (MA.o aM)]) := by
  intro vM t1 H locs ls h hw hl
  have hx := X.1.1
  have hb := X.1.2.1
  refine r_put (ci := 7) (C := RX7) (T := TX7) (N := 16) (v := .int t1) (ws' := (mW t aM (MV.s_thrown vM t1))) X hw 0 rfl rfl 0 (by decide) in_X7_load_X7 tyX7 tyX7_ok nmX7 fl_X7_load_34 rfl rfl rfl (Nat.le_of_ble_eq_true rfl) rfl dX7_load_61 (fun H locs hw => ?_)
  refine lv_aload_n hx hb dX7_load_64 rfl (lv_at hl 0 rfl) ?_
  refine r_get (ci := 7) (C := RX7) (T := TX7) (N := 16) X hw 0 rfl rfl 0 (by decide) in_X7_load_X7 fl_X7_load_34 (v := .int t1) rfl dX7_load_65 ?_
  refine lv_if_le (tgt := 73) hx hb dX7_load_68 (by decide) (fun c_10 => ?_) (fun c_10 => ?_)
  · replace h := h.1 c_10
    refine lv_aload_n hx hb dX7_load_73 rfl (lv_at hl 0 rfl) ?_
    refine r_cv X hw pm_0 (wn := fun (u : MV) => (mW t aM u)) (fun u => pm_0.symm) (r_runV X hw (c_X7_save l D t aM (MV.s_thrown vM t1) _ h) pm_0 (cwV 0 X.1.2.2.2.2 gX7_load_X7_save rfl rfl rfl (by decide +kernel) ⟨Nat.le_of_ble_eq_true rfl, Nat.le_of_ble_eq_true rfl⟩) (ci := 7) rfl rfl rfl rfl hl rfl (Nat.le_of_ble_eq_true rfl) dX7_load_74 ⟨Nat.le_of_ble_eq_true rfl, Nat.le_of_ble_eq_true rfl⟩) (fun u H locs h hw => ?_)
    obtain ⟨vM_3, rfl⟩ : ∃ z, z = u := ⟨_, rfl⟩
    refine lv_iconst (v := 0) hx hb dX7_load_77 (by decide) ?_
    refine lv_istore_n (lv' := [(2, .int 0), (0, .ref (MA.o aM))]) hx hb dX7_load_78 rfl hl (by decide) rfl (fun ls hl => ?_)
    refine k_X7_load_79 X aM (fun vM_9 H locs ls h hw hl => ?_) _ _ _ _ _ h hw (lv_sub hl [1, 0] rfl)
    refine lv_aload_n hx hb dX7_load_111 rfl (lv_at hl 0 rfl) ?_
    refine lv_iconst (v := 0) hx hb dX7_load_112 (by decide) ?_
    refine r_put (ci := 7) (C := RX7) (T := TX7) (N := 16) (v := .int 0) (ws' := (mW t aM (MV.s_length vM_9 0))) X hw 0 rfl rfl 4 (by decide) in_X7_load_X7 tyX7 tyX7_ok nmX7 fl_X7_load_141 rfl rfl rfl (Nat.le_of_ble_eq_true rfl) rfl dX7_load_113 (fun H locs hw => ?_)
    refine lv_aload_n hx hb dX7_load_116 rfl (lv_at hl 0 rfl) ?_
    refine r_get (ci := 7) (C := RX7) (T := TX7) (N := 16) X hw 0 rfl rfl 1 (by decide) in_X7_load_X7 fl_X7_load_7 (v := .ref (MA.z aM)) rfl dX7_load_117 ?_
    refine lv_iconst (v := 3) hx hb dX7_load_120 (by decide) ?_
    refine r_iald (v := ((MV.z vM_9) 3)) X hw 1 rfl (vpl rfl) rfl dX7_load_121 ?_
    exact e_i (w1 := (fun (u : MV) => (mW t aM u))) X ((MV.s_length vM_9 0)) hw h dX7_load_122
  replace h := h.2 c_10
  refine lv_iconst (v := 0) hx hb dX7_load_71 (by decide) ?_
  exact e_i (w1 := (fun (u : MV) => (mW t aM u))) X ((MV.s_thrown vM t1)) hw h dX7_load_72
def wp_X7_load_28 (Q : Int32 → MV → Prop) (vM : MV) (t0 : Int32) : Prop := (¬ t0 = 0 → ((((MV.z vM) 3) + ((MV.numbers vM) / 2)) ≤ 12 → wp_X7_load_61  Q vM 0) ∧ (¬ (((MV.z vM) 3) + ((MV.numbers vM) / 2)) ≤ 12 → wp_X7_load_61  Q vM 2)) ∧ (t0 = 0 → wp_X7_load_61  Q vM 1)
set_option maxHeartbeats 4000000 in
set_option maxRecDepth 100000 in
theorem k_X7_load_28 {p : Program} {l : Launch} {e : Env} {s : State} {m : MethodId} {below : List Frame} {meth : Method} {c : Code} {args : Array Value} {D : va_G} {t : T3} {A : Nat → Prop} (X : Cx p s m meth c args cX7_load 3 (some .int) RX7 wsX7_load D t A) (aM : MA) {Q : Int32 → MV → Prop}  : ∀ (vM : MV) (t0 : Int32) (H : Heap) (locs : List Loc) (ls : Array Slot), wp_X7_load_28 Q vM t0 → Wd D A s.heap (mW t aM vM) H locs → lv_has ls 3 [(0, .ref (MA.o aM))] → W p l e ({ frames := 2, cells := 0, slots := 0, locals := 46 } : Room) s m args below meth c H locs 0 0 (Ei below args s A D (fun (u : MV) => (mW t aM u)) (fun (r : Int32) (u : MV) => Q r u) 0 0) (F0 m 28 ls [.int t0]) := by
  intro vM t0 H locs ls h hw hl
  have hx := X.1.1
  have hb := X.1.2.1
  refine lv_istore_n (lv' := [(1, .int t0), (0, .ref (MA.o aM))]) hx hb dX7_load_28 rfl hl (by decide) rfl (fun ls hl => ?_)
  refine lv_aload_n hx hb dX7_load_29 rfl (lv_at hl 1 rfl) ?_
  refine lv_iload_n hx hb dX7_load_30 rfl (lv_at hl 0 rfl) ?_
  refine lv_if_ne (tgt := 38) hx hb dX7_load_31 (by decide) (fun c_12 => ?_) (fun c_12 => ?_)
  · replace h := h.1 c_12
    refine lv_aload_n hx hb dX7_load_38 rfl (lv_at hl 1 rfl) ?_
    refine r_get (ci := 7) (C := RX7) (T := TX7) (N := 16) X hw 0 rfl rfl 1 (by decide) in_X7_load_X7 fl_X7_load_7 (v := .ref (MA.z aM)) rfl dX7_load_39 ?_
    refine lv_iconst (v := 3) hx hb dX7_load_42 (by decide) ?_
    refine r_iald (v := ((MV.z vM) 3)) X hw 1 rfl (vpl rfl) rfl dX7_load_43 ?_
    refine lv_aload_n hx hb dX7_load_44 rfl (lv_at hl 1 rfl) ?_
    refine r_get (ci := 7) (C := RX7) (T := TX7) (N := 16) X hw 0 rfl rfl 12 (by decide) in_X7_load_X7 fl_X7_load_138 (v := .int (MV.numbers vM)) rfl dX7_load_45 ?_
    refine lv_iconst (v := 2) hx hb dX7_load_48 (by decide) ?_
    refine lv_idiv hx hb dX7_load_49 (by decide) ?_
    refine lv_iadd hx hb dX7_load_50 ?_
    refine lv_bipush (v := 12) hx hb dX7_load_51 (by decide) ?_
    refine lv_icmp_le (tgt := 60) hx hb dX7_load_53 (by decide) (fun c_11 => ?_) (fun c_11 => ?_)
    · replace h := h.1 c_11
      refine lv_iconst (v := 0) hx hb dX7_load_60 (by decide) ?_
      exact k_X7_load_61 X aM _ _ _ _ _ h hw (lv_sub hl [1] rfl)
    replace h := h.2 c_11
    refine lv_iconst (v := 2) hx hb dX7_load_56 (by decide) ?_
    refine lv_goto (tgt := 61) hx hb dX7_load_57 (by decide) ?_
    exact k_X7_load_61 X aM _ _ _ _ _ h hw (lv_sub hl [1] rfl)
  replace h := h.2 c_12
  refine lv_iconst (v := 1) hx hb dX7_load_34 (by decide) ?_
  refine lv_goto (tgt := 61) hx hb dX7_load_35 (by decide) ?_
  exact k_X7_load_61 X aM _ _ _ _ _ h hw (lv_sub hl [1] rfl)
def wp_X7_load_27 (Q : Int32 → MV → Prop) (vM : MV) : Prop := wp_X7_load_28  Q vM 0
set_option maxHeartbeats 4000000 in
set_option maxRecDepth 100000 in
theorem k_X7_load_27 {p : Program} {l : Launch} {e : Env} {s : State} {m : MethodId} {below : List Frame} {meth : Method} {c : Code} {args : Array Value} {D : va_G} {t : T3} {A : Nat → Prop} (X : Cx p s m meth c args cX7_load 3 (some .int) RX7 wsX7_load D t A) (aM : MA) {Q : Int32 → MV → Prop}  : ∀ (vM : MV) (H : Heap) (locs : List Loc) (ls : Array Slot), wp_X7_load_27 Q vM → Wd D A s.heap (mW t aM vM) H locs → lv_has ls 3 [(0, .ref (MA.o aM))] → W p l e ({ frames := 2, cells := 0, slots := 0, locals := 46 } : Room) s m args below meth c H locs 0 0 (Ei below args s A D (fun (u : MV) => (mW t aM u)) (fun (r : Int32) (u : MV) => Q r u) 0 0) (F0 m 27 ls []) := by
  intro vM H locs ls h hw hl
  have hx := X.1.1
  have hb := X.1.2.1
  refine lv_iconst (v := 0) hx hb dX7_load_27 (by decide) ?_
  exact k_X7_load_28 X aM _ _ _ _ _ h hw hl
def wp_X7_load (vM : MV) (Q : Int32 → MV → Prop) : Prop := wp_X7_readText vM  (fun (r_2 : Int32) (vM_1 : MV) => (¬ r_2 = (MV.length vM_1) → wp_X7_load_27  Q vM_1) ∧ (r_2 = (MV.length vM_1) → (¬ (jrem (MV.length vM_1) 10) = 9 → wp_X7_load_27  Q vM_1) ∧ ((jrem (MV.length vM_1) 10) = 9 → wp_X7_load_28  Q vM_1 1)))
set_option maxHeartbeats 4000000 in
set_option maxRecDepth 100000 in
theorem c_X7_load (l : Launch) (D : va_G) (t : T3) (aM : MA) (vM : MV) (Q : Int32 → MV → Prop) (h : wp_X7_load vM Q) : Ct l yX7_load wsX7_load 2 46 0 0 [.ref (MA.o aM)] D t (mW t aM vM) (fun sz => Qi D (mW t aM vM) (fun (u : MV) => (mW t aM u)) (fun (r : Int32) (u : MV) => Q r u) sz) := by
  refine Ct.of (Qf := fun _ A => va_Qi (fun (r : Int32) (u : MV) => Q r u) (B1 D (fun (u : MV) => (mW t aM u)) A) A) cX7_load 3 (some .int) (by decide) rfl (Nat.le_of_ble_eq_true rfl) ?_
  intro p e s m below meth c A ls hAe hin X hw hl
  generalize ([.ref (MA.o aM)] : List Value).toArray = args at X ⊢
  have hl : lv_has ls 3 [(0, .ref (MA.o aM))] := hl
  have hx := X.1.1
  have hb := X.1.2.1
  refine lv_aload_n hx hb dX7_load_0 rfl (lv_at hl 0 rfl) ?_
  refine r_ci X hw pm_0 (wn := fun (u : MV) => (mW t aM u)) (fun u => pm_0.symm) (r_runV X hw (c_X7_readText l D t aM vM _ h) pm_0 (cwV 0 X.1.2.2.2.2 gX7_load_X7_readText rfl rfl rfl (by decide +kernel) ⟨Nat.le_of_ble_eq_true rfl, Nat.le_of_ble_eq_true rfl⟩) (ci := 7) rfl rfl rfl rfl hl rfl (Nat.le_of_ble_eq_true rfl) dX7_load_1 ⟨Nat.le_of_ble_eq_true rfl, Nat.le_of_ble_eq_true rfl⟩) (fun r_2 u H locs h hw => ?_)
  obtain ⟨vM_1, rfl⟩ : ∃ z, z = u := ⟨_, rfl⟩
  refine lv_aload_n hx hb dX7_load_4 rfl (lv_at hl 0 rfl) ?_
  refine r_get (ci := 7) (C := RX7) (T := TX7) (N := 16) X hw 0 rfl rfl 4 (by decide) in_X7_load_X7 fl_X7_load_141 (v := .int (MV.length vM_1)) rfl dX7_load_5 ?_
  refine lv_icmp_ne (tgt := 27) hx hb dX7_load_8 (by decide) (fun c_14 => ?_) (fun c_14 => ?_)
  · replace h := h.1 c_14
    exact k_X7_load_27 X aM _ _ _ _ h hw hl
  replace h := h.2 c_14
  refine lv_aload_n hx hb dX7_load_11 rfl (lv_at hl 0 rfl) ?_
  refine r_get (ci := 7) (C := RX7) (T := TX7) (N := 16) X hw 0 rfl rfl 4 (by decide) in_X7_load_X7 fl_X7_load_141 (v := .int (MV.length vM_1)) rfl dX7_load_12 ?_
  refine lv_bipush (v := 10) hx hb dX7_load_15 (by decide) ?_
  refine r_irem hx hb dX7_load_17 (by decide) ?_
  refine lv_bipush (v := 9) hx hb dX7_load_18 (by decide) ?_
  refine lv_icmp_ne (tgt := 27) hx hb dX7_load_20 (by decide) (fun c_13 => ?_) (fun c_13 => ?_)
  · replace h := h.1 c_13
    exact k_X7_load_27 X aM _ _ _ _ h hw hl
  replace h := h.2 c_13
  refine lv_iconst (v := 1) hx hb dX7_load_23 (by decide) ?_
  refine lv_goto (tgt := 28) hx hb dX7_load_24 (by decide) ?_
  exact k_X7_load_28 X aM _ _ _ _ _ h hw hl
/-! X7_cellNow -/
theorem in_X7_cellNow_X7 : ∀ w ∈ u_ws RX7 TX7 16, w ∈ wsX7_cellNow := fun w h => (List.mem_cons_of_mem _ (List.mem_append_right _ h))
theorem fl_X7_cellNow_7 : Cond.fieldLink RX7 7 "TwoFacedTilesModel" "z" "[I" ∈ wsX7_cellNow := List.mem_of_getElem? (i := 1) rfl
def wp_X7_cellNow_18 (Q : Int32 → MV → Prop) (vM : MV) (x1 : Int32) (x2 : Int32) (t0 : Int32) : Prop := (x2 = 0 → vp_in (28 + x1) 52 ∧ Q ((MV.z vM) (Int32.toNatClampNeg (28 + x1))) vM) ∧ (x2 = 1 → vp_in (40 + x1) 52 ∧ Q ((MV.z vM) (Int32.toNatClampNeg (40 + x1))) vM) ∧ (x2 = 2 → (t0 = 0 → Q 0 vM) ∧ (¬ t0 = 0 → wp_X7_possibleMany vM x1 (fun (r_7 : Int32) (vM_6 : MV) => Q r_7 vM_6))) ∧ (¬ x2 = 0 → ¬ x2 = 1 → ¬ x2 = 2 → (t0 = 0 → Q (-1) vM) ∧ (¬ t0 = 0 → wp_X7_possibleFrom vM x1 0 (fun (r_11 : Int32) (vM_10 : MV) => Q r_11 vM_10)))
set_option maxHeartbeats 4000000 in
set_option maxRecDepth 100000 in
theorem k_X7_cellNow_18 {p : Program} {l : Launch} {e : Env} {s : State} {m : MethodId} {below : List Frame} {meth : Method} {c : Code} {args : Array Value} {D : va_G} {t : T3} {A : Nat → Prop} (X : Cx p s m meth c args cX7_cellNow 4 (some .int) RX7 wsX7_cellNow D t A) (aM : MA) {Q : Int32 → MV → Prop}  : ∀ (vM : MV) (x1 : Int32) (x2 : Int32) (t0 : Int32) (H : Heap) (locs : List Loc) (ls : Array Slot), wp_X7_cellNow_18 Q vM x1 x2 t0 → Wd D A s.heap (mW t aM vM) H locs → lv_has ls 4 [(0, .ref (MA.o aM)), (1, .int x1), (2, .int x2)] → W p l e ({ frames := 7, cells := 0, slots := 0, locals := 168 } : Room) s m args below meth c H locs 0 0 (Ei below args s A D (fun (u : MV) => (mW t aM u)) (fun (r : Int32) (u : MV) => Q r u) 0 0) (F0 m 18 ls [.int t0]) := by
  intro vM x1 x2 t0 H locs ls h hw hl
  have hx := X.1.1
  have hb := X.1.2.1
  refine lv_istore_n (lv' := [(3, .int t0), (0, .ref (MA.o aM)), (1, .int x1), (2, .int x2)]) hx hb dX7_cellNow_18 rfl hl (by decide) rfl (fun ls hl => ?_)
  refine lv_iload_n hx hb dX7_cellNow_19 rfl (lv_at hl 3 rfl) ?_
  by_cases c_3 : x2 = 0
  · replace h := h.1 c_3
    refine lv_tableIn (off := 28) (tgt := 48) hx hb dX7_cellNow_20 (by rw [c_3]; decide) (by rw [c_3]; decide) (by rw [c_3]; rfl) (by decide) ?_
    refine lv_aload_n hx hb dX7_cellNow_48 rfl (lv_at hl 1 rfl) ?_
    refine r_get (ci := 7) (C := RX7) (T := TX7) (N := 16) X hw 0 rfl rfl 1 (by decide) in_X7_cellNow_X7 fl_X7_cellNow_7 (v := .ref (MA.z aM)) rfl dX7_cellNow_49 ?_
    refine lv_bipush (v := 28) hx hb dX7_cellNow_52 (by decide) ?_
    refine lv_iload_n hx hb dX7_cellNow_54 rfl (lv_at hl 2 rfl) ?_
    refine lv_iadd hx hb dX7_cellNow_55 ?_
    obtain ⟨hi_2, h⟩ := h
    refine r_iald (v := ((MV.z vM) (Int32.toNatClampNeg (28 + x1)))) X hw 1 rfl hi_2 rfl dX7_cellNow_56 ?_
    exact e_i (w1 := (fun (u : MV) => (mW t aM u))) X (vM) hw h dX7_cellNow_57
  by_cases c_5 : x2 = 1
  · replace h := h.2.1 c_5
    refine lv_tableIn (off := 38) (tgt := 58) hx hb dX7_cellNow_20 (by rw [c_5]; decide) (by rw [c_5]; decide) (by rw [c_5]; rfl) (by decide) ?_
    refine lv_aload_n hx hb dX7_cellNow_58 rfl (lv_at hl 1 rfl) ?_
    refine r_get (ci := 7) (C := RX7) (T := TX7) (N := 16) X hw 0 rfl rfl 1 (by decide) in_X7_cellNow_X7 fl_X7_cellNow_7 (v := .ref (MA.z aM)) rfl dX7_cellNow_59 ?_
    refine lv_bipush (v := 40) hx hb dX7_cellNow_62 (by decide) ?_
    refine lv_iload_n hx hb dX7_cellNow_64 rfl (lv_at hl 2 rfl) ?_
    refine lv_iadd hx hb dX7_cellNow_65 ?_
    obtain ⟨hi_4, h⟩ := h
    refine r_iald (v := ((MV.z vM) (Int32.toNatClampNeg (40 + x1)))) X hw 1 rfl hi_4 rfl dX7_cellNow_66 ?_
    exact e_i (w1 := (fun (u : MV) => (mW t aM u))) X (vM) hw h dX7_cellNow_67
  by_cases c_9 : x2 = 2
  · replace h := h.2.2.1 c_9
    refine lv_tableIn (off := 48) (tgt := 68) hx hb dX7_cellNow_20 (by rw [c_9]; decide) (by rw [c_9]; decide) (by rw [c_9]; rfl) (by decide) ?_
    refine lv_iload_n hx hb dX7_cellNow_68 rfl (lv_at hl 0 rfl) ?_
    refine lv_if_eq (tgt := 80) hx hb dX7_cellNow_69 (by decide) (fun c_8 => ?_) (fun c_8 => ?_)
    · replace h := h.1 c_8
      refine lv_iconst (v := 0) hx hb dX7_cellNow_80 (by decide) ?_
      exact e_i (w1 := (fun (u : MV) => (mW t aM u))) X (vM) hw h dX7_cellNow_81
    replace h := h.2 c_8
    refine lv_aload_n hx hb dX7_cellNow_72 rfl (lv_at hl 1 rfl) ?_
    refine lv_iload_n hx hb dX7_cellNow_73 rfl (lv_at hl 2 rfl) ?_
    refine r_ci X hw pm_0 (wn := fun (u : MV) => (mW t aM u)) (fun u => pm_0.symm) (r_runV X hw (c_X7_possibleMany l D t aM vM x1 _ h) pm_0 (cwV 1 X.1.2.2.2.2 gX7_cellNow_X7_possibleMany rfl rfl rfl (by decide +kernel) ⟨Nat.le_of_ble_eq_true rfl, Nat.le_of_ble_eq_true rfl⟩) (ci := 7) rfl rfl rfl rfl hl rfl (Nat.le_of_ble_eq_true rfl) dX7_cellNow_74 ⟨Nat.le_of_ble_eq_true rfl, Nat.le_of_ble_eq_true rfl⟩) (fun r_7 u H locs h hw => ?_)
    obtain ⟨vM_6, rfl⟩ : ∃ z, z = u := ⟨_, rfl⟩
    refine lv_goto (tgt := 81) hx hb dX7_cellNow_77 (by decide) ?_
    exact e_i (w1 := (fun (u : MV) => (mW t aM u))) X (vM_6) hw h dX7_cellNow_81
  replace h := h.2.2.2 c_3 c_5 c_9
  refine lv_tableOut (tgt := 82) hx hb dX7_cellNow_20 (tab_outL 2 (fun k hk => match k, hk with | 0, _ => c_3 | 1, _ => c_5 | 2, _ => c_9 | (z + 3), hk => absurd hk (by omega))) (by decide) ?_
  refine lv_iload_n hx hb dX7_cellNow_82 rfl (lv_at hl 0 rfl) ?_
  refine lv_if_eq (tgt := 95) hx hb dX7_cellNow_83 (by decide) (fun c_12 => ?_) (fun c_12 => ?_)
  · replace h := h.1 c_12
    refine lv_iconst (v := (-1)) hx hb dX7_cellNow_95 (by decide) ?_
    exact e_i (w1 := (fun (u : MV) => (mW t aM u))) X (vM) hw h dX7_cellNow_96
  replace h := h.2 c_12
  refine lv_aload_n hx hb dX7_cellNow_86 rfl (lv_at hl 1 rfl) ?_
  refine lv_iload_n hx hb dX7_cellNow_87 rfl (lv_at hl 2 rfl) ?_
  refine lv_iconst (v := 0) hx hb dX7_cellNow_88 (by decide) ?_
  refine r_ci X hw pm_0 (wn := fun (u : MV) => (mW t aM u)) (fun u => pm_0.symm) (r_runV X hw (c_X7_possibleFrom l D t aM vM x1 0 _ h) pm_0 (cwV 2 X.1.2.2.2.2 gX7_cellNow_X7_possibleFrom rfl rfl rfl (by decide +kernel) ⟨Nat.le_of_ble_eq_true rfl, Nat.le_of_ble_eq_true rfl⟩) (ci := 7) rfl rfl rfl rfl hl rfl (Nat.le_of_ble_eq_true rfl) dX7_cellNow_89 ⟨Nat.le_of_ble_eq_true rfl, Nat.le_of_ble_eq_true rfl⟩) (fun r_11 u H locs h hw => ?_)
  obtain ⟨vM_10, rfl⟩ : ∃ z, z = u := ⟨_, rfl⟩
  refine lv_goto (tgt := 96) hx hb dX7_cellNow_92 (by decide) ?_
  exact e_i (w1 := (fun (u : MV) => (mW t aM u))) X (vM_10) hw h dX7_cellNow_96
def wp_X7_cellNow (vM : MV) (p1 : Int32) (p2 : Int32) (Q : Int32 → MV → Prop) : Prop := vp_in (28 + p1) 52 ∧ (¬ ((MV.z vM) (Int32.toNatClampNeg (28 + p1))) = (-1) → wp_X7_cellNow_18  Q vM p1 p2 0) ∧ (((MV.z vM) (Int32.toNatClampNeg (28 + p1))) = (-1) → wp_X7_cellNow_18  Q vM p1 p2 1)
set_option maxHeartbeats 4000000 in
set_option maxRecDepth 100000 in
theorem c_X7_cellNow (l : Launch) (D : va_G) (t : T3) (aM : MA) (vM : MV) (p1 : Int32) (p2 : Int32) (Q : Int32 → MV → Prop) (h : wp_X7_cellNow vM p1 p2 Q) : Ct l yX7_cellNow wsX7_cellNow 7 168 0 0 [.ref (MA.o aM), .int p1, .int p2] D t (mW t aM vM) (fun sz => Qi D (mW t aM vM) (fun (u : MV) => (mW t aM u)) (fun (r : Int32) (u : MV) => Q r u) sz) := by
  refine Ct.of (Qf := fun _ A => va_Qi (fun (r : Int32) (u : MV) => Q r u) (B1 D (fun (u : MV) => (mW t aM u)) A) A) cX7_cellNow 4 (some .int) (by decide) rfl (Nat.le_of_ble_eq_true rfl) ?_
  intro p e s m below meth c A ls hAe hin X hw hl
  generalize ([.ref (MA.o aM), .int p1, .int p2] : List Value).toArray = args at X ⊢
  have hl : lv_has ls 4 [(0, .ref (MA.o aM)), (1, .int p1), (2, .int p2)] := hl
  have hx := X.1.1
  have hb := X.1.2.1
  refine lv_aload_n hx hb dX7_cellNow_0 rfl (lv_at hl 0 rfl) ?_
  refine r_get (ci := 7) (C := RX7) (T := TX7) (N := 16) X hw 0 rfl rfl 1 (by decide) in_X7_cellNow_X7 fl_X7_cellNow_7 (v := .ref (MA.z aM)) rfl dX7_cellNow_1 ?_
  refine lv_bipush (v := 28) hx hb dX7_cellNow_4 (by decide) ?_
  refine lv_iload_n hx hb dX7_cellNow_6 rfl (lv_at hl 1 rfl) ?_
  refine lv_iadd hx hb dX7_cellNow_7 ?_
  obtain ⟨hi_1, h⟩ := h
  refine r_iald (v := ((MV.z vM) (Int32.toNatClampNeg (28 + p1)))) X hw 1 rfl hi_1 rfl dX7_cellNow_8 ?_
  refine lv_iconst (v := (-1)) hx hb dX7_cellNow_9 (by decide) ?_
  refine lv_icmp_ne (tgt := 17) hx hb dX7_cellNow_10 (by decide) (fun c_13 => ?_) (fun c_13 => ?_)
  · replace h := h.1 c_13
    refine lv_iconst (v := 0) hx hb dX7_cellNow_17 (by decide) ?_
    exact k_X7_cellNow_18 X aM _ _ _ _ _ _ _ h hw hl
  replace h := h.2 c_13
  refine lv_iconst (v := 1) hx hb dX7_cellNow_13 (by decide) ?_
  refine lv_goto (tgt := 18) hx hb dX7_cellNow_14 (by decide) ?_
  exact k_X7_cellNow_18 X aM _ _ _ _ _ _ _ h hw hl
/-! X7_cell -/
theorem in_X7_cell_X7 : ∀ w ∈ u_ws RX7 TX7 16, w ∈ wsX7_cell := fun w h => (List.mem_cons_of_mem _ (List.mem_append_right _ h))
theorem fl_X7_cell_34 : Cond.fieldLink RX7 34 "TwoFacedTilesModel" "thrown" "I" ∈ wsX7_cell := List.mem_of_getElem? (i := 1) rfl
def wp_X7_cell_27 (Q : Int32 → MV → Prop) (vM : MV) (x1 : Int32) (x2 : Int32) (t1 : Int32) : Prop := (t1 ≤ 0 → wp_X7_cellNow (MV.s_thrown vM t1) x1 x2 (fun (r_5 : Int32) (vM_4 : MV) => Q r_5 vM_4)) ∧ (¬ t1 ≤ 0 → Q 0 (MV.s_thrown vM t1))
set_option maxHeartbeats 4000000 in
set_option maxRecDepth 100000 in
theorem k_X7_cell_27 {p : Program} {l : Launch} {e : Env} {s : State} {m : MethodId} {below : List Frame} {meth : Method} {c : Code} {args : Array Value} {D : va_G} {t : T3} {A : Nat → Prop} (X : Cx p s m meth c args cX7_cell 3 (some .int) RX7 wsX7_cell D t A) (aM : MA) {Q : Int32 → MV → Prop}  : ∀ (vM : MV) (x1 : Int32) (x2 : Int32) (t1 : Int32) (H : Heap) (locs : List Loc) (ls : Array Slot), wp_X7_cell_27 Q vM x1 x2 t1 → Wd D A s.heap (mW t aM vM) H locs → lv_has ls 3 [(0, .ref (MA.o aM)), (1, .int x1), (2, .int x2)] → W p l e ({ frames := 8, cells := 0, slots := 0, locals := 191 } : Room) s m args below meth c H locs 0 0 (Ei below args s A D (fun (u : MV) => (mW t aM u)) (fun (r : Int32) (u : MV) => Q r u) 0 0) (F0 m 27 ls [.int t1, .ref (MA.o aM)]) := by
  intro vM x1 x2 t1 H locs ls h hw hl
  have hx := X.1.1
  have hb := X.1.2.1
  refine r_put (ci := 7) (C := RX7) (T := TX7) (N := 16) (v := .int t1) (ws' := (mW t aM (MV.s_thrown vM t1))) X hw 0 rfl rfl 0 (by decide) in_X7_cell_X7 tyX7 tyX7_ok nmX7 fl_X7_cell_34 rfl rfl rfl (Nat.le_of_ble_eq_true rfl) rfl dX7_cell_27 (fun H locs hw => ?_)
  refine lv_aload_n hx hb dX7_cell_30 rfl (lv_at hl 0 rfl) ?_
  refine r_get (ci := 7) (C := RX7) (T := TX7) (N := 16) X hw 0 rfl rfl 0 (by decide) in_X7_cell_X7 fl_X7_cell_34 (v := .int t1) rfl dX7_cell_31 ?_
  refine lv_if_le (tgt := 41) hx hb dX7_cell_34 (by decide) (fun c_6 => ?_) (fun c_6 => ?_)
  · replace h := h.1 c_6
    refine lv_aload_n hx hb dX7_cell_41 rfl (lv_at hl 0 rfl) ?_
    refine lv_iload_n hx hb dX7_cell_42 rfl (lv_at hl 1 rfl) ?_
    refine lv_iload_n hx hb dX7_cell_43 rfl (lv_at hl 2 rfl) ?_
    refine r_ci X hw pm_0 (wn := fun (u : MV) => (mW t aM u)) (fun u => pm_0.symm) (r_runV X hw (c_X7_cellNow l D t aM (MV.s_thrown vM t1) x1 x2 _ h) pm_0 (cwV 2 X.1.2.2.2.2 gX7_cell_X7_cellNow rfl rfl rfl (by decide +kernel) ⟨Nat.le_of_ble_eq_true rfl, Nat.le_of_ble_eq_true rfl⟩) (ci := 7) rfl rfl rfl rfl hl rfl (Nat.le_of_ble_eq_true rfl) dX7_cell_44 ⟨Nat.le_of_ble_eq_true rfl, Nat.le_of_ble_eq_true rfl⟩) (fun r_5 u H locs h hw => ?_)
    obtain ⟨vM_4, rfl⟩ : ∃ z, z = u := ⟨_, rfl⟩
    exact e_i (w1 := (fun (u : MV) => (mW t aM u))) X (vM_4) hw h dX7_cell_47
  replace h := h.2 c_6
  refine lv_iconst (v := 0) hx hb dX7_cell_37 (by decide) ?_
  refine lv_goto (tgt := 47) hx hb dX7_cell_38 (by decide) ?_
  exact e_i (w1 := (fun (u : MV) => (mW t aM u))) X ((MV.s_thrown vM t1)) hw h dX7_cell_47
def wp_X7_cell (vM : MV) (p1 : Int32) (p2 : Int32) (Q : Int32 → MV → Prop) : Prop := wp_X7_isCell vM p1 (fun (r_2 : Int32) (vM_1 : MV) => (¬ r_2 = 0 → wp_X7_within  p2 0 3 (fun (r_3 : Int32) => (r_3 = 0 → wp_X7_cell_27  Q vM_1 p1 p2 2) ∧ (¬ r_3 = 0 → wp_X7_cell_27  Q vM_1 p1 p2 0))) ∧ (r_2 = 0 → wp_X7_cell_27  Q vM_1 p1 p2 1))
set_option maxHeartbeats 4000000 in
set_option maxRecDepth 100000 in
theorem c_X7_cell (l : Launch) (D : va_G) (t : T3) (aM : MA) (vM : MV) (p1 : Int32) (p2 : Int32) (Q : Int32 → MV → Prop) (h : wp_X7_cell vM p1 p2 Q) : Ct l yX7_cell wsX7_cell 8 191 0 0 [.ref (MA.o aM), .int p1, .int p2] D t (mW t aM vM) (fun sz => Qi D (mW t aM vM) (fun (u : MV) => (mW t aM u)) (fun (r : Int32) (u : MV) => Q r u) sz) := by
  refine Ct.of (Qf := fun _ A => va_Qi (fun (r : Int32) (u : MV) => Q r u) (B1 D (fun (u : MV) => (mW t aM u)) A) A) cX7_cell 3 (some .int) (by decide) rfl (Nat.le_of_ble_eq_true rfl) ?_
  intro p e s m below meth c A ls hAe hin X hw hl
  generalize ([.ref (MA.o aM), .int p1, .int p2] : List Value).toArray = args at X ⊢
  have hl : lv_has ls 3 [(0, .ref (MA.o aM)), (1, .int p1), (2, .int p2)] := hl
  have hx := X.1.1
  have hb := X.1.2.1
  refine lv_aload_n hx hb dX7_cell_0 rfl (lv_at hl 0 rfl) ?_
  refine lv_aload_n hx hb dX7_cell_1 rfl (lv_at hl 0 rfl) ?_
  refine lv_iload_n hx hb dX7_cell_2 rfl (lv_at hl 1 rfl) ?_
  refine r_ci X hw pm_0 (wn := fun (u : MV) => (mW t aM u)) (fun u => pm_0.symm) (r_runV X hw (c_X7_isCell l D t aM vM p1 _ h) pm_0 (cwV 1 X.1.2.2.2.2 gX7_cell_X7_isCell rfl rfl rfl (by decide +kernel) ⟨Nat.le_of_ble_eq_true rfl, Nat.le_of_ble_eq_true rfl⟩) (ci := 7) rfl rfl rfl rfl hl rfl (Nat.le_of_ble_eq_true rfl) dX7_cell_3 ⟨Nat.le_of_ble_eq_true rfl, Nat.le_of_ble_eq_true rfl⟩) (fun r_2 u H locs h hw => ?_)
  obtain ⟨vM_1, rfl⟩ : ∃ z, z = u := ⟨_, rfl⟩
  refine lv_if_ne (tgt := 13) hx hb dX7_cell_6 (by decide) (fun c_8 => ?_) (fun c_8 => ?_)
  · replace h := h.1 c_8
    refine lv_iload_n hx hb dX7_cell_13 rfl (lv_at hl 2 rfl) ?_
    refine lv_iconst (v := 0) hx hb dX7_cell_14 (by decide) ?_
    refine lv_iconst (v := 3) hx hb dX7_cell_15 (by decide) ?_
    refine r_ci X hw pm_n (wn := fun (u : Unit) => (mW t aM vM_1)) (fun u => (pm_n).symm) (r_runS X hw (c_X7_within l D t p2 0 3 _ h) pm_n (va_cwS 3 X.1.2.2.2.2 gX7_cell_X7_within rfl rfl rfl (by decide +kernel) ⟨Nat.le_of_ble_eq_true rfl, Nat.le_of_ble_eq_true rfl⟩) rfl hl rfl (Nat.le_of_ble_eq_true rfl) dX7_cell_16 ⟨Nat.le_of_ble_eq_true rfl, Nat.le_of_ble_eq_true rfl⟩) (fun r_3 u H locs h hw => ?_)
    refine lv_if_eq (tgt := 26) hx hb dX7_cell_19 (by decide) (fun c_7 => ?_) (fun c_7 => ?_)
    · replace h := h.1 c_7
      refine lv_iconst (v := 2) hx hb dX7_cell_26 (by decide) ?_
      exact k_X7_cell_27 X aM _ _ _ _ _ _ _ h hw hl
    replace h := h.2 c_7
    refine lv_iconst (v := 0) hx hb dX7_cell_22 (by decide) ?_
    refine lv_goto (tgt := 27) hx hb dX7_cell_23 (by decide) ?_
    exact k_X7_cell_27 X aM _ _ _ _ _ _ _ h hw hl
  replace h := h.2 c_8
  refine lv_iconst (v := 1) hx hb dX7_cell_9 (by decide) ?_
  refine lv_goto (tgt := 27) hx hb dX7_cell_10 (by decide) ?_
  exact k_X7_cell_27 X aM _ _ _ _ _ _ _ h hw hl
/-! X7_colorNow -/
theorem in_X7_colorNow_X7 : ∀ w ∈ u_ws RX7 TX7 16, w ∈ wsX7_colorNow := fun w h => (List.mem_cons_of_mem _ (List.mem_append_right _ h))
theorem fl_X7_colorNow_7 : Cond.fieldLink RX7 7 "TwoFacedTilesModel" "z" "[I" ∈ wsX7_colorNow := List.mem_of_getElem? (i := 1) rfl
def wp_X7_colorNow (vM : MV) (p1 : Int32) (p2 : Int32) (p3 : Int32) (Q : Int32 → MV → Prop) : Prop := vp_in (28 + p1) 52 ∧ (¬ ((MV.z vM) (Int32.toNatClampNeg (28 + p1))) = (-1) → vp_in (28 + p1) 52 ∧ wp_X7_colorOf vM ((MV.z vM) (Int32.toNatClampNeg (28 + p1))) p2 p3 (fun (r_4 : Int32) (vM_3 : MV) => Q r_4 vM_3)) ∧ (((MV.z vM) (Int32.toNatClampNeg (28 + p1))) = (-1) → Q (-1) vM)
set_option maxHeartbeats 4000000 in
set_option maxRecDepth 100000 in
theorem c_X7_colorNow (l : Launch) (D : va_G) (t : T3) (aM : MA) (vM : MV) (p1 : Int32) (p2 : Int32) (p3 : Int32) (Q : Int32 → MV → Prop) (h : wp_X7_colorNow vM p1 p2 p3 Q) : Ct l yX7_colorNow wsX7_colorNow 2 49 0 0 [.ref (MA.o aM), .int p1, .int p2, .int p3] D t (mW t aM vM) (fun sz => Qi D (mW t aM vM) (fun (u : MV) => (mW t aM u)) (fun (r : Int32) (u : MV) => Q r u) sz) := by
  refine Ct.of (Qf := fun _ A => va_Qi (fun (r : Int32) (u : MV) => Q r u) (B1 D (fun (u : MV) => (mW t aM u)) A) A) cX7_colorNow 4 (some .int) (by decide) rfl (Nat.le_of_ble_eq_true rfl) ?_
  intro p e s m below meth c A ls hAe hin X hw hl
  generalize ([.ref (MA.o aM), .int p1, .int p2, .int p3] : List Value).toArray = args at X ⊢
  have hl : lv_has ls 4 [(0, .ref (MA.o aM)), (1, .int p1), (2, .int p2), (3, .int p3)] := hl
  have hx := X.1.1
  have hb := X.1.2.1
  refine lv_aload_n hx hb dX7_colorNow_0 rfl (lv_at hl 0 rfl) ?_
  refine r_get (ci := 7) (C := RX7) (T := TX7) (N := 16) X hw 0 rfl rfl 1 (by decide) in_X7_colorNow_X7 fl_X7_colorNow_7 (v := .ref (MA.z aM)) rfl dX7_colorNow_1 ?_
  refine lv_bipush (v := 28) hx hb dX7_colorNow_4 (by decide) ?_
  refine lv_iload_n hx hb dX7_colorNow_6 rfl (lv_at hl 1 rfl) ?_
  refine lv_iadd hx hb dX7_colorNow_7 ?_
  obtain ⟨hi_1, h⟩ := h
  refine r_iald (v := ((MV.z vM) (Int32.toNatClampNeg (28 + p1)))) X hw 1 rfl hi_1 rfl dX7_colorNow_8 ?_
  refine lv_iconst (v := (-1)) hx hb dX7_colorNow_9 (by decide) ?_
  refine lv_icmp_ne (tgt := 17) hx hb dX7_colorNow_10 (by decide) (fun c_5 => ?_) (fun c_5 => ?_)
  · replace h := h.1 c_5
    refine lv_aload_n hx hb dX7_colorNow_17 rfl (lv_at hl 0 rfl) ?_
    refine lv_aload_n hx hb dX7_colorNow_18 rfl (lv_at hl 0 rfl) ?_
    refine r_get (ci := 7) (C := RX7) (T := TX7) (N := 16) X hw 0 rfl rfl 1 (by decide) in_X7_colorNow_X7 fl_X7_colorNow_7 (v := .ref (MA.z aM)) rfl dX7_colorNow_19 ?_
    refine lv_bipush (v := 28) hx hb dX7_colorNow_22 (by decide) ?_
    refine lv_iload_n hx hb dX7_colorNow_24 rfl (lv_at hl 1 rfl) ?_
    refine lv_iadd hx hb dX7_colorNow_25 ?_
    obtain ⟨hi_2, h⟩ := h
    refine r_iald (v := ((MV.z vM) (Int32.toNatClampNeg (28 + p1)))) X hw 1 rfl hi_2 rfl dX7_colorNow_26 ?_
    refine lv_iload_n hx hb dX7_colorNow_27 rfl (lv_at hl 2 rfl) ?_
    refine lv_iload_n hx hb dX7_colorNow_28 rfl (lv_at hl 3 rfl) ?_
    refine r_ci X hw pm_0 (wn := fun (u : MV) => (mW t aM u)) (fun u => pm_0.symm) (r_runV X hw (c_X7_colorOf l D t aM vM ((MV.z vM) (Int32.toNatClampNeg (28 + p1))) p2 p3 _ h) pm_0 (cwV 3 X.1.2.2.2.2 gX7_colorNow_X7_colorOf rfl rfl rfl (by decide +kernel) ⟨Nat.le_of_ble_eq_true rfl, Nat.le_of_ble_eq_true rfl⟩) (ci := 7) rfl rfl rfl rfl hl rfl (Nat.le_of_ble_eq_true rfl) dX7_colorNow_29 ⟨Nat.le_of_ble_eq_true rfl, Nat.le_of_ble_eq_true rfl⟩) (fun r_4 u H locs h hw => ?_)
    obtain ⟨vM_3, rfl⟩ : ∃ z, z = u := ⟨_, rfl⟩
    exact e_i (w1 := (fun (u : MV) => (mW t aM u))) X (vM_3) hw h dX7_colorNow_32
  replace h := h.2 c_5
  refine lv_iconst (v := (-1)) hx hb dX7_colorNow_13 (by decide) ?_
  refine lv_goto (tgt := 32) hx hb dX7_colorNow_14 (by decide) ?_
  exact e_i (w1 := (fun (u : MV) => (mW t aM u))) X (vM) hw h dX7_colorNow_32
/-! X7_color -/
theorem in_X7_color_X7 : ∀ w ∈ u_ws RX7 TX7 16, w ∈ wsX7_color := fun w h => (List.mem_cons_of_mem _ (List.mem_append_right _ h))
theorem fl_X7_color_34 : Cond.fieldLink RX7 34 "TwoFacedTilesModel" "thrown" "I" ∈ wsX7_color := List.mem_of_getElem? (i := 1) rfl
def wp_X7_color_23 (Q : Int32 → MV → Prop) (vM : MV) (x1 : Int32) (x2 : Int32) (x3 : Int32) (t1 : Int32) : Prop := (t1 ≤ 0 → wp_X7_colorNow (MV.s_thrown vM t1) x1 x2 x3 (fun (r_4 : Int32) (vM_3 : MV) => Q r_4 vM_3)) ∧ (¬ t1 ≤ 0 → Q 0 (MV.s_thrown vM t1))
set_option maxHeartbeats 4000000 in
set_option maxRecDepth 100000 in
theorem k_X7_color_23 {p : Program} {l : Launch} {e : Env} {s : State} {m : MethodId} {below : List Frame} {meth : Method} {c : Code} {args : Array Value} {D : va_G} {t : T3} {A : Nat → Prop} (X : Cx p s m meth c args cX7_color 4 (some .int) RX7 wsX7_color D t A) (aM : MA) {Q : Int32 → MV → Prop}  : ∀ (vM : MV) (x1 : Int32) (x2 : Int32) (x3 : Int32) (t1 : Int32) (H : Heap) (locs : List Loc) (ls : Array Slot), wp_X7_color_23 Q vM x1 x2 x3 t1 → Wd D A s.heap (mW t aM vM) H locs → lv_has ls 4 [(0, .ref (MA.o aM)), (1, .int x1), (2, .int x2), (3, .int x3)] → W p l e ({ frames := 3, cells := 0, slots := 0, locals := 72 } : Room) s m args below meth c H locs 0 0 (Ei below args s A D (fun (u : MV) => (mW t aM u)) (fun (r : Int32) (u : MV) => Q r u) 0 0) (F0 m 23 ls [.int t1, .ref (MA.o aM)]) := by
  intro vM x1 x2 x3 t1 H locs ls h hw hl
  have hx := X.1.1
  have hb := X.1.2.1
  refine r_put (ci := 7) (C := RX7) (T := TX7) (N := 16) (v := .int t1) (ws' := (mW t aM (MV.s_thrown vM t1))) X hw 0 rfl rfl 0 (by decide) in_X7_color_X7 tyX7 tyX7_ok nmX7 fl_X7_color_34 rfl rfl rfl (Nat.le_of_ble_eq_true rfl) rfl dX7_color_23 (fun H locs hw => ?_)
  refine lv_aload_n hx hb dX7_color_26 rfl (lv_at hl 0 rfl) ?_
  refine r_get (ci := 7) (C := RX7) (T := TX7) (N := 16) X hw 0 rfl rfl 0 (by decide) in_X7_color_X7 fl_X7_color_34 (v := .int t1) rfl dX7_color_27 ?_
  refine lv_if_le (tgt := 37) hx hb dX7_color_30 (by decide) (fun c_5 => ?_) (fun c_5 => ?_)
  · replace h := h.1 c_5
    refine lv_aload_n hx hb dX7_color_37 rfl (lv_at hl 0 rfl) ?_
    refine lv_iload_n hx hb dX7_color_38 rfl (lv_at hl 1 rfl) ?_
    refine lv_iload_n hx hb dX7_color_39 rfl (lv_at hl 2 rfl) ?_
    refine lv_iload_n hx hb dX7_color_40 rfl (lv_at hl 3 rfl) ?_
    refine r_ci X hw pm_0 (wn := fun (u : MV) => (mW t aM u)) (fun u => pm_0.symm) (r_runV X hw (c_X7_colorNow l D t aM (MV.s_thrown vM t1) x1 x2 x3 _ h) pm_0 (cwV 3 X.1.2.2.2.2 gX7_color_X7_colorNow rfl rfl rfl (by decide +kernel) ⟨Nat.le_of_ble_eq_true rfl, Nat.le_of_ble_eq_true rfl⟩) (ci := 7) rfl rfl rfl rfl hl rfl (Nat.le_of_ble_eq_true rfl) dX7_color_41 ⟨Nat.le_of_ble_eq_true rfl, Nat.le_of_ble_eq_true rfl⟩) (fun r_4 u H locs h hw => ?_)
    obtain ⟨vM_3, rfl⟩ : ∃ z, z = u := ⟨_, rfl⟩
    exact e_i (w1 := (fun (u : MV) => (mW t aM u))) X (vM_3) hw h dX7_color_44
  replace h := h.2 c_5
  refine lv_iconst (v := 0) hx hb dX7_color_33 (by decide) ?_
  refine lv_goto (tgt := 44) hx hb dX7_color_34 (by decide) ?_
  exact e_i (w1 := (fun (u : MV) => (mW t aM u))) X ((MV.s_thrown vM t1)) hw h dX7_color_44
def wp_X7_color_22 (Q : Int32 → MV → Prop) (vM : MV) (x1 : Int32) (x2 : Int32) (x3 : Int32) : Prop := wp_X7_color_23  Q vM x1 x2 x3 1
set_option maxHeartbeats 4000000 in
set_option maxRecDepth 100000 in
theorem k_X7_color_22 {p : Program} {l : Launch} {e : Env} {s : State} {m : MethodId} {below : List Frame} {meth : Method} {c : Code} {args : Array Value} {D : va_G} {t : T3} {A : Nat → Prop} (X : Cx p s m meth c args cX7_color 4 (some .int) RX7 wsX7_color D t A) (aM : MA) {Q : Int32 → MV → Prop}  : ∀ (vM : MV) (x1 : Int32) (x2 : Int32) (x3 : Int32) (H : Heap) (locs : List Loc) (ls : Array Slot), wp_X7_color_22 Q vM x1 x2 x3 → Wd D A s.heap (mW t aM vM) H locs → lv_has ls 4 [(0, .ref (MA.o aM)), (1, .int x1), (2, .int x2), (3, .int x3)] → W p l e ({ frames := 3, cells := 0, slots := 0, locals := 72 } : Room) s m args below meth c H locs 0 0 (Ei below args s A D (fun (u : MV) => (mW t aM u)) (fun (r : Int32) (u : MV) => Q r u) 0 0) (F0 m 22 ls [.ref (MA.o aM)]) := by
  intro vM x1 x2 x3 H locs ls h hw hl
  have hx := X.1.1
  have hb := X.1.2.1
  refine lv_iconst (v := 1) hx hb dX7_color_22 (by decide) ?_
  exact k_X7_color_23 X aM _ _ _ _ _ _ _ _ h hw hl
def wp_X7_color (vM : MV) (p1 : Int32) (p2 : Int32) (p3 : Int32) (Q : Int32 → MV → Prop) : Prop := wp_X7_isCell vM p1 (fun (r_2 : Int32) (vM_1 : MV) => (r_2 = 0 → wp_X7_color_22  Q vM_1 p1 p2 p3) ∧ (¬ r_2 = 0 → wp_X7_within  p2 0 3 (fun (r_6 : Int32) => (r_6 = 0 → wp_X7_color_22  Q vM_1 p1 p2 p3) ∧ (¬ r_6 = 0 → wp_X7_color_23  Q vM_1 p1 p2 p3 0))))
set_option maxHeartbeats 4000000 in
set_option maxRecDepth 100000 in
theorem c_X7_color (l : Launch) (D : va_G) (t : T3) (aM : MA) (vM : MV) (p1 : Int32) (p2 : Int32) (p3 : Int32) (Q : Int32 → MV → Prop) (h : wp_X7_color vM p1 p2 p3 Q) : Ct l yX7_color wsX7_color 3 72 0 0 [.ref (MA.o aM), .int p1, .int p2, .int p3] D t (mW t aM vM) (fun sz => Qi D (mW t aM vM) (fun (u : MV) => (mW t aM u)) (fun (r : Int32) (u : MV) => Q r u) sz) := by
  refine Ct.of (Qf := fun _ A => va_Qi (fun (r : Int32) (u : MV) => Q r u) (B1 D (fun (u : MV) => (mW t aM u)) A) A) cX7_color 4 (some .int) (by decide) rfl (Nat.le_of_ble_eq_true rfl) ?_
  intro p e s m below meth c A ls hAe hin X hw hl
  generalize ([.ref (MA.o aM), .int p1, .int p2, .int p3] : List Value).toArray = args at X ⊢
  have hl : lv_has ls 4 [(0, .ref (MA.o aM)), (1, .int p1), (2, .int p2), (3, .int p3)] := hl
  have hx := X.1.1
  have hb := X.1.2.1
  refine lv_aload_n hx hb dX7_color_0 rfl (lv_at hl 0 rfl) ?_
  refine lv_aload_n hx hb dX7_color_1 rfl (lv_at hl 0 rfl) ?_
  refine lv_iload_n hx hb dX7_color_2 rfl (lv_at hl 1 rfl) ?_
  refine r_ci X hw pm_0 (wn := fun (u : MV) => (mW t aM u)) (fun u => pm_0.symm) (r_runV X hw (c_X7_isCell l D t aM vM p1 _ h) pm_0 (cwV 1 X.1.2.2.2.2 gX7_color_X7_isCell rfl rfl rfl (by decide +kernel) ⟨Nat.le_of_ble_eq_true rfl, Nat.le_of_ble_eq_true rfl⟩) (ci := 7) rfl rfl rfl rfl hl rfl (Nat.le_of_ble_eq_true rfl) dX7_color_3 ⟨Nat.le_of_ble_eq_true rfl, Nat.le_of_ble_eq_true rfl⟩) (fun r_2 u H locs h hw => ?_)
  obtain ⟨vM_1, rfl⟩ : ∃ z, z = u := ⟨_, rfl⟩
  refine lv_if_eq (tgt := 22) hx hb dX7_color_6 (by decide) (fun c_8 => ?_) (fun c_8 => ?_)
  · replace h := h.1 c_8
    exact k_X7_color_22 X aM _ _ _ _ _ _ _ h hw hl
  replace h := h.2 c_8
  refine lv_iload_n hx hb dX7_color_9 rfl (lv_at hl 2 rfl) ?_
  refine lv_iconst (v := 0) hx hb dX7_color_10 (by decide) ?_
  refine lv_iconst (v := 3) hx hb dX7_color_11 (by decide) ?_
  refine r_ci X hw pm_n (wn := fun (u : Unit) => (mW t aM vM_1)) (fun u => (pm_n).symm) (r_runS X hw (c_X7_within l D t p2 0 3 _ h) pm_n (va_cwS 3 X.1.2.2.2.2 gX7_color_X7_within rfl rfl rfl (by decide +kernel) ⟨Nat.le_of_ble_eq_true rfl, Nat.le_of_ble_eq_true rfl⟩) rfl hl rfl (Nat.le_of_ble_eq_true rfl) dX7_color_12 ⟨Nat.le_of_ble_eq_true rfl, Nat.le_of_ble_eq_true rfl⟩) (fun r_6 u H locs h hw => ?_)
  refine lv_if_eq (tgt := 22) hx hb dX7_color_15 (by decide) (fun c_7 => ?_) (fun c_7 => ?_)
  · replace h := h.1 c_7
    exact k_X7_color_22 X aM _ _ _ _ _ _ _ h hw hl
  replace h := h.2 c_7
  refine lv_iconst (v := 0) hx hb dX7_color_18 (by decide) ?_
  refine lv_goto (tgt := 23) hx hb dX7_color_19 (by decide) ?_
  exact k_X7_color_23 X aM _ _ _ _ _ _ _ _ h hw hl
/-! X7_looksLike -/
def wp_X7_looksLike_84 (P : MV → Int32 → Int32 → Int32 → Int32 → Int32 → Prop) (K92 : MV → Int32 → Int32 → Int32 → Int32 → Prop) (Q : Int32 → MV → Prop) (vM : MV) (x1 : Int32) (x2 : Int32) (x3 : Int32) (x5 : Int32) (t0 : Int32) : Prop := ∀ x5_1 : Int32, x5_1 = x5 + 1 → P vM x1 x2 x3 t0 x5_1
set_option maxHeartbeats 4000000 in
set_option maxRecDepth 100000 in
theorem k_X7_looksLike_84 {p : Program} {l : Launch} {e : Env} {s : State} {m : MethodId} {below : List Frame} {meth : Method} {c : Code} {args : Array Value} {D : va_G} {t : T3} {A : Nat → Prop} (X : Cx p s m meth c args cX7_looksLike 6 (some .boolean) RX7 wsX7_looksLike D t A) (aM : MA) {P : MV → Int32 → Int32 → Int32 → Int32 → Int32 → Prop} {K92 : MV → Int32 → Int32 → Int32 → Int32 → Prop} {Q : Int32 → MV → Prop} (hP : ∀ (vM : MV) (x1 : Int32) (x2 : Int32) (x3 : Int32) (x4 : Int32) (x5 : Int32) (H : Heap) (locs : List Loc) (ls : Array Slot), P vM x1 x2 x3 x4 x5 → Wd D A s.heap (mW t aM vM) H locs → lv_has ls 6 [(0, .ref (MA.o aM)), (1, .int x1), (2, .int x2), (3, .int x3), (4, .int x4), (5, .int x5)] → W p l e ({ frames := 2, cells := 0, slots := 0, locals := 49 } : Room) s m args below meth c H locs 0 0 (Ei below args s A D (fun (u : MV) => (mW t aM u)) (fun (r : Int32) (u : MV) => Q r u) 0 0) (F0 m 14 ls [])) (hK92 : ∀ (vM : MV) (x1 : Int32) (x2 : Int32) (x3 : Int32) (x4 : Int32) (H : Heap) (locs : List Loc) (ls : Array Slot), K92 vM x1 x2 x3 x4 → Wd D A s.heap (mW t aM vM) H locs → lv_has ls 6 [(0, .ref (MA.o aM)), (1, .int x1), (2, .int x2), (3, .int x3), (4, .int x4)] → W p l e ({ frames := 2, cells := 0, slots := 0, locals := 49 } : Room) s m args below meth c H locs 0 0 (Ei below args s A D (fun (u : MV) => (mW t aM u)) (fun (r : Int32) (u : MV) => Q r u) 0 0) (F0 m 92 ls [])) : ∀ (vM : MV) (x1 : Int32) (x2 : Int32) (x3 : Int32) (x5 : Int32) (t0 : Int32) (H : Heap) (locs : List Loc) (ls : Array Slot), wp_X7_looksLike_84 P K92 Q vM x1 x2 x3 x5 t0 → Wd D A s.heap (mW t aM vM) H locs → lv_has ls 6 [(0, .ref (MA.o aM)), (1, .int x1), (2, .int x2), (3, .int x3), (5, .int x5)] → W p l e ({ frames := 2, cells := 0, slots := 0, locals := 49 } : Room) s m args below meth c H locs 0 0 (Ei below args s A D (fun (u : MV) => (mW t aM u)) (fun (r : Int32) (u : MV) => Q r u) 0 0) (F0 m 84 ls [.int t0]) := by
  intro vM x1 x2 x3 x5 t0 H locs ls h hw hl
  have hx := X.1.1
  have hb := X.1.2.1
  refine lv_istore (lv' := [(4, .int t0), (0, .ref (MA.o aM)), (1, .int x1), (2, .int x2), (3, .int x3), (5, .int x5)]) hx hb dX7_looksLike_84 hl (by decide) rfl (fun ls hl => ?_)
  obtain ⟨x5_1, ex5_1⟩ : ∃ z : Int32, z = x5 + 1 := ⟨_, rfl⟩
  replace h := h x5_1 ex5_1
  refine lv_iinc (v := x5_1) (lv' := [(5, .int x5_1), (4, .int t0), (0, .ref (MA.o aM)), (1, .int x1), (2, .int x2), (3, .int x3)]) hx hb dX7_looksLike_86 hl (k := 5) rfl (by rw [ex5_1]; rfl) (by decide) rfl (fun ls hl => ?_)
  refine lv_goto (tgt := 14) hx hb dX7_looksLike_89 (by decide) ?_
  exact hP _ _ _ _ _ _ _ _ _ h hw (lv_sub hl [2, 3, 4, 5, 1, 0] rfl)
def wp_X7_looksLike_83 (P : MV → Int32 → Int32 → Int32 → Int32 → Int32 → Prop) (K92 : MV → Int32 → Int32 → Int32 → Int32 → Prop) (Q : Int32 → MV → Prop) (vM : MV) (x1 : Int32) (x2 : Int32) (x3 : Int32) (x5 : Int32) : Prop := wp_X7_looksLike_84  P K92 Q vM x1 x2 x3 x5 0
set_option maxHeartbeats 4000000 in
set_option maxRecDepth 100000 in
theorem k_X7_looksLike_83 {p : Program} {l : Launch} {e : Env} {s : State} {m : MethodId} {below : List Frame} {meth : Method} {c : Code} {args : Array Value} {D : va_G} {t : T3} {A : Nat → Prop} (X : Cx p s m meth c args cX7_looksLike 6 (some .boolean) RX7 wsX7_looksLike D t A) (aM : MA) {P : MV → Int32 → Int32 → Int32 → Int32 → Int32 → Prop} {K92 : MV → Int32 → Int32 → Int32 → Int32 → Prop} {Q : Int32 → MV → Prop} (hP : ∀ (vM : MV) (x1 : Int32) (x2 : Int32) (x3 : Int32) (x4 : Int32) (x5 : Int32) (H : Heap) (locs : List Loc) (ls : Array Slot), P vM x1 x2 x3 x4 x5 → Wd D A s.heap (mW t aM vM) H locs → lv_has ls 6 [(0, .ref (MA.o aM)), (1, .int x1), (2, .int x2), (3, .int x3), (4, .int x4), (5, .int x5)] → W p l e ({ frames := 2, cells := 0, slots := 0, locals := 49 } : Room) s m args below meth c H locs 0 0 (Ei below args s A D (fun (u : MV) => (mW t aM u)) (fun (r : Int32) (u : MV) => Q r u) 0 0) (F0 m 14 ls [])) (hK92 : ∀ (vM : MV) (x1 : Int32) (x2 : Int32) (x3 : Int32) (x4 : Int32) (H : Heap) (locs : List Loc) (ls : Array Slot), K92 vM x1 x2 x3 x4 → Wd D A s.heap (mW t aM vM) H locs → lv_has ls 6 [(0, .ref (MA.o aM)), (1, .int x1), (2, .int x2), (3, .int x3), (4, .int x4)] → W p l e ({ frames := 2, cells := 0, slots := 0, locals := 49 } : Room) s m args below meth c H locs 0 0 (Ei below args s A D (fun (u : MV) => (mW t aM u)) (fun (r : Int32) (u : MV) => Q r u) 0 0) (F0 m 92 ls [])) : ∀ (vM : MV) (x1 : Int32) (x2 : Int32) (x3 : Int32) (x5 : Int32) (H : Heap) (locs : List Loc) (ls : Array Slot), wp_X7_looksLike_83 P K92 Q vM x1 x2 x3 x5 → Wd D A s.heap (mW t aM vM) H locs → lv_has ls 6 [(0, .ref (MA.o aM)), (1, .int x1), (2, .int x2), (3, .int x3), (5, .int x5)] → W p l e ({ frames := 2, cells := 0, slots := 0, locals := 49 } : Room) s m args below meth c H locs 0 0 (Ei below args s A D (fun (u : MV) => (mW t aM u)) (fun (r : Int32) (u : MV) => Q r u) 0 0) (F0 m 83 ls []) := by
  intro vM x1 x2 x3 x5 H locs ls h hw hl
  have hx := X.1.1
  have hb := X.1.2.1
  refine lv_iconst (v := 0) hx hb dX7_looksLike_83 (by decide) ?_
  exact k_X7_looksLike_84 X aM hP hK92 _ _ _ _ _ _ _ _ _ h hw hl
def bd_X7_looksLike_14 (Q : Int32 → MV → Prop) (P : MV → Int32 → Int32 → Int32 → Int32 → Int32 → Prop) (K92 : MV → Int32 → Int32 → Int32 → Int32 → Prop) (vM : MV) (x1 : Int32) (x2 : Int32) (x3 : Int32) (x4 : Int32) (x5 : Int32) : Prop := (4 ≤ x5 → K92 vM x1 x2 x3 x4) ∧ (¬ 4 ≤ x5 → (x4 = 0 → wp_X7_looksLike_83  P K92 Q vM x1 x2 x3 x5) ∧ (¬ x4 = 0 → wp_X7_colorOf vM ((8 * x1) + x3) x5 0 (fun (r_3 : Int32) (vM_2 : MV) => wp_X7_colorOf vM_2 (8 * x2) x5 0 (fun (r_5 : Int32) (vM_4 : MV) => (¬ r_3 = r_5 → wp_X7_looksLike_83  P K92 Q vM_4 x1 x2 x3 x5) ∧ (r_3 = r_5 → wp_X7_colorOf vM_4 ((8 * x1) + x3) x5 1 (fun (r_7 : Int32) (vM_6 : MV) => wp_X7_colorOf vM_6 (8 * x2) x5 1 (fun (r_9 : Int32) (vM_8 : MV) => (¬ r_7 = r_9 → wp_X7_looksLike_83  P K92 Q vM_8 x1 x2 x3 x5) ∧ (r_7 = r_9 → wp_X7_looksLike_84  P K92 Q vM_8 x1 x2 x3 x5 1))))))))
def wp_X7_looksLike_14 (Q : Int32 → MV → Prop) (K92 : MV → Int32 → Int32 → Int32 → Int32 → Prop) (vM : MV) (x1 : Int32) (x2 : Int32) (x3 : Int32) (x4 : Int32) (x5 : Int32) : Prop := ∀ P : MV → Int32 → Int32 → Int32 → Int32 → Int32 → Prop, (∀ (vM : MV) (x1 : Int32) (x2 : Int32) (x3 : Int32) (x4 : Int32) (x5 : Int32), bd_X7_looksLike_14 Q P K92 vM x1 x2 x3 x4 x5 → P vM x1 x2 x3 x4 x5) → P vM x1 x2 x3 x4 x5
set_option maxHeartbeats 4000000 in
set_option maxRecDepth 100000 in
theorem kb_X7_looksLike_14 {p : Program} {l : Launch} {e : Env} {s : State} {m : MethodId} {below : List Frame} {meth : Method} {c : Code} {args : Array Value} {D : va_G} {t : T3} {A : Nat → Prop} (X : Cx p s m meth c args cX7_looksLike 6 (some .boolean) RX7 wsX7_looksLike D t A) (aM : MA) {Q : Int32 → MV → Prop} {P : MV → Int32 → Int32 → Int32 → Int32 → Int32 → Prop} {K92 : MV → Int32 → Int32 → Int32 → Int32 → Prop} (hP : ∀ (vM : MV) (x1 : Int32) (x2 : Int32) (x3 : Int32) (x4 : Int32) (x5 : Int32) (H : Heap) (locs : List Loc) (ls : Array Slot), P vM x1 x2 x3 x4 x5 → Wd D A s.heap (mW t aM vM) H locs → lv_has ls 6 [(0, .ref (MA.o aM)), (1, .int x1), (2, .int x2), (3, .int x3), (4, .int x4), (5, .int x5)] → W p l e ({ frames := 2, cells := 0, slots := 0, locals := 49 } : Room) s m args below meth c H locs 0 0 (Ei below args s A D (fun (u : MV) => (mW t aM u)) (fun (r : Int32) (u : MV) => Q r u) 0 0) (F0 m 14 ls [])) (hK92 : ∀ (vM : MV) (x1 : Int32) (x2 : Int32) (x3 : Int32) (x4 : Int32) (H : Heap) (locs : List Loc) (ls : Array Slot), K92 vM x1 x2 x3 x4 → Wd D A s.heap (mW t aM vM) H locs → lv_has ls 6 [(0, .ref (MA.o aM)), (1, .int x1), (2, .int x2), (3, .int x3), (4, .int x4)] → W p l e ({ frames := 2, cells := 0, slots := 0, locals := 49 } : Room) s m args below meth c H locs 0 0 (Ei below args s A D (fun (u : MV) => (mW t aM u)) (fun (r : Int32) (u : MV) => Q r u) 0 0) (F0 m 92 ls [])) : ∀ (vM : MV) (x1 : Int32) (x2 : Int32) (x3 : Int32) (x4 : Int32) (x5 : Int32) (H : Heap) (locs : List Loc) (ls : Array Slot), bd_X7_looksLike_14 Q P K92 vM x1 x2 x3 x4 x5 → Wd D A s.heap (mW t aM vM) H locs → lv_has ls 6 [(0, .ref (MA.o aM)), (1, .int x1), (2, .int x2), (3, .int x3), (4, .int x4), (5, .int x5)] → W p l e ({ frames := 2, cells := 0, slots := 0, locals := 49 } : Room) s m args below meth c H locs 0 0 (Ei below args s A D (fun (u : MV) => (mW t aM u)) (fun (r : Int32) (u : MV) => Q r u) 0 0) (F0 m 14 ls []) := by
  intro vM x1 x2 x3 x4 x5 H locs ls h hw hl
  have hx := X.1.1
  have hb := X.1.2.1
  refine lv_iload hx hb dX7_looksLike_14 (lv_at hl 5 rfl) ?_
  refine lv_iconst (v := 4) hx hb dX7_looksLike_16 (by decide) ?_
  refine lv_icmp_ge (tgt := 92) hx hb dX7_looksLike_17 (by decide) (fun c_13 => ?_) (fun c_13 => ?_)
  · replace h := h.1 c_13
    exact hK92 _ _ _ _ _ _ _ _ h hw (lv_sub hl [0, 1, 2, 3, 4] rfl)
  replace h := h.2 c_13
  refine lv_iload hx hb dX7_looksLike_20 (lv_at hl 4 rfl) ?_
  refine lv_if_eq (tgt := 83) hx hb dX7_looksLike_22 (by decide) (fun c_12 => ?_) (fun c_12 => ?_)
  · replace h := h.1 c_12
    exact k_X7_looksLike_83 X aM hP hK92 _ _ _ _ _ _ _ _ h hw (lv_sub hl [0, 1, 2, 3, 5] rfl)
  replace h := h.2 c_12
  refine lv_aload_n hx hb dX7_looksLike_25 rfl (lv_at hl 0 rfl) ?_
  refine lv_bipush (v := 8) hx hb dX7_looksLike_26 (by decide) ?_
  refine lv_iload_n hx hb dX7_looksLike_28 rfl (lv_at hl 1 rfl) ?_
  refine lv_imul hx hb dX7_looksLike_29 ?_
  refine lv_iload_n hx hb dX7_looksLike_30 rfl (lv_at hl 3 rfl) ?_
  refine lv_iadd hx hb dX7_looksLike_31 ?_
  refine lv_iload hx hb dX7_looksLike_32 (lv_at hl 5 rfl) ?_
  refine lv_iconst (v := 0) hx hb dX7_looksLike_34 (by decide) ?_
  refine r_ci X hw pm_0 (wn := fun (u : MV) => (mW t aM u)) (fun u => pm_0.symm) (r_runV X hw (c_X7_colorOf l D t aM vM ((8 * x1) + x3) x5 0 _ h) pm_0 (cwV 3 X.1.2.2.2.2 gX7_looksLike_X7_colorOf rfl rfl rfl (by decide +kernel) ⟨Nat.le_of_ble_eq_true rfl, Nat.le_of_ble_eq_true rfl⟩) (ci := 7) rfl rfl rfl rfl hl rfl (Nat.le_of_ble_eq_true rfl) dX7_looksLike_35 ⟨Nat.le_of_ble_eq_true rfl, Nat.le_of_ble_eq_true rfl⟩) (fun r_3 u H locs h hw => ?_)
  obtain ⟨vM_2, rfl⟩ : ∃ z, z = u := ⟨_, rfl⟩
  refine lv_aload_n hx hb dX7_looksLike_38 rfl (lv_at hl 0 rfl) ?_
  refine lv_bipush (v := 8) hx hb dX7_looksLike_39 (by decide) ?_
  refine lv_iload_n hx hb dX7_looksLike_41 rfl (lv_at hl 2 rfl) ?_
  refine lv_imul hx hb dX7_looksLike_42 ?_
  refine lv_iload hx hb dX7_looksLike_43 (lv_at hl 5 rfl) ?_
  refine lv_iconst (v := 0) hx hb dX7_looksLike_45 (by decide) ?_
  refine r_ci X hw pm_0 (wn := fun (u : MV) => (mW t aM u)) (fun u => pm_0.symm) (r_runV X hw (c_X7_colorOf l D t aM vM_2 (8 * x2) x5 0 _ h) pm_0 (cwV 3 X.1.2.2.2.2 gX7_looksLike_X7_colorOf rfl rfl rfl (by decide +kernel) ⟨Nat.le_of_ble_eq_true rfl, Nat.le_of_ble_eq_true rfl⟩) (ci := 7) rfl rfl rfl rfl hl rfl (Nat.le_of_ble_eq_true rfl) dX7_looksLike_46 ⟨Nat.le_of_ble_eq_true rfl, Nat.le_of_ble_eq_true rfl⟩) (fun r_5 u H locs h hw => ?_)
  obtain ⟨vM_4, rfl⟩ : ∃ z, z = u := ⟨_, rfl⟩
  refine lv_icmp_ne (tgt := 83) hx hb dX7_looksLike_49 (by decide) (fun c_11 => ?_) (fun c_11 => ?_)
  · replace h := h.1 c_11
    exact k_X7_looksLike_83 X aM hP hK92 _ _ _ _ _ _ _ _ h hw (lv_sub hl [0, 1, 2, 3, 5] rfl)
  replace h := h.2 c_11
  refine lv_aload_n hx hb dX7_looksLike_52 rfl (lv_at hl 0 rfl) ?_
  refine lv_bipush (v := 8) hx hb dX7_looksLike_53 (by decide) ?_
  refine lv_iload_n hx hb dX7_looksLike_55 rfl (lv_at hl 1 rfl) ?_
  refine lv_imul hx hb dX7_looksLike_56 ?_
  refine lv_iload_n hx hb dX7_looksLike_57 rfl (lv_at hl 3 rfl) ?_
  refine lv_iadd hx hb dX7_looksLike_58 ?_
  refine lv_iload hx hb dX7_looksLike_59 (lv_at hl 5 rfl) ?_
  refine lv_iconst (v := 1) hx hb dX7_looksLike_61 (by decide) ?_
  refine r_ci X hw pm_0 (wn := fun (u : MV) => (mW t aM u)) (fun u => pm_0.symm) (r_runV X hw (c_X7_colorOf l D t aM vM_4 ((8 * x1) + x3) x5 1 _ h) pm_0 (cwV 3 X.1.2.2.2.2 gX7_looksLike_X7_colorOf rfl rfl rfl (by decide +kernel) ⟨Nat.le_of_ble_eq_true rfl, Nat.le_of_ble_eq_true rfl⟩) (ci := 7) rfl rfl rfl rfl hl rfl (Nat.le_of_ble_eq_true rfl) dX7_looksLike_62 ⟨Nat.le_of_ble_eq_true rfl, Nat.le_of_ble_eq_true rfl⟩) (fun r_7 u H locs h hw => ?_)
  obtain ⟨vM_6, rfl⟩ : ∃ z, z = u := ⟨_, rfl⟩
  refine lv_aload_n hx hb dX7_looksLike_65 rfl (lv_at hl 0 rfl) ?_
  refine lv_bipush (v := 8) hx hb dX7_looksLike_66 (by decide) ?_
  refine lv_iload_n hx hb dX7_looksLike_68 rfl (lv_at hl 2 rfl) ?_
  refine lv_imul hx hb dX7_looksLike_69 ?_
  refine lv_iload hx hb dX7_looksLike_70 (lv_at hl 5 rfl) ?_
  refine lv_iconst (v := 1) hx hb dX7_looksLike_72 (by decide) ?_
  refine r_ci X hw pm_0 (wn := fun (u : MV) => (mW t aM u)) (fun u => pm_0.symm) (r_runV X hw (c_X7_colorOf l D t aM vM_6 (8 * x2) x5 1 _ h) pm_0 (cwV 3 X.1.2.2.2.2 gX7_looksLike_X7_colorOf rfl rfl rfl (by decide +kernel) ⟨Nat.le_of_ble_eq_true rfl, Nat.le_of_ble_eq_true rfl⟩) (ci := 7) rfl rfl rfl rfl hl rfl (Nat.le_of_ble_eq_true rfl) dX7_looksLike_73 ⟨Nat.le_of_ble_eq_true rfl, Nat.le_of_ble_eq_true rfl⟩) (fun r_9 u H locs h hw => ?_)
  obtain ⟨vM_8, rfl⟩ : ∃ z, z = u := ⟨_, rfl⟩
  refine lv_icmp_ne (tgt := 83) hx hb dX7_looksLike_76 (by decide) (fun c_10 => ?_) (fun c_10 => ?_)
  · replace h := h.1 c_10
    exact k_X7_looksLike_83 X aM hP hK92 _ _ _ _ _ _ _ _ h hw (lv_sub hl [0, 1, 2, 3, 5] rfl)
  replace h := h.2 c_10
  refine lv_iconst (v := 1) hx hb dX7_looksLike_79 (by decide) ?_
  refine lv_goto (tgt := 84) hx hb dX7_looksLike_80 (by decide) ?_
  exact k_X7_looksLike_84 X aM hP hK92 _ _ _ _ _ _ _ _ _ h hw (lv_sub hl [0, 1, 2, 3, 5] rfl)
set_option maxHeartbeats 4000000 in
set_option maxRecDepth 100000 in
theorem k_X7_looksLike_14 {p : Program} {l : Launch} {e : Env} {s : State} {m : MethodId} {below : List Frame} {meth : Method} {c : Code} {args : Array Value} {D : va_G} {t : T3} {A : Nat → Prop} (X : Cx p s m meth c args cX7_looksLike 6 (some .boolean) RX7 wsX7_looksLike D t A) (aM : MA) {Q : Int32 → MV → Prop} {K92 : MV → Int32 → Int32 → Int32 → Int32 → Prop} (hK92 : ∀ (vM : MV) (x1 : Int32) (x2 : Int32) (x3 : Int32) (x4 : Int32) (H : Heap) (locs : List Loc) (ls : Array Slot), K92 vM x1 x2 x3 x4 → Wd D A s.heap (mW t aM vM) H locs → lv_has ls 6 [(0, .ref (MA.o aM)), (1, .int x1), (2, .int x2), (3, .int x3), (4, .int x4)] → W p l e ({ frames := 2, cells := 0, slots := 0, locals := 49 } : Room) s m args below meth c H locs 0 0 (Ei below args s A D (fun (u : MV) => (mW t aM u)) (fun (r : Int32) (u : MV) => Q r u) 0 0) (F0 m 92 ls [])) : ∀ (vM : MV) (x1 : Int32) (x2 : Int32) (x3 : Int32) (x4 : Int32) (x5 : Int32) (H : Heap) (locs : List Loc) (ls : Array Slot), wp_X7_looksLike_14 Q K92 vM x1 x2 x3 x4 x5 → Wd D A s.heap (mW t aM vM) H locs → lv_has ls 6 [(0, .ref (MA.o aM)), (1, .int x1), (2, .int x2), (3, .int x3), (4, .int x4), (5, .int x5)] → W p l e ({ frames := 2, cells := 0, slots := 0, locals := 49 } : Room) s m args below meth c H locs 0 0 (Ei below args s A D (fun (u : MV) => (mW t aM u)) (fun (r : Int32) (u : MV) => Q r u) 0 0) (F0 m 14 ls []) := by
  intro vM x1 x2 x3 x4 x5 H locs ls h hw hl
  have hx := X.1.1
  have hb := X.1.2.1
  refine h (fun (vM : MV) (x1 : Int32) (x2 : Int32) (x3 : Int32) (x4 : Int32) (x5 : Int32) => ∀ (H : Heap) (locs : List Loc) (ls : Array Slot), Wd D A s.heap (mW t aM vM) H locs → lv_has ls 6 [(0, .ref (MA.o aM)), (1, .int x1), (2, .int x2), (3, .int x3), (4, .int x4), (5, .int x5)] → W p l e ({ frames := 2, cells := 0, slots := 0, locals := 49 } : Room) s m args below meth c H locs 0 0 (Ei below args s A D (fun (u : MV) => (mW t aM u)) (fun (r : Int32) (u : MV) => Q r u) 0 0) (F0 m 14 ls [])) (fun vM x1 x2 x3 x4 x5 h H locs ls hw hl => ?_) H locs ls hw hl
  exact kb_X7_looksLike_14 X aM (fun vM x1 x2 x3 x4 x5 H locs ls q hw hl => q H locs ls hw hl) hK92 vM x1 x2 x3 x4 x5 _ _ _ h hw hl
def bd_X7_looksLike_2 (Q : Int32 → MV → Prop) (P : MV → Int32 → Int32 → Int32 → Prop) (vM : MV) (x1 : Int32) (x2 : Int32) (x3 : Int32) : Prop := (8 ≤ x3 → Q 0 vM) ∧ (¬ 8 ≤ x3 → wp_X7_looksLike_14 Q (fun (vM_14 : MV) (x1_15 : Int32) (x2_16 : Int32) (x3_17 : Int32) (x4_18 : Int32) => (x4_18 = 0 → ∀ x3_19 : Int32, x3_19 = x3_17 + 1 → P vM_14 x1_15 x2_16 x3_19) ∧ (¬ x4_18 = 0 → Q 1 vM_14)) vM x1 x2 x3 1 0)
def wp_X7_looksLike_2 (Q : Int32 → MV → Prop)  (vM : MV) (x1 : Int32) (x2 : Int32) (x3 : Int32) : Prop := ∀ P : MV → Int32 → Int32 → Int32 → Prop, (∀ (vM : MV) (x1 : Int32) (x2 : Int32) (x3 : Int32), bd_X7_looksLike_2 Q P  vM x1 x2 x3 → P vM x1 x2 x3) → P vM x1 x2 x3
set_option maxHeartbeats 4000000 in
set_option maxRecDepth 100000 in
theorem kb_X7_looksLike_2 {p : Program} {l : Launch} {e : Env} {s : State} {m : MethodId} {below : List Frame} {meth : Method} {c : Code} {args : Array Value} {D : va_G} {t : T3} {A : Nat → Prop} (X : Cx p s m meth c args cX7_looksLike 6 (some .boolean) RX7 wsX7_looksLike D t A) (aM : MA) {Q : Int32 → MV → Prop} {P : MV → Int32 → Int32 → Int32 → Prop} (hP : ∀ (vM : MV) (x1 : Int32) (x2 : Int32) (x3 : Int32) (H : Heap) (locs : List Loc) (ls : Array Slot), P vM x1 x2 x3 → Wd D A s.heap (mW t aM vM) H locs → lv_has ls 6 [(0, .ref (MA.o aM)), (1, .int x1), (2, .int x2), (3, .int x3)] → W p l e ({ frames := 2, cells := 0, slots := 0, locals := 49 } : Room) s m args below meth c H locs 0 0 (Ei below args s A D (fun (u : MV) => (mW t aM u)) (fun (r : Int32) (u : MV) => Q r u) 0 0) (F0 m 2 ls [])) : ∀ (vM : MV) (x1 : Int32) (x2 : Int32) (x3 : Int32) (H : Heap) (locs : List Loc) (ls : Array Slot), bd_X7_looksLike_2 Q P  vM x1 x2 x3 → Wd D A s.heap (mW t aM vM) H locs → lv_has ls 6 [(0, .ref (MA.o aM)), (1, .int x1), (2, .int x2), (3, .int x3)] → W p l e ({ frames := 2, cells := 0, slots := 0, locals := 49 } : Room) s m args below meth c H locs 0 0 (Ei below args s A D (fun (u : MV) => (mW t aM u)) (fun (r : Int32) (u : MV) => Q r u) 0 0) (F0 m 2 ls []) := by
  intro vM x1 x2 x3 H locs ls h hw hl
  have hx := X.1.1
  have hb := X.1.2.1
  refine lv_iload_n hx hb dX7_looksLike_2 rfl (lv_at hl 3 rfl) ?_
  refine lv_bipush (v := 8) hx hb dX7_looksLike_3 (by decide) ?_
  refine lv_icmp_ge (tgt := 105) hx hb dX7_looksLike_5 (by decide) (fun c_21 => ?_) (fun c_21 => ?_)
  · replace h := h.1 c_21
    refine lv_iconst (v := 0) hx hb dX7_looksLike_105 (by decide) ?_
    exact e_z (w1 := (fun (u : MV) => (mW t aM u))) X isB_0 (vM) hw h dX7_looksLike_106
  replace h := h.2 c_21
  refine lv_iconst (v := 1) hx hb dX7_looksLike_8 (by decide) ?_
  refine lv_istore (lv' := [(4, .int 1), (0, .ref (MA.o aM)), (1, .int x1), (2, .int x2), (3, .int x3)]) hx hb dX7_looksLike_9 hl (by decide) rfl (fun ls hl => ?_)
  refine lv_iconst (v := 0) hx hb dX7_looksLike_11 (by decide) ?_
  refine lv_istore (lv' := [(5, .int 0), (4, .int 1), (0, .ref (MA.o aM)), (1, .int x1), (2, .int x2), (3, .int x3)]) hx hb dX7_looksLike_12 hl (by decide) rfl (fun ls hl => ?_)
  refine k_X7_looksLike_14 X aM (fun vM_14 x1_15 x2_16 x3_17 x4_18 H locs ls h hw hl => ?_) _ _ _ _ _ _ _ _ _ h hw (lv_sub hl [2, 3, 4, 5, 1, 0] rfl)
  refine lv_iload hx hb dX7_looksLike_92 (lv_at hl 4 rfl) ?_
  refine lv_if_eq (tgt := 99) hx hb dX7_looksLike_94 (by decide) (fun c_20 => ?_) (fun c_20 => ?_)
  · replace h := h.1 c_20
    obtain ⟨x3_19, ex3_19⟩ : ∃ z : Int32, z = x3_17 + 1 := ⟨_, rfl⟩
    replace h := h x3_19 ex3_19
    refine lv_iinc (v := x3_19) (lv' := [(3, .int x3_19), (0, .ref (MA.o aM)), (1, .int x1_15), (2, .int x2_16), (4, .int x4_18)]) hx hb dX7_looksLike_99 hl (k := 3) rfl (by rw [ex3_19]; rfl) (by decide) rfl (fun ls hl => ?_)
    refine lv_goto (tgt := 2) hx hb dX7_looksLike_102 (by decide) ?_
    exact hP _ _ _ _ _ _ _ h hw (lv_sub hl [1, 2, 3, 0] rfl)
  replace h := h.2 c_20
  refine lv_iconst (v := 1) hx hb dX7_looksLike_97 (by decide) ?_
  exact e_z (w1 := (fun (u : MV) => (mW t aM u))) X isB_1 (vM_14) hw h dX7_looksLike_98
set_option maxHeartbeats 4000000 in
set_option maxRecDepth 100000 in
theorem k_X7_looksLike_2 {p : Program} {l : Launch} {e : Env} {s : State} {m : MethodId} {below : List Frame} {meth : Method} {c : Code} {args : Array Value} {D : va_G} {t : T3} {A : Nat → Prop} (X : Cx p s m meth c args cX7_looksLike 6 (some .boolean) RX7 wsX7_looksLike D t A) (aM : MA) {Q : Int32 → MV → Prop}   : ∀ (vM : MV) (x1 : Int32) (x2 : Int32) (x3 : Int32) (H : Heap) (locs : List Loc) (ls : Array Slot), wp_X7_looksLike_2 Q  vM x1 x2 x3 → Wd D A s.heap (mW t aM vM) H locs → lv_has ls 6 [(0, .ref (MA.o aM)), (1, .int x1), (2, .int x2), (3, .int x3)] → W p l e ({ frames := 2, cells := 0, slots := 0, locals := 49 } : Room) s m args below meth c H locs 0 0 (Ei below args s A D (fun (u : MV) => (mW t aM u)) (fun (r : Int32) (u : MV) => Q r u) 0 0) (F0 m 2 ls []) := by
  intro vM x1 x2 x3 H locs ls h hw hl
  have hx := X.1.1
  have hb := X.1.2.1
  refine h (fun (vM : MV) (x1 : Int32) (x2 : Int32) (x3 : Int32) => ∀ (H : Heap) (locs : List Loc) (ls : Array Slot), Wd D A s.heap (mW t aM vM) H locs → lv_has ls 6 [(0, .ref (MA.o aM)), (1, .int x1), (2, .int x2), (3, .int x3)] → W p l e ({ frames := 2, cells := 0, slots := 0, locals := 49 } : Room) s m args below meth c H locs 0 0 (Ei below args s A D (fun (u : MV) => (mW t aM u)) (fun (r : Int32) (u : MV) => Q r u) 0 0) (F0 m 2 ls [])) (fun vM x1 x2 x3 h H locs ls hw hl => ?_) H locs ls hw hl
  exact kb_X7_looksLike_2 X aM (fun vM x1 x2 x3 H locs ls q hw hl => q H locs ls hw hl)  vM x1 x2 x3 _ _ _ h hw hl
def wp_X7_looksLike (vM : MV) (p1 : Int32) (p2 : Int32) (Q : Int32 → MV → Prop) : Prop := wp_X7_looksLike_2 Q  vM p1 p2 0
set_option maxHeartbeats 4000000 in
set_option maxRecDepth 100000 in
theorem c_X7_looksLike (l : Launch) (D : va_G) (t : T3) (aM : MA) (vM : MV) (p1 : Int32) (p2 : Int32) (Q : Int32 → MV → Prop) (h : wp_X7_looksLike vM p1 p2 Q) : Ct l yX7_looksLike wsX7_looksLike 2 49 0 0 [.ref (MA.o aM), .int p1, .int p2] D t (mW t aM vM) (fun sz => Qi D (mW t aM vM) (fun (u : MV) => (mW t aM u)) (fun (r : Int32) (u : MV) => Q r u) sz) := by
  refine Ct.of (Qf := fun _ A => va_Qi (fun (r : Int32) (u : MV) => Q r u) (B1 D (fun (u : MV) => (mW t aM u)) A) A) cX7_looksLike 6 (some .boolean) (by decide) rfl (Nat.le_of_ble_eq_true rfl) ?_
  intro p e s m below meth c A ls hAe hin X hw hl
  generalize ([.ref (MA.o aM), .int p1, .int p2] : List Value).toArray = args at X ⊢
  have hl : lv_has ls 6 [(0, .ref (MA.o aM)), (1, .int p1), (2, .int p2)] := hl
  have hx := X.1.1
  have hb := X.1.2.1
  refine lv_iconst (v := 0) hx hb dX7_looksLike_0 (by decide) ?_
  refine lv_istore_n (lv' := [(3, .int 0), (0, .ref (MA.o aM)), (1, .int p1), (2, .int p2)]) hx hb dX7_looksLike_1 rfl hl (by decide) rfl (fun ls hl => ?_)
  refine k_X7_looksLike_2 X aM  _ _ _ _ _ _ _ h hw (lv_sub hl [1, 2, 3, 0] rfl)
/-! X7_tileNow -/
theorem in_X7_tileNow_X7 : ∀ w ∈ u_ws RX7 TX7 16, w ∈ wsX7_tileNow := fun w h => (List.mem_cons_of_mem _ (List.mem_append_right _ h))
theorem fl_X7_tileNow_7 : Cond.fieldLink RX7 7 "TwoFacedTilesModel" "z" "[I" ∈ wsX7_tileNow := List.mem_of_getElem? (i := 1) rfl
def bd_X7_tileNow_31 (Q : Int32 → MV → Prop) (P : MV → Int32 → Int32 → Prop) (vM : MV) (x1 : Int32) (x3 : Int32) : Prop := wp_X7_looksLike vM x3 x1 (fun (r_2 : Int32) (vM_1 : MV) => (¬ r_2 = 0 → Q x3 vM_1) ∧ (r_2 = 0 → ∀ x3_3 : Int32, x3_3 = x3 + 1 → P vM_1 x1 x3_3))
def wp_X7_tileNow_31 (Q : Int32 → MV → Prop)  (vM : MV) (x1 : Int32) (x3 : Int32) : Prop := ∀ P : MV → Int32 → Int32 → Prop, (∀ (vM : MV) (x1 : Int32) (x3 : Int32), bd_X7_tileNow_31 Q P  vM x1 x3 → P vM x1 x3) → P vM x1 x3
set_option maxHeartbeats 4000000 in
set_option maxRecDepth 100000 in
theorem kb_X7_tileNow_31 {p : Program} {l : Launch} {e : Env} {s : State} {m : MethodId} {below : List Frame} {meth : Method} {c : Code} {args : Array Value} {D : va_G} {t : T3} {A : Nat → Prop} (X : Cx p s m meth c args cX7_tileNow 4 (some .int) RX7 wsX7_tileNow D t A) (aM : MA) {Q : Int32 → MV → Prop} {P : MV → Int32 → Int32 → Prop} (hP : ∀ (vM : MV) (x1 : Int32) (x3 : Int32) (H : Heap) (locs : List Loc) (ls : Array Slot), P vM x1 x3 → Wd D A s.heap (mW t aM vM) H locs → lv_has ls 4 [(0, .ref (MA.o aM)), (1, .int x1), (3, .int x3)] → W p l e ({ frames := 3, cells := 0, slots := 0, locals := 74 } : Room) s m args below meth c H locs 0 0 (Ei below args s A D (fun (u : MV) => (mW t aM u)) (fun (r : Int32) (u : MV) => Q r u) 0 0) (F0 m 31 ls [])) : ∀ (vM : MV) (x1 : Int32) (x3 : Int32) (H : Heap) (locs : List Loc) (ls : Array Slot), bd_X7_tileNow_31 Q P  vM x1 x3 → Wd D A s.heap (mW t aM vM) H locs → lv_has ls 4 [(0, .ref (MA.o aM)), (1, .int x1), (3, .int x3)] → W p l e ({ frames := 3, cells := 0, slots := 0, locals := 74 } : Room) s m args below meth c H locs 0 0 (Ei below args s A D (fun (u : MV) => (mW t aM u)) (fun (r : Int32) (u : MV) => Q r u) 0 0) (F0 m 31 ls []) := by
  intro vM x1 x3 H locs ls h hw hl
  have hx := X.1.1
  have hb := X.1.2.1
  refine lv_aload_n hx hb dX7_tileNow_31 rfl (lv_at hl 0 rfl) ?_
  refine lv_iload_n hx hb dX7_tileNow_32 rfl (lv_at hl 2 rfl) ?_
  refine lv_iload_n hx hb dX7_tileNow_33 rfl (lv_at hl 1 rfl) ?_
  refine r_ci X hw pm_0 (wn := fun (u : MV) => (mW t aM u)) (fun u => pm_0.symm) (r_runV X hw (c_X7_looksLike l D t aM vM x3 x1 _ h) pm_0 (cwV 2 X.1.2.2.2.2 gX7_tileNow_X7_looksLike rfl rfl rfl (by decide +kernel) ⟨Nat.le_of_ble_eq_true rfl, Nat.le_of_ble_eq_true rfl⟩) (ci := 7) rfl rfl rfl rfl hl rfl (Nat.le_of_ble_eq_true rfl) dX7_tileNow_34 ⟨Nat.le_of_ble_eq_true rfl, Nat.le_of_ble_eq_true rfl⟩) (fun r_2 u H locs h hw => ?_)
  obtain ⟨vM_1, rfl⟩ : ∃ z, z = u := ⟨_, rfl⟩
  refine lv_if_ne (tgt := 46) hx hb dX7_tileNow_37 (by decide) (fun c_4 => ?_) (fun c_4 => ?_)
  · replace h := h.1 c_4
    refine lv_iload_n hx hb dX7_tileNow_46 rfl (lv_at hl 2 rfl) ?_
    exact e_i (w1 := (fun (u : MV) => (mW t aM u))) X (vM_1) hw h dX7_tileNow_47
  replace h := h.2 c_4
  obtain ⟨x3_3, ex3_3⟩ : ∃ z : Int32, z = x3 + 1 := ⟨_, rfl⟩
  replace h := h x3_3 ex3_3
  refine lv_iinc (v := x3_3) (lv' := [(3, .int x3_3), (0, .ref (MA.o aM)), (1, .int x1)]) hx hb dX7_tileNow_40 hl (k := 2) rfl (by rw [ex3_3]; rfl) (by decide) rfl (fun ls hl => ?_)
  refine lv_goto (tgt := 31) hx hb dX7_tileNow_43 (by decide) ?_
  exact hP _ _ _ _ _ _ h hw (lv_sub hl [1, 2, 0] rfl)
set_option maxHeartbeats 4000000 in
set_option maxRecDepth 100000 in
theorem k_X7_tileNow_31 {p : Program} {l : Launch} {e : Env} {s : State} {m : MethodId} {below : List Frame} {meth : Method} {c : Code} {args : Array Value} {D : va_G} {t : T3} {A : Nat → Prop} (X : Cx p s m meth c args cX7_tileNow 4 (some .int) RX7 wsX7_tileNow D t A) (aM : MA) {Q : Int32 → MV → Prop}   : ∀ (vM : MV) (x1 : Int32) (x3 : Int32) (H : Heap) (locs : List Loc) (ls : Array Slot), wp_X7_tileNow_31 Q  vM x1 x3 → Wd D A s.heap (mW t aM vM) H locs → lv_has ls 4 [(0, .ref (MA.o aM)), (1, .int x1), (3, .int x3)] → W p l e ({ frames := 3, cells := 0, slots := 0, locals := 74 } : Room) s m args below meth c H locs 0 0 (Ei below args s A D (fun (u : MV) => (mW t aM u)) (fun (r : Int32) (u : MV) => Q r u) 0 0) (F0 m 31 ls []) := by
  intro vM x1 x3 H locs ls h hw hl
  have hx := X.1.1
  have hb := X.1.2.1
  refine h (fun (vM : MV) (x1 : Int32) (x3 : Int32) => ∀ (H : Heap) (locs : List Loc) (ls : Array Slot), Wd D A s.heap (mW t aM vM) H locs → lv_has ls 4 [(0, .ref (MA.o aM)), (1, .int x1), (3, .int x3)] → W p l e ({ frames := 3, cells := 0, slots := 0, locals := 74 } : Room) s m args below meth c H locs 0 0 (Ei below args s A D (fun (u : MV) => (mW t aM u)) (fun (r : Int32) (u : MV) => Q r u) 0 0) (F0 m 31 ls [])) (fun vM x1 x3 h H locs ls hw hl => ?_) H locs ls hw hl
  exact kb_X7_tileNow_31 X aM (fun vM x1 x3 H locs ls q hw hl => q H locs ls hw hl)  vM x1 x3 _ _ _ h hw hl
def wp_X7_tileNow (vM : MV) (p1 : Int32) (p2 : Int32) (Q : Int32 → MV → Prop) : Prop := (2 ≤ p2 → (¬ p2 = 2 → wp_X7_tileNow_31 Q  vM p1 0) ∧ (p2 = 2 → wp_X7_cellOf vM p1 (fun (r_6 : Int32) (vM_5 : MV) => Q r_6 vM_5))) ∧ (¬ 2 ≤ p2 → vp_in ((4 + (2 * p1)) + p2) 52 ∧ Q ((MV.z vM) (Int32.toNatClampNeg ((4 + (2 * p1)) + p2))) vM)
set_option maxHeartbeats 4000000 in
set_option maxRecDepth 100000 in
theorem c_X7_tileNow (l : Launch) (D : va_G) (t : T3) (aM : MA) (vM : MV) (p1 : Int32) (p2 : Int32) (Q : Int32 → MV → Prop) (h : wp_X7_tileNow vM p1 p2 Q) : Ct l yX7_tileNow wsX7_tileNow 3 74 0 0 [.ref (MA.o aM), .int p1, .int p2] D t (mW t aM vM) (fun sz => Qi D (mW t aM vM) (fun (u : MV) => (mW t aM u)) (fun (r : Int32) (u : MV) => Q r u) sz) := by
  refine Ct.of (Qf := fun _ A => va_Qi (fun (r : Int32) (u : MV) => Q r u) (B1 D (fun (u : MV) => (mW t aM u)) A) A) cX7_tileNow 4 (some .int) (by decide) rfl (Nat.le_of_ble_eq_true rfl) ?_
  intro p e s m below meth c A ls hAe hin X hw hl
  generalize ([.ref (MA.o aM), .int p1, .int p2] : List Value).toArray = args at X ⊢
  have hl : lv_has ls 4 [(0, .ref (MA.o aM)), (1, .int p1), (2, .int p2)] := hl
  have hx := X.1.1
  have hb := X.1.2.1
  refine lv_iload_n hx hb dX7_tileNow_0 rfl (lv_at hl 2 rfl) ?_
  refine lv_iconst (v := 2) hx hb dX7_tileNow_1 (by decide) ?_
  refine lv_icmp_ge (tgt := 18) hx hb dX7_tileNow_2 (by decide) (fun c_9 => ?_) (fun c_9 => ?_)
  · replace h := h.1 c_9
    refine lv_iload_n hx hb dX7_tileNow_18 rfl (lv_at hl 2 rfl) ?_
    refine lv_iconst (v := 2) hx hb dX7_tileNow_19 (by decide) ?_
    refine lv_icmp_ne (tgt := 29) hx hb dX7_tileNow_20 (by decide) (fun c_7 => ?_) (fun c_7 => ?_)
    · replace h := h.1 c_7
      refine lv_iconst (v := 0) hx hb dX7_tileNow_29 (by decide) ?_
      refine lv_istore_n (lv' := [(3, .int 0), (0, .ref (MA.o aM)), (1, .int p1), (2, .int p2)]) hx hb dX7_tileNow_30 rfl hl (by decide) rfl (fun ls hl => ?_)
      refine k_X7_tileNow_31 X aM  _ _ _ _ _ _ h hw (lv_sub hl [1, 2, 0] rfl)
    replace h := h.2 c_7
    refine lv_aload_n hx hb dX7_tileNow_23 rfl (lv_at hl 0 rfl) ?_
    refine lv_iload_n hx hb dX7_tileNow_24 rfl (lv_at hl 1 rfl) ?_
    refine r_ci X hw pm_0 (wn := fun (u : MV) => (mW t aM u)) (fun u => pm_0.symm) (r_runV X hw (c_X7_cellOf l D t aM vM p1 _ h) pm_0 (cwV 1 X.1.2.2.2.2 gX7_tileNow_X7_cellOf rfl rfl rfl (by decide +kernel) ⟨Nat.le_of_ble_eq_true rfl, Nat.le_of_ble_eq_true rfl⟩) (ci := 7) rfl rfl rfl rfl hl rfl (Nat.le_of_ble_eq_true rfl) dX7_tileNow_25 ⟨Nat.le_of_ble_eq_true rfl, Nat.le_of_ble_eq_true rfl⟩) (fun r_6 u H locs h hw => ?_)
    obtain ⟨vM_5, rfl⟩ : ∃ z, z = u := ⟨_, rfl⟩
    exact e_i (w1 := (fun (u : MV) => (mW t aM u))) X (vM_5) hw h dX7_tileNow_28
  replace h := h.2 c_9
  refine lv_aload_n hx hb dX7_tileNow_5 rfl (lv_at hl 0 rfl) ?_
  refine r_get (ci := 7) (C := RX7) (T := TX7) (N := 16) X hw 0 rfl rfl 1 (by decide) in_X7_tileNow_X7 fl_X7_tileNow_7 (v := .ref (MA.z aM)) rfl dX7_tileNow_6 ?_
  refine lv_iconst (v := 4) hx hb dX7_tileNow_9 (by decide) ?_
  refine lv_iconst (v := 2) hx hb dX7_tileNow_10 (by decide) ?_
  refine lv_iload_n hx hb dX7_tileNow_11 rfl (lv_at hl 1 rfl) ?_
  refine lv_imul hx hb dX7_tileNow_12 ?_
  refine lv_iadd hx hb dX7_tileNow_13 ?_
  refine lv_iload_n hx hb dX7_tileNow_14 rfl (lv_at hl 2 rfl) ?_
  refine lv_iadd hx hb dX7_tileNow_15 ?_
  obtain ⟨hi_8, h⟩ := h
  refine r_iald (v := ((MV.z vM) (Int32.toNatClampNeg ((4 + (2 * p1)) + p2)))) X hw 1 rfl hi_8 rfl dX7_tileNow_16 ?_
  exact e_i (w1 := (fun (u : MV) => (mW t aM u))) X (vM) hw h dX7_tileNow_17
/-! X7_tile -/
theorem in_X7_tile_X7 : ∀ w ∈ u_ws RX7 TX7 16, w ∈ wsX7_tile := fun w h => (List.mem_cons_of_mem _ (List.mem_append_right _ h))
theorem fl_X7_tile_34 : Cond.fieldLink RX7 34 "TwoFacedTilesModel" "thrown" "I" ∈ wsX7_tile := List.mem_of_getElem? (i := 1) rfl
def wp_X7_tile_27 (Q : Int32 → MV → Prop) (vM : MV) (x1 : Int32) (x2 : Int32) (t1 : Int32) : Prop := (t1 ≤ 0 → wp_X7_tileNow (MV.s_thrown vM t1) x1 x2 (fun (r_5 : Int32) (vM_4 : MV) => Q r_5 vM_4)) ∧ (¬ t1 ≤ 0 → Q 0 (MV.s_thrown vM t1))
set_option maxHeartbeats 4000000 in
set_option maxRecDepth 100000 in
theorem k_X7_tile_27 {p : Program} {l : Launch} {e : Env} {s : State} {m : MethodId} {below : List Frame} {meth : Method} {c : Code} {args : Array Value} {D : va_G} {t : T3} {A : Nat → Prop} (X : Cx p s m meth c args cX7_tile 3 (some .int) RX7 wsX7_tile D t A) (aM : MA) {Q : Int32 → MV → Prop}  : ∀ (vM : MV) (x1 : Int32) (x2 : Int32) (t1 : Int32) (H : Heap) (locs : List Loc) (ls : Array Slot), wp_X7_tile_27 Q vM x1 x2 t1 → Wd D A s.heap (mW t aM vM) H locs → lv_has ls 3 [(0, .ref (MA.o aM)), (1, .int x1), (2, .int x2)] → W p l e ({ frames := 4, cells := 0, slots := 0, locals := 97 } : Room) s m args below meth c H locs 0 0 (Ei below args s A D (fun (u : MV) => (mW t aM u)) (fun (r : Int32) (u : MV) => Q r u) 0 0) (F0 m 27 ls [.int t1, .ref (MA.o aM)]) := by
  intro vM x1 x2 t1 H locs ls h hw hl
  have hx := X.1.1
  have hb := X.1.2.1
  refine r_put (ci := 7) (C := RX7) (T := TX7) (N := 16) (v := .int t1) (ws' := (mW t aM (MV.s_thrown vM t1))) X hw 0 rfl rfl 0 (by decide) in_X7_tile_X7 tyX7 tyX7_ok nmX7 fl_X7_tile_34 rfl rfl rfl (Nat.le_of_ble_eq_true rfl) rfl dX7_tile_27 (fun H locs hw => ?_)
  refine lv_aload_n hx hb dX7_tile_30 rfl (lv_at hl 0 rfl) ?_
  refine r_get (ci := 7) (C := RX7) (T := TX7) (N := 16) X hw 0 rfl rfl 0 (by decide) in_X7_tile_X7 fl_X7_tile_34 (v := .int t1) rfl dX7_tile_31 ?_
  refine lv_if_le (tgt := 41) hx hb dX7_tile_34 (by decide) (fun c_6 => ?_) (fun c_6 => ?_)
  · replace h := h.1 c_6
    refine lv_aload_n hx hb dX7_tile_41 rfl (lv_at hl 0 rfl) ?_
    refine lv_iload_n hx hb dX7_tile_42 rfl (lv_at hl 1 rfl) ?_
    refine lv_iload_n hx hb dX7_tile_43 rfl (lv_at hl 2 rfl) ?_
    refine r_ci X hw pm_0 (wn := fun (u : MV) => (mW t aM u)) (fun u => pm_0.symm) (r_runV X hw (c_X7_tileNow l D t aM (MV.s_thrown vM t1) x1 x2 _ h) pm_0 (cwV 2 X.1.2.2.2.2 gX7_tile_X7_tileNow rfl rfl rfl (by decide +kernel) ⟨Nat.le_of_ble_eq_true rfl, Nat.le_of_ble_eq_true rfl⟩) (ci := 7) rfl rfl rfl rfl hl rfl (Nat.le_of_ble_eq_true rfl) dX7_tile_44 ⟨Nat.le_of_ble_eq_true rfl, Nat.le_of_ble_eq_true rfl⟩) (fun r_5 u H locs h hw => ?_)
    obtain ⟨vM_4, rfl⟩ : ∃ z, z = u := ⟨_, rfl⟩
    exact e_i (w1 := (fun (u : MV) => (mW t aM u))) X (vM_4) hw h dX7_tile_47
  replace h := h.2 c_6
  refine lv_iconst (v := 0) hx hb dX7_tile_37 (by decide) ?_
  refine lv_goto (tgt := 47) hx hb dX7_tile_38 (by decide) ?_
  exact e_i (w1 := (fun (u : MV) => (mW t aM u))) X ((MV.s_thrown vM t1)) hw h dX7_tile_47
def wp_X7_tile (vM : MV) (p1 : Int32) (p2 : Int32) (Q : Int32 → MV → Prop) : Prop := wp_X7_isTile vM p1 (fun (r_2 : Int32) (vM_1 : MV) => (¬ r_2 = 0 → wp_X7_within  p2 0 3 (fun (r_3 : Int32) => (r_3 = 0 → wp_X7_tile_27  Q vM_1 p1 p2 2) ∧ (¬ r_3 = 0 → wp_X7_tile_27  Q vM_1 p1 p2 0))) ∧ (r_2 = 0 → wp_X7_tile_27  Q vM_1 p1 p2 1))
set_option maxHeartbeats 4000000 in
set_option maxRecDepth 100000 in
theorem c_X7_tile (l : Launch) (D : va_G) (t : T3) (aM : MA) (vM : MV) (p1 : Int32) (p2 : Int32) (Q : Int32 → MV → Prop) (h : wp_X7_tile vM p1 p2 Q) : Ct l yX7_tile wsX7_tile 4 97 0 0 [.ref (MA.o aM), .int p1, .int p2] D t (mW t aM vM) (fun sz => Qi D (mW t aM vM) (fun (u : MV) => (mW t aM u)) (fun (r : Int32) (u : MV) => Q r u) sz) := by
  refine Ct.of (Qf := fun _ A => va_Qi (fun (r : Int32) (u : MV) => Q r u) (B1 D (fun (u : MV) => (mW t aM u)) A) A) cX7_tile 3 (some .int) (by decide) rfl (Nat.le_of_ble_eq_true rfl) ?_
  intro p e s m below meth c A ls hAe hin X hw hl
  generalize ([.ref (MA.o aM), .int p1, .int p2] : List Value).toArray = args at X ⊢
  have hl : lv_has ls 3 [(0, .ref (MA.o aM)), (1, .int p1), (2, .int p2)] := hl
  have hx := X.1.1
  have hb := X.1.2.1
  refine lv_aload_n hx hb dX7_tile_0 rfl (lv_at hl 0 rfl) ?_
  refine lv_aload_n hx hb dX7_tile_1 rfl (lv_at hl 0 rfl) ?_
  refine lv_iload_n hx hb dX7_tile_2 rfl (lv_at hl 1 rfl) ?_
  refine r_ci X hw pm_0 (wn := fun (u : MV) => (mW t aM u)) (fun u => pm_0.symm) (r_runV X hw (c_X7_isTile l D t aM vM p1 _ h) pm_0 (cwV 1 X.1.2.2.2.2 gX7_tile_X7_isTile rfl rfl rfl (by decide +kernel) ⟨Nat.le_of_ble_eq_true rfl, Nat.le_of_ble_eq_true rfl⟩) (ci := 7) rfl rfl rfl rfl hl rfl (Nat.le_of_ble_eq_true rfl) dX7_tile_3 ⟨Nat.le_of_ble_eq_true rfl, Nat.le_of_ble_eq_true rfl⟩) (fun r_2 u H locs h hw => ?_)
  obtain ⟨vM_1, rfl⟩ : ∃ z, z = u := ⟨_, rfl⟩
  refine lv_if_ne (tgt := 13) hx hb dX7_tile_6 (by decide) (fun c_8 => ?_) (fun c_8 => ?_)
  · replace h := h.1 c_8
    refine lv_iload_n hx hb dX7_tile_13 rfl (lv_at hl 2 rfl) ?_
    refine lv_iconst (v := 0) hx hb dX7_tile_14 (by decide) ?_
    refine lv_iconst (v := 3) hx hb dX7_tile_15 (by decide) ?_
    refine r_ci X hw pm_n (wn := fun (u : Unit) => (mW t aM vM_1)) (fun u => (pm_n).symm) (r_runS X hw (c_X7_within l D t p2 0 3 _ h) pm_n (va_cwS 3 X.1.2.2.2.2 gX7_tile_X7_within rfl rfl rfl (by decide +kernel) ⟨Nat.le_of_ble_eq_true rfl, Nat.le_of_ble_eq_true rfl⟩) rfl hl rfl (Nat.le_of_ble_eq_true rfl) dX7_tile_16 ⟨Nat.le_of_ble_eq_true rfl, Nat.le_of_ble_eq_true rfl⟩) (fun r_3 u H locs h hw => ?_)
    refine lv_if_eq (tgt := 26) hx hb dX7_tile_19 (by decide) (fun c_7 => ?_) (fun c_7 => ?_)
    · replace h := h.1 c_7
      refine lv_iconst (v := 2) hx hb dX7_tile_26 (by decide) ?_
      exact k_X7_tile_27 X aM _ _ _ _ _ _ _ h hw hl
    replace h := h.2 c_7
    refine lv_iconst (v := 0) hx hb dX7_tile_22 (by decide) ?_
    refine lv_goto (tgt := 27) hx hb dX7_tile_23 (by decide) ?_
    exact k_X7_tile_27 X aM _ _ _ _ _ _ _ h hw hl
  replace h := h.2 c_8
  refine lv_iconst (v := 1) hx hb dX7_tile_9 (by decide) ?_
  refine lv_goto (tgt := 27) hx hb dX7_tile_10 (by decide) ?_
  exact k_X7_tile_27 X aM _ _ _ _ _ _ _ h hw hl
/-! X7_pairs -/
theorem in_X7_pairs_X7 : ∀ w ∈ u_ws RX7 TX7 16, w ∈ wsX7_pairs := fun w h => (List.mem_cons_of_mem _ (List.mem_append_right _ h))
theorem fl_X7_pairs_7 : Cond.fieldLink RX7 7 "TwoFacedTilesModel" "z" "[I" ∈ wsX7_pairs := List.mem_of_getElem? (i := 1) rfl
def wp_X7_pairs_49 (P : MV → Int32 → Int32 → Int32 → Prop) (K57 : MV → Int32 → Int32 → Prop) (Q : Int32 → MV → Prop) (vM : MV) (x2 : Int32) (x3 : Int32) (t0 : Int32) (t1 : Int32) : Prop := ∀ x1_4 : Int32, x1_4 = (t0 + t1) → ∀ x3_5 : Int32, x3_5 = x3 + 1 → P vM x1_4 x2 x3_5
set_option maxHeartbeats 4000000 in
set_option maxRecDepth 100000 in
theorem k_X7_pairs_49 {p : Program} {l : Launch} {e : Env} {s : State} {m : MethodId} {below : List Frame} {meth : Method} {c : Code} {args : Array Value} {D : va_G} {t : T3} {A : Nat → Prop} (X : Cx p s m meth c args cX7_pairs 4 (some .int) RX7 wsX7_pairs D t A) (aM : MA) {P : MV → Int32 → Int32 → Int32 → Prop} {K57 : MV → Int32 → Int32 → Prop} {Q : Int32 → MV → Prop} (hP : ∀ (vM : MV) (x1 : Int32) (x2 : Int32) (x3 : Int32) (H : Heap) (locs : List Loc) (ls : Array Slot), P vM x1 x2 x3 → Wd D A s.heap (mW t aM vM) H locs → lv_has ls 4 [(0, .ref (MA.o aM)), (1, .int x1), (2, .int x2), (3, .int x3)] → W p l e ({ frames := 3, cells := 0, slots := 0, locals := 73 } : Room) s m args below meth c H locs 0 0 (Ei below args s A D (fun (u : MV) => (mW t aM u)) (fun (r : Int32) (u : MV) => Q r u) 0 0) (F0 m 14 ls [])) (hK57 : ∀ (vM : MV) (x1 : Int32) (x2 : Int32) (H : Heap) (locs : List Loc) (ls : Array Slot), K57 vM x1 x2 → Wd D A s.heap (mW t aM vM) H locs → lv_has ls 4 [(0, .ref (MA.o aM)), (1, .int x1), (2, .int x2)] → W p l e ({ frames := 3, cells := 0, slots := 0, locals := 73 } : Room) s m args below meth c H locs 0 0 (Ei below args s A D (fun (u : MV) => (mW t aM u)) (fun (r : Int32) (u : MV) => Q r u) 0 0) (F0 m 57 ls [])) : ∀ (vM : MV) (x2 : Int32) (x3 : Int32) (t0 : Int32) (t1 : Int32) (H : Heap) (locs : List Loc) (ls : Array Slot), wp_X7_pairs_49 P K57 Q vM x2 x3 t0 t1 → Wd D A s.heap (mW t aM vM) H locs → lv_has ls 4 [(0, .ref (MA.o aM)), (2, .int x2), (3, .int x3)] → W p l e ({ frames := 3, cells := 0, slots := 0, locals := 73 } : Room) s m args below meth c H locs 0 0 (Ei below args s A D (fun (u : MV) => (mW t aM u)) (fun (r : Int32) (u : MV) => Q r u) 0 0) (F0 m 49 ls [.int t1, .int t0]) := by
  intro vM x2 x3 t0 t1 H locs ls h hw hl
  have hx := X.1.1
  have hb := X.1.2.1
  refine lv_iadd hx hb dX7_pairs_49 ?_
  refine lv_topi (fun x1_4 ex1_4 => ?_)
  replace h := h x1_4 ex1_4
  refine lv_istore_n (lv' := [(1, .int x1_4), (0, .ref (MA.o aM)), (2, .int x2), (3, .int x3)]) hx hb dX7_pairs_50 rfl hl (by decide) rfl (fun ls hl => ?_)
  obtain ⟨x3_5, ex3_5⟩ : ∃ z : Int32, z = x3 + 1 := ⟨_, rfl⟩
  replace h := h x3_5 ex3_5
  refine lv_iinc (v := x3_5) (lv' := [(3, .int x3_5), (1, .int x1_4), (0, .ref (MA.o aM)), (2, .int x2)]) hx hb dX7_pairs_51 hl (k := 3) rfl (by rw [ex3_5]; rfl) (by decide) rfl (fun ls hl => ?_)
  refine lv_goto (tgt := 14) hx hb dX7_pairs_54 (by decide) ?_
  exact hP _ _ _ _ _ _ _ h hw (lv_sub hl [2, 1, 3, 0] rfl)
def wp_X7_pairs_48 (P : MV → Int32 → Int32 → Int32 → Prop) (K57 : MV → Int32 → Int32 → Prop) (Q : Int32 → MV → Prop) (vM : MV) (x2 : Int32) (x3 : Int32) (t0 : Int32) : Prop := wp_X7_pairs_49  P K57 Q vM x2 x3 t0 0
set_option maxHeartbeats 4000000 in
set_option maxRecDepth 100000 in
theorem k_X7_pairs_48 {p : Program} {l : Launch} {e : Env} {s : State} {m : MethodId} {below : List Frame} {meth : Method} {c : Code} {args : Array Value} {D : va_G} {t : T3} {A : Nat → Prop} (X : Cx p s m meth c args cX7_pairs 4 (some .int) RX7 wsX7_pairs D t A) (aM : MA) {P : MV → Int32 → Int32 → Int32 → Prop} {K57 : MV → Int32 → Int32 → Prop} {Q : Int32 → MV → Prop} (hP : ∀ (vM : MV) (x1 : Int32) (x2 : Int32) (x3 : Int32) (H : Heap) (locs : List Loc) (ls : Array Slot), P vM x1 x2 x3 → Wd D A s.heap (mW t aM vM) H locs → lv_has ls 4 [(0, .ref (MA.o aM)), (1, .int x1), (2, .int x2), (3, .int x3)] → W p l e ({ frames := 3, cells := 0, slots := 0, locals := 73 } : Room) s m args below meth c H locs 0 0 (Ei below args s A D (fun (u : MV) => (mW t aM u)) (fun (r : Int32) (u : MV) => Q r u) 0 0) (F0 m 14 ls [])) (hK57 : ∀ (vM : MV) (x1 : Int32) (x2 : Int32) (H : Heap) (locs : List Loc) (ls : Array Slot), K57 vM x1 x2 → Wd D A s.heap (mW t aM vM) H locs → lv_has ls 4 [(0, .ref (MA.o aM)), (1, .int x1), (2, .int x2)] → W p l e ({ frames := 3, cells := 0, slots := 0, locals := 73 } : Room) s m args below meth c H locs 0 0 (Ei below args s A D (fun (u : MV) => (mW t aM u)) (fun (r : Int32) (u : MV) => Q r u) 0 0) (F0 m 57 ls [])) : ∀ (vM : MV) (x2 : Int32) (x3 : Int32) (t0 : Int32) (H : Heap) (locs : List Loc) (ls : Array Slot), wp_X7_pairs_48 P K57 Q vM x2 x3 t0 → Wd D A s.heap (mW t aM vM) H locs → lv_has ls 4 [(0, .ref (MA.o aM)), (2, .int x2), (3, .int x3)] → W p l e ({ frames := 3, cells := 0, slots := 0, locals := 73 } : Room) s m args below meth c H locs 0 0 (Ei below args s A D (fun (u : MV) => (mW t aM u)) (fun (r : Int32) (u : MV) => Q r u) 0 0) (F0 m 48 ls [.int t0]) := by
  intro vM x2 x3 t0 H locs ls h hw hl
  have hx := X.1.1
  have hb := X.1.2.1
  refine lv_iconst (v := 0) hx hb dX7_pairs_48 (by decide) ?_
  exact k_X7_pairs_49 X aM hP hK57 _ _ _ _ _ _ _ _ h hw hl
def bd_X7_pairs_14 (Q : Int32 → MV → Prop) (P : MV → Int32 → Int32 → Int32 → Prop) (K57 : MV → Int32 → Int32 → Prop) (vM : MV) (x1 : Int32) (x2 : Int32) (x3 : Int32) : Prop := (3 ≤ x3 → K57 vM x1 x2) ∧ (¬ 3 ≤ x3 → vp_in (28 + x2) 52 ∧ (((MV.z vM) (Int32.toNatClampNeg (28 + x2))) = (-1) → wp_X7_pairs_48  P K57 Q vM x2 x3 x1) ∧ (¬ ((MV.z vM) (Int32.toNatClampNeg (28 + x2))) = (-1) → wp_X7_shown vM x2 x3 0 (fun (r_7 : Int32) (vM_6 : MV) => (r_7 = (-1) → wp_X7_pairs_48  P K57 Q vM_6 x2 x3 x1) ∧ (¬ r_7 = (-1) → wp_X7_pairs_49  P K57 Q vM_6 x2 x3 x1 1))))
def wp_X7_pairs_14 (Q : Int32 → MV → Prop) (K57 : MV → Int32 → Int32 → Prop) (vM : MV) (x1 : Int32) (x2 : Int32) (x3 : Int32) : Prop := ∀ P : MV → Int32 → Int32 → Int32 → Prop, (∀ (vM : MV) (x1 : Int32) (x2 : Int32) (x3 : Int32), bd_X7_pairs_14 Q P K57 vM x1 x2 x3 → P vM x1 x2 x3) → P vM x1 x2 x3
set_option maxHeartbeats 4000000 in
set_option maxRecDepth 100000 in
theorem kb_X7_pairs_14 {p : Program} {l : Launch} {e : Env} {s : State} {m : MethodId} {below : List Frame} {meth : Method} {c : Code} {args : Array Value} {D : va_G} {t : T3} {A : Nat → Prop} (X : Cx p s m meth c args cX7_pairs 4 (some .int) RX7 wsX7_pairs D t A) (aM : MA) {Q : Int32 → MV → Prop} {P : MV → Int32 → Int32 → Int32 → Prop} {K57 : MV → Int32 → Int32 → Prop} (hP : ∀ (vM : MV) (x1 : Int32) (x2 : Int32) (x3 : Int32) (H : Heap) (locs : List Loc) (ls : Array Slot), P vM x1 x2 x3 → Wd D A s.heap (mW t aM vM) H locs → lv_has ls 4 [(0, .ref (MA.o aM)), (1, .int x1), (2, .int x2), (3, .int x3)] → W p l e ({ frames := 3, cells := 0, slots := 0, locals := 73 } : Room) s m args below meth c H locs 0 0 (Ei below args s A D (fun (u : MV) => (mW t aM u)) (fun (r : Int32) (u : MV) => Q r u) 0 0) (F0 m 14 ls [])) (hK57 : ∀ (vM : MV) (x1 : Int32) (x2 : Int32) (H : Heap) (locs : List Loc) (ls : Array Slot), K57 vM x1 x2 → Wd D A s.heap (mW t aM vM) H locs → lv_has ls 4 [(0, .ref (MA.o aM)), (1, .int x1), (2, .int x2)] → W p l e ({ frames := 3, cells := 0, slots := 0, locals := 73 } : Room) s m args below meth c H locs 0 0 (Ei below args s A D (fun (u : MV) => (mW t aM u)) (fun (r : Int32) (u : MV) => Q r u) 0 0) (F0 m 57 ls [])) : ∀ (vM : MV) (x1 : Int32) (x2 : Int32) (x3 : Int32) (H : Heap) (locs : List Loc) (ls : Array Slot), bd_X7_pairs_14 Q P K57 vM x1 x2 x3 → Wd D A s.heap (mW t aM vM) H locs → lv_has ls 4 [(0, .ref (MA.o aM)), (1, .int x1), (2, .int x2), (3, .int x3)] → W p l e ({ frames := 3, cells := 0, slots := 0, locals := 73 } : Room) s m args below meth c H locs 0 0 (Ei below args s A D (fun (u : MV) => (mW t aM u)) (fun (r : Int32) (u : MV) => Q r u) 0 0) (F0 m 14 ls []) := by
  intro vM x1 x2 x3 H locs ls h hw hl
  have hx := X.1.1
  have hb := X.1.2.1
  refine lv_iload_n hx hb dX7_pairs_14 rfl (lv_at hl 3 rfl) ?_
  refine lv_iconst (v := 3) hx hb dX7_pairs_15 (by decide) ?_
  refine lv_icmp_ge (tgt := 57) hx hb dX7_pairs_16 (by decide) (fun c_10 => ?_) (fun c_10 => ?_)
  · replace h := h.1 c_10
    exact hK57 _ _ _ _ _ _ h hw (lv_sub hl [0, 1, 2] rfl)
  replace h := h.2 c_10
  refine lv_iload_n hx hb dX7_pairs_19 rfl (lv_at hl 1 rfl) ?_
  refine lv_aload_n hx hb dX7_pairs_20 rfl (lv_at hl 0 rfl) ?_
  refine r_get (ci := 7) (C := RX7) (T := TX7) (N := 16) X hw 0 rfl rfl 1 (by decide) in_X7_pairs_X7 fl_X7_pairs_7 (v := .ref (MA.z aM)) rfl dX7_pairs_21 ?_
  refine lv_bipush (v := 28) hx hb dX7_pairs_24 (by decide) ?_
  refine lv_iload_n hx hb dX7_pairs_26 rfl (lv_at hl 2 rfl) ?_
  refine lv_iadd hx hb dX7_pairs_27 ?_
  obtain ⟨hi_3, h⟩ := h
  refine r_iald (v := ((MV.z vM) (Int32.toNatClampNeg (28 + x2)))) X hw 1 rfl hi_3 rfl dX7_pairs_28 ?_
  refine lv_iconst (v := (-1)) hx hb dX7_pairs_29 (by decide) ?_
  refine lv_icmp_eq (tgt := 48) hx hb dX7_pairs_30 (by decide) (fun c_9 => ?_) (fun c_9 => ?_)
  · replace h := h.1 c_9
    exact k_X7_pairs_48 X aM hP hK57 _ _ _ _ _ _ _ h hw (lv_sub hl [0, 2, 3] rfl)
  replace h := h.2 c_9
  refine lv_aload_n hx hb dX7_pairs_33 rfl (lv_at hl 0 rfl) ?_
  refine lv_iload_n hx hb dX7_pairs_34 rfl (lv_at hl 2 rfl) ?_
  refine lv_iload_n hx hb dX7_pairs_35 rfl (lv_at hl 3 rfl) ?_
  refine lv_iconst (v := 0) hx hb dX7_pairs_36 (by decide) ?_
  refine r_ci X hw pm_0 (wn := fun (u : MV) => (mW t aM u)) (fun u => pm_0.symm) (r_runV X hw (c_X7_shown l D t aM vM x2 x3 0 _ h) pm_0 (cwV 3 X.1.2.2.2.2 gX7_pairs_X7_shown rfl rfl rfl (by decide +kernel) ⟨Nat.le_of_ble_eq_true rfl, Nat.le_of_ble_eq_true rfl⟩) (ci := 7) rfl rfl rfl rfl hl rfl (Nat.le_of_ble_eq_true rfl) dX7_pairs_37 ⟨Nat.le_of_ble_eq_true rfl, Nat.le_of_ble_eq_true rfl⟩) (fun r_7 u H locs h hw => ?_)
  obtain ⟨vM_6, rfl⟩ : ∃ z, z = u := ⟨_, rfl⟩
  refine lv_iconst (v := (-1)) hx hb dX7_pairs_40 (by decide) ?_
  refine lv_icmp_eq (tgt := 48) hx hb dX7_pairs_41 (by decide) (fun c_8 => ?_) (fun c_8 => ?_)
  · replace h := h.1 c_8
    exact k_X7_pairs_48 X aM hP hK57 _ _ _ _ _ _ _ h hw (lv_sub hl [0, 2, 3] rfl)
  replace h := h.2 c_8
  refine lv_iconst (v := 1) hx hb dX7_pairs_44 (by decide) ?_
  refine lv_goto (tgt := 49) hx hb dX7_pairs_45 (by decide) ?_
  exact k_X7_pairs_49 X aM hP hK57 _ _ _ _ _ _ _ _ h hw (lv_sub hl [0, 2, 3] rfl)
set_option maxHeartbeats 4000000 in
set_option maxRecDepth 100000 in
theorem k_X7_pairs_14 {p : Program} {l : Launch} {e : Env} {s : State} {m : MethodId} {below : List Frame} {meth : Method} {c : Code} {args : Array Value} {D : va_G} {t : T3} {A : Nat → Prop} (X : Cx p s m meth c args cX7_pairs 4 (some .int) RX7 wsX7_pairs D t A) (aM : MA) {Q : Int32 → MV → Prop} {K57 : MV → Int32 → Int32 → Prop} (hK57 : ∀ (vM : MV) (x1 : Int32) (x2 : Int32) (H : Heap) (locs : List Loc) (ls : Array Slot), K57 vM x1 x2 → Wd D A s.heap (mW t aM vM) H locs → lv_has ls 4 [(0, .ref (MA.o aM)), (1, .int x1), (2, .int x2)] → W p l e ({ frames := 3, cells := 0, slots := 0, locals := 73 } : Room) s m args below meth c H locs 0 0 (Ei below args s A D (fun (u : MV) => (mW t aM u)) (fun (r : Int32) (u : MV) => Q r u) 0 0) (F0 m 57 ls [])) : ∀ (vM : MV) (x1 : Int32) (x2 : Int32) (x3 : Int32) (H : Heap) (locs : List Loc) (ls : Array Slot), wp_X7_pairs_14 Q K57 vM x1 x2 x3 → Wd D A s.heap (mW t aM vM) H locs → lv_has ls 4 [(0, .ref (MA.o aM)), (1, .int x1), (2, .int x2), (3, .int x3)] → W p l e ({ frames := 3, cells := 0, slots := 0, locals := 73 } : Room) s m args below meth c H locs 0 0 (Ei below args s A D (fun (u : MV) => (mW t aM u)) (fun (r : Int32) (u : MV) => Q r u) 0 0) (F0 m 14 ls []) := by
  intro vM x1 x2 x3 H locs ls h hw hl
  have hx := X.1.1
  have hb := X.1.2.1
  refine h (fun (vM : MV) (x1 : Int32) (x2 : Int32) (x3 : Int32) => ∀ (H : Heap) (locs : List Loc) (ls : Array Slot), Wd D A s.heap (mW t aM vM) H locs → lv_has ls 4 [(0, .ref (MA.o aM)), (1, .int x1), (2, .int x2), (3, .int x3)] → W p l e ({ frames := 3, cells := 0, slots := 0, locals := 73 } : Room) s m args below meth c H locs 0 0 (Ei below args s A D (fun (u : MV) => (mW t aM u)) (fun (r : Int32) (u : MV) => Q r u) 0 0) (F0 m 14 ls [])) (fun vM x1 x2 x3 h H locs ls hw hl => ?_) H locs ls hw hl
  exact kb_X7_pairs_14 X aM (fun vM x1 x2 x3 H locs ls q hw hl => q H locs ls hw hl) hK57 vM x1 x2 x3 _ _ _ h hw hl
def bd_X7_pairs_4 (Q : Int32 → MV → Prop) (P : MV → Int32 → Int32 → Prop) (vM : MV) (x1 : Int32) (x2 : Int32) : Prop := wp_X7_cells vM  (fun (r_2 : Int32) (vM_1 : MV) => (r_2 ≤ x2 → Q x1 vM_1) ∧ (¬ r_2 ≤ x2 → wp_X7_pairs_14 Q (fun (vM_11 : MV) (x1_12 : Int32) (x2_13 : Int32) => ∀ x2_14 : Int32, x2_14 = x2_13 + 1 → P vM_11 x1_12 x2_14) vM_1 x1 x2 1))
def wp_X7_pairs_4 (Q : Int32 → MV → Prop)  (vM : MV) (x1 : Int32) (x2 : Int32) : Prop := ∀ P : MV → Int32 → Int32 → Prop, (∀ (vM : MV) (x1 : Int32) (x2 : Int32), bd_X7_pairs_4 Q P  vM x1 x2 → P vM x1 x2) → P vM x1 x2
set_option maxHeartbeats 4000000 in
set_option maxRecDepth 100000 in
theorem kb_X7_pairs_4 {p : Program} {l : Launch} {e : Env} {s : State} {m : MethodId} {below : List Frame} {meth : Method} {c : Code} {args : Array Value} {D : va_G} {t : T3} {A : Nat → Prop} (X : Cx p s m meth c args cX7_pairs 4 (some .int) RX7 wsX7_pairs D t A) (aM : MA) {Q : Int32 → MV → Prop} {P : MV → Int32 → Int32 → Prop} (hP : ∀ (vM : MV) (x1 : Int32) (x2 : Int32) (H : Heap) (locs : List Loc) (ls : Array Slot), P vM x1 x2 → Wd D A s.heap (mW t aM vM) H locs → lv_has ls 4 [(0, .ref (MA.o aM)), (1, .int x1), (2, .int x2)] → W p l e ({ frames := 3, cells := 0, slots := 0, locals := 73 } : Room) s m args below meth c H locs 0 0 (Ei below args s A D (fun (u : MV) => (mW t aM u)) (fun (r : Int32) (u : MV) => Q r u) 0 0) (F0 m 4 ls [])) : ∀ (vM : MV) (x1 : Int32) (x2 : Int32) (H : Heap) (locs : List Loc) (ls : Array Slot), bd_X7_pairs_4 Q P  vM x1 x2 → Wd D A s.heap (mW t aM vM) H locs → lv_has ls 4 [(0, .ref (MA.o aM)), (1, .int x1), (2, .int x2)] → W p l e ({ frames := 3, cells := 0, slots := 0, locals := 73 } : Room) s m args below meth c H locs 0 0 (Ei below args s A D (fun (u : MV) => (mW t aM u)) (fun (r : Int32) (u : MV) => Q r u) 0 0) (F0 m 4 ls []) := by
  intro vM x1 x2 H locs ls h hw hl
  have hx := X.1.1
  have hb := X.1.2.1
  refine lv_iload_n hx hb dX7_pairs_4 rfl (lv_at hl 2 rfl) ?_
  refine lv_aload_n hx hb dX7_pairs_5 rfl (lv_at hl 0 rfl) ?_
  refine r_ci X hw pm_0 (wn := fun (u : MV) => (mW t aM u)) (fun u => pm_0.symm) (r_runV X hw (c_X7_cells l D t aM vM _ h) pm_0 (cwV 0 X.1.2.2.2.2 gX7_pairs_X7_cells rfl rfl rfl (by decide +kernel) ⟨Nat.le_of_ble_eq_true rfl, Nat.le_of_ble_eq_true rfl⟩) (ci := 7) rfl rfl rfl rfl hl rfl (Nat.le_of_ble_eq_true rfl) dX7_pairs_6 ⟨Nat.le_of_ble_eq_true rfl, Nat.le_of_ble_eq_true rfl⟩) (fun r_2 u H locs h hw => ?_)
  obtain ⟨vM_1, rfl⟩ : ∃ z, z = u := ⟨_, rfl⟩
  refine lv_icmp_ge (tgt := 63) hx hb dX7_pairs_9 (by decide) (fun c_15 => ?_) (fun c_15 => ?_)
  · replace h := h.1 c_15
    refine lv_iload_n hx hb dX7_pairs_63 rfl (lv_at hl 1 rfl) ?_
    exact e_i (w1 := (fun (u : MV) => (mW t aM u))) X (vM_1) hw h dX7_pairs_64
  replace h := h.2 c_15
  refine lv_iconst (v := 1) hx hb dX7_pairs_12 (by decide) ?_
  refine lv_istore_n (lv' := [(3, .int 1), (0, .ref (MA.o aM)), (1, .int x1), (2, .int x2)]) hx hb dX7_pairs_13 rfl hl (by decide) rfl (fun ls hl => ?_)
  refine k_X7_pairs_14 X aM (fun vM_11 x1_12 x2_13 H locs ls h hw hl => ?_) _ _ _ _ _ _ _ h hw (lv_sub hl [1, 2, 3, 0] rfl)
  obtain ⟨x2_14, ex2_14⟩ : ∃ z : Int32, z = x2_13 + 1 := ⟨_, rfl⟩
  replace h := h x2_14 ex2_14
  refine lv_iinc (v := x2_14) (lv' := [(2, .int x2_14), (0, .ref (MA.o aM)), (1, .int x1_12)]) hx hb dX7_pairs_57 hl (k := 2) rfl (by rw [ex2_14]; rfl) (by decide) rfl (fun ls hl => ?_)
  refine lv_goto (tgt := 4) hx hb dX7_pairs_60 (by decide) ?_
  exact hP _ _ _ _ _ _ h hw (lv_sub hl [1, 2, 0] rfl)
set_option maxHeartbeats 4000000 in
set_option maxRecDepth 100000 in
theorem k_X7_pairs_4 {p : Program} {l : Launch} {e : Env} {s : State} {m : MethodId} {below : List Frame} {meth : Method} {c : Code} {args : Array Value} {D : va_G} {t : T3} {A : Nat → Prop} (X : Cx p s m meth c args cX7_pairs 4 (some .int) RX7 wsX7_pairs D t A) (aM : MA) {Q : Int32 → MV → Prop}   : ∀ (vM : MV) (x1 : Int32) (x2 : Int32) (H : Heap) (locs : List Loc) (ls : Array Slot), wp_X7_pairs_4 Q  vM x1 x2 → Wd D A s.heap (mW t aM vM) H locs → lv_has ls 4 [(0, .ref (MA.o aM)), (1, .int x1), (2, .int x2)] → W p l e ({ frames := 3, cells := 0, slots := 0, locals := 73 } : Room) s m args below meth c H locs 0 0 (Ei below args s A D (fun (u : MV) => (mW t aM u)) (fun (r : Int32) (u : MV) => Q r u) 0 0) (F0 m 4 ls []) := by
  intro vM x1 x2 H locs ls h hw hl
  have hx := X.1.1
  have hb := X.1.2.1
  refine h (fun (vM : MV) (x1 : Int32) (x2 : Int32) => ∀ (H : Heap) (locs : List Loc) (ls : Array Slot), Wd D A s.heap (mW t aM vM) H locs → lv_has ls 4 [(0, .ref (MA.o aM)), (1, .int x1), (2, .int x2)] → W p l e ({ frames := 3, cells := 0, slots := 0, locals := 73 } : Room) s m args below meth c H locs 0 0 (Ei below args s A D (fun (u : MV) => (mW t aM u)) (fun (r : Int32) (u : MV) => Q r u) 0 0) (F0 m 4 ls [])) (fun vM x1 x2 h H locs ls hw hl => ?_) H locs ls hw hl
  exact kb_X7_pairs_4 X aM (fun vM x1 x2 H locs ls q hw hl => q H locs ls hw hl)  vM x1 x2 _ _ _ h hw hl
def wp_X7_pairs (vM : MV) (Q : Int32 → MV → Prop) : Prop := wp_X7_pairs_4 Q  vM 0 0
set_option maxHeartbeats 4000000 in
set_option maxRecDepth 100000 in
theorem c_X7_pairs (l : Launch) (D : va_G) (t : T3) (aM : MA) (vM : MV) (Q : Int32 → MV → Prop) (h : wp_X7_pairs vM Q) : Ct l yX7_pairs wsX7_pairs 3 73 0 0 [.ref (MA.o aM)] D t (mW t aM vM) (fun sz => Qi D (mW t aM vM) (fun (u : MV) => (mW t aM u)) (fun (r : Int32) (u : MV) => Q r u) sz) := by
  refine Ct.of (Qf := fun _ A => va_Qi (fun (r : Int32) (u : MV) => Q r u) (B1 D (fun (u : MV) => (mW t aM u)) A) A) cX7_pairs 4 (some .int) (by decide) rfl (Nat.le_of_ble_eq_true rfl) ?_
  intro p e s m below meth c A ls hAe hin X hw hl
  generalize ([.ref (MA.o aM)] : List Value).toArray = args at X ⊢
  have hl : lv_has ls 4 [(0, .ref (MA.o aM))] := hl
  have hx := X.1.1
  have hb := X.1.2.1
  refine lv_iconst (v := 0) hx hb dX7_pairs_0 (by decide) ?_
  refine lv_istore_n (lv' := [(1, .int 0), (0, .ref (MA.o aM))]) hx hb dX7_pairs_1 rfl hl (by decide) rfl (fun ls hl => ?_)
  refine lv_iconst (v := 0) hx hb dX7_pairs_2 (by decide) ?_
  refine lv_istore_n (lv' := [(2, .int 0), (1, .int 0), (0, .ref (MA.o aM))]) hx hb dX7_pairs_3 rfl hl (by decide) rfl (fun ls hl => ?_)
  refine k_X7_pairs_4 X aM  _ _ _ _ _ _ h hw (lv_sub hl [2, 1, 0] rfl)
/-! X7_likePairs -/
theorem in_X7_likePairs_X7 : ∀ w ∈ u_ws RX7 TX7 16, w ∈ wsX7_likePairs := fun w h => (List.mem_cons_of_mem _ (List.mem_append_right _ h))
theorem fl_X7_likePairs_7 : Cond.fieldLink RX7 7 "TwoFacedTilesModel" "z" "[I" ∈ wsX7_likePairs := List.mem_of_getElem? (i := 1) rfl
def wp_X7_likePairs_67 (P : MV → Int32 → Int32 → Int32 → Int32 → Prop) (K75 : MV → Int32 → Int32 → Int32 → Prop) (Q : Int32 → MV → Prop) (vM : MV) (x1 : Int32) (x3 : Int32) (x4 : Int32) (t0 : Int32) (t1 : Int32) : Prop := ∀ x2_4 : Int32, x2_4 = (t0 + t1) → ∀ x4_5 : Int32, x4_5 = x4 + 1 → P vM x1 x2_4 x3 x4_5
set_option maxHeartbeats 4000000 in
set_option maxRecDepth 100000 in
theorem k_X7_likePairs_67 {p : Program} {l : Launch} {e : Env} {s : State} {m : MethodId} {below : List Frame} {meth : Method} {c : Code} {args : Array Value} {D : va_G} {t : T3} {A : Nat → Prop} (X : Cx p s m meth c args cX7_likePairs 5 (some .int) RX7 wsX7_likePairs D t A) (aM : MA) {P : MV → Int32 → Int32 → Int32 → Int32 → Prop} {K75 : MV → Int32 → Int32 → Int32 → Prop} {Q : Int32 → MV → Prop} (hP : ∀ (vM : MV) (x1 : Int32) (x2 : Int32) (x3 : Int32) (x4 : Int32) (H : Heap) (locs : List Loc) (ls : Array Slot), P vM x1 x2 x3 x4 → Wd D A s.heap (mW t aM vM) H locs → lv_has ls 5 [(0, .ref (MA.o aM)), (1, .int x1), (2, .int x2), (3, .int x3), (4, .int x4)] → W p l e ({ frames := 3, cells := 0, slots := 0, locals := 73 } : Room) s m args below meth c H locs 0 0 (Ei below args s A D (fun (u : MV) => (mW t aM u)) (fun (r : Int32) (u : MV) => Q r u) 0 0) (F0 m 15 ls [])) (hK75 : ∀ (vM : MV) (x1 : Int32) (x2 : Int32) (x3 : Int32) (H : Heap) (locs : List Loc) (ls : Array Slot), K75 vM x1 x2 x3 → Wd D A s.heap (mW t aM vM) H locs → lv_has ls 5 [(0, .ref (MA.o aM)), (1, .int x1), (2, .int x2), (3, .int x3)] → W p l e ({ frames := 3, cells := 0, slots := 0, locals := 73 } : Room) s m args below meth c H locs 0 0 (Ei below args s A D (fun (u : MV) => (mW t aM u)) (fun (r : Int32) (u : MV) => Q r u) 0 0) (F0 m 75 ls [])) : ∀ (vM : MV) (x1 : Int32) (x3 : Int32) (x4 : Int32) (t0 : Int32) (t1 : Int32) (H : Heap) (locs : List Loc) (ls : Array Slot), wp_X7_likePairs_67 P K75 Q vM x1 x3 x4 t0 t1 → Wd D A s.heap (mW t aM vM) H locs → lv_has ls 5 [(0, .ref (MA.o aM)), (1, .int x1), (3, .int x3), (4, .int x4)] → W p l e ({ frames := 3, cells := 0, slots := 0, locals := 73 } : Room) s m args below meth c H locs 0 0 (Ei below args s A D (fun (u : MV) => (mW t aM u)) (fun (r : Int32) (u : MV) => Q r u) 0 0) (F0 m 67 ls [.int t1, .int t0]) := by
  intro vM x1 x3 x4 t0 t1 H locs ls h hw hl
  have hx := X.1.1
  have hb := X.1.2.1
  refine lv_iadd hx hb dX7_likePairs_67 ?_
  refine lv_topi (fun x2_4 ex2_4 => ?_)
  replace h := h x2_4 ex2_4
  refine lv_istore_n (lv' := [(2, .int x2_4), (0, .ref (MA.o aM)), (1, .int x1), (3, .int x3), (4, .int x4)]) hx hb dX7_likePairs_68 rfl hl (by decide) rfl (fun ls hl => ?_)
  obtain ⟨x4_5, ex4_5⟩ : ∃ z : Int32, z = x4 + 1 := ⟨_, rfl⟩
  replace h := h x4_5 ex4_5
  refine lv_iinc (v := x4_5) (lv' := [(4, .int x4_5), (2, .int x2_4), (0, .ref (MA.o aM)), (1, .int x1), (3, .int x3)]) hx hb dX7_likePairs_69 hl (k := 4) rfl (by rw [ex4_5]; rfl) (by decide) rfl (fun ls hl => ?_)
  refine lv_goto (tgt := 15) hx hb dX7_likePairs_72 (by decide) ?_
  exact hP _ _ _ _ _ _ _ _ h hw (lv_sub hl [2, 3, 1, 4, 0] rfl)
def wp_X7_likePairs_66 (P : MV → Int32 → Int32 → Int32 → Int32 → Prop) (K75 : MV → Int32 → Int32 → Int32 → Prop) (Q : Int32 → MV → Prop) (vM : MV) (x1 : Int32) (x3 : Int32) (x4 : Int32) (t0 : Int32) : Prop := wp_X7_likePairs_67  P K75 Q vM x1 x3 x4 t0 0
set_option maxHeartbeats 4000000 in
set_option maxRecDepth 100000 in
theorem k_X7_likePairs_66 {p : Program} {l : Launch} {e : Env} {s : State} {m : MethodId} {below : List Frame} {meth : Method} {c : Code} {args : Array Value} {D : va_G} {t : T3} {A : Nat → Prop} (X : Cx p s m meth c args cX7_likePairs 5 (some .int) RX7 wsX7_likePairs D t A) (aM : MA) {P : MV → Int32 → Int32 → Int32 → Int32 → Prop} {K75 : MV → Int32 → Int32 → Int32 → Prop} {Q : Int32 → MV → Prop} (hP : ∀ (vM : MV) (x1 : Int32) (x2 : Int32) (x3 : Int32) (x4 : Int32) (H : Heap) (locs : List Loc) (ls : Array Slot), P vM x1 x2 x3 x4 → Wd D A s.heap (mW t aM vM) H locs → lv_has ls 5 [(0, .ref (MA.o aM)), (1, .int x1), (2, .int x2), (3, .int x3), (4, .int x4)] → W p l e ({ frames := 3, cells := 0, slots := 0, locals := 73 } : Room) s m args below meth c H locs 0 0 (Ei below args s A D (fun (u : MV) => (mW t aM u)) (fun (r : Int32) (u : MV) => Q r u) 0 0) (F0 m 15 ls [])) (hK75 : ∀ (vM : MV) (x1 : Int32) (x2 : Int32) (x3 : Int32) (H : Heap) (locs : List Loc) (ls : Array Slot), K75 vM x1 x2 x3 → Wd D A s.heap (mW t aM vM) H locs → lv_has ls 5 [(0, .ref (MA.o aM)), (1, .int x1), (2, .int x2), (3, .int x3)] → W p l e ({ frames := 3, cells := 0, slots := 0, locals := 73 } : Room) s m args below meth c H locs 0 0 (Ei below args s A D (fun (u : MV) => (mW t aM u)) (fun (r : Int32) (u : MV) => Q r u) 0 0) (F0 m 75 ls [])) : ∀ (vM : MV) (x1 : Int32) (x3 : Int32) (x4 : Int32) (t0 : Int32) (H : Heap) (locs : List Loc) (ls : Array Slot), wp_X7_likePairs_66 P K75 Q vM x1 x3 x4 t0 → Wd D A s.heap (mW t aM vM) H locs → lv_has ls 5 [(0, .ref (MA.o aM)), (1, .int x1), (3, .int x3), (4, .int x4)] → W p l e ({ frames := 3, cells := 0, slots := 0, locals := 73 } : Room) s m args below meth c H locs 0 0 (Ei below args s A D (fun (u : MV) => (mW t aM u)) (fun (r : Int32) (u : MV) => Q r u) 0 0) (F0 m 66 ls [.int t0]) := by
  intro vM x1 x3 x4 t0 H locs ls h hw hl
  have hx := X.1.1
  have hb := X.1.2.1
  refine lv_iconst (v := 0) hx hb dX7_likePairs_66 (by decide) ?_
  exact k_X7_likePairs_67 X aM hP hK75 _ _ _ _ _ _ _ _ _ h hw hl
def bd_X7_likePairs_15 (Q : Int32 → MV → Prop) (P : MV → Int32 → Int32 → Int32 → Int32 → Prop) (K75 : MV → Int32 → Int32 → Int32 → Prop) (vM : MV) (x1 : Int32) (x2 : Int32) (x3 : Int32) (x4 : Int32) : Prop := (3 ≤ x4 → K75 vM x1 x2 x3) ∧ (¬ 3 ≤ x4 → vp_in (28 + x3) 52 ∧ (((MV.z vM) (Int32.toNatClampNeg (28 + x3))) = (-1) → wp_X7_likePairs_66  P K75 Q vM x1 x3 x4 x2) ∧ (¬ ((MV.z vM) (Int32.toNatClampNeg (28 + x3))) = (-1) → wp_X7_shown vM x3 x4 x1 (fun (r_7 : Int32) (vM_6 : MV) => vp_in (28 + x3) 52 ∧ wp_X7_colorOf vM_6 ((MV.z vM_6) (Int32.toNatClampNeg (28 + x3))) x4 x1 (fun (r_10 : Int32) (vM_9 : MV) => (¬ r_7 = r_10 → wp_X7_likePairs_66  P K75 Q vM_9 x1 x3 x4 x2) ∧ (r_7 = r_10 → wp_X7_likePairs_67  P K75 Q vM_9 x1 x3 x4 x2 1)))))
def wp_X7_likePairs_15 (Q : Int32 → MV → Prop) (K75 : MV → Int32 → Int32 → Int32 → Prop) (vM : MV) (x1 : Int32) (x2 : Int32) (x3 : Int32) (x4 : Int32) : Prop := ∀ P : MV → Int32 → Int32 → Int32 → Int32 → Prop, (∀ (vM : MV) (x1 : Int32) (x2 : Int32) (x3 : Int32) (x4 : Int32), bd_X7_likePairs_15 Q P K75 vM x1 x2 x3 x4 → P vM x1 x2 x3 x4) → P vM x1 x2 x3 x4
set_option maxHeartbeats 4000000 in
set_option maxRecDepth 100000 in
theorem kb_X7_likePairs_15 {p : Program} {l : Launch} {e : Env} {s : State} {m : MethodId} {below : List Frame} {meth : Method} {c : Code} {args : Array Value} {D : va_G} {t : T3} {A : Nat → Prop} (X : Cx p s m meth c args cX7_likePairs 5 (some .int) RX7 wsX7_likePairs D t A) (aM : MA) {Q : Int32 → MV → Prop} {P : MV → Int32 → Int32 → Int32 → Int32 → Prop} {K75 : MV → Int32 → Int32 → Int32 → Prop} (hP : ∀ (vM : MV) (x1 : Int32) (x2 : Int32) (x3 : Int32) (x4 : Int32) (H : Heap) (locs : List Loc) (ls : Array Slot), P vM x1 x2 x3 x4 → Wd D A s.heap (mW t aM vM) H locs → lv_has ls 5 [(0, .ref (MA.o aM)), (1, .int x1), (2, .int x2), (3, .int x3), (4, .int x4)] → W p l e ({ frames := 3, cells := 0, slots := 0, locals := 73 } : Room) s m args below meth c H locs 0 0 (Ei below args s A D (fun (u : MV) => (mW t aM u)) (fun (r : Int32) (u : MV) => Q r u) 0 0) (F0 m 15 ls [])) (hK75 : ∀ (vM : MV) (x1 : Int32) (x2 : Int32) (x3 : Int32) (H : Heap) (locs : List Loc) (ls : Array Slot), K75 vM x1 x2 x3 → Wd D A s.heap (mW t aM vM) H locs → lv_has ls 5 [(0, .ref (MA.o aM)), (1, .int x1), (2, .int x2), (3, .int x3)] → W p l e ({ frames := 3, cells := 0, slots := 0, locals := 73 } : Room) s m args below meth c H locs 0 0 (Ei below args s A D (fun (u : MV) => (mW t aM u)) (fun (r : Int32) (u : MV) => Q r u) 0 0) (F0 m 75 ls [])) : ∀ (vM : MV) (x1 : Int32) (x2 : Int32) (x3 : Int32) (x4 : Int32) (H : Heap) (locs : List Loc) (ls : Array Slot), bd_X7_likePairs_15 Q P K75 vM x1 x2 x3 x4 → Wd D A s.heap (mW t aM vM) H locs → lv_has ls 5 [(0, .ref (MA.o aM)), (1, .int x1), (2, .int x2), (3, .int x3), (4, .int x4)] → W p l e ({ frames := 3, cells := 0, slots := 0, locals := 73 } : Room) s m args below meth c H locs 0 0 (Ei below args s A D (fun (u : MV) => (mW t aM u)) (fun (r : Int32) (u : MV) => Q r u) 0 0) (F0 m 15 ls []) := by
  intro vM x1 x2 x3 x4 H locs ls h hw hl
  have hx := X.1.1
  have hb := X.1.2.1
  refine lv_iload hx hb dX7_likePairs_15 (lv_at hl 4 rfl) ?_
  refine lv_iconst (v := 3) hx hb dX7_likePairs_17 (by decide) ?_
  refine lv_icmp_ge (tgt := 75) hx hb dX7_likePairs_18 (by decide) (fun c_13 => ?_) (fun c_13 => ?_)
  · replace h := h.1 c_13
    exact hK75 _ _ _ _ _ _ _ h hw (lv_sub hl [0, 1, 2, 3] rfl)
  replace h := h.2 c_13
  refine lv_iload_n hx hb dX7_likePairs_21 rfl (lv_at hl 2 rfl) ?_
  refine lv_aload_n hx hb dX7_likePairs_22 rfl (lv_at hl 0 rfl) ?_
  refine r_get (ci := 7) (C := RX7) (T := TX7) (N := 16) X hw 0 rfl rfl 1 (by decide) in_X7_likePairs_X7 fl_X7_likePairs_7 (v := .ref (MA.z aM)) rfl dX7_likePairs_23 ?_
  refine lv_bipush (v := 28) hx hb dX7_likePairs_26 (by decide) ?_
  refine lv_iload_n hx hb dX7_likePairs_28 rfl (lv_at hl 3 rfl) ?_
  refine lv_iadd hx hb dX7_likePairs_29 ?_
  obtain ⟨hi_3, h⟩ := h
  refine r_iald (v := ((MV.z vM) (Int32.toNatClampNeg (28 + x3)))) X hw 1 rfl hi_3 rfl dX7_likePairs_30 ?_
  refine lv_iconst (v := (-1)) hx hb dX7_likePairs_31 (by decide) ?_
  refine lv_icmp_eq (tgt := 66) hx hb dX7_likePairs_32 (by decide) (fun c_12 => ?_) (fun c_12 => ?_)
  · replace h := h.1 c_12
    exact k_X7_likePairs_66 X aM hP hK75 _ _ _ _ _ _ _ _ h hw (lv_sub hl [0, 1, 3, 4] rfl)
  replace h := h.2 c_12
  refine lv_aload_n hx hb dX7_likePairs_35 rfl (lv_at hl 0 rfl) ?_
  refine lv_iload_n hx hb dX7_likePairs_36 rfl (lv_at hl 3 rfl) ?_
  refine lv_iload hx hb dX7_likePairs_37 (lv_at hl 4 rfl) ?_
  refine lv_iload_n hx hb dX7_likePairs_39 rfl (lv_at hl 1 rfl) ?_
  refine r_ci X hw pm_0 (wn := fun (u : MV) => (mW t aM u)) (fun u => pm_0.symm) (r_runV X hw (c_X7_shown l D t aM vM x3 x4 x1 _ h) pm_0 (cwV 3 X.1.2.2.2.2 gX7_likePairs_X7_shown rfl rfl rfl (by decide +kernel) ⟨Nat.le_of_ble_eq_true rfl, Nat.le_of_ble_eq_true rfl⟩) (ci := 7) rfl rfl rfl rfl hl rfl (Nat.le_of_ble_eq_true rfl) dX7_likePairs_40 ⟨Nat.le_of_ble_eq_true rfl, Nat.le_of_ble_eq_true rfl⟩) (fun r_7 u H locs h hw => ?_)
  obtain ⟨vM_6, rfl⟩ : ∃ z, z = u := ⟨_, rfl⟩
  refine lv_aload_n hx hb dX7_likePairs_43 rfl (lv_at hl 0 rfl) ?_
  refine lv_aload_n hx hb dX7_likePairs_44 rfl (lv_at hl 0 rfl) ?_
  refine r_get (ci := 7) (C := RX7) (T := TX7) (N := 16) X hw 0 rfl rfl 1 (by decide) in_X7_likePairs_X7 fl_X7_likePairs_7 (v := .ref (MA.z aM)) rfl dX7_likePairs_45 ?_
  refine lv_bipush (v := 28) hx hb dX7_likePairs_48 (by decide) ?_
  refine lv_iload_n hx hb dX7_likePairs_50 rfl (lv_at hl 3 rfl) ?_
  refine lv_iadd hx hb dX7_likePairs_51 ?_
  obtain ⟨hi_8, h⟩ := h
  refine r_iald (v := ((MV.z vM_6) (Int32.toNatClampNeg (28 + x3)))) X hw 1 rfl hi_8 rfl dX7_likePairs_52 ?_
  refine lv_iload hx hb dX7_likePairs_53 (lv_at hl 4 rfl) ?_
  refine lv_iload_n hx hb dX7_likePairs_55 rfl (lv_at hl 1 rfl) ?_
  refine r_ci X hw pm_0 (wn := fun (u : MV) => (mW t aM u)) (fun u => pm_0.symm) (r_runV X hw (c_X7_colorOf l D t aM vM_6 ((MV.z vM_6) (Int32.toNatClampNeg (28 + x3))) x4 x1 _ h) pm_0 (cwV 3 X.1.2.2.2.2 gX7_likePairs_X7_colorOf rfl rfl rfl (by decide +kernel) ⟨Nat.le_of_ble_eq_true rfl, Nat.le_of_ble_eq_true rfl⟩) (ci := 7) rfl rfl rfl rfl hl rfl (Nat.le_of_ble_eq_true rfl) dX7_likePairs_56 ⟨Nat.le_of_ble_eq_true rfl, Nat.le_of_ble_eq_true rfl⟩) (fun r_10 u H locs h hw => ?_)
  obtain ⟨vM_9, rfl⟩ : ∃ z, z = u := ⟨_, rfl⟩
  refine lv_icmp_ne (tgt := 66) hx hb dX7_likePairs_59 (by decide) (fun c_11 => ?_) (fun c_11 => ?_)
  · replace h := h.1 c_11
    exact k_X7_likePairs_66 X aM hP hK75 _ _ _ _ _ _ _ _ h hw (lv_sub hl [0, 1, 3, 4] rfl)
  replace h := h.2 c_11
  refine lv_iconst (v := 1) hx hb dX7_likePairs_62 (by decide) ?_
  refine lv_goto (tgt := 67) hx hb dX7_likePairs_63 (by decide) ?_
  exact k_X7_likePairs_67 X aM hP hK75 _ _ _ _ _ _ _ _ _ h hw (lv_sub hl [0, 1, 3, 4] rfl)
set_option maxHeartbeats 4000000 in
set_option maxRecDepth 100000 in
theorem k_X7_likePairs_15 {p : Program} {l : Launch} {e : Env} {s : State} {m : MethodId} {below : List Frame} {meth : Method} {c : Code} {args : Array Value} {D : va_G} {t : T3} {A : Nat → Prop} (X : Cx p s m meth c args cX7_likePairs 5 (some .int) RX7 wsX7_likePairs D t A) (aM : MA) {Q : Int32 → MV → Prop} {K75 : MV → Int32 → Int32 → Int32 → Prop} (hK75 : ∀ (vM : MV) (x1 : Int32) (x2 : Int32) (x3 : Int32) (H : Heap) (locs : List Loc) (ls : Array Slot), K75 vM x1 x2 x3 → Wd D A s.heap (mW t aM vM) H locs → lv_has ls 5 [(0, .ref (MA.o aM)), (1, .int x1), (2, .int x2), (3, .int x3)] → W p l e ({ frames := 3, cells := 0, slots := 0, locals := 73 } : Room) s m args below meth c H locs 0 0 (Ei below args s A D (fun (u : MV) => (mW t aM u)) (fun (r : Int32) (u : MV) => Q r u) 0 0) (F0 m 75 ls [])) : ∀ (vM : MV) (x1 : Int32) (x2 : Int32) (x3 : Int32) (x4 : Int32) (H : Heap) (locs : List Loc) (ls : Array Slot), wp_X7_likePairs_15 Q K75 vM x1 x2 x3 x4 → Wd D A s.heap (mW t aM vM) H locs → lv_has ls 5 [(0, .ref (MA.o aM)), (1, .int x1), (2, .int x2), (3, .int x3), (4, .int x4)] → W p l e ({ frames := 3, cells := 0, slots := 0, locals := 73 } : Room) s m args below meth c H locs 0 0 (Ei below args s A D (fun (u : MV) => (mW t aM u)) (fun (r : Int32) (u : MV) => Q r u) 0 0) (F0 m 15 ls []) := by
  intro vM x1 x2 x3 x4 H locs ls h hw hl
  have hx := X.1.1
  have hb := X.1.2.1
  refine h (fun (vM : MV) (x1 : Int32) (x2 : Int32) (x3 : Int32) (x4 : Int32) => ∀ (H : Heap) (locs : List Loc) (ls : Array Slot), Wd D A s.heap (mW t aM vM) H locs → lv_has ls 5 [(0, .ref (MA.o aM)), (1, .int x1), (2, .int x2), (3, .int x3), (4, .int x4)] → W p l e ({ frames := 3, cells := 0, slots := 0, locals := 73 } : Room) s m args below meth c H locs 0 0 (Ei below args s A D (fun (u : MV) => (mW t aM u)) (fun (r : Int32) (u : MV) => Q r u) 0 0) (F0 m 15 ls [])) (fun vM x1 x2 x3 x4 h H locs ls hw hl => ?_) H locs ls hw hl
  exact kb_X7_likePairs_15 X aM (fun vM x1 x2 x3 x4 H locs ls q hw hl => q H locs ls hw hl) hK75 vM x1 x2 x3 x4 _ _ _ h hw hl
def bd_X7_likePairs_4 (Q : Int32 → MV → Prop) (P : MV → Int32 → Int32 → Int32 → Prop) (vM : MV) (x1 : Int32) (x2 : Int32) (x3 : Int32) : Prop := wp_X7_cells vM  (fun (r_2 : Int32) (vM_1 : MV) => (r_2 ≤ x3 → Q x2 vM_1) ∧ (¬ r_2 ≤ x3 → wp_X7_likePairs_15 Q (fun (vM_14 : MV) (x1_15 : Int32) (x2_16 : Int32) (x3_17 : Int32) => ∀ x3_18 : Int32, x3_18 = x3_17 + 1 → P vM_14 x1_15 x2_16 x3_18) vM_1 x1 x2 x3 1))
def wp_X7_likePairs_4 (Q : Int32 → MV → Prop)  (vM : MV) (x1 : Int32) (x2 : Int32) (x3 : Int32) : Prop := ∀ P : MV → Int32 → Int32 → Int32 → Prop, (∀ (vM : MV) (x1 : Int32) (x2 : Int32) (x3 : Int32), bd_X7_likePairs_4 Q P  vM x1 x2 x3 → P vM x1 x2 x3) → P vM x1 x2 x3
set_option maxHeartbeats 4000000 in
set_option maxRecDepth 100000 in
theorem kb_X7_likePairs_4 {p : Program} {l : Launch} {e : Env} {s : State} {m : MethodId} {below : List Frame} {meth : Method} {c : Code} {args : Array Value} {D : va_G} {t : T3} {A : Nat → Prop} (X : Cx p s m meth c args cX7_likePairs 5 (some .int) RX7 wsX7_likePairs D t A) (aM : MA) {Q : Int32 → MV → Prop} {P : MV → Int32 → Int32 → Int32 → Prop} (hP : ∀ (vM : MV) (x1 : Int32) (x2 : Int32) (x3 : Int32) (H : Heap) (locs : List Loc) (ls : Array Slot), P vM x1 x2 x3 → Wd D A s.heap (mW t aM vM) H locs → lv_has ls 5 [(0, .ref (MA.o aM)), (1, .int x1), (2, .int x2), (3, .int x3)] → W p l e ({ frames := 3, cells := 0, slots := 0, locals := 73 } : Room) s m args below meth c H locs 0 0 (Ei below args s A D (fun (u : MV) => (mW t aM u)) (fun (r : Int32) (u : MV) => Q r u) 0 0) (F0 m 4 ls [])) : ∀ (vM : MV) (x1 : Int32) (x2 : Int32) (x3 : Int32) (H : Heap) (locs : List Loc) (ls : Array Slot), bd_X7_likePairs_4 Q P  vM x1 x2 x3 → Wd D A s.heap (mW t aM vM) H locs → lv_has ls 5 [(0, .ref (MA.o aM)), (1, .int x1), (2, .int x2), (3, .int x3)] → W p l e ({ frames := 3, cells := 0, slots := 0, locals := 73 } : Room) s m args below meth c H locs 0 0 (Ei below args s A D (fun (u : MV) => (mW t aM u)) (fun (r : Int32) (u : MV) => Q r u) 0 0) (F0 m 4 ls []) := by
  intro vM x1 x2 x3 H locs ls h hw hl
  have hx := X.1.1
  have hb := X.1.2.1
  refine lv_iload_n hx hb dX7_likePairs_4 rfl (lv_at hl 3 rfl) ?_
  refine lv_aload_n hx hb dX7_likePairs_5 rfl (lv_at hl 0 rfl) ?_
  refine r_ci X hw pm_0 (wn := fun (u : MV) => (mW t aM u)) (fun u => pm_0.symm) (r_runV X hw (c_X7_cells l D t aM vM _ h) pm_0 (cwV 0 X.1.2.2.2.2 gX7_likePairs_X7_cells rfl rfl rfl (by decide +kernel) ⟨Nat.le_of_ble_eq_true rfl, Nat.le_of_ble_eq_true rfl⟩) (ci := 7) rfl rfl rfl rfl hl rfl (Nat.le_of_ble_eq_true rfl) dX7_likePairs_6 ⟨Nat.le_of_ble_eq_true rfl, Nat.le_of_ble_eq_true rfl⟩) (fun r_2 u H locs h hw => ?_)
  obtain ⟨vM_1, rfl⟩ : ∃ z, z = u := ⟨_, rfl⟩
  refine lv_icmp_ge (tgt := 81) hx hb dX7_likePairs_9 (by decide) (fun c_19 => ?_) (fun c_19 => ?_)
  · replace h := h.1 c_19
    refine lv_iload_n hx hb dX7_likePairs_81 rfl (lv_at hl 2 rfl) ?_
    exact e_i (w1 := (fun (u : MV) => (mW t aM u))) X (vM_1) hw h dX7_likePairs_82
  replace h := h.2 c_19
  refine lv_iconst (v := 1) hx hb dX7_likePairs_12 (by decide) ?_
  refine lv_istore (lv' := [(4, .int 1), (0, .ref (MA.o aM)), (1, .int x1), (2, .int x2), (3, .int x3)]) hx hb dX7_likePairs_13 hl (by decide) rfl (fun ls hl => ?_)
  refine k_X7_likePairs_15 X aM (fun vM_14 x1_15 x2_16 x3_17 H locs ls h hw hl => ?_) _ _ _ _ _ _ _ _ h hw (lv_sub hl [1, 2, 3, 4, 0] rfl)
  obtain ⟨x3_18, ex3_18⟩ : ∃ z : Int32, z = x3_17 + 1 := ⟨_, rfl⟩
  replace h := h x3_18 ex3_18
  refine lv_iinc (v := x3_18) (lv' := [(3, .int x3_18), (0, .ref (MA.o aM)), (1, .int x1_15), (2, .int x2_16)]) hx hb dX7_likePairs_75 hl (k := 3) rfl (by rw [ex3_18]; rfl) (by decide) rfl (fun ls hl => ?_)
  refine lv_goto (tgt := 4) hx hb dX7_likePairs_78 (by decide) ?_
  exact hP _ _ _ _ _ _ _ h hw (lv_sub hl [1, 2, 3, 0] rfl)
set_option maxHeartbeats 4000000 in
set_option maxRecDepth 100000 in
theorem k_X7_likePairs_4 {p : Program} {l : Launch} {e : Env} {s : State} {m : MethodId} {below : List Frame} {meth : Method} {c : Code} {args : Array Value} {D : va_G} {t : T3} {A : Nat → Prop} (X : Cx p s m meth c args cX7_likePairs 5 (some .int) RX7 wsX7_likePairs D t A) (aM : MA) {Q : Int32 → MV → Prop}   : ∀ (vM : MV) (x1 : Int32) (x2 : Int32) (x3 : Int32) (H : Heap) (locs : List Loc) (ls : Array Slot), wp_X7_likePairs_4 Q  vM x1 x2 x3 → Wd D A s.heap (mW t aM vM) H locs → lv_has ls 5 [(0, .ref (MA.o aM)), (1, .int x1), (2, .int x2), (3, .int x3)] → W p l e ({ frames := 3, cells := 0, slots := 0, locals := 73 } : Room) s m args below meth c H locs 0 0 (Ei below args s A D (fun (u : MV) => (mW t aM u)) (fun (r : Int32) (u : MV) => Q r u) 0 0) (F0 m 4 ls []) := by
  intro vM x1 x2 x3 H locs ls h hw hl
  have hx := X.1.1
  have hb := X.1.2.1
  refine h (fun (vM : MV) (x1 : Int32) (x2 : Int32) (x3 : Int32) => ∀ (H : Heap) (locs : List Loc) (ls : Array Slot), Wd D A s.heap (mW t aM vM) H locs → lv_has ls 5 [(0, .ref (MA.o aM)), (1, .int x1), (2, .int x2), (3, .int x3)] → W p l e ({ frames := 3, cells := 0, slots := 0, locals := 73 } : Room) s m args below meth c H locs 0 0 (Ei below args s A D (fun (u : MV) => (mW t aM u)) (fun (r : Int32) (u : MV) => Q r u) 0 0) (F0 m 4 ls [])) (fun vM x1 x2 x3 h H locs ls hw hl => ?_) H locs ls hw hl
  exact kb_X7_likePairs_4 X aM (fun vM x1 x2 x3 H locs ls q hw hl => q H locs ls hw hl)  vM x1 x2 x3 _ _ _ h hw hl
def wp_X7_likePairs (vM : MV) (p1 : Int32) (Q : Int32 → MV → Prop) : Prop := wp_X7_likePairs_4 Q  vM p1 0 0
set_option maxHeartbeats 4000000 in
set_option maxRecDepth 100000 in
theorem c_X7_likePairs (l : Launch) (D : va_G) (t : T3) (aM : MA) (vM : MV) (p1 : Int32) (Q : Int32 → MV → Prop) (h : wp_X7_likePairs vM p1 Q) : Ct l yX7_likePairs wsX7_likePairs 3 73 0 0 [.ref (MA.o aM), .int p1] D t (mW t aM vM) (fun sz => Qi D (mW t aM vM) (fun (u : MV) => (mW t aM u)) (fun (r : Int32) (u : MV) => Q r u) sz) := by
  refine Ct.of (Qf := fun _ A => va_Qi (fun (r : Int32) (u : MV) => Q r u) (B1 D (fun (u : MV) => (mW t aM u)) A) A) cX7_likePairs 5 (some .int) (by decide) rfl (Nat.le_of_ble_eq_true rfl) ?_
  intro p e s m below meth c A ls hAe hin X hw hl
  generalize ([.ref (MA.o aM), .int p1] : List Value).toArray = args at X ⊢
  have hl : lv_has ls 5 [(0, .ref (MA.o aM)), (1, .int p1)] := hl
  have hx := X.1.1
  have hb := X.1.2.1
  refine lv_iconst (v := 0) hx hb dX7_likePairs_0 (by decide) ?_
  refine lv_istore_n (lv' := [(2, .int 0), (0, .ref (MA.o aM)), (1, .int p1)]) hx hb dX7_likePairs_1 rfl hl (by decide) rfl (fun ls hl => ?_)
  refine lv_iconst (v := 0) hx hb dX7_likePairs_2 (by decide) ?_
  refine lv_istore_n (lv' := [(3, .int 0), (2, .int 0), (0, .ref (MA.o aM)), (1, .int p1)]) hx hb dX7_likePairs_3 rfl hl (by decide) rfl (fun ls hl => ?_)
  refine k_X7_likePairs_4 X aM  _ _ _ _ _ _ _ h hw (lv_sub hl [2, 3, 1, 0] rfl)
/-! X7_misfits -/
theorem in_X7_misfits_X7 : ∀ w ∈ u_ws RX7 TX7 16, w ∈ wsX7_misfits := fun w h => (List.mem_cons_of_mem _ (List.mem_append_right _ h))
theorem fl_X7_misfits_7 : Cond.fieldLink RX7 7 "TwoFacedTilesModel" "z" "[I" ∈ wsX7_misfits := List.mem_of_getElem? (i := 1) rfl
def wp_X7_misfits_48 (P : MV → Int32 → Int32 → Prop) (Q : Int32 → MV → Prop) (vM : MV) (x2 : Int32) (t0 : Int32) (t1 : Int32) : Prop := ∀ x1_4 : Int32, x1_4 = (t0 + t1) → ∀ x2_5 : Int32, x2_5 = x2 + 1 → P vM x1_4 x2_5
set_option maxHeartbeats 4000000 in
set_option maxRecDepth 100000 in
theorem k_X7_misfits_48 {p : Program} {l : Launch} {e : Env} {s : State} {m : MethodId} {below : List Frame} {meth : Method} {c : Code} {args : Array Value} {D : va_G} {t : T3} {A : Nat → Prop} (X : Cx p s m meth c args cX7_misfits 3 (some .int) RX7 wsX7_misfits D t A) (aM : MA) {P : MV → Int32 → Int32 → Prop} {Q : Int32 → MV → Prop} (hP : ∀ (vM : MV) (x1 : Int32) (x2 : Int32) (H : Heap) (locs : List Loc) (ls : Array Slot), P vM x1 x2 → Wd D A s.heap (mW t aM vM) H locs → lv_has ls 3 [(0, .ref (MA.o aM)), (1, .int x1), (2, .int x2)] → W p l e ({ frames := 5, cells := 0, slots := 0, locals := 123 } : Room) s m args below meth c H locs 0 0 (Ei below args s A D (fun (u : MV) => (mW t aM u)) (fun (r : Int32) (u : MV) => Q r u) 0 0) (F0 m 4 ls [])) : ∀ (vM : MV) (x2 : Int32) (t0 : Int32) (t1 : Int32) (H : Heap) (locs : List Loc) (ls : Array Slot), wp_X7_misfits_48 P Q vM x2 t0 t1 → Wd D A s.heap (mW t aM vM) H locs → lv_has ls 3 [(0, .ref (MA.o aM)), (2, .int x2)] → W p l e ({ frames := 5, cells := 0, slots := 0, locals := 123 } : Room) s m args below meth c H locs 0 0 (Ei below args s A D (fun (u : MV) => (mW t aM u)) (fun (r : Int32) (u : MV) => Q r u) 0 0) (F0 m 48 ls [.int t1, .int t0]) := by
  intro vM x2 t0 t1 H locs ls h hw hl
  have hx := X.1.1
  have hb := X.1.2.1
  refine lv_iadd hx hb dX7_misfits_48 ?_
  refine lv_topi (fun x1_4 ex1_4 => ?_)
  replace h := h x1_4 ex1_4
  refine lv_istore_n (lv' := [(1, .int x1_4), (0, .ref (MA.o aM)), (2, .int x2)]) hx hb dX7_misfits_49 rfl hl (by decide) rfl (fun ls hl => ?_)
  obtain ⟨x2_5, ex2_5⟩ : ∃ z : Int32, z = x2 + 1 := ⟨_, rfl⟩
  replace h := h x2_5 ex2_5
  refine lv_iinc (v := x2_5) (lv' := [(2, .int x2_5), (1, .int x1_4), (0, .ref (MA.o aM))]) hx hb dX7_misfits_50 hl (k := 2) rfl (by rw [ex2_5]; rfl) (by decide) rfl (fun ls hl => ?_)
  refine lv_goto (tgt := 4) hx hb dX7_misfits_53 (by decide) ?_
  exact hP _ _ _ _ _ _ h hw (lv_sub hl [2, 1, 0] rfl)
def wp_X7_misfits_47 (P : MV → Int32 → Int32 → Prop) (Q : Int32 → MV → Prop) (vM : MV) (x2 : Int32) (t0 : Int32) : Prop := wp_X7_misfits_48  P Q vM x2 t0 0
set_option maxHeartbeats 4000000 in
set_option maxRecDepth 100000 in
theorem k_X7_misfits_47 {p : Program} {l : Launch} {e : Env} {s : State} {m : MethodId} {below : List Frame} {meth : Method} {c : Code} {args : Array Value} {D : va_G} {t : T3} {A : Nat → Prop} (X : Cx p s m meth c args cX7_misfits 3 (some .int) RX7 wsX7_misfits D t A) (aM : MA) {P : MV → Int32 → Int32 → Prop} {Q : Int32 → MV → Prop} (hP : ∀ (vM : MV) (x1 : Int32) (x2 : Int32) (H : Heap) (locs : List Loc) (ls : Array Slot), P vM x1 x2 → Wd D A s.heap (mW t aM vM) H locs → lv_has ls 3 [(0, .ref (MA.o aM)), (1, .int x1), (2, .int x2)] → W p l e ({ frames := 5, cells := 0, slots := 0, locals := 123 } : Room) s m args below meth c H locs 0 0 (Ei below args s A D (fun (u : MV) => (mW t aM u)) (fun (r : Int32) (u : MV) => Q r u) 0 0) (F0 m 4 ls [])) : ∀ (vM : MV) (x2 : Int32) (t0 : Int32) (H : Heap) (locs : List Loc) (ls : Array Slot), wp_X7_misfits_47 P Q vM x2 t0 → Wd D A s.heap (mW t aM vM) H locs → lv_has ls 3 [(0, .ref (MA.o aM)), (2, .int x2)] → W p l e ({ frames := 5, cells := 0, slots := 0, locals := 123 } : Room) s m args below meth c H locs 0 0 (Ei below args s A D (fun (u : MV) => (mW t aM u)) (fun (r : Int32) (u : MV) => Q r u) 0 0) (F0 m 47 ls [.int t0]) := by
  intro vM x2 t0 H locs ls h hw hl
  have hx := X.1.1
  have hb := X.1.2.1
  refine lv_iconst (v := 0) hx hb dX7_misfits_47 (by decide) ?_
  exact k_X7_misfits_48 X aM hP _ _ _ _ _ _ _ h hw hl
def bd_X7_misfits_4 (Q : Int32 → MV → Prop) (P : MV → Int32 → Int32 → Prop) (vM : MV) (x1 : Int32) (x2 : Int32) : Prop := wp_X7_cells vM  (fun (r_2 : Int32) (vM_1 : MV) => (r_2 ≤ x2 → Q x1 vM_1) ∧ (¬ r_2 ≤ x2 → vp_in (28 + x2) 52 ∧ (((MV.z vM_1) (Int32.toNatClampNeg (28 + x2))) = (-1) → wp_X7_misfits_47  P Q vM_1 x2 x1) ∧ (¬ ((MV.z vM_1) (Int32.toNatClampNeg (28 + x2))) = (-1) → vp_in (28 + x2) 52 ∧ wp_X7_misfit vM_1 x2 ((MV.z vM_1) (Int32.toNatClampNeg (28 + x2))) (fun (r_8 : Int32) (vM_7 : MV) => (r_8 ≤ 0 → wp_X7_misfits_47  P Q vM_7 x2 x1) ∧ (¬ r_8 ≤ 0 → wp_X7_misfits_48  P Q vM_7 x2 x1 1)))))
def wp_X7_misfits_4 (Q : Int32 → MV → Prop)  (vM : MV) (x1 : Int32) (x2 : Int32) : Prop := ∀ P : MV → Int32 → Int32 → Prop, (∀ (vM : MV) (x1 : Int32) (x2 : Int32), bd_X7_misfits_4 Q P  vM x1 x2 → P vM x1 x2) → P vM x1 x2
set_option maxHeartbeats 4000000 in
set_option maxRecDepth 100000 in
theorem kb_X7_misfits_4 {p : Program} {l : Launch} {e : Env} {s : State} {m : MethodId} {below : List Frame} {meth : Method} {c : Code} {args : Array Value} {D : va_G} {t : T3} {A : Nat → Prop} (X : Cx p s m meth c args cX7_misfits 3 (some .int) RX7 wsX7_misfits D t A) (aM : MA) {Q : Int32 → MV → Prop} {P : MV → Int32 → Int32 → Prop} (hP : ∀ (vM : MV) (x1 : Int32) (x2 : Int32) (H : Heap) (locs : List Loc) (ls : Array Slot), P vM x1 x2 → Wd D A s.heap (mW t aM vM) H locs → lv_has ls 3 [(0, .ref (MA.o aM)), (1, .int x1), (2, .int x2)] → W p l e ({ frames := 5, cells := 0, slots := 0, locals := 123 } : Room) s m args below meth c H locs 0 0 (Ei below args s A D (fun (u : MV) => (mW t aM u)) (fun (r : Int32) (u : MV) => Q r u) 0 0) (F0 m 4 ls [])) : ∀ (vM : MV) (x1 : Int32) (x2 : Int32) (H : Heap) (locs : List Loc) (ls : Array Slot), bd_X7_misfits_4 Q P  vM x1 x2 → Wd D A s.heap (mW t aM vM) H locs → lv_has ls 3 [(0, .ref (MA.o aM)), (1, .int x1), (2, .int x2)] → W p l e ({ frames := 5, cells := 0, slots := 0, locals := 123 } : Room) s m args below meth c H locs 0 0 (Ei below args s A D (fun (u : MV) => (mW t aM u)) (fun (r : Int32) (u : MV) => Q r u) 0 0) (F0 m 4 ls []) := by
  intro vM x1 x2 H locs ls h hw hl
  have hx := X.1.1
  have hb := X.1.2.1
  refine lv_iload_n hx hb dX7_misfits_4 rfl (lv_at hl 2 rfl) ?_
  refine lv_aload_n hx hb dX7_misfits_5 rfl (lv_at hl 0 rfl) ?_
  refine r_ci X hw pm_0 (wn := fun (u : MV) => (mW t aM u)) (fun u => pm_0.symm) (r_runV X hw (c_X7_cells l D t aM vM _ h) pm_0 (cwV 0 X.1.2.2.2.2 gX7_misfits_X7_cells rfl rfl rfl (by decide +kernel) ⟨Nat.le_of_ble_eq_true rfl, Nat.le_of_ble_eq_true rfl⟩) (ci := 7) rfl rfl rfl rfl hl rfl (Nat.le_of_ble_eq_true rfl) dX7_misfits_6 ⟨Nat.le_of_ble_eq_true rfl, Nat.le_of_ble_eq_true rfl⟩) (fun r_2 u H locs h hw => ?_)
  obtain ⟨vM_1, rfl⟩ : ∃ z, z = u := ⟨_, rfl⟩
  refine lv_icmp_ge (tgt := 56) hx hb dX7_misfits_9 (by decide) (fun c_11 => ?_) (fun c_11 => ?_)
  · replace h := h.1 c_11
    refine lv_iload_n hx hb dX7_misfits_56 rfl (lv_at hl 1 rfl) ?_
    exact e_i (w1 := (fun (u : MV) => (mW t aM u))) X (vM_1) hw h dX7_misfits_57
  replace h := h.2 c_11
  refine lv_iload_n hx hb dX7_misfits_12 rfl (lv_at hl 1 rfl) ?_
  refine lv_aload_n hx hb dX7_misfits_13 rfl (lv_at hl 0 rfl) ?_
  refine r_get (ci := 7) (C := RX7) (T := TX7) (N := 16) X hw 0 rfl rfl 1 (by decide) in_X7_misfits_X7 fl_X7_misfits_7 (v := .ref (MA.z aM)) rfl dX7_misfits_14 ?_
  refine lv_bipush (v := 28) hx hb dX7_misfits_17 (by decide) ?_
  refine lv_iload_n hx hb dX7_misfits_19 rfl (lv_at hl 2 rfl) ?_
  refine lv_iadd hx hb dX7_misfits_20 ?_
  obtain ⟨hi_3, h⟩ := h
  refine r_iald (v := ((MV.z vM_1) (Int32.toNatClampNeg (28 + x2)))) X hw 1 rfl hi_3 rfl dX7_misfits_21 ?_
  refine lv_iconst (v := (-1)) hx hb dX7_misfits_22 (by decide) ?_
  refine lv_icmp_eq (tgt := 47) hx hb dX7_misfits_23 (by decide) (fun c_10 => ?_) (fun c_10 => ?_)
  · replace h := h.1 c_10
    exact k_X7_misfits_47 X aM hP _ _ _ _ _ _ h hw (lv_sub hl [0, 2] rfl)
  replace h := h.2 c_10
  refine lv_aload_n hx hb dX7_misfits_26 rfl (lv_at hl 0 rfl) ?_
  refine lv_iload_n hx hb dX7_misfits_27 rfl (lv_at hl 2 rfl) ?_
  refine lv_aload_n hx hb dX7_misfits_28 rfl (lv_at hl 0 rfl) ?_
  refine r_get (ci := 7) (C := RX7) (T := TX7) (N := 16) X hw 0 rfl rfl 1 (by decide) in_X7_misfits_X7 fl_X7_misfits_7 (v := .ref (MA.z aM)) rfl dX7_misfits_29 ?_
  refine lv_bipush (v := 28) hx hb dX7_misfits_32 (by decide) ?_
  refine lv_iload_n hx hb dX7_misfits_34 rfl (lv_at hl 2 rfl) ?_
  refine lv_iadd hx hb dX7_misfits_35 ?_
  obtain ⟨hi_6, h⟩ := h
  refine r_iald (v := ((MV.z vM_1) (Int32.toNatClampNeg (28 + x2)))) X hw 1 rfl hi_6 rfl dX7_misfits_36 ?_
  refine r_ci X hw pm_0 (wn := fun (u : MV) => (mW t aM u)) (fun u => pm_0.symm) (r_runV X hw (c_X7_misfit l D t aM vM_1 x2 ((MV.z vM_1) (Int32.toNatClampNeg (28 + x2))) _ h) pm_0 (cwV 2 X.1.2.2.2.2 gX7_misfits_X7_misfit rfl rfl rfl (by decide +kernel) ⟨Nat.le_of_ble_eq_true rfl, Nat.le_of_ble_eq_true rfl⟩) (ci := 7) rfl rfl rfl rfl hl rfl (Nat.le_of_ble_eq_true rfl) dX7_misfits_37 ⟨Nat.le_of_ble_eq_true rfl, Nat.le_of_ble_eq_true rfl⟩) (fun r_8 u H locs h hw => ?_)
  obtain ⟨vM_7, rfl⟩ : ∃ z, z = u := ⟨_, rfl⟩
  refine lv_if_le (tgt := 47) hx hb dX7_misfits_40 (by decide) (fun c_9 => ?_) (fun c_9 => ?_)
  · replace h := h.1 c_9
    exact k_X7_misfits_47 X aM hP _ _ _ _ _ _ h hw (lv_sub hl [0, 2] rfl)
  replace h := h.2 c_9
  refine lv_iconst (v := 1) hx hb dX7_misfits_43 (by decide) ?_
  refine lv_goto (tgt := 48) hx hb dX7_misfits_44 (by decide) ?_
  exact k_X7_misfits_48 X aM hP _ _ _ _ _ _ _ h hw (lv_sub hl [0, 2] rfl)
set_option maxHeartbeats 4000000 in
set_option maxRecDepth 100000 in
theorem k_X7_misfits_4 {p : Program} {l : Launch} {e : Env} {s : State} {m : MethodId} {below : List Frame} {meth : Method} {c : Code} {args : Array Value} {D : va_G} {t : T3} {A : Nat → Prop} (X : Cx p s m meth c args cX7_misfits 3 (some .int) RX7 wsX7_misfits D t A) (aM : MA) {Q : Int32 → MV → Prop}   : ∀ (vM : MV) (x1 : Int32) (x2 : Int32) (H : Heap) (locs : List Loc) (ls : Array Slot), wp_X7_misfits_4 Q  vM x1 x2 → Wd D A s.heap (mW t aM vM) H locs → lv_has ls 3 [(0, .ref (MA.o aM)), (1, .int x1), (2, .int x2)] → W p l e ({ frames := 5, cells := 0, slots := 0, locals := 123 } : Room) s m args below meth c H locs 0 0 (Ei below args s A D (fun (u : MV) => (mW t aM u)) (fun (r : Int32) (u : MV) => Q r u) 0 0) (F0 m 4 ls []) := by
  intro vM x1 x2 H locs ls h hw hl
  have hx := X.1.1
  have hb := X.1.2.1
  refine h (fun (vM : MV) (x1 : Int32) (x2 : Int32) => ∀ (H : Heap) (locs : List Loc) (ls : Array Slot), Wd D A s.heap (mW t aM vM) H locs → lv_has ls 3 [(0, .ref (MA.o aM)), (1, .int x1), (2, .int x2)] → W p l e ({ frames := 5, cells := 0, slots := 0, locals := 123 } : Room) s m args below meth c H locs 0 0 (Ei below args s A D (fun (u : MV) => (mW t aM u)) (fun (r : Int32) (u : MV) => Q r u) 0 0) (F0 m 4 ls [])) (fun vM x1 x2 h H locs ls hw hl => ?_) H locs ls hw hl
  exact kb_X7_misfits_4 X aM (fun vM x1 x2 H locs ls q hw hl => q H locs ls hw hl)  vM x1 x2 _ _ _ h hw hl
def wp_X7_misfits (vM : MV) (Q : Int32 → MV → Prop) : Prop := wp_X7_misfits_4 Q  vM 0 0
set_option maxHeartbeats 4000000 in
set_option maxRecDepth 100000 in
theorem c_X7_misfits (l : Launch) (D : va_G) (t : T3) (aM : MA) (vM : MV) (Q : Int32 → MV → Prop) (h : wp_X7_misfits vM Q) : Ct l yX7_misfits wsX7_misfits 5 123 0 0 [.ref (MA.o aM)] D t (mW t aM vM) (fun sz => Qi D (mW t aM vM) (fun (u : MV) => (mW t aM u)) (fun (r : Int32) (u : MV) => Q r u) sz) := by
  refine Ct.of (Qf := fun _ A => va_Qi (fun (r : Int32) (u : MV) => Q r u) (B1 D (fun (u : MV) => (mW t aM u)) A) A) cX7_misfits 3 (some .int) (by decide) rfl (Nat.le_of_ble_eq_true rfl) ?_
  intro p e s m below meth c A ls hAe hin X hw hl
  generalize ([.ref (MA.o aM)] : List Value).toArray = args at X ⊢
  have hl : lv_has ls 3 [(0, .ref (MA.o aM))] := hl
  have hx := X.1.1
  have hb := X.1.2.1
  refine lv_iconst (v := 0) hx hb dX7_misfits_0 (by decide) ?_
  refine lv_istore_n (lv' := [(1, .int 0), (0, .ref (MA.o aM))]) hx hb dX7_misfits_1 rfl hl (by decide) rfl (fun ls hl => ?_)
  refine lv_iconst (v := 0) hx hb dX7_misfits_2 (by decide) ?_
  refine lv_istore_n (lv' := [(2, .int 0), (1, .int 0), (0, .ref (MA.o aM))]) hx hb dX7_misfits_3 rfl hl (by decide) rfl (fun ls hl => ?_)
  refine k_X7_misfits_4 X aM  _ _ _ _ _ _ h hw (lv_sub hl [2, 1, 0] rfl)
/-! X7_fixedMany -/
theorem in_X7_fixedMany_X7 : ∀ w ∈ u_ws RX7 TX7 16, w ∈ wsX7_fixedMany := fun w h => (List.mem_cons_of_mem _ (List.mem_append_right _ h))
theorem fl_X7_fixedMany_7 : Cond.fieldLink RX7 7 "TwoFacedTilesModel" "z" "[I" ∈ wsX7_fixedMany := List.mem_of_getElem? (i := 1) rfl
def bd_X7_fixedMany_4 (Q : Int32 → MV → Prop) (P : MV → Int32 → Int32 → Prop) (vM : MV) (x1 : Int32) (x2 : Int32) : Prop := wp_X7_cells vM  (fun (r_2 : Int32) (vM_1 : MV) => (r_2 ≤ x2 → Q x1 vM_1) ∧ (¬ r_2 ≤ x2 → vp_in (40 + x2) 52 ∧ ∀ x1_4 : Int32, x1_4 = (x1 + ((MV.z vM_1) (Int32.toNatClampNeg (40 + x2)))) → ∀ x2_5 : Int32, x2_5 = x2 + 1 → P vM_1 x1_4 x2_5))
def wp_X7_fixedMany_4 (Q : Int32 → MV → Prop)  (vM : MV) (x1 : Int32) (x2 : Int32) : Prop := ∀ P : MV → Int32 → Int32 → Prop, (∀ (vM : MV) (x1 : Int32) (x2 : Int32), bd_X7_fixedMany_4 Q P  vM x1 x2 → P vM x1 x2) → P vM x1 x2
set_option maxHeartbeats 4000000 in
set_option maxRecDepth 100000 in
theorem kb_X7_fixedMany_4 {p : Program} {l : Launch} {e : Env} {s : State} {m : MethodId} {below : List Frame} {meth : Method} {c : Code} {args : Array Value} {D : va_G} {t : T3} {A : Nat → Prop} (X : Cx p s m meth c args cX7_fixedMany 3 (some .int) RX7 wsX7_fixedMany D t A) (aM : MA) {Q : Int32 → MV → Prop} {P : MV → Int32 → Int32 → Prop} (hP : ∀ (vM : MV) (x1 : Int32) (x2 : Int32) (H : Heap) (locs : List Loc) (ls : Array Slot), P vM x1 x2 → Wd D A s.heap (mW t aM vM) H locs → lv_has ls 3 [(0, .ref (MA.o aM)), (1, .int x1), (2, .int x2)] → W p l e ({ frames := 1, cells := 0, slots := 0, locals := 20 } : Room) s m args below meth c H locs 0 0 (Ei below args s A D (fun (u : MV) => (mW t aM u)) (fun (r : Int32) (u : MV) => Q r u) 0 0) (F0 m 4 ls [])) : ∀ (vM : MV) (x1 : Int32) (x2 : Int32) (H : Heap) (locs : List Loc) (ls : Array Slot), bd_X7_fixedMany_4 Q P  vM x1 x2 → Wd D A s.heap (mW t aM vM) H locs → lv_has ls 3 [(0, .ref (MA.o aM)), (1, .int x1), (2, .int x2)] → W p l e ({ frames := 1, cells := 0, slots := 0, locals := 20 } : Room) s m args below meth c H locs 0 0 (Ei below args s A D (fun (u : MV) => (mW t aM u)) (fun (r : Int32) (u : MV) => Q r u) 0 0) (F0 m 4 ls []) := by
  intro vM x1 x2 H locs ls h hw hl
  have hx := X.1.1
  have hb := X.1.2.1
  refine lv_iload_n hx hb dX7_fixedMany_4 rfl (lv_at hl 2 rfl) ?_
  refine lv_aload_n hx hb dX7_fixedMany_5 rfl (lv_at hl 0 rfl) ?_
  refine r_ci X hw pm_0 (wn := fun (u : MV) => (mW t aM u)) (fun u => pm_0.symm) (r_runV X hw (c_X7_cells l D t aM vM _ h) pm_0 (cwV 0 X.1.2.2.2.2 gX7_fixedMany_X7_cells rfl rfl rfl (by decide +kernel) ⟨Nat.le_of_ble_eq_true rfl, Nat.le_of_ble_eq_true rfl⟩) (ci := 7) rfl rfl rfl rfl hl rfl (Nat.le_of_ble_eq_true rfl) dX7_fixedMany_6 ⟨Nat.le_of_ble_eq_true rfl, Nat.le_of_ble_eq_true rfl⟩) (fun r_2 u H locs h hw => ?_)
  obtain ⟨vM_1, rfl⟩ : ∃ z, z = u := ⟨_, rfl⟩
  refine lv_icmp_ge (tgt := 30) hx hb dX7_fixedMany_9 (by decide) (fun c_6 => ?_) (fun c_6 => ?_)
  · replace h := h.1 c_6
    refine lv_iload_n hx hb dX7_fixedMany_30 rfl (lv_at hl 1 rfl) ?_
    exact e_i (w1 := (fun (u : MV) => (mW t aM u))) X (vM_1) hw h dX7_fixedMany_31
  replace h := h.2 c_6
  refine lv_iload_n hx hb dX7_fixedMany_12 rfl (lv_at hl 1 rfl) ?_
  refine lv_aload_n hx hb dX7_fixedMany_13 rfl (lv_at hl 0 rfl) ?_
  refine r_get (ci := 7) (C := RX7) (T := TX7) (N := 16) X hw 0 rfl rfl 1 (by decide) in_X7_fixedMany_X7 fl_X7_fixedMany_7 (v := .ref (MA.z aM)) rfl dX7_fixedMany_14 ?_
  refine lv_bipush (v := 40) hx hb dX7_fixedMany_17 (by decide) ?_
  refine lv_iload_n hx hb dX7_fixedMany_19 rfl (lv_at hl 2 rfl) ?_
  refine lv_iadd hx hb dX7_fixedMany_20 ?_
  obtain ⟨hi_3, h⟩ := h
  refine r_iald (v := ((MV.z vM_1) (Int32.toNatClampNeg (40 + x2)))) X hw 1 rfl hi_3 rfl dX7_fixedMany_21 ?_
  refine lv_iadd hx hb dX7_fixedMany_22 ?_
  refine lv_topi (fun x1_4 ex1_4 => ?_)
  replace h := h x1_4 ex1_4
  refine lv_istore_n (lv' := [(1, .int x1_4), (0, .ref (MA.o aM)), (2, .int x2)]) hx hb dX7_fixedMany_23 rfl hl (by decide) rfl (fun ls hl => ?_)
  obtain ⟨x2_5, ex2_5⟩ : ∃ z : Int32, z = x2 + 1 := ⟨_, rfl⟩
  replace h := h x2_5 ex2_5
  refine lv_iinc (v := x2_5) (lv' := [(2, .int x2_5), (1, .int x1_4), (0, .ref (MA.o aM))]) hx hb dX7_fixedMany_24 hl (k := 2) rfl (by rw [ex2_5]; rfl) (by decide) rfl (fun ls hl => ?_)
  refine lv_goto (tgt := 4) hx hb dX7_fixedMany_27 (by decide) ?_
  exact hP _ _ _ _ _ _ h hw (lv_sub hl [2, 1, 0] rfl)
set_option maxHeartbeats 4000000 in
set_option maxRecDepth 100000 in
theorem k_X7_fixedMany_4 {p : Program} {l : Launch} {e : Env} {s : State} {m : MethodId} {below : List Frame} {meth : Method} {c : Code} {args : Array Value} {D : va_G} {t : T3} {A : Nat → Prop} (X : Cx p s m meth c args cX7_fixedMany 3 (some .int) RX7 wsX7_fixedMany D t A) (aM : MA) {Q : Int32 → MV → Prop}   : ∀ (vM : MV) (x1 : Int32) (x2 : Int32) (H : Heap) (locs : List Loc) (ls : Array Slot), wp_X7_fixedMany_4 Q  vM x1 x2 → Wd D A s.heap (mW t aM vM) H locs → lv_has ls 3 [(0, .ref (MA.o aM)), (1, .int x1), (2, .int x2)] → W p l e ({ frames := 1, cells := 0, slots := 0, locals := 20 } : Room) s m args below meth c H locs 0 0 (Ei below args s A D (fun (u : MV) => (mW t aM u)) (fun (r : Int32) (u : MV) => Q r u) 0 0) (F0 m 4 ls []) := by
  intro vM x1 x2 H locs ls h hw hl
  have hx := X.1.1
  have hb := X.1.2.1
  refine h (fun (vM : MV) (x1 : Int32) (x2 : Int32) => ∀ (H : Heap) (locs : List Loc) (ls : Array Slot), Wd D A s.heap (mW t aM vM) H locs → lv_has ls 3 [(0, .ref (MA.o aM)), (1, .int x1), (2, .int x2)] → W p l e ({ frames := 1, cells := 0, slots := 0, locals := 20 } : Room) s m args below meth c H locs 0 0 (Ei below args s A D (fun (u : MV) => (mW t aM u)) (fun (r : Int32) (u : MV) => Q r u) 0 0) (F0 m 4 ls [])) (fun vM x1 x2 h H locs ls hw hl => ?_) H locs ls hw hl
  exact kb_X7_fixedMany_4 X aM (fun vM x1 x2 H locs ls q hw hl => q H locs ls hw hl)  vM x1 x2 _ _ _ h hw hl
def wp_X7_fixedMany (vM : MV) (Q : Int32 → MV → Prop) : Prop := wp_X7_fixedMany_4 Q  vM 0 0
set_option maxHeartbeats 4000000 in
set_option maxRecDepth 100000 in
theorem c_X7_fixedMany (l : Launch) (D : va_G) (t : T3) (aM : MA) (vM : MV) (Q : Int32 → MV → Prop) (h : wp_X7_fixedMany vM Q) : Ct l yX7_fixedMany wsX7_fixedMany 1 20 0 0 [.ref (MA.o aM)] D t (mW t aM vM) (fun sz => Qi D (mW t aM vM) (fun (u : MV) => (mW t aM u)) (fun (r : Int32) (u : MV) => Q r u) sz) := by
  refine Ct.of (Qf := fun _ A => va_Qi (fun (r : Int32) (u : MV) => Q r u) (B1 D (fun (u : MV) => (mW t aM u)) A) A) cX7_fixedMany 3 (some .int) (by decide) rfl (Nat.le_of_ble_eq_true rfl) ?_
  intro p e s m below meth c A ls hAe hin X hw hl
  generalize ([.ref (MA.o aM)] : List Value).toArray = args at X ⊢
  have hl : lv_has ls 3 [(0, .ref (MA.o aM))] := hl
  have hx := X.1.1
  have hb := X.1.2.1
  refine lv_iconst (v := 0) hx hb dX7_fixedMany_0 (by decide) ?_
  refine lv_istore_n (lv' := [(1, .int 0), (0, .ref (MA.o aM))]) hx hb dX7_fixedMany_1 rfl hl (by decide) rfl (fun ls hl => ?_)
  refine lv_iconst (v := 0) hx hb dX7_fixedMany_2 (by decide) ?_
  refine lv_istore_n (lv' := [(2, .int 0), (1, .int 0), (0, .ref (MA.o aM))]) hx hb dX7_fixedMany_3 rfl hl (by decide) rfl (fun ls hl => ?_)
  refine k_X7_fixedMany_4 X aM  _ _ _ _ _ _ h hw (lv_sub hl [2, 1, 0] rfl)
/-! X7_counted -/
theorem in_X7_counted_X7 : ∀ w ∈ u_ws RX7 TX7 16, w ∈ wsX7_counted := fun w h => (List.mem_cons_of_mem _ (List.mem_append_right _ h))
theorem fl_X7_counted_7 : Cond.fieldLink RX7 7 "TwoFacedTilesModel" "z" "[I" ∈ wsX7_counted := List.mem_of_getElem? (i := 1) rfl
theorem fl_X7_counted_98 : Cond.fieldLink RX7 98 "TwoFacedTilesModel" "saves" "I" ∈ wsX7_counted := List.mem_of_getElem? (i := 2) rfl
def wp_X7_counted (vM : MV) (p1 : Int32) (Q : Int32 → MV → Prop) : Prop := (p1 = 0 → Q ((MV.z vM) 0) vM) ∧ (p1 = 1 → Q ((MV.z vM) 1) vM) ∧ (p1 = 2 → Q ((MV.z vM) 3) vM) ∧ (p1 = 3 → wp_X7_empties vM  (fun (r_5 : Int32) (vM_4 : MV) => Q r_5 vM_4)) ∧ (p1 = 4 → wp_X7_fixedMany vM  (fun (r_8 : Int32) (vM_7 : MV) => Q r_8 vM_7)) ∧ (p1 = 5 → Q ((MV.z vM) 2) vM) ∧ (p1 = 6 → wp_X7_likePairs vM 0 (fun (r_12 : Int32) (vM_11 : MV) => Q r_12 vM_11)) ∧ (p1 = 7 → wp_X7_likePairs vM 1 (fun (r_15 : Int32) (vM_14 : MV) => Q r_15 vM_14)) ∧ (p1 = 8 → wp_X7_misfits vM  (fun (r_18 : Int32) (vM_17 : MV) => Q r_18 vM_17)) ∧ (¬ p1 = 0 → ¬ p1 = 1 → ¬ p1 = 2 → ¬ p1 = 3 → ¬ p1 = 4 → ¬ p1 = 5 → ¬ p1 = 6 → ¬ p1 = 7 → ¬ p1 = 8 → Q (MV.saves vM) vM)
set_option maxHeartbeats 4000000 in
set_option maxRecDepth 100000 in
theorem c_X7_counted (l : Launch) (D : va_G) (t : T3) (aM : MA) (vM : MV) (p1 : Int32) (Q : Int32 → MV → Prop) (h : wp_X7_counted vM p1 Q) : Ct l yX7_counted wsX7_counted 6 145 0 0 [.ref (MA.o aM), .int p1] D t (mW t aM vM) (fun sz => Qi D (mW t aM vM) (fun (u : MV) => (mW t aM u)) (fun (r : Int32) (u : MV) => Q r u) sz) := by
  refine Ct.of (Qf := fun _ A => va_Qi (fun (r : Int32) (u : MV) => Q r u) (B1 D (fun (u : MV) => (mW t aM u)) A) A) cX7_counted 2 (some .int) (by decide) rfl (Nat.le_of_ble_eq_true rfl) ?_
  intro p e s m below meth c A ls hAe hin X hw hl
  generalize ([.ref (MA.o aM), .int p1] : List Value).toArray = args at X ⊢
  have hl : lv_has ls 2 [(0, .ref (MA.o aM)), (1, .int p1)] := hl
  have hx := X.1.1
  have hb := X.1.2.1
  refine lv_iload_n hx hb dX7_counted_0 rfl (lv_at hl 1 rfl) ?_
  by_cases c_1 : p1 = 0
  · replace h := h.1 c_1
    refine lv_tableIn (off := 51) (tgt := 52) hx hb dX7_counted_1 (by rw [c_1]; decide) (by rw [c_1]; decide) (by rw [c_1]; rfl) (by decide) ?_
    refine lv_aload_n hx hb dX7_counted_52 rfl (lv_at hl 0 rfl) ?_
    refine r_get (ci := 7) (C := RX7) (T := TX7) (N := 16) X hw 0 rfl rfl 1 (by decide) in_X7_counted_X7 fl_X7_counted_7 (v := .ref (MA.z aM)) rfl dX7_counted_53 ?_
    refine lv_iconst (v := 0) hx hb dX7_counted_56 (by decide) ?_
    refine r_iald (v := ((MV.z vM) 0)) X hw 1 rfl (vpl rfl) rfl dX7_counted_57 ?_
    exact e_i (w1 := (fun (u : MV) => (mW t aM u))) X (vM) hw h dX7_counted_58
  by_cases c_2 : p1 = 1
  · replace h := h.2.1 c_2
    refine lv_tableIn (off := 58) (tgt := 59) hx hb dX7_counted_1 (by rw [c_2]; decide) (by rw [c_2]; decide) (by rw [c_2]; rfl) (by decide) ?_
    refine lv_aload_n hx hb dX7_counted_59 rfl (lv_at hl 0 rfl) ?_
    refine r_get (ci := 7) (C := RX7) (T := TX7) (N := 16) X hw 0 rfl rfl 1 (by decide) in_X7_counted_X7 fl_X7_counted_7 (v := .ref (MA.z aM)) rfl dX7_counted_60 ?_
    refine lv_iconst (v := 1) hx hb dX7_counted_63 (by decide) ?_
    refine r_iald (v := ((MV.z vM) 1)) X hw 1 rfl (vpl rfl) rfl dX7_counted_64 ?_
    exact e_i (w1 := (fun (u : MV) => (mW t aM u))) X (vM) hw h dX7_counted_65
  by_cases c_3 : p1 = 2
  · replace h := h.2.2.1 c_3
    refine lv_tableIn (off := 65) (tgt := 66) hx hb dX7_counted_1 (by rw [c_3]; decide) (by rw [c_3]; decide) (by rw [c_3]; rfl) (by decide) ?_
    refine lv_aload_n hx hb dX7_counted_66 rfl (lv_at hl 0 rfl) ?_
    refine r_get (ci := 7) (C := RX7) (T := TX7) (N := 16) X hw 0 rfl rfl 1 (by decide) in_X7_counted_X7 fl_X7_counted_7 (v := .ref (MA.z aM)) rfl dX7_counted_67 ?_
    refine lv_iconst (v := 3) hx hb dX7_counted_70 (by decide) ?_
    refine r_iald (v := ((MV.z vM) 3)) X hw 1 rfl (vpl rfl) rfl dX7_counted_71 ?_
    exact e_i (w1 := (fun (u : MV) => (mW t aM u))) X (vM) hw h dX7_counted_72
  by_cases c_6 : p1 = 3
  · replace h := h.2.2.2.1 c_6
    refine lv_tableIn (off := 72) (tgt := 73) hx hb dX7_counted_1 (by rw [c_6]; decide) (by rw [c_6]; decide) (by rw [c_6]; rfl) (by decide) ?_
    refine lv_aload_n hx hb dX7_counted_73 rfl (lv_at hl 0 rfl) ?_
    refine r_ci X hw pm_0 (wn := fun (u : MV) => (mW t aM u)) (fun u => pm_0.symm) (r_runV X hw (c_X7_empties l D t aM vM _ h) pm_0 (cwV 0 X.1.2.2.2.2 gX7_counted_X7_empties rfl rfl rfl (by decide +kernel) ⟨Nat.le_of_ble_eq_true rfl, Nat.le_of_ble_eq_true rfl⟩) (ci := 7) rfl rfl rfl rfl hl rfl (Nat.le_of_ble_eq_true rfl) dX7_counted_74 ⟨Nat.le_of_ble_eq_true rfl, Nat.le_of_ble_eq_true rfl⟩) (fun r_5 u H locs h hw => ?_)
    obtain ⟨vM_4, rfl⟩ : ∃ z, z = u := ⟨_, rfl⟩
    exact e_i (w1 := (fun (u : MV) => (mW t aM u))) X (vM_4) hw h dX7_counted_77
  by_cases c_9 : p1 = 4
  · replace h := h.2.2.2.2.1 c_9
    refine lv_tableIn (off := 77) (tgt := 78) hx hb dX7_counted_1 (by rw [c_9]; decide) (by rw [c_9]; decide) (by rw [c_9]; rfl) (by decide) ?_
    refine lv_aload_n hx hb dX7_counted_78 rfl (lv_at hl 0 rfl) ?_
    refine r_ci X hw pm_0 (wn := fun (u : MV) => (mW t aM u)) (fun u => pm_0.symm) (r_runV X hw (c_X7_fixedMany l D t aM vM _ h) pm_0 (cwV 0 X.1.2.2.2.2 gX7_counted_X7_fixedMany rfl rfl rfl (by decide +kernel) ⟨Nat.le_of_ble_eq_true rfl, Nat.le_of_ble_eq_true rfl⟩) (ci := 7) rfl rfl rfl rfl hl rfl (Nat.le_of_ble_eq_true rfl) dX7_counted_79 ⟨Nat.le_of_ble_eq_true rfl, Nat.le_of_ble_eq_true rfl⟩) (fun r_8 u H locs h hw => ?_)
    obtain ⟨vM_7, rfl⟩ : ∃ z, z = u := ⟨_, rfl⟩
    exact e_i (w1 := (fun (u : MV) => (mW t aM u))) X (vM_7) hw h dX7_counted_82
  by_cases c_10 : p1 = 5
  · replace h := h.2.2.2.2.2.1 c_10
    refine lv_tableIn (off := 82) (tgt := 83) hx hb dX7_counted_1 (by rw [c_10]; decide) (by rw [c_10]; decide) (by rw [c_10]; rfl) (by decide) ?_
    refine lv_aload_n hx hb dX7_counted_83 rfl (lv_at hl 0 rfl) ?_
    refine r_get (ci := 7) (C := RX7) (T := TX7) (N := 16) X hw 0 rfl rfl 1 (by decide) in_X7_counted_X7 fl_X7_counted_7 (v := .ref (MA.z aM)) rfl dX7_counted_84 ?_
    refine lv_iconst (v := 2) hx hb dX7_counted_87 (by decide) ?_
    refine r_iald (v := ((MV.z vM) 2)) X hw 1 rfl (vpl rfl) rfl dX7_counted_88 ?_
    exact e_i (w1 := (fun (u : MV) => (mW t aM u))) X (vM) hw h dX7_counted_89
  by_cases c_13 : p1 = 6
  · replace h := h.2.2.2.2.2.2.1 c_13
    refine lv_tableIn (off := 89) (tgt := 90) hx hb dX7_counted_1 (by rw [c_13]; decide) (by rw [c_13]; decide) (by rw [c_13]; rfl) (by decide) ?_
    refine lv_aload_n hx hb dX7_counted_90 rfl (lv_at hl 0 rfl) ?_
    refine lv_iconst (v := 0) hx hb dX7_counted_91 (by decide) ?_
    refine r_ci X hw pm_0 (wn := fun (u : MV) => (mW t aM u)) (fun u => pm_0.symm) (r_runV X hw (c_X7_likePairs l D t aM vM 0 _ h) pm_0 (cwV 1 X.1.2.2.2.2 gX7_counted_X7_likePairs rfl rfl rfl (by decide +kernel) ⟨Nat.le_of_ble_eq_true rfl, Nat.le_of_ble_eq_true rfl⟩) (ci := 7) rfl rfl rfl rfl hl rfl (Nat.le_of_ble_eq_true rfl) dX7_counted_92 ⟨Nat.le_of_ble_eq_true rfl, Nat.le_of_ble_eq_true rfl⟩) (fun r_12 u H locs h hw => ?_)
    obtain ⟨vM_11, rfl⟩ : ∃ z, z = u := ⟨_, rfl⟩
    exact e_i (w1 := (fun (u : MV) => (mW t aM u))) X (vM_11) hw h dX7_counted_95
  by_cases c_16 : p1 = 7
  · replace h := h.2.2.2.2.2.2.2.1 c_16
    refine lv_tableIn (off := 95) (tgt := 96) hx hb dX7_counted_1 (by rw [c_16]; decide) (by rw [c_16]; decide) (by rw [c_16]; rfl) (by decide) ?_
    refine lv_aload_n hx hb dX7_counted_96 rfl (lv_at hl 0 rfl) ?_
    refine lv_iconst (v := 1) hx hb dX7_counted_97 (by decide) ?_
    refine r_ci X hw pm_0 (wn := fun (u : MV) => (mW t aM u)) (fun u => pm_0.symm) (r_runV X hw (c_X7_likePairs l D t aM vM 1 _ h) pm_0 (cwV 1 X.1.2.2.2.2 gX7_counted_X7_likePairs rfl rfl rfl (by decide +kernel) ⟨Nat.le_of_ble_eq_true rfl, Nat.le_of_ble_eq_true rfl⟩) (ci := 7) rfl rfl rfl rfl hl rfl (Nat.le_of_ble_eq_true rfl) dX7_counted_98 ⟨Nat.le_of_ble_eq_true rfl, Nat.le_of_ble_eq_true rfl⟩) (fun r_15 u H locs h hw => ?_)
    obtain ⟨vM_14, rfl⟩ : ∃ z, z = u := ⟨_, rfl⟩
    exact e_i (w1 := (fun (u : MV) => (mW t aM u))) X (vM_14) hw h dX7_counted_101
  by_cases c_19 : p1 = 8
  · replace h := h.2.2.2.2.2.2.2.2.1 c_19
    refine lv_tableIn (off := 101) (tgt := 102) hx hb dX7_counted_1 (by rw [c_19]; decide) (by rw [c_19]; decide) (by rw [c_19]; rfl) (by decide) ?_
    refine lv_aload_n hx hb dX7_counted_102 rfl (lv_at hl 0 rfl) ?_
    refine r_ci X hw pm_0 (wn := fun (u : MV) => (mW t aM u)) (fun u => pm_0.symm) (r_runV X hw (c_X7_misfits l D t aM vM _ h) pm_0 (cwV 0 X.1.2.2.2.2 gX7_counted_X7_misfits rfl rfl rfl (by decide +kernel) ⟨Nat.le_of_ble_eq_true rfl, Nat.le_of_ble_eq_true rfl⟩) (ci := 7) rfl rfl rfl rfl hl rfl (Nat.le_of_ble_eq_true rfl) dX7_counted_103 ⟨Nat.le_of_ble_eq_true rfl, Nat.le_of_ble_eq_true rfl⟩) (fun r_18 u H locs h hw => ?_)
    obtain ⟨vM_17, rfl⟩ : ∃ z, z = u := ⟨_, rfl⟩
    exact e_i (w1 := (fun (u : MV) => (mW t aM u))) X (vM_17) hw h dX7_counted_106
  replace h := h.2.2.2.2.2.2.2.2.2 c_1 c_2 c_3 c_6 c_9 c_10 c_13 c_16 c_19
  refine lv_tableOut (tgt := 107) hx hb dX7_counted_1 (tab_outL 8 (fun k hk => match k, hk with | 0, _ => c_1 | 1, _ => c_2 | 2, _ => c_3 | 3, _ => c_6 | 4, _ => c_9 | 5, _ => c_10 | 6, _ => c_13 | 7, _ => c_16 | 8, _ => c_19 | (z + 9), hk => absurd hk (by omega))) (by decide) ?_
  refine lv_aload_n hx hb dX7_counted_107 rfl (lv_at hl 0 rfl) ?_
  refine r_get (ci := 7) (C := RX7) (T := TX7) (N := 16) X hw 0 rfl rfl 2 (by decide) in_X7_counted_X7 fl_X7_counted_98 (v := .int (MV.saves vM)) rfl dX7_counted_108 ?_
  exact e_i (w1 := (fun (u : MV) => (mW t aM u))) X (vM) hw h dX7_counted_111
/-! X7_count -/
theorem in_X7_count_X7 : ∀ w ∈ u_ws RX7 TX7 16, w ∈ wsX7_count := fun w h => (List.mem_cons_of_mem _ (List.mem_append_right _ h))
theorem fl_X7_count_34 : Cond.fieldLink RX7 34 "TwoFacedTilesModel" "thrown" "I" ∈ wsX7_count := List.mem_of_getElem? (i := 1) rfl
def wp_X7_count_16 (Q : Int32 → MV → Prop) (vM : MV) (x1 : Int32) (t1 : Int32) : Prop := (t1 ≤ 0 → wp_X7_counted (MV.s_thrown vM t1) x1 (fun (r_3 : Int32) (vM_2 : MV) => Q r_3 vM_2)) ∧ (¬ t1 ≤ 0 → Q 0 (MV.s_thrown vM t1))
set_option maxHeartbeats 4000000 in
set_option maxRecDepth 100000 in
theorem k_X7_count_16 {p : Program} {l : Launch} {e : Env} {s : State} {m : MethodId} {below : List Frame} {meth : Method} {c : Code} {args : Array Value} {D : va_G} {t : T3} {A : Nat → Prop} (X : Cx p s m meth c args cX7_count 2 (some .int) RX7 wsX7_count D t A) (aM : MA) {Q : Int32 → MV → Prop}  : ∀ (vM : MV) (x1 : Int32) (t1 : Int32) (H : Heap) (locs : List Loc) (ls : Array Slot), wp_X7_count_16 Q vM x1 t1 → Wd D A s.heap (mW t aM vM) H locs → lv_has ls 2 [(0, .ref (MA.o aM)), (1, .int x1)] → W p l e ({ frames := 7, cells := 0, slots := 0, locals := 166 } : Room) s m args below meth c H locs 0 0 (Ei below args s A D (fun (u : MV) => (mW t aM u)) (fun (r : Int32) (u : MV) => Q r u) 0 0) (F0 m 16 ls [.int t1, .ref (MA.o aM)]) := by
  intro vM x1 t1 H locs ls h hw hl
  have hx := X.1.1
  have hb := X.1.2.1
  refine r_put (ci := 7) (C := RX7) (T := TX7) (N := 16) (v := .int t1) (ws' := (mW t aM (MV.s_thrown vM t1))) X hw 0 rfl rfl 0 (by decide) in_X7_count_X7 tyX7 tyX7_ok nmX7 fl_X7_count_34 rfl rfl rfl (Nat.le_of_ble_eq_true rfl) rfl dX7_count_16 (fun H locs hw => ?_)
  refine lv_aload_n hx hb dX7_count_19 rfl (lv_at hl 0 rfl) ?_
  refine r_get (ci := 7) (C := RX7) (T := TX7) (N := 16) X hw 0 rfl rfl 0 (by decide) in_X7_count_X7 fl_X7_count_34 (v := .int t1) rfl dX7_count_20 ?_
  refine lv_if_le (tgt := 30) hx hb dX7_count_23 (by decide) (fun c_4 => ?_) (fun c_4 => ?_)
  · replace h := h.1 c_4
    refine lv_aload_n hx hb dX7_count_30 rfl (lv_at hl 0 rfl) ?_
    refine lv_iload_n hx hb dX7_count_31 rfl (lv_at hl 1 rfl) ?_
    refine r_ci X hw pm_0 (wn := fun (u : MV) => (mW t aM u)) (fun u => pm_0.symm) (r_runV X hw (c_X7_counted l D t aM (MV.s_thrown vM t1) x1 _ h) pm_0 (cwV 1 X.1.2.2.2.2 gX7_count_X7_counted rfl rfl rfl (by decide +kernel) ⟨Nat.le_of_ble_eq_true rfl, Nat.le_of_ble_eq_true rfl⟩) (ci := 7) rfl rfl rfl rfl hl rfl (Nat.le_of_ble_eq_true rfl) dX7_count_32 ⟨Nat.le_of_ble_eq_true rfl, Nat.le_of_ble_eq_true rfl⟩) (fun r_3 u H locs h hw => ?_)
    obtain ⟨vM_2, rfl⟩ : ∃ z, z = u := ⟨_, rfl⟩
    exact e_i (w1 := (fun (u : MV) => (mW t aM u))) X (vM_2) hw h dX7_count_35
  replace h := h.2 c_4
  refine lv_iconst (v := 0) hx hb dX7_count_26 (by decide) ?_
  refine lv_goto (tgt := 35) hx hb dX7_count_27 (by decide) ?_
  exact e_i (w1 := (fun (u : MV) => (mW t aM u))) X ((MV.s_thrown vM t1)) hw h dX7_count_35
def wp_X7_count (vM : MV) (p1 : Int32) (Q : Int32 → MV → Prop) : Prop := wp_X7_within  p1 0 9 (fun (r_1 : Int32) => (r_1 = 0 → wp_X7_count_16  Q vM p1 1) ∧ (¬ r_1 = 0 → wp_X7_count_16  Q vM p1 0))
set_option maxHeartbeats 4000000 in
set_option maxRecDepth 100000 in
theorem c_X7_count (l : Launch) (D : va_G) (t : T3) (aM : MA) (vM : MV) (p1 : Int32) (Q : Int32 → MV → Prop) (h : wp_X7_count vM p1 Q) : Ct l yX7_count wsX7_count 7 166 0 0 [.ref (MA.o aM), .int p1] D t (mW t aM vM) (fun sz => Qi D (mW t aM vM) (fun (u : MV) => (mW t aM u)) (fun (r : Int32) (u : MV) => Q r u) sz) := by
  refine Ct.of (Qf := fun _ A => va_Qi (fun (r : Int32) (u : MV) => Q r u) (B1 D (fun (u : MV) => (mW t aM u)) A) A) cX7_count 2 (some .int) (by decide) rfl (Nat.le_of_ble_eq_true rfl) ?_
  intro p e s m below meth c A ls hAe hin X hw hl
  generalize ([.ref (MA.o aM), .int p1] : List Value).toArray = args at X ⊢
  have hl : lv_has ls 2 [(0, .ref (MA.o aM)), (1, .int p1)] := hl
  have hx := X.1.1
  have hb := X.1.2.1
  refine lv_aload_n hx hb dX7_count_0 rfl (lv_at hl 0 rfl) ?_
  refine lv_iload_n hx hb dX7_count_1 rfl (lv_at hl 1 rfl) ?_
  refine lv_iconst (v := 0) hx hb dX7_count_2 (by decide) ?_
  refine lv_bipush (v := 9) hx hb dX7_count_3 (by decide) ?_
  refine r_ci X hw pm_n (wn := fun (u : Unit) => (mW t aM vM)) (fun u => (pm_n).symm) (r_runS X hw (c_X7_within l D t p1 0 9 _ h) pm_n (va_cwS 3 X.1.2.2.2.2 gX7_count_X7_within rfl rfl rfl (by decide +kernel) ⟨Nat.le_of_ble_eq_true rfl, Nat.le_of_ble_eq_true rfl⟩) rfl hl rfl (Nat.le_of_ble_eq_true rfl) dX7_count_5 ⟨Nat.le_of_ble_eq_true rfl, Nat.le_of_ble_eq_true rfl⟩) (fun r_1 u H locs h hw => ?_)
  refine lv_if_eq (tgt := 15) hx hb dX7_count_8 (by decide) (fun c_5 => ?_) (fun c_5 => ?_)
  · replace h := h.1 c_5
    refine lv_iconst (v := 1) hx hb dX7_count_15 (by decide) ?_
    exact k_X7_count_16 X aM _ _ _ _ _ _ h hw hl
  replace h := h.2 c_5
  refine lv_iconst (v := 0) hx hb dX7_count_11 (by decide) ?_
  refine lv_goto (tgt := 16) hx hb dX7_count_12 (by decide) ?_
  exact k_X7_count_16 X aM _ _ _ _ _ _ h hw hl
/-! X7_searched -/
theorem in_X7_searched_X7 : ∀ w ∈ u_ws RX7 TX7 16, w ∈ wsX7_searched := fun w h => (List.mem_cons_of_mem _ (List.mem_append_right _ h))
theorem fl_X7_searched_91 : Cond.fieldLink RX7 91 "TwoFacedTilesModel" "isCut" "Z" ∈ wsX7_searched := List.mem_of_getElem? (i := 3) rfl
theorem fl_X7_searched_88 : Cond.fieldLink RX7 88 "TwoFacedTilesModel" "steps" "I" ∈ wsX7_searched := List.mem_of_getElem? (i := 2) rfl
theorem fl_X7_searched_85 : Cond.fieldLink RX7 85 "TwoFacedTilesModel" "found" "I" ∈ wsX7_searched := List.mem_of_getElem? (i := 1) rfl
def wp_X7_searched (vM : MV) (p1 : Int32) (p2 : Int32) (Q : Int32 → MV → Prop) : Prop := wp_X7_search vM p1 0 (fun (vM_1 : MV) => (¬ p2 = 0 → (¬ p2 = 1 → ((MV.isCut vM_1) = 0 → Q 0 vM_1) ∧ (¬ (MV.isCut vM_1) = 0 → Q 1 vM_1)) ∧ (p2 = 1 → Q (MV.steps vM_1) vM_1)) ∧ (p2 = 0 → Q (MV.found vM_1) vM_1))
set_option maxHeartbeats 4000000 in
set_option maxRecDepth 100000 in
theorem c_X7_searched (l : Launch) (D : va_G) (t : T3) (aM : MA) (vM : MV) (p1 : Int32) (p2 : Int32) (Q : Int32 → MV → Prop) (h : wp_X7_searched vM p1 p2 Q) : Ct l yX7_searched wsX7_searched 8 195 0 0 [.ref (MA.o aM), .int p1, .int p2] D t (mW t aM vM) (fun sz => Qi D (mW t aM vM) (fun (u : MV) => (mW t aM u)) (fun (r : Int32) (u : MV) => Q r u) sz) := by
  refine Ct.of (Qf := fun _ A => va_Qi (fun (r : Int32) (u : MV) => Q r u) (B1 D (fun (u : MV) => (mW t aM u)) A) A) cX7_searched 3 (some .int) (by decide) rfl (Nat.le_of_ble_eq_true rfl) ?_
  intro p e s m below meth c A ls hAe hin X hw hl
  generalize ([.ref (MA.o aM), .int p1, .int p2] : List Value).toArray = args at X ⊢
  have hl : lv_has ls 3 [(0, .ref (MA.o aM)), (1, .int p1), (2, .int p2)] := hl
  have hx := X.1.1
  have hb := X.1.2.1
  refine lv_aload_n hx hb dX7_searched_0 rfl (lv_at hl 0 rfl) ?_
  refine lv_iload_n hx hb dX7_searched_1 rfl (lv_at hl 1 rfl) ?_
  refine lv_iconst (v := 0) hx hb dX7_searched_2 (by decide) ?_
  refine r_cv X hw pm_0 (wn := fun (u : MV) => (mW t aM u)) (fun u => pm_0.symm) (r_runV X hw (c_X7_search l D t aM vM p1 0 _ h) pm_0 (cwV 2 X.1.2.2.2.2 gX7_searched_X7_search rfl rfl rfl (by decide +kernel) ⟨Nat.le_of_ble_eq_true rfl, Nat.le_of_ble_eq_true rfl⟩) (ci := 7) rfl rfl rfl rfl hl rfl (Nat.le_of_ble_eq_true rfl) dX7_searched_3 ⟨Nat.le_of_ble_eq_true rfl, Nat.le_of_ble_eq_true rfl⟩) (fun u H locs h hw => ?_)
  obtain ⟨vM_1, rfl⟩ : ∃ z, z = u := ⟨_, rfl⟩
  refine lv_iload_n hx hb dX7_searched_6 rfl (lv_at hl 2 rfl) ?_
  refine lv_if_ne (tgt := 17) hx hb dX7_searched_7 (by decide) (fun c_4 => ?_) (fun c_4 => ?_)
  · replace h := h.1 c_4
    refine lv_iload_n hx hb dX7_searched_17 rfl (lv_at hl 2 rfl) ?_
    refine lv_iconst (v := 1) hx hb dX7_searched_18 (by decide) ?_
    refine lv_icmp_ne (tgt := 29) hx hb dX7_searched_19 (by decide) (fun c_3 => ?_) (fun c_3 => ?_)
    · replace h := h.1 c_3
      refine lv_aload_n hx hb dX7_searched_29 rfl (lv_at hl 0 rfl) ?_
      refine r_get (ci := 7) (C := RX7) (T := TX7) (N := 16) X hw 0 rfl rfl 9 (by decide) in_X7_searched_X7 fl_X7_searched_91 (v := .int (MV.isCut vM_1)) rfl dX7_searched_30 ?_
      refine lv_if_eq (tgt := 40) hx hb dX7_searched_33 (by decide) (fun c_2 => ?_) (fun c_2 => ?_)
      · replace h := h.1 c_2
        refine lv_iconst (v := 0) hx hb dX7_searched_40 (by decide) ?_
        exact e_i (w1 := (fun (u : MV) => (mW t aM u))) X (vM_1) hw h dX7_searched_41
      replace h := h.2 c_2
      refine lv_iconst (v := 1) hx hb dX7_searched_36 (by decide) ?_
      refine lv_goto (tgt := 41) hx hb dX7_searched_37 (by decide) ?_
      exact e_i (w1 := (fun (u : MV) => (mW t aM u))) X (vM_1) hw h dX7_searched_41
    replace h := h.2 c_3
    refine lv_aload_n hx hb dX7_searched_22 rfl (lv_at hl 0 rfl) ?_
    refine r_get (ci := 7) (C := RX7) (T := TX7) (N := 16) X hw 0 rfl rfl 8 (by decide) in_X7_searched_X7 fl_X7_searched_88 (v := .int (MV.steps vM_1)) rfl dX7_searched_23 ?_
    refine lv_goto (tgt := 41) hx hb dX7_searched_26 (by decide) ?_
    exact e_i (w1 := (fun (u : MV) => (mW t aM u))) X (vM_1) hw h dX7_searched_41
  replace h := h.2 c_4
  refine lv_aload_n hx hb dX7_searched_10 rfl (lv_at hl 0 rfl) ?_
  refine r_get (ci := 7) (C := RX7) (T := TX7) (N := 16) X hw 0 rfl rfl 7 (by decide) in_X7_searched_X7 fl_X7_searched_85 (v := .int (MV.found vM_1)) rfl dX7_searched_11 ?_
  refine lv_goto (tgt := 41) hx hb dX7_searched_14 (by decide) ?_
  exact e_i (w1 := (fun (u : MV) => (mW t aM u))) X (vM_1) hw h dX7_searched_41
/-! X7_layings -/
theorem in_X7_layings_X7 : ∀ w ∈ u_ws RX7 TX7 16, w ∈ wsX7_layings := fun w h => (List.mem_cons_of_mem _ (List.mem_append_right _ h))
theorem fl_X7_layings_34 : Cond.fieldLink RX7 34 "TwoFacedTilesModel" "thrown" "I" ∈ wsX7_layings := List.mem_of_getElem? (i := 1) rfl
def wp_X7_layings_25 (Q : Int32 → MV → Prop) (vM : MV) (x1 : Int32) (x2 : Int32) (t1 : Int32) : Prop := (t1 ≤ 0 → wp_X7_searched (MV.s_thrown vM t1) x1 x2 (fun (r_3 : Int32) (vM_2 : MV) => Q r_3 vM_2)) ∧ (¬ t1 ≤ 0 → Q 0 (MV.s_thrown vM t1))
set_option maxHeartbeats 4000000 in
set_option maxRecDepth 100000 in
theorem k_X7_layings_25 {p : Program} {l : Launch} {e : Env} {s : State} {m : MethodId} {below : List Frame} {meth : Method} {c : Code} {args : Array Value} {D : va_G} {t : T3} {A : Nat → Prop} (X : Cx p s m meth c args cX7_layings 3 (some .int) RX7 wsX7_layings D t A) (aM : MA) {Q : Int32 → MV → Prop}  : ∀ (vM : MV) (x1 : Int32) (x2 : Int32) (t1 : Int32) (H : Heap) (locs : List Loc) (ls : Array Slot), wp_X7_layings_25 Q vM x1 x2 t1 → Wd D A s.heap (mW t aM vM) H locs → lv_has ls 3 [(0, .ref (MA.o aM)), (1, .int x1), (2, .int x2)] → W p l e ({ frames := 9, cells := 0, slots := 0, locals := 217 } : Room) s m args below meth c H locs 0 0 (Ei below args s A D (fun (u : MV) => (mW t aM u)) (fun (r : Int32) (u : MV) => Q r u) 0 0) (F0 m 25 ls [.int t1, .ref (MA.o aM)]) := by
  intro vM x1 x2 t1 H locs ls h hw hl
  have hx := X.1.1
  have hb := X.1.2.1
  refine r_put (ci := 7) (C := RX7) (T := TX7) (N := 16) (v := .int t1) (ws' := (mW t aM (MV.s_thrown vM t1))) X hw 0 rfl rfl 0 (by decide) in_X7_layings_X7 tyX7 tyX7_ok nmX7 fl_X7_layings_34 rfl rfl rfl (Nat.le_of_ble_eq_true rfl) rfl dX7_layings_25 (fun H locs hw => ?_)
  refine lv_aload_n hx hb dX7_layings_28 rfl (lv_at hl 0 rfl) ?_
  refine r_get (ci := 7) (C := RX7) (T := TX7) (N := 16) X hw 0 rfl rfl 0 (by decide) in_X7_layings_X7 fl_X7_layings_34 (v := .int t1) rfl dX7_layings_29 ?_
  refine lv_if_le (tgt := 39) hx hb dX7_layings_32 (by decide) (fun c_4 => ?_) (fun c_4 => ?_)
  · replace h := h.1 c_4
    refine lv_aload_n hx hb dX7_layings_39 rfl (lv_at hl 0 rfl) ?_
    refine lv_iload_n hx hb dX7_layings_40 rfl (lv_at hl 1 rfl) ?_
    refine lv_iload_n hx hb dX7_layings_41 rfl (lv_at hl 2 rfl) ?_
    refine r_ci X hw pm_0 (wn := fun (u : MV) => (mW t aM u)) (fun u => pm_0.symm) (r_runV X hw (c_X7_searched l D t aM (MV.s_thrown vM t1) x1 x2 _ h) pm_0 (cwV 2 X.1.2.2.2.2 gX7_layings_X7_searched rfl rfl rfl (by decide +kernel) ⟨Nat.le_of_ble_eq_true rfl, Nat.le_of_ble_eq_true rfl⟩) (ci := 7) rfl rfl rfl rfl hl rfl (Nat.le_of_ble_eq_true rfl) dX7_layings_42 ⟨Nat.le_of_ble_eq_true rfl, Nat.le_of_ble_eq_true rfl⟩) (fun r_3 u H locs h hw => ?_)
    obtain ⟨vM_2, rfl⟩ : ∃ z, z = u := ⟨_, rfl⟩
    exact e_i (w1 := (fun (u : MV) => (mW t aM u))) X (vM_2) hw h dX7_layings_45
  replace h := h.2 c_4
  refine lv_iconst (v := 0) hx hb dX7_layings_35 (by decide) ?_
  refine lv_goto (tgt := 45) hx hb dX7_layings_36 (by decide) ?_
  exact e_i (w1 := (fun (u : MV) => (mW t aM u))) X ((MV.s_thrown vM t1)) hw h dX7_layings_45
def wp_X7_layings_24 (Q : Int32 → MV → Prop) (vM : MV) (x1 : Int32) (x2 : Int32) : Prop := wp_X7_layings_25  Q vM x1 x2 1
set_option maxHeartbeats 4000000 in
set_option maxRecDepth 100000 in
theorem k_X7_layings_24 {p : Program} {l : Launch} {e : Env} {s : State} {m : MethodId} {below : List Frame} {meth : Method} {c : Code} {args : Array Value} {D : va_G} {t : T3} {A : Nat → Prop} (X : Cx p s m meth c args cX7_layings 3 (some .int) RX7 wsX7_layings D t A) (aM : MA) {Q : Int32 → MV → Prop}  : ∀ (vM : MV) (x1 : Int32) (x2 : Int32) (H : Heap) (locs : List Loc) (ls : Array Slot), wp_X7_layings_24 Q vM x1 x2 → Wd D A s.heap (mW t aM vM) H locs → lv_has ls 3 [(0, .ref (MA.o aM)), (1, .int x1), (2, .int x2)] → W p l e ({ frames := 9, cells := 0, slots := 0, locals := 217 } : Room) s m args below meth c H locs 0 0 (Ei below args s A D (fun (u : MV) => (mW t aM u)) (fun (r : Int32) (u : MV) => Q r u) 0 0) (F0 m 24 ls [.ref (MA.o aM)]) := by
  intro vM x1 x2 H locs ls h hw hl
  have hx := X.1.1
  have hb := X.1.2.1
  refine lv_iconst (v := 1) hx hb dX7_layings_24 (by decide) ?_
  exact k_X7_layings_25 X aM _ _ _ _ _ _ _ h hw hl
def wp_X7_layings (vM : MV) (p1 : Int32) (p2 : Int32) (Q : Int32 → MV → Prop) : Prop := wp_X7_within  p1 1 50 (fun (r_1 : Int32) => (r_1 = 0 → wp_X7_layings_24  Q vM p1 p2) ∧ (¬ r_1 = 0 → wp_X7_within  p2 0 2 (fun (r_5 : Int32) => (r_5 = 0 → wp_X7_layings_24  Q vM p1 p2) ∧ (¬ r_5 = 0 → wp_X7_layings_25  Q vM p1 p2 0))))
set_option maxHeartbeats 4000000 in
set_option maxRecDepth 100000 in
theorem c_X7_layings (l : Launch) (D : va_G) (t : T3) (aM : MA) (vM : MV) (p1 : Int32) (p2 : Int32) (Q : Int32 → MV → Prop) (h : wp_X7_layings vM p1 p2 Q) : Ct l yX7_layings wsX7_layings 9 217 0 0 [.ref (MA.o aM), .int p1, .int p2] D t (mW t aM vM) (fun sz => Qi D (mW t aM vM) (fun (u : MV) => (mW t aM u)) (fun (r : Int32) (u : MV) => Q r u) sz) := by
  refine Ct.of (Qf := fun _ A => va_Qi (fun (r : Int32) (u : MV) => Q r u) (B1 D (fun (u : MV) => (mW t aM u)) A) A) cX7_layings 3 (some .int) (by decide) rfl (Nat.le_of_ble_eq_true rfl) ?_
  intro p e s m below meth c A ls hAe hin X hw hl
  generalize ([.ref (MA.o aM), .int p1, .int p2] : List Value).toArray = args at X ⊢
  have hl : lv_has ls 3 [(0, .ref (MA.o aM)), (1, .int p1), (2, .int p2)] := hl
  have hx := X.1.1
  have hb := X.1.2.1
  refine lv_aload_n hx hb dX7_layings_0 rfl (lv_at hl 0 rfl) ?_
  refine lv_iload_n hx hb dX7_layings_1 rfl (lv_at hl 1 rfl) ?_
  refine lv_iconst (v := 1) hx hb dX7_layings_2 (by decide) ?_
  refine lv_bipush (v := 50) hx hb dX7_layings_3 (by decide) ?_
  refine r_ci X hw pm_n (wn := fun (u : Unit) => (mW t aM vM)) (fun u => (pm_n).symm) (r_runS X hw (c_X7_within l D t p1 1 50 _ h) pm_n (va_cwS 3 X.1.2.2.2.2 gX7_layings_X7_within rfl rfl rfl (by decide +kernel) ⟨Nat.le_of_ble_eq_true rfl, Nat.le_of_ble_eq_true rfl⟩) rfl hl rfl (Nat.le_of_ble_eq_true rfl) dX7_layings_5 ⟨Nat.le_of_ble_eq_true rfl, Nat.le_of_ble_eq_true rfl⟩) (fun r_1 u H locs h hw => ?_)
  refine lv_if_eq (tgt := 24) hx hb dX7_layings_8 (by decide) (fun c_7 => ?_) (fun c_7 => ?_)
  · replace h := h.1 c_7
    exact k_X7_layings_24 X aM _ _ _ _ _ _ h hw hl
  replace h := h.2 c_7
  refine lv_iload_n hx hb dX7_layings_11 rfl (lv_at hl 2 rfl) ?_
  refine lv_iconst (v := 0) hx hb dX7_layings_12 (by decide) ?_
  refine lv_iconst (v := 2) hx hb dX7_layings_13 (by decide) ?_
  refine r_ci X hw pm_n (wn := fun (u : Unit) => (mW t aM vM)) (fun u => (pm_n).symm) (r_runS X hw (c_X7_within l D t p2 0 2 _ h) pm_n (va_cwS 3 X.1.2.2.2.2 gX7_layings_X7_within rfl rfl rfl (by decide +kernel) ⟨Nat.le_of_ble_eq_true rfl, Nat.le_of_ble_eq_true rfl⟩) rfl hl rfl (Nat.le_of_ble_eq_true rfl) dX7_layings_14 ⟨Nat.le_of_ble_eq_true rfl, Nat.le_of_ble_eq_true rfl⟩) (fun r_5 u H locs h hw => ?_)
  refine lv_if_eq (tgt := 24) hx hb dX7_layings_17 (by decide) (fun c_6 => ?_) (fun c_6 => ?_)
  · replace h := h.1 c_6
    exact k_X7_layings_24 X aM _ _ _ _ _ _ h hw hl
  replace h := h.2 c_6
  refine lv_iconst (v := 0) hx hb dX7_layings_20 (by decide) ?_
  refine lv_goto (tgt := 25) hx hb dX7_layings_21 (by decide) ?_
  exact k_X7_layings_25 X aM _ _ _ _ _ _ _ h hw hl
/-! X7_hintNow -/
theorem in_X7_hintNow_X7 : ∀ w ∈ u_ws RX7 TX7 16, w ∈ wsX7_hintNow := fun w h => (List.mem_cons_of_mem _ (List.mem_append_right _ h))
theorem fl_X7_hintNow_7 : Cond.fieldLink RX7 7 "TwoFacedTilesModel" "z" "[I" ∈ wsX7_hintNow := List.mem_of_getElem? (i := 1) rfl
def wp_X7_hintNow_59 (P : MV → Int32 → Int32 → Int32 → Prop) (K65 : MV → Int32 → Prop) (Q : Int32 → MV → Prop) (vM : MV) (x1 : Int32) (x2 : Int32) (x3 : Int32) : Prop := ∀ x3_4 : Int32, x3_4 = x3 + 1 → P vM x1 x2 x3_4
set_option maxHeartbeats 4000000 in
set_option maxRecDepth 100000 in
theorem k_X7_hintNow_59 {p : Program} {l : Launch} {e : Env} {s : State} {m : MethodId} {below : List Frame} {meth : Method} {c : Code} {args : Array Value} {D : va_G} {t : T3} {A : Nat → Prop} (X : Cx p s m meth c args cX7_hintNow 5 (some .int) RX7 wsX7_hintNow D t A) (aM : MA) {P : MV → Int32 → Int32 → Int32 → Prop} {K65 : MV → Int32 → Prop} {Q : Int32 → MV → Prop} (hP : ∀ (vM : MV) (x1 : Int32) (x2 : Int32) (x3 : Int32) (H : Heap) (locs : List Loc) (ls : Array Slot), P vM x1 x2 x3 → Wd D A s.heap (mW t aM vM) H locs → lv_has ls 5 [(0, .ref (MA.o aM)), (1, .int x1), (2, .int x2), (3, .int x3)] → W p l e ({ frames := 7, cells := 0, slots := 0, locals := 168 } : Room) s m args below meth c H locs 0 0 (Ei below args s A D (fun (u : MV) => (mW t aM u)) (fun (r : Int32) (u : MV) => Q r u) 0 0) (F0 m 6 ls [])) (hK65 : ∀ (vM : MV) (x1 : Int32) (H : Heap) (locs : List Loc) (ls : Array Slot), K65 vM x1 → Wd D A s.heap (mW t aM vM) H locs → lv_has ls 5 [(0, .ref (MA.o aM)), (1, .int x1)] → W p l e ({ frames := 7, cells := 0, slots := 0, locals := 168 } : Room) s m args below meth c H locs 0 0 (Ei below args s A D (fun (u : MV) => (mW t aM u)) (fun (r : Int32) (u : MV) => Q r u) 0 0) (F0 m 65 ls [])) : ∀ (vM : MV) (x1 : Int32) (x2 : Int32) (x3 : Int32) (H : Heap) (locs : List Loc) (ls : Array Slot), wp_X7_hintNow_59 P K65 Q vM x1 x2 x3 → Wd D A s.heap (mW t aM vM) H locs → lv_has ls 5 [(0, .ref (MA.o aM)), (1, .int x1), (2, .int x2), (3, .int x3)] → W p l e ({ frames := 7, cells := 0, slots := 0, locals := 168 } : Room) s m args below meth c H locs 0 0 (Ei below args s A D (fun (u : MV) => (mW t aM u)) (fun (r : Int32) (u : MV) => Q r u) 0 0) (F0 m 59 ls []) := by
  intro vM x1 x2 x3 H locs ls h hw hl
  have hx := X.1.1
  have hb := X.1.2.1
  obtain ⟨x3_4, ex3_4⟩ : ∃ z : Int32, z = x3 + 1 := ⟨_, rfl⟩
  replace h := h x3_4 ex3_4
  refine lv_iinc (v := x3_4) (lv' := [(3, .int x3_4), (0, .ref (MA.o aM)), (1, .int x1), (2, .int x2)]) hx hb dX7_hintNow_59 hl (k := 3) rfl (by rw [ex3_4]; rfl) (by decide) rfl (fun ls hl => ?_)
  refine lv_goto (tgt := 6) hx hb dX7_hintNow_62 (by decide) ?_
  exact hP _ _ _ _ _ _ _ h hw (lv_sub hl [1, 2, 3, 0] rfl)
def wp_X7_hintNow_54 (P : MV → Int32 → Int32 → Int32 → Prop) (K65 : MV → Int32 → Prop) (Q : Int32 → MV → Prop) (vM : MV) (x3 : Int32) (x4 : Int32) : Prop := wp_X7_hintNow_59  P K65 Q vM x3 x4 x3
set_option maxHeartbeats 4000000 in
set_option maxRecDepth 100000 in
theorem k_X7_hintNow_54 {p : Program} {l : Launch} {e : Env} {s : State} {m : MethodId} {below : List Frame} {meth : Method} {c : Code} {args : Array Value} {D : va_G} {t : T3} {A : Nat → Prop} (X : Cx p s m meth c args cX7_hintNow 5 (some .int) RX7 wsX7_hintNow D t A) (aM : MA) {P : MV → Int32 → Int32 → Int32 → Prop} {K65 : MV → Int32 → Prop} {Q : Int32 → MV → Prop} (hP : ∀ (vM : MV) (x1 : Int32) (x2 : Int32) (x3 : Int32) (H : Heap) (locs : List Loc) (ls : Array Slot), P vM x1 x2 x3 → Wd D A s.heap (mW t aM vM) H locs → lv_has ls 5 [(0, .ref (MA.o aM)), (1, .int x1), (2, .int x2), (3, .int x3)] → W p l e ({ frames := 7, cells := 0, slots := 0, locals := 168 } : Room) s m args below meth c H locs 0 0 (Ei below args s A D (fun (u : MV) => (mW t aM u)) (fun (r : Int32) (u : MV) => Q r u) 0 0) (F0 m 6 ls [])) (hK65 : ∀ (vM : MV) (x1 : Int32) (H : Heap) (locs : List Loc) (ls : Array Slot), K65 vM x1 → Wd D A s.heap (mW t aM vM) H locs → lv_has ls 5 [(0, .ref (MA.o aM)), (1, .int x1)] → W p l e ({ frames := 7, cells := 0, slots := 0, locals := 168 } : Room) s m args below meth c H locs 0 0 (Ei below args s A D (fun (u : MV) => (mW t aM u)) (fun (r : Int32) (u : MV) => Q r u) 0 0) (F0 m 65 ls [])) : ∀ (vM : MV) (x3 : Int32) (x4 : Int32) (H : Heap) (locs : List Loc) (ls : Array Slot), wp_X7_hintNow_54 P K65 Q vM x3 x4 → Wd D A s.heap (mW t aM vM) H locs → lv_has ls 5 [(0, .ref (MA.o aM)), (3, .int x3), (4, .int x4)] → W p l e ({ frames := 7, cells := 0, slots := 0, locals := 168 } : Room) s m args below meth c H locs 0 0 (Ei below args s A D (fun (u : MV) => (mW t aM u)) (fun (r : Int32) (u : MV) => Q r u) 0 0) (F0 m 54 ls []) := by
  intro vM x3 x4 H locs ls h hw hl
  have hx := X.1.1
  have hb := X.1.2.1
  refine lv_iload_n hx hb dX7_hintNow_54 rfl (lv_at hl 1 rfl) ?_
  refine lv_istore_n (lv' := [(1, .int x3), (0, .ref (MA.o aM)), (3, .int x3), (4, .int x4)]) hx hb dX7_hintNow_55 rfl hl (by decide) rfl (fun ls hl => ?_)
  refine lv_iload hx hb dX7_hintNow_56 (lv_at hl 3 rfl) ?_
  refine lv_istore_n (lv' := [(2, .int x4), (1, .int x3), (0, .ref (MA.o aM)), (3, .int x3), (4, .int x4)]) hx hb dX7_hintNow_58 rfl hl (by decide) rfl (fun ls hl => ?_)
  exact k_X7_hintNow_59 X aM hP hK65 _ _ _ _ _ _ _ h hw (lv_sub hl [2, 1, 0, 3] rfl)
def wp_X7_hintNow_36 (P : MV → Int32 → Int32 → Int32 → Prop) (K65 : MV → Int32 → Prop) (Q : Int32 → MV → Prop) (vM : MV) (x1 : Int32) (x2 : Int32) (x3 : Int32) (t0 : Int32) : Prop := (t0 ≤ 0 → wp_X7_hintNow_59  P K65 Q vM x1 x2 x3) ∧ (¬ t0 ≤ 0 → (x1 = (-1) → wp_X7_hintNow_54  P K65 Q vM x3 t0) ∧ (¬ x1 = (-1) → (x2 ≤ t0 → wp_X7_hintNow_59  P K65 Q vM x1 x2 x3) ∧ (¬ x2 ≤ t0 → wp_X7_hintNow_54  P K65 Q vM x3 t0)))
set_option maxHeartbeats 4000000 in
set_option maxRecDepth 100000 in
theorem k_X7_hintNow_36 {p : Program} {l : Launch} {e : Env} {s : State} {m : MethodId} {below : List Frame} {meth : Method} {c : Code} {args : Array Value} {D : va_G} {t : T3} {A : Nat → Prop} (X : Cx p s m meth c args cX7_hintNow 5 (some .int) RX7 wsX7_hintNow D t A) (aM : MA) {P : MV → Int32 → Int32 → Int32 → Prop} {K65 : MV → Int32 → Prop} {Q : Int32 → MV → Prop} (hP : ∀ (vM : MV) (x1 : Int32) (x2 : Int32) (x3 : Int32) (H : Heap) (locs : List Loc) (ls : Array Slot), P vM x1 x2 x3 → Wd D A s.heap (mW t aM vM) H locs → lv_has ls 5 [(0, .ref (MA.o aM)), (1, .int x1), (2, .int x2), (3, .int x3)] → W p l e ({ frames := 7, cells := 0, slots := 0, locals := 168 } : Room) s m args below meth c H locs 0 0 (Ei below args s A D (fun (u : MV) => (mW t aM u)) (fun (r : Int32) (u : MV) => Q r u) 0 0) (F0 m 6 ls [])) (hK65 : ∀ (vM : MV) (x1 : Int32) (H : Heap) (locs : List Loc) (ls : Array Slot), K65 vM x1 → Wd D A s.heap (mW t aM vM) H locs → lv_has ls 5 [(0, .ref (MA.o aM)), (1, .int x1)] → W p l e ({ frames := 7, cells := 0, slots := 0, locals := 168 } : Room) s m args below meth c H locs 0 0 (Ei below args s A D (fun (u : MV) => (mW t aM u)) (fun (r : Int32) (u : MV) => Q r u) 0 0) (F0 m 65 ls [])) : ∀ (vM : MV) (x1 : Int32) (x2 : Int32) (x3 : Int32) (t0 : Int32) (H : Heap) (locs : List Loc) (ls : Array Slot), wp_X7_hintNow_36 P K65 Q vM x1 x2 x3 t0 → Wd D A s.heap (mW t aM vM) H locs → lv_has ls 5 [(0, .ref (MA.o aM)), (1, .int x1), (2, .int x2), (3, .int x3)] → W p l e ({ frames := 7, cells := 0, slots := 0, locals := 168 } : Room) s m args below meth c H locs 0 0 (Ei below args s A D (fun (u : MV) => (mW t aM u)) (fun (r : Int32) (u : MV) => Q r u) 0 0) (F0 m 36 ls [.int t0]) := by
  intro vM x1 x2 x3 t0 H locs ls h hw hl
  have hx := X.1.1
  have hb := X.1.2.1
  refine lv_istore (lv' := [(4, .int t0), (0, .ref (MA.o aM)), (1, .int x1), (2, .int x2), (3, .int x3)]) hx hb dX7_hintNow_36 hl (by decide) rfl (fun ls hl => ?_)
  refine lv_iload hx hb dX7_hintNow_38 (lv_at hl 0 rfl) ?_
  refine lv_if_le (tgt := 59) hx hb dX7_hintNow_40 (by decide) (fun c_7 => ?_) (fun c_7 => ?_)
  · replace h := h.1 c_7
    exact k_X7_hintNow_59 X aM hP hK65 _ _ _ _ _ _ _ h hw (lv_sub hl [1, 2, 3, 4] rfl)
  replace h := h.2 c_7
  refine lv_iload_n hx hb dX7_hintNow_43 rfl (lv_at hl 2 rfl) ?_
  refine lv_iconst (v := (-1)) hx hb dX7_hintNow_44 (by decide) ?_
  refine lv_icmp_eq (tgt := 54) hx hb dX7_hintNow_45 (by decide) (fun c_6 => ?_) (fun c_6 => ?_)
  · replace h := h.1 c_6
    exact k_X7_hintNow_54 X aM hP hK65 _ _ _ _ _ _ h hw (lv_sub hl [1, 4, 0] rfl)
  replace h := h.2 c_6
  refine lv_iload hx hb dX7_hintNow_48 (lv_at hl 0 rfl) ?_
  refine lv_iload_n hx hb dX7_hintNow_50 rfl (lv_at hl 3 rfl) ?_
  refine lv_icmp_ge (tgt := 59) hx hb dX7_hintNow_51 (by decide) (fun c_5 => ?_) (fun c_5 => ?_)
  · replace h := h.1 c_5
    exact k_X7_hintNow_59 X aM hP hK65 _ _ _ _ _ _ _ h hw (lv_sub hl [1, 2, 3, 4] rfl)
  replace h := h.2 c_5
  exact k_X7_hintNow_54 X aM hP hK65 _ _ _ _ _ _ h hw (lv_sub hl [1, 4, 0] rfl)
def bd_X7_hintNow_6 (Q : Int32 → MV → Prop) (P : MV → Int32 → Int32 → Int32 → Prop) (K65 : MV → Int32 → Prop) (vM : MV) (x1 : Int32) (x2 : Int32) (x3 : Int32) : Prop := wp_X7_cells vM  (fun (r_2 : Int32) (vM_1 : MV) => (r_2 ≤ x3 → K65 vM_1 x1) ∧ (¬ r_2 ≤ x3 → vp_in (28 + x3) 52 ∧ (¬ ((MV.z vM_1) (Int32.toNatClampNeg (28 + x3))) = (-1) → wp_X7_hintNow_36  P K65 Q vM_1 x1 x2 x3 0) ∧ (((MV.z vM_1) (Int32.toNatClampNeg (28 + x3))) = (-1) → wp_X7_possibleMany vM_1 x3 (fun (r_9 : Int32) (vM_8 : MV) => wp_X7_hintNow_36  P K65 Q vM_8 x1 x2 x3 r_9))))
def wp_X7_hintNow_6 (Q : Int32 → MV → Prop) (K65 : MV → Int32 → Prop) (vM : MV) (x1 : Int32) (x2 : Int32) (x3 : Int32) : Prop := ∀ P : MV → Int32 → Int32 → Int32 → Prop, (∀ (vM : MV) (x1 : Int32) (x2 : Int32) (x3 : Int32), bd_X7_hintNow_6 Q P K65 vM x1 x2 x3 → P vM x1 x2 x3) → P vM x1 x2 x3
set_option maxHeartbeats 4000000 in
set_option maxRecDepth 100000 in
theorem kb_X7_hintNow_6 {p : Program} {l : Launch} {e : Env} {s : State} {m : MethodId} {below : List Frame} {meth : Method} {c : Code} {args : Array Value} {D : va_G} {t : T3} {A : Nat → Prop} (X : Cx p s m meth c args cX7_hintNow 5 (some .int) RX7 wsX7_hintNow D t A) (aM : MA) {Q : Int32 → MV → Prop} {P : MV → Int32 → Int32 → Int32 → Prop} {K65 : MV → Int32 → Prop} (hP : ∀ (vM : MV) (x1 : Int32) (x2 : Int32) (x3 : Int32) (H : Heap) (locs : List Loc) (ls : Array Slot), P vM x1 x2 x3 → Wd D A s.heap (mW t aM vM) H locs → lv_has ls 5 [(0, .ref (MA.o aM)), (1, .int x1), (2, .int x2), (3, .int x3)] → W p l e ({ frames := 7, cells := 0, slots := 0, locals := 168 } : Room) s m args below meth c H locs 0 0 (Ei below args s A D (fun (u : MV) => (mW t aM u)) (fun (r : Int32) (u : MV) => Q r u) 0 0) (F0 m 6 ls [])) (hK65 : ∀ (vM : MV) (x1 : Int32) (H : Heap) (locs : List Loc) (ls : Array Slot), K65 vM x1 → Wd D A s.heap (mW t aM vM) H locs → lv_has ls 5 [(0, .ref (MA.o aM)), (1, .int x1)] → W p l e ({ frames := 7, cells := 0, slots := 0, locals := 168 } : Room) s m args below meth c H locs 0 0 (Ei below args s A D (fun (u : MV) => (mW t aM u)) (fun (r : Int32) (u : MV) => Q r u) 0 0) (F0 m 65 ls [])) : ∀ (vM : MV) (x1 : Int32) (x2 : Int32) (x3 : Int32) (H : Heap) (locs : List Loc) (ls : Array Slot), bd_X7_hintNow_6 Q P K65 vM x1 x2 x3 → Wd D A s.heap (mW t aM vM) H locs → lv_has ls 5 [(0, .ref (MA.o aM)), (1, .int x1), (2, .int x2), (3, .int x3)] → W p l e ({ frames := 7, cells := 0, slots := 0, locals := 168 } : Room) s m args below meth c H locs 0 0 (Ei below args s A D (fun (u : MV) => (mW t aM u)) (fun (r : Int32) (u : MV) => Q r u) 0 0) (F0 m 6 ls []) := by
  intro vM x1 x2 x3 H locs ls h hw hl
  have hx := X.1.1
  have hb := X.1.2.1
  refine lv_iload_n hx hb dX7_hintNow_6 rfl (lv_at hl 3 rfl) ?_
  refine lv_aload_n hx hb dX7_hintNow_7 rfl (lv_at hl 0 rfl) ?_
  refine r_ci X hw pm_0 (wn := fun (u : MV) => (mW t aM u)) (fun u => pm_0.symm) (r_runV X hw (c_X7_cells l D t aM vM _ h) pm_0 (cwV 0 X.1.2.2.2.2 gX7_hintNow_X7_cells rfl rfl rfl (by decide +kernel) ⟨Nat.le_of_ble_eq_true rfl, Nat.le_of_ble_eq_true rfl⟩) (ci := 7) rfl rfl rfl rfl hl rfl (Nat.le_of_ble_eq_true rfl) dX7_hintNow_8 ⟨Nat.le_of_ble_eq_true rfl, Nat.le_of_ble_eq_true rfl⟩) (fun r_2 u H locs h hw => ?_)
  obtain ⟨vM_1, rfl⟩ : ∃ z, z = u := ⟨_, rfl⟩
  refine lv_icmp_ge (tgt := 65) hx hb dX7_hintNow_11 (by decide) (fun c_11 => ?_) (fun c_11 => ?_)
  · replace h := h.1 c_11
    exact hK65 _ _ _ _ _ h hw (lv_sub hl [0, 1] rfl)
  replace h := h.2 c_11
  refine lv_aload_n hx hb dX7_hintNow_14 rfl (lv_at hl 0 rfl) ?_
  refine r_get (ci := 7) (C := RX7) (T := TX7) (N := 16) X hw 0 rfl rfl 1 (by decide) in_X7_hintNow_X7 fl_X7_hintNow_7 (v := .ref (MA.z aM)) rfl dX7_hintNow_15 ?_
  refine lv_bipush (v := 28) hx hb dX7_hintNow_18 (by decide) ?_
  refine lv_iload_n hx hb dX7_hintNow_20 rfl (lv_at hl 3 rfl) ?_
  refine lv_iadd hx hb dX7_hintNow_21 ?_
  obtain ⟨hi_3, h⟩ := h
  refine r_iald (v := ((MV.z vM_1) (Int32.toNatClampNeg (28 + x3)))) X hw 1 rfl hi_3 rfl dX7_hintNow_22 ?_
  refine lv_iconst (v := (-1)) hx hb dX7_hintNow_23 (by decide) ?_
  refine lv_icmp_ne (tgt := 35) hx hb dX7_hintNow_24 (by decide) (fun c_10 => ?_) (fun c_10 => ?_)
  · replace h := h.1 c_10
    refine lv_iconst (v := 0) hx hb dX7_hintNow_35 (by decide) ?_
    exact k_X7_hintNow_36 X aM hP hK65 _ _ _ _ _ _ _ _ h hw hl
  replace h := h.2 c_10
  refine lv_aload_n hx hb dX7_hintNow_27 rfl (lv_at hl 0 rfl) ?_
  refine lv_iload_n hx hb dX7_hintNow_28 rfl (lv_at hl 3 rfl) ?_
  refine r_ci X hw pm_0 (wn := fun (u : MV) => (mW t aM u)) (fun u => pm_0.symm) (r_runV X hw (c_X7_possibleMany l D t aM vM_1 x3 _ h) pm_0 (cwV 1 X.1.2.2.2.2 gX7_hintNow_X7_possibleMany rfl rfl rfl (by decide +kernel) ⟨Nat.le_of_ble_eq_true rfl, Nat.le_of_ble_eq_true rfl⟩) (ci := 7) rfl rfl rfl rfl hl rfl (Nat.le_of_ble_eq_true rfl) dX7_hintNow_29 ⟨Nat.le_of_ble_eq_true rfl, Nat.le_of_ble_eq_true rfl⟩) (fun r_9 u H locs h hw => ?_)
  obtain ⟨vM_8, rfl⟩ : ∃ z, z = u := ⟨_, rfl⟩
  refine lv_goto (tgt := 36) hx hb dX7_hintNow_32 (by decide) ?_
  exact k_X7_hintNow_36 X aM hP hK65 _ _ _ _ _ _ _ _ h hw hl
set_option maxHeartbeats 4000000 in
set_option maxRecDepth 100000 in
theorem k_X7_hintNow_6 {p : Program} {l : Launch} {e : Env} {s : State} {m : MethodId} {below : List Frame} {meth : Method} {c : Code} {args : Array Value} {D : va_G} {t : T3} {A : Nat → Prop} (X : Cx p s m meth c args cX7_hintNow 5 (some .int) RX7 wsX7_hintNow D t A) (aM : MA) {Q : Int32 → MV → Prop} {K65 : MV → Int32 → Prop} (hK65 : ∀ (vM : MV) (x1 : Int32) (H : Heap) (locs : List Loc) (ls : Array Slot), K65 vM x1 → Wd D A s.heap (mW t aM vM) H locs → lv_has ls 5 [(0, .ref (MA.o aM)), (1, .int x1)] → W p l e ({ frames := 7, cells := 0, slots := 0, locals := 168 } : Room) s m args below meth c H locs 0 0 (Ei below args s A D (fun (u : MV) => (mW t aM u)) (fun (r : Int32) (u : MV) => Q r u) 0 0) (F0 m 65 ls [])) : ∀ (vM : MV) (x1 : Int32) (x2 : Int32) (x3 : Int32) (H : Heap) (locs : List Loc) (ls : Array Slot), wp_X7_hintNow_6 Q K65 vM x1 x2 x3 → Wd D A s.heap (mW t aM vM) H locs → lv_has ls 5 [(0, .ref (MA.o aM)), (1, .int x1), (2, .int x2), (3, .int x3)] → W p l e ({ frames := 7, cells := 0, slots := 0, locals := 168 } : Room) s m args below meth c H locs 0 0 (Ei below args s A D (fun (u : MV) => (mW t aM u)) (fun (r : Int32) (u : MV) => Q r u) 0 0) (F0 m 6 ls []) := by
  intro vM x1 x2 x3 H locs ls h hw hl
  have hx := X.1.1
  have hb := X.1.2.1
  refine h (fun (vM : MV) (x1 : Int32) (x2 : Int32) (x3 : Int32) => ∀ (H : Heap) (locs : List Loc) (ls : Array Slot), Wd D A s.heap (mW t aM vM) H locs → lv_has ls 5 [(0, .ref (MA.o aM)), (1, .int x1), (2, .int x2), (3, .int x3)] → W p l e ({ frames := 7, cells := 0, slots := 0, locals := 168 } : Room) s m args below meth c H locs 0 0 (Ei below args s A D (fun (u : MV) => (mW t aM u)) (fun (r : Int32) (u : MV) => Q r u) 0 0) (F0 m 6 ls [])) (fun vM x1 x2 x3 h H locs ls hw hl => ?_) H locs ls hw hl
  exact kb_X7_hintNow_6 X aM (fun vM x1 x2 x3 H locs ls q hw hl => q H locs ls hw hl) hK65 vM x1 x2 x3 _ _ _ h hw hl
def wp_X7_hintNow (vM : MV) (Q : Int32 → MV → Prop) : Prop := wp_X7_hintNow_6 Q (fun (vM_12 : MV) (x1_13 : Int32) => (¬ x1_13 = (-1) → wp_X7_possibleFrom vM_12 x1_13 0 (fun (r_15 : Int32) (vM_14 : MV) => Q ((100 * x1_13) + r_15) vM_14)) ∧ (x1_13 = (-1) → Q (-1) vM_12)) vM (-1) 0 0
set_option maxHeartbeats 4000000 in
set_option maxRecDepth 100000 in
theorem c_X7_hintNow (l : Launch) (D : va_G) (t : T3) (aM : MA) (vM : MV) (Q : Int32 → MV → Prop) (h : wp_X7_hintNow vM Q) : Ct l yX7_hintNow wsX7_hintNow 7 168 0 0 [.ref (MA.o aM)] D t (mW t aM vM) (fun sz => Qi D (mW t aM vM) (fun (u : MV) => (mW t aM u)) (fun (r : Int32) (u : MV) => Q r u) sz) := by
  refine Ct.of (Qf := fun _ A => va_Qi (fun (r : Int32) (u : MV) => Q r u) (B1 D (fun (u : MV) => (mW t aM u)) A) A) cX7_hintNow 5 (some .int) (by decide) rfl (Nat.le_of_ble_eq_true rfl) ?_
  intro p e s m below meth c A ls hAe hin X hw hl
  generalize ([.ref (MA.o aM)] : List Value).toArray = args at X ⊢
  have hl : lv_has ls 5 [(0, .ref (MA.o aM))] := hl
  have hx := X.1.1
  have hb := X.1.2.1
  refine lv_iconst (v := (-1)) hx hb dX7_hintNow_0 (by decide) ?_
  refine lv_istore_n (lv' := [(1, .int (-1)), (0, .ref (MA.o aM))]) hx hb dX7_hintNow_1 rfl hl (by decide) rfl (fun ls hl => ?_)
  refine lv_iconst (v := 0) hx hb dX7_hintNow_2 (by decide) ?_
  refine lv_istore_n (lv' := [(2, .int 0), (1, .int (-1)), (0, .ref (MA.o aM))]) hx hb dX7_hintNow_3 rfl hl (by decide) rfl (fun ls hl => ?_)
  refine lv_iconst (v := 0) hx hb dX7_hintNow_4 (by decide) ?_
  refine lv_istore_n (lv' := [(3, .int 0), (2, .int 0), (1, .int (-1)), (0, .ref (MA.o aM))]) hx hb dX7_hintNow_5 rfl hl (by decide) rfl (fun ls hl => ?_)
  refine k_X7_hintNow_6 X aM (fun vM_12 x1_13 H locs ls h hw hl => ?_) _ _ _ _ _ _ _ h hw (lv_sub hl [3, 2, 1, 0] rfl)
  refine lv_iload_n hx hb dX7_hintNow_65 rfl (lv_at hl 1 rfl) ?_
  refine lv_iconst (v := (-1)) hx hb dX7_hintNow_66 (by decide) ?_
  refine lv_icmp_ne (tgt := 74) hx hb dX7_hintNow_67 (by decide) (fun c_16 => ?_) (fun c_16 => ?_)
  · replace h := h.1 c_16
    refine lv_bipush (v := 100) hx hb dX7_hintNow_74 (by decide) ?_
    refine lv_iload_n hx hb dX7_hintNow_76 rfl (lv_at hl 1 rfl) ?_
    refine lv_imul hx hb dX7_hintNow_77 ?_
    refine lv_aload_n hx hb dX7_hintNow_78 rfl (lv_at hl 0 rfl) ?_
    refine lv_iload_n hx hb dX7_hintNow_79 rfl (lv_at hl 1 rfl) ?_
    refine lv_iconst (v := 0) hx hb dX7_hintNow_80 (by decide) ?_
    refine r_ci X hw pm_0 (wn := fun (u : MV) => (mW t aM u)) (fun u => pm_0.symm) (r_runV X hw (c_X7_possibleFrom l D t aM vM_12 x1_13 0 _ h) pm_0 (cwV 2 X.1.2.2.2.2 gX7_hintNow_X7_possibleFrom rfl rfl rfl (by decide +kernel) ⟨Nat.le_of_ble_eq_true rfl, Nat.le_of_ble_eq_true rfl⟩) (ci := 7) rfl rfl rfl rfl hl rfl (Nat.le_of_ble_eq_true rfl) dX7_hintNow_81 ⟨Nat.le_of_ble_eq_true rfl, Nat.le_of_ble_eq_true rfl⟩) (fun r_15 u H locs h hw => ?_)
    obtain ⟨vM_14, rfl⟩ : ∃ z, z = u := ⟨_, rfl⟩
    refine lv_iadd hx hb dX7_hintNow_84 ?_
    exact e_i (w1 := (fun (u : MV) => (mW t aM u))) X (vM_14) hw h dX7_hintNow_85
  replace h := h.2 c_16
  refine lv_iconst (v := (-1)) hx hb dX7_hintNow_70 (by decide) ?_
  refine lv_goto (tgt := 85) hx hb dX7_hintNow_71 (by decide) ?_
  exact e_i (w1 := (fun (u : MV) => (mW t aM u))) X (vM_12) hw h dX7_hintNow_85
/-! X7_hint -/
theorem in_X7_hint_X7 : ∀ w ∈ u_ws RX7 TX7 16, w ∈ wsX7_hint := fun w h => (List.mem_cons_of_mem _ (List.mem_append_right _ h))
theorem fl_X7_hint_34 : Cond.fieldLink RX7 34 "TwoFacedTilesModel" "thrown" "I" ∈ wsX7_hint := List.mem_of_getElem? (i := 1) rfl
def wp_X7_hint (vM : MV) (Q : Int32 → MV → Prop) : Prop := wp_X7_hintNow (MV.s_thrown vM 0)  (fun (r_2 : Int32) (vM_1 : MV) => Q r_2 vM_1)
set_option maxHeartbeats 4000000 in
set_option maxRecDepth 100000 in
theorem c_X7_hint (l : Launch) (D : va_G) (t : T3) (aM : MA) (vM : MV) (Q : Int32 → MV → Prop) (h : wp_X7_hint vM Q) : Ct l yX7_hint wsX7_hint 8 192 0 0 [.ref (MA.o aM)] D t (mW t aM vM) (fun sz => Qi D (mW t aM vM) (fun (u : MV) => (mW t aM u)) (fun (r : Int32) (u : MV) => Q r u) sz) := by
  refine Ct.of (Qf := fun _ A => va_Qi (fun (r : Int32) (u : MV) => Q r u) (B1 D (fun (u : MV) => (mW t aM u)) A) A) cX7_hint 1 (some .int) (by decide) rfl (Nat.le_of_ble_eq_true rfl) ?_
  intro p e s m below meth c A ls hAe hin X hw hl
  generalize ([.ref (MA.o aM)] : List Value).toArray = args at X ⊢
  have hl : lv_has ls 1 [(0, .ref (MA.o aM))] := hl
  have hx := X.1.1
  have hb := X.1.2.1
  refine lv_aload_n hx hb dX7_hint_0 rfl (lv_at hl 0 rfl) ?_
  refine lv_iconst (v := 0) hx hb dX7_hint_1 (by decide) ?_
  refine r_put (ci := 7) (C := RX7) (T := TX7) (N := 16) (v := .int 0) (ws' := (mW t aM (MV.s_thrown vM 0))) X hw 0 rfl rfl 0 (by decide) in_X7_hint_X7 tyX7 tyX7_ok nmX7 fl_X7_hint_34 rfl rfl rfl (Nat.le_of_ble_eq_true rfl) rfl dX7_hint_2 (fun H locs hw => ?_)
  refine lv_aload_n hx hb dX7_hint_5 rfl (lv_at hl 0 rfl) ?_
  refine r_ci X hw pm_0 (wn := fun (u : MV) => (mW t aM u)) (fun u => pm_0.symm) (r_runV X hw (c_X7_hintNow l D t aM (MV.s_thrown vM 0) _ h) pm_0 (cwV 0 X.1.2.2.2.2 gX7_hint_X7_hintNow rfl rfl rfl (by decide +kernel) ⟨Nat.le_of_ble_eq_true rfl, Nat.le_of_ble_eq_true rfl⟩) (ci := 7) rfl rfl rfl rfl hl rfl (Nat.le_of_ble_eq_true rfl) dX7_hint_6 ⟨Nat.le_of_ble_eq_true rfl, Nat.le_of_ble_eq_true rfl⟩) (fun r_2 u H locs h hw => ?_)
  obtain ⟨vM_1, rfl⟩ : ∃ z, z = u := ⟨_, rfl⟩
  exact e_i (w1 := (fun (u : MV) => (mW t aM u))) X (vM_1) hw h dX7_hint_9
/-! X7_isSure -/
theorem in_X7_isSure_X7 : ∀ w ∈ u_ws RX7 TX7 16, w ∈ wsX7_isSure := fun w h => (List.mem_cons_of_mem _ (List.mem_append_right _ h))
theorem fl_X7_isSure_28 : Cond.fieldLink RX7 28 "TwoFacedTilesModel" "laid" "[I" ∈ wsX7_isSure := List.mem_of_getElem? (i := 1) rfl
theorem fl_X7_isSure_7 : Cond.fieldLink RX7 7 "TwoFacedTilesModel" "z" "[I" ∈ wsX7_isSure := List.mem_of_getElem? (i := 2) rfl
theorem fl_X7_isSure_85 : Cond.fieldLink RX7 85 "TwoFacedTilesModel" "found" "I" ∈ wsX7_isSure := List.mem_of_getElem? (i := 3) rfl
theorem fl_X7_isSure_91 : Cond.fieldLink RX7 91 "TwoFacedTilesModel" "isCut" "Z" ∈ wsX7_isSure := List.mem_of_getElem? (i := 4) rfl
def wp_X7_isSure_52 (P : MV → Int32 → Int32 → Prop) (K59 : MV → Prop) (Q : Int32 → MV → Prop) (vM : MV) (x1 : Int32) (x2 : Int32) (t1 : Int32) (t2 : Int32) : Prop := vp_in t1 52 ∧ ∀ z_8 : Nat → Int32, z_8 = upd (MV.z vM) (Int32.toNatClampNeg t1) t2 → ∀ x2_9 : Int32, x2_9 = x2 + 1 → P (MV.s_z vM z_8) x1 x2_9
set_option maxHeartbeats 4000000 in
set_option maxRecDepth 100000 in
theorem k_X7_isSure_52 {p : Program} {l : Launch} {e : Env} {s : State} {m : MethodId} {below : List Frame} {meth : Method} {c : Code} {args : Array Value} {D : va_G} {t : T3} {A : Nat → Prop} (X : Cx p s m meth c args cX7_isSure 3 (some .boolean) RX7 wsX7_isSure D t A) (aM : MA) {P : MV → Int32 → Int32 → Prop} {K59 : MV → Prop} {Q : Int32 → MV → Prop} (hP : ∀ (vM : MV) (x1 : Int32) (x2 : Int32) (H : Heap) (locs : List Loc) (ls : Array Slot), P vM x1 x2 → Wd D A s.heap (mW t aM vM) H locs → lv_has ls 3 [(0, .ref (MA.o aM)), (1, .int x1), (2, .int x2)] → W p l e ({ frames := 8, cells := 0, slots := 0, locals := 195 } : Room) s m args below meth c H locs 0 0 (Ei below args s A D (fun (u : MV) => (mW t aM u)) (fun (r : Int32) (u : MV) => Q r u) 0 0) (F0 m 2 ls [])) (hK59 : ∀ (vM : MV) (H : Heap) (locs : List Loc) (ls : Array Slot), K59 vM → Wd D A s.heap (mW t aM vM) H locs → lv_has ls 3 [(0, .ref (MA.o aM))] → W p l e ({ frames := 8, cells := 0, slots := 0, locals := 195 } : Room) s m args below meth c H locs 0 0 (Ei below args s A D (fun (u : MV) => (mW t aM u)) (fun (r : Int32) (u : MV) => Q r u) 0 0) (F0 m 59 ls [])) : ∀ (vM : MV) (x1 : Int32) (x2 : Int32) (t1 : Int32) (t2 : Int32) (H : Heap) (locs : List Loc) (ls : Array Slot), wp_X7_isSure_52 P K59 Q vM x1 x2 t1 t2 → Wd D A s.heap (mW t aM vM) H locs → lv_has ls 3 [(0, .ref (MA.o aM)), (1, .int x1), (2, .int x2)] → W p l e ({ frames := 8, cells := 0, slots := 0, locals := 195 } : Room) s m args below meth c H locs 0 0 (Ei below args s A D (fun (u : MV) => (mW t aM u)) (fun (r : Int32) (u : MV) => Q r u) 0 0) (F0 m 52 ls [.int t2, .int t1, .ref (MA.z aM)]) := by
  intro vM x1 x2 t1 t2 H locs ls h hw hl
  have hx := X.1.1
  have hb := X.1.2.1
  obtain ⟨hi_7, h⟩ := h
  obtain ⟨z_8, ez_8⟩ : ∃ z : Nat → Int32, z = upd (MV.z vM) (Int32.toNatClampNeg t1) t2 := ⟨_, rfl⟩
  replace h := h z_8 ez_8
  refine r_iast (ws' := (mW t aM (MV.s_z vM z_8))) X hw 1 rfl hi_7 (by subst ez_8; rfl) dX7_isSure_52 (fun H locs hw => ?_)
  obtain ⟨x2_9, ex2_9⟩ : ∃ z : Int32, z = x2 + 1 := ⟨_, rfl⟩
  replace h := h x2_9 ex2_9
  refine lv_iinc (v := x2_9) (lv' := [(2, .int x2_9), (0, .ref (MA.o aM)), (1, .int x1)]) hx hb dX7_isSure_53 hl (k := 2) rfl (by rw [ex2_9]; rfl) (by decide) rfl (fun ls hl => ?_)
  refine lv_goto (tgt := 2) hx hb dX7_isSure_56 (by decide) ?_
  exact hP _ _ _ _ _ _ h hw (lv_sub hl [1, 2, 0] rfl)
def bd_X7_isSure_2 (Q : Int32 → MV → Prop) (P : MV → Int32 → Int32 → Prop) (K59 : MV → Prop) (vM : MV) (x1 : Int32) (x2 : Int32) : Prop := wp_X7_cells vM  (fun (r_2 : Int32) (vM_1 : MV) => (r_2 ≤ x2 → K59 vM_1) ∧ (¬ r_2 ≤ x2 → vp_in (28 + x2) 52 ∧ ∀ f_4 : Int32, f_4 = ((MV.z vM_1) (Int32.toNatClampNeg (28 + x2))) → vp_in x2 12 ∧ ∀ l_6 : Nat → Int32, l_6 = upd (MV.laid vM_1) (Int32.toNatClampNeg x2) f_4 → (¬ ((jshr x1 x2) &&& 1) = 1 → wp_X7_isSure_52  P K59 Q (MV.s_laid vM_1 l_6) x1 x2 (28 + x2) (-1)) ∧ (((jshr x1 x2) &&& 1) = 1 → vp_in x2 12 ∧ wp_X7_isSure_52  P K59 Q (MV.s_laid vM_1 l_6) x1 x2 (28 + x2) (l_6 (Int32.toNatClampNeg x2)))))
def wp_X7_isSure_2 (Q : Int32 → MV → Prop) (K59 : MV → Prop) (vM : MV) (x1 : Int32) (x2 : Int32) : Prop := ∀ P : MV → Int32 → Int32 → Prop, (∀ (vM : MV) (x1 : Int32) (x2 : Int32), bd_X7_isSure_2 Q P K59 vM x1 x2 → P vM x1 x2) → P vM x1 x2
set_option maxHeartbeats 4000000 in
set_option maxRecDepth 100000 in
theorem kb_X7_isSure_2 {p : Program} {l : Launch} {e : Env} {s : State} {m : MethodId} {below : List Frame} {meth : Method} {c : Code} {args : Array Value} {D : va_G} {t : T3} {A : Nat → Prop} (X : Cx p s m meth c args cX7_isSure 3 (some .boolean) RX7 wsX7_isSure D t A) (aM : MA) {Q : Int32 → MV → Prop} {P : MV → Int32 → Int32 → Prop} {K59 : MV → Prop} (hP : ∀ (vM : MV) (x1 : Int32) (x2 : Int32) (H : Heap) (locs : List Loc) (ls : Array Slot), P vM x1 x2 → Wd D A s.heap (mW t aM vM) H locs → lv_has ls 3 [(0, .ref (MA.o aM)), (1, .int x1), (2, .int x2)] → W p l e ({ frames := 8, cells := 0, slots := 0, locals := 195 } : Room) s m args below meth c H locs 0 0 (Ei below args s A D (fun (u : MV) => (mW t aM u)) (fun (r : Int32) (u : MV) => Q r u) 0 0) (F0 m 2 ls [])) (hK59 : ∀ (vM : MV) (H : Heap) (locs : List Loc) (ls : Array Slot), K59 vM → Wd D A s.heap (mW t aM vM) H locs → lv_has ls 3 [(0, .ref (MA.o aM))] → W p l e ({ frames := 8, cells := 0, slots := 0, locals := 195 } : Room) s m args below meth c H locs 0 0 (Ei below args s A D (fun (u : MV) => (mW t aM u)) (fun (r : Int32) (u : MV) => Q r u) 0 0) (F0 m 59 ls [])) : ∀ (vM : MV) (x1 : Int32) (x2 : Int32) (H : Heap) (locs : List Loc) (ls : Array Slot), bd_X7_isSure_2 Q P K59 vM x1 x2 → Wd D A s.heap (mW t aM vM) H locs → lv_has ls 3 [(0, .ref (MA.o aM)), (1, .int x1), (2, .int x2)] → W p l e ({ frames := 8, cells := 0, slots := 0, locals := 195 } : Room) s m args below meth c H locs 0 0 (Ei below args s A D (fun (u : MV) => (mW t aM u)) (fun (r : Int32) (u : MV) => Q r u) 0 0) (F0 m 2 ls []) := by
  intro vM x1 x2 H locs ls h hw hl
  have hx := X.1.1
  have hb := X.1.2.1
  refine lv_iload_n hx hb dX7_isSure_2 rfl (lv_at hl 2 rfl) ?_
  refine lv_aload_n hx hb dX7_isSure_3 rfl (lv_at hl 0 rfl) ?_
  refine r_ci X hw pm_0 (wn := fun (u : MV) => (mW t aM u)) (fun u => pm_0.symm) (r_runV X hw (c_X7_cells l D t aM vM _ h) pm_0 (cwV 0 X.1.2.2.2.2 gX7_isSure_X7_cells rfl rfl rfl (by decide +kernel) ⟨Nat.le_of_ble_eq_true rfl, Nat.le_of_ble_eq_true rfl⟩) (ci := 7) rfl rfl rfl rfl hl rfl (Nat.le_of_ble_eq_true rfl) dX7_isSure_4 ⟨Nat.le_of_ble_eq_true rfl, Nat.le_of_ble_eq_true rfl⟩) (fun r_2 u H locs h hw => ?_)
  obtain ⟨vM_1, rfl⟩ : ∃ z, z = u := ⟨_, rfl⟩
  refine lv_icmp_ge (tgt := 59) hx hb dX7_isSure_7 (by decide) (fun c_12 => ?_) (fun c_12 => ?_)
  · replace h := h.1 c_12
    exact hK59 _ _ _ _ h hw (lv_sub hl [0] rfl)
  replace h := h.2 c_12
  refine lv_aload_n hx hb dX7_isSure_10 rfl (lv_at hl 0 rfl) ?_
  refine r_get (ci := 7) (C := RX7) (T := TX7) (N := 16) X hw 0 rfl rfl 14 (by decide) in_X7_isSure_X7 fl_X7_isSure_28 (v := .ref (MA.laid aM)) rfl dX7_isSure_11 ?_
  refine lv_iload_n hx hb dX7_isSure_14 rfl (lv_at hl 2 rfl) ?_
  refine lv_aload_n hx hb dX7_isSure_15 rfl (lv_at hl 0 rfl) ?_
  refine r_get (ci := 7) (C := RX7) (T := TX7) (N := 16) X hw 0 rfl rfl 1 (by decide) in_X7_isSure_X7 fl_X7_isSure_7 (v := .ref (MA.z aM)) rfl dX7_isSure_16 ?_
  refine lv_bipush (v := 28) hx hb dX7_isSure_19 (by decide) ?_
  refine lv_iload_n hx hb dX7_isSure_21 rfl (lv_at hl 2 rfl) ?_
  refine lv_iadd hx hb dX7_isSure_22 ?_
  obtain ⟨hi_3, h⟩ := h
  refine r_iald (v := ((MV.z vM_1) (Int32.toNatClampNeg (28 + x2)))) X hw 1 rfl hi_3 rfl dX7_isSure_23 ?_
  refine lv_topi (fun f_4 ef_4 => ?_)
  replace h := h f_4 ef_4
  obtain ⟨hi_5, h⟩ := h
  obtain ⟨l_6, el_6⟩ : ∃ z : Nat → Int32, z = upd (MV.laid vM_1) (Int32.toNatClampNeg x2) f_4 := ⟨_, rfl⟩
  replace h := h l_6 el_6
  refine r_iast (ws' := (mW t aM (MV.s_laid vM_1 l_6))) X hw 7 rfl hi_5 (by subst el_6; rfl) dX7_isSure_24 (fun H locs hw => ?_)
  refine lv_aload_n hx hb dX7_isSure_25 rfl (lv_at hl 0 rfl) ?_
  refine r_get (ci := 7) (C := RX7) (T := TX7) (N := 16) X hw 0 rfl rfl 1 (by decide) in_X7_isSure_X7 fl_X7_isSure_7 (v := .ref (MA.z aM)) rfl dX7_isSure_26 ?_
  refine lv_bipush (v := 28) hx hb dX7_isSure_29 (by decide) ?_
  refine lv_iload_n hx hb dX7_isSure_31 rfl (lv_at hl 2 rfl) ?_
  refine lv_iadd hx hb dX7_isSure_32 ?_
  refine lv_iload_n hx hb dX7_isSure_33 rfl (lv_at hl 1 rfl) ?_
  refine lv_iload_n hx hb dX7_isSure_34 rfl (lv_at hl 2 rfl) ?_
  refine r_ishr hx hb dX7_isSure_35 ?_
  refine lv_iconst (v := 1) hx hb dX7_isSure_36 (by decide) ?_
  refine lv_iand hx hb dX7_isSure_37 ?_
  refine lv_iconst (v := 1) hx hb dX7_isSure_38 (by decide) ?_
  refine lv_icmp_ne (tgt := 51) hx hb dX7_isSure_39 (by decide) (fun c_11 => ?_) (fun c_11 => ?_)
  · replace h := h.1 c_11
    refine lv_iconst (v := (-1)) hx hb dX7_isSure_51 (by decide) ?_
    exact k_X7_isSure_52 X aM hP hK59 _ _ _ _ _ _ _ _ h hw hl
  replace h := h.2 c_11
  refine lv_aload_n hx hb dX7_isSure_42 rfl (lv_at hl 0 rfl) ?_
  refine r_get (ci := 7) (C := RX7) (T := TX7) (N := 16) X hw 0 rfl rfl 14 (by decide) in_X7_isSure_X7 fl_X7_isSure_28 (v := .ref (MA.laid aM)) rfl dX7_isSure_43 ?_
  refine lv_iload_n hx hb dX7_isSure_46 rfl (lv_at hl 2 rfl) ?_
  obtain ⟨hi_10, h⟩ := h
  refine r_iald (v := (l_6 (Int32.toNatClampNeg x2))) X hw 7 rfl hi_10 rfl dX7_isSure_47 ?_
  refine lv_goto (tgt := 52) hx hb dX7_isSure_48 (by decide) ?_
  exact k_X7_isSure_52 X aM hP hK59 _ _ _ _ _ _ _ _ h hw hl
set_option maxHeartbeats 4000000 in
set_option maxRecDepth 100000 in
theorem k_X7_isSure_2 {p : Program} {l : Launch} {e : Env} {s : State} {m : MethodId} {below : List Frame} {meth : Method} {c : Code} {args : Array Value} {D : va_G} {t : T3} {A : Nat → Prop} (X : Cx p s m meth c args cX7_isSure 3 (some .boolean) RX7 wsX7_isSure D t A) (aM : MA) {Q : Int32 → MV → Prop} {K59 : MV → Prop} (hK59 : ∀ (vM : MV) (H : Heap) (locs : List Loc) (ls : Array Slot), K59 vM → Wd D A s.heap (mW t aM vM) H locs → lv_has ls 3 [(0, .ref (MA.o aM))] → W p l e ({ frames := 8, cells := 0, slots := 0, locals := 195 } : Room) s m args below meth c H locs 0 0 (Ei below args s A D (fun (u : MV) => (mW t aM u)) (fun (r : Int32) (u : MV) => Q r u) 0 0) (F0 m 59 ls [])) : ∀ (vM : MV) (x1 : Int32) (x2 : Int32) (H : Heap) (locs : List Loc) (ls : Array Slot), wp_X7_isSure_2 Q K59 vM x1 x2 → Wd D A s.heap (mW t aM vM) H locs → lv_has ls 3 [(0, .ref (MA.o aM)), (1, .int x1), (2, .int x2)] → W p l e ({ frames := 8, cells := 0, slots := 0, locals := 195 } : Room) s m args below meth c H locs 0 0 (Ei below args s A D (fun (u : MV) => (mW t aM u)) (fun (r : Int32) (u : MV) => Q r u) 0 0) (F0 m 2 ls []) := by
  intro vM x1 x2 H locs ls h hw hl
  have hx := X.1.1
  have hb := X.1.2.1
  refine h (fun (vM : MV) (x1 : Int32) (x2 : Int32) => ∀ (H : Heap) (locs : List Loc) (ls : Array Slot), Wd D A s.heap (mW t aM vM) H locs → lv_has ls 3 [(0, .ref (MA.o aM)), (1, .int x1), (2, .int x2)] → W p l e ({ frames := 8, cells := 0, slots := 0, locals := 195 } : Room) s m args below meth c H locs 0 0 (Ei below args s A D (fun (u : MV) => (mW t aM u)) (fun (r : Int32) (u : MV) => Q r u) 0 0) (F0 m 2 ls [])) (fun vM x1 x2 h H locs ls hw hl => ?_) H locs ls hw hl
  exact kb_X7_isSure_2 X aM (fun vM x1 x2 H locs ls q hw hl => q H locs ls hw hl) hK59 vM x1 x2 _ _ _ h hw hl
def bd_X7_isSure_67 (Q : Int32 → MV → Prop) (P : MV → Int32 → Prop) (K96 : MV → Prop) (vM : MV) (x2 : Int32) : Prop := wp_X7_cells vM  (fun (r_16 : Int32) (vM_15 : MV) => (r_16 ≤ x2 → K96 vM_15) ∧ (¬ r_16 ≤ x2 → vp_in x2 12 ∧ ∀ f_18 : Int32, f_18 = ((MV.laid vM_15) (Int32.toNatClampNeg x2)) → vp_in (28 + x2) 52 ∧ ∀ z_20 : Nat → Int32, z_20 = upd (MV.z vM_15) (Int32.toNatClampNeg (28 + x2)) f_18 → ∀ x2_21 : Int32, x2_21 = x2 + 1 → P (MV.s_z vM_15 z_20) x2_21))
def wp_X7_isSure_67 (Q : Int32 → MV → Prop) (K96 : MV → Prop) (vM : MV) (x2 : Int32) : Prop := ∀ P : MV → Int32 → Prop, (∀ (vM : MV) (x2 : Int32), bd_X7_isSure_67 Q P K96 vM x2 → P vM x2) → P vM x2
set_option maxHeartbeats 4000000 in
set_option maxRecDepth 100000 in
theorem kb_X7_isSure_67 {p : Program} {l : Launch} {e : Env} {s : State} {m : MethodId} {below : List Frame} {meth : Method} {c : Code} {args : Array Value} {D : va_G} {t : T3} {A : Nat → Prop} (X : Cx p s m meth c args cX7_isSure 3 (some .boolean) RX7 wsX7_isSure D t A) (aM : MA) {Q : Int32 → MV → Prop} {P : MV → Int32 → Prop} {K96 : MV → Prop} (hP : ∀ (vM : MV) (x2 : Int32) (H : Heap) (locs : List Loc) (ls : Array Slot), P vM x2 → Wd D A s.heap (mW t aM vM) H locs → lv_has ls 3 [(0, .ref (MA.o aM)), (2, .int x2)] → W p l e ({ frames := 8, cells := 0, slots := 0, locals := 195 } : Room) s m args below meth c H locs 0 0 (Ei below args s A D (fun (u : MV) => (mW t aM u)) (fun (r : Int32) (u : MV) => Q r u) 0 0) (F0 m 67 ls [])) (hK96 : ∀ (vM : MV) (H : Heap) (locs : List Loc) (ls : Array Slot), K96 vM → Wd D A s.heap (mW t aM vM) H locs → lv_has ls 3 [(0, .ref (MA.o aM))] → W p l e ({ frames := 8, cells := 0, slots := 0, locals := 195 } : Room) s m args below meth c H locs 0 0 (Ei below args s A D (fun (u : MV) => (mW t aM u)) (fun (r : Int32) (u : MV) => Q r u) 0 0) (F0 m 96 ls [])) : ∀ (vM : MV) (x2 : Int32) (H : Heap) (locs : List Loc) (ls : Array Slot), bd_X7_isSure_67 Q P K96 vM x2 → Wd D A s.heap (mW t aM vM) H locs → lv_has ls 3 [(0, .ref (MA.o aM)), (2, .int x2)] → W p l e ({ frames := 8, cells := 0, slots := 0, locals := 195 } : Room) s m args below meth c H locs 0 0 (Ei below args s A D (fun (u : MV) => (mW t aM u)) (fun (r : Int32) (u : MV) => Q r u) 0 0) (F0 m 67 ls []) := by
  intro vM x2 H locs ls h hw hl
  have hx := X.1.1
  have hb := X.1.2.1
  refine lv_iload_n hx hb dX7_isSure_67 rfl (lv_at hl 1 rfl) ?_
  refine lv_aload_n hx hb dX7_isSure_68 rfl (lv_at hl 0 rfl) ?_
  refine r_ci X hw pm_0 (wn := fun (u : MV) => (mW t aM u)) (fun u => pm_0.symm) (r_runV X hw (c_X7_cells l D t aM vM _ h) pm_0 (cwV 0 X.1.2.2.2.2 gX7_isSure_X7_cells rfl rfl rfl (by decide +kernel) ⟨Nat.le_of_ble_eq_true rfl, Nat.le_of_ble_eq_true rfl⟩) (ci := 7) rfl rfl rfl rfl hl rfl (Nat.le_of_ble_eq_true rfl) dX7_isSure_69 ⟨Nat.le_of_ble_eq_true rfl, Nat.le_of_ble_eq_true rfl⟩) (fun r_16 u H locs h hw => ?_)
  obtain ⟨vM_15, rfl⟩ : ∃ z, z = u := ⟨_, rfl⟩
  refine lv_icmp_ge (tgt := 96) hx hb dX7_isSure_72 (by decide) (fun c_22 => ?_) (fun c_22 => ?_)
  · replace h := h.1 c_22
    exact hK96 _ _ _ _ h hw (lv_sub hl [0] rfl)
  replace h := h.2 c_22
  refine lv_aload_n hx hb dX7_isSure_75 rfl (lv_at hl 0 rfl) ?_
  refine r_get (ci := 7) (C := RX7) (T := TX7) (N := 16) X hw 0 rfl rfl 1 (by decide) in_X7_isSure_X7 fl_X7_isSure_7 (v := .ref (MA.z aM)) rfl dX7_isSure_76 ?_
  refine lv_bipush (v := 28) hx hb dX7_isSure_79 (by decide) ?_
  refine lv_iload_n hx hb dX7_isSure_81 rfl (lv_at hl 1 rfl) ?_
  refine lv_iadd hx hb dX7_isSure_82 ?_
  refine lv_aload_n hx hb dX7_isSure_83 rfl (lv_at hl 0 rfl) ?_
  refine r_get (ci := 7) (C := RX7) (T := TX7) (N := 16) X hw 0 rfl rfl 14 (by decide) in_X7_isSure_X7 fl_X7_isSure_28 (v := .ref (MA.laid aM)) rfl dX7_isSure_84 ?_
  refine lv_iload_n hx hb dX7_isSure_87 rfl (lv_at hl 1 rfl) ?_
  obtain ⟨hi_17, h⟩ := h
  refine r_iald (v := ((MV.laid vM_15) (Int32.toNatClampNeg x2))) X hw 7 rfl hi_17 rfl dX7_isSure_88 ?_
  refine lv_topi (fun f_18 ef_18 => ?_)
  replace h := h f_18 ef_18
  obtain ⟨hi_19, h⟩ := h
  obtain ⟨z_20, ez_20⟩ : ∃ z : Nat → Int32, z = upd (MV.z vM_15) (Int32.toNatClampNeg (28 + x2)) f_18 := ⟨_, rfl⟩
  replace h := h z_20 ez_20
  refine r_iast (ws' := (mW t aM (MV.s_z vM_15 z_20))) X hw 1 rfl hi_19 (by subst ez_20; rfl) dX7_isSure_89 (fun H locs hw => ?_)
  obtain ⟨x2_21, ex2_21⟩ : ∃ z : Int32, z = x2 + 1 := ⟨_, rfl⟩
  replace h := h x2_21 ex2_21
  refine lv_iinc (v := x2_21) (lv' := [(2, .int x2_21), (0, .ref (MA.o aM))]) hx hb dX7_isSure_90 hl (k := 1) rfl (by rw [ex2_21]; rfl) (by decide) rfl (fun ls hl => ?_)
  refine lv_goto (tgt := 67) hx hb dX7_isSure_93 (by decide) ?_
  exact hP _ _ _ _ _ h hw (lv_sub hl [1, 0] rfl)
set_option maxHeartbeats 4000000 in
set_option maxRecDepth 100000 in
theorem k_X7_isSure_67 {p : Program} {l : Launch} {e : Env} {s : State} {m : MethodId} {below : List Frame} {meth : Method} {c : Code} {args : Array Value} {D : va_G} {t : T3} {A : Nat → Prop} (X : Cx p s m meth c args cX7_isSure 3 (some .boolean) RX7 wsX7_isSure D t A) (aM : MA) {Q : Int32 → MV → Prop} {K96 : MV → Prop} (hK96 : ∀ (vM : MV) (H : Heap) (locs : List Loc) (ls : Array Slot), K96 vM → Wd D A s.heap (mW t aM vM) H locs → lv_has ls 3 [(0, .ref (MA.o aM))] → W p l e ({ frames := 8, cells := 0, slots := 0, locals := 195 } : Room) s m args below meth c H locs 0 0 (Ei below args s A D (fun (u : MV) => (mW t aM u)) (fun (r : Int32) (u : MV) => Q r u) 0 0) (F0 m 96 ls [])) : ∀ (vM : MV) (x2 : Int32) (H : Heap) (locs : List Loc) (ls : Array Slot), wp_X7_isSure_67 Q K96 vM x2 → Wd D A s.heap (mW t aM vM) H locs → lv_has ls 3 [(0, .ref (MA.o aM)), (2, .int x2)] → W p l e ({ frames := 8, cells := 0, slots := 0, locals := 195 } : Room) s m args below meth c H locs 0 0 (Ei below args s A D (fun (u : MV) => (mW t aM u)) (fun (r : Int32) (u : MV) => Q r u) 0 0) (F0 m 67 ls []) := by
  intro vM x2 H locs ls h hw hl
  have hx := X.1.1
  have hb := X.1.2.1
  refine h (fun (vM : MV) (x2 : Int32) => ∀ (H : Heap) (locs : List Loc) (ls : Array Slot), Wd D A s.heap (mW t aM vM) H locs → lv_has ls 3 [(0, .ref (MA.o aM)), (2, .int x2)] → W p l e ({ frames := 8, cells := 0, slots := 0, locals := 195 } : Room) s m args below meth c H locs 0 0 (Ei below args s A D (fun (u : MV) => (mW t aM u)) (fun (r : Int32) (u : MV) => Q r u) 0 0) (F0 m 67 ls [])) (fun vM x2 h H locs ls hw hl => ?_) H locs ls hw hl
  exact kb_X7_isSure_67 X aM (fun vM x2 H locs ls q hw hl => q H locs ls hw hl) hK96 vM x2 _ _ _ h hw hl
def wp_X7_isSure (vM : MV) (p1 : Int32) (Q : Int32 → MV → Prop) : Prop := wp_X7_isSure_2 Q (fun (vM_13 : MV) => wp_X7_search vM_13 2 0 (fun (vM_14 : MV) => wp_X7_isSure_67 Q (fun (vM_23 : MV) => (¬ (MV.found vM_23) = 1 → Q 0 vM_23) ∧ ((MV.found vM_23) = 1 → (¬ (MV.isCut vM_23) = 0 → Q 0 vM_23) ∧ ((MV.isCut vM_23) = 0 → Q 1 vM_23))) vM_14 0)) vM p1 0
set_option maxHeartbeats 4000000 in
set_option maxRecDepth 100000 in
theorem c_X7_isSure (l : Launch) (D : va_G) (t : T3) (aM : MA) (vM : MV) (p1 : Int32) (Q : Int32 → MV → Prop) (h : wp_X7_isSure vM p1 Q) : Ct l yX7_isSure wsX7_isSure 8 195 0 0 [.ref (MA.o aM), .int p1] D t (mW t aM vM) (fun sz => Qi D (mW t aM vM) (fun (u : MV) => (mW t aM u)) (fun (r : Int32) (u : MV) => Q r u) sz) := by
  refine Ct.of (Qf := fun _ A => va_Qi (fun (r : Int32) (u : MV) => Q r u) (B1 D (fun (u : MV) => (mW t aM u)) A) A) cX7_isSure 3 (some .boolean) (by decide) rfl (Nat.le_of_ble_eq_true rfl) ?_
  intro p e s m below meth c A ls hAe hin X hw hl
  generalize ([.ref (MA.o aM), .int p1] : List Value).toArray = args at X ⊢
  have hl : lv_has ls 3 [(0, .ref (MA.o aM)), (1, .int p1)] := hl
  have hx := X.1.1
  have hb := X.1.2.1
  refine lv_iconst (v := 0) hx hb dX7_isSure_0 (by decide) ?_
  refine lv_istore_n (lv' := [(2, .int 0), (0, .ref (MA.o aM)), (1, .int p1)]) hx hb dX7_isSure_1 rfl hl (by decide) rfl (fun ls hl => ?_)
  refine k_X7_isSure_2 X aM (fun vM_13 H locs ls h hw hl => ?_) _ _ _ _ _ _ h hw (lv_sub hl [1, 2, 0] rfl)
  refine lv_aload_n hx hb dX7_isSure_59 rfl (lv_at hl 0 rfl) ?_
  refine lv_iconst (v := 2) hx hb dX7_isSure_60 (by decide) ?_
  refine lv_iconst (v := 0) hx hb dX7_isSure_61 (by decide) ?_
  refine r_cv X hw pm_0 (wn := fun (u : MV) => (mW t aM u)) (fun u => pm_0.symm) (r_runV X hw (c_X7_search l D t aM vM_13 2 0 _ h) pm_0 (cwV 2 X.1.2.2.2.2 gX7_isSure_X7_search rfl rfl rfl (by decide +kernel) ⟨Nat.le_of_ble_eq_true rfl, Nat.le_of_ble_eq_true rfl⟩) (ci := 7) rfl rfl rfl rfl hl rfl (Nat.le_of_ble_eq_true rfl) dX7_isSure_62 ⟨Nat.le_of_ble_eq_true rfl, Nat.le_of_ble_eq_true rfl⟩) (fun u H locs h hw => ?_)
  obtain ⟨vM_14, rfl⟩ : ∃ z, z = u := ⟨_, rfl⟩
  refine lv_iconst (v := 0) hx hb dX7_isSure_65 (by decide) ?_
  refine lv_istore_n (lv' := [(2, .int 0), (0, .ref (MA.o aM))]) hx hb dX7_isSure_66 rfl hl (by decide) rfl (fun ls hl => ?_)
  refine k_X7_isSure_67 X aM (fun vM_23 H locs ls h hw hl => ?_) _ _ _ _ _ h hw (lv_sub hl [1, 0] rfl)
  refine lv_aload_n hx hb dX7_isSure_96 rfl (lv_at hl 0 rfl) ?_
  refine r_get (ci := 7) (C := RX7) (T := TX7) (N := 16) X hw 0 rfl rfl 7 (by decide) in_X7_isSure_X7 fl_X7_isSure_85 (v := .int (MV.found vM_23)) rfl dX7_isSure_97 ?_
  refine lv_iconst (v := 1) hx hb dX7_isSure_100 (by decide) ?_
  refine lv_icmp_ne (tgt := 115) hx hb dX7_isSure_101 (by decide) (fun c_25 => ?_) (fun c_25 => ?_)
  · replace h := h.1 c_25
    refine lv_iconst (v := 0) hx hb dX7_isSure_115 (by decide) ?_
    exact e_z (w1 := (fun (u : MV) => (mW t aM u))) X isB_0 (vM_23) hw h dX7_isSure_116
  replace h := h.2 c_25
  refine lv_aload_n hx hb dX7_isSure_104 rfl (lv_at hl 0 rfl) ?_
  refine r_get (ci := 7) (C := RX7) (T := TX7) (N := 16) X hw 0 rfl rfl 9 (by decide) in_X7_isSure_X7 fl_X7_isSure_91 (v := .int (MV.isCut vM_23)) rfl dX7_isSure_105 ?_
  refine lv_if_ne (tgt := 115) hx hb dX7_isSure_108 (by decide) (fun c_24 => ?_) (fun c_24 => ?_)
  · replace h := h.1 c_24
    refine lv_iconst (v := 0) hx hb dX7_isSure_115 (by decide) ?_
    exact e_z (w1 := (fun (u : MV) => (mW t aM u))) X isB_0 (vM_23) hw h dX7_isSure_116
  replace h := h.2 c_24
  refine lv_iconst (v := 1) hx hb dX7_isSure_111 (by decide) ?_
  refine lv_goto (tgt := 116) hx hb dX7_isSure_112 (by decide) ?_
  exact e_z (w1 := (fun (u : MV) => (mW t aM u))) X isB_1 (vM_23) hw h dX7_isSure_116
/-! X7_bits -/
def bd_X7_bits_4 (Q : Int32 → Prop) (P : Int32 → Int32 → Int32 → Prop) (x0 : Int32) (x1 : Int32) (x2 : Int32) : Prop := (12 ≤ x2 → Q x1 ) ∧ (¬ 12 ≤ x2 → ∀ x1_1 : Int32, x1_1 = (x1 + ((jshr x0 x2) &&& 1)) → ∀ x2_2 : Int32, x2_2 = x2 + 1 → P x0 x1_1 x2_2)
def wp_X7_bits_4 (Q : Int32 → Prop)  (x0 : Int32) (x1 : Int32) (x2 : Int32) : Prop := ∀ P : Int32 → Int32 → Int32 → Prop, (∀ (x0 : Int32) (x1 : Int32) (x2 : Int32), bd_X7_bits_4 Q P  x0 x1 x2 → P x0 x1 x2) → P x0 x1 x2
set_option maxHeartbeats 4000000 in
set_option maxRecDepth 100000 in
theorem kb_X7_bits_4 {p : Program} {l : Launch} {e : Env} {s : State} {m : MethodId} {below : List Frame} {meth : Method} {c : Code} {args : Array Value} {D : va_G} {t : T3} {A : Nat → Prop} (X : Cx p s m meth c args cX7_bits 3 (some .int) RX7 wsX7_bits D t A)  {Q : Int32 → Prop} {P : Int32 → Int32 → Int32 → Prop} (hP : ∀ (x0 : Int32) (x1 : Int32) (x2 : Int32) (H : Heap) (locs : List Loc) (ls : Array Slot), P x0 x1 x2 → Wd D A s.heap ([] : va_W) H locs → lv_has ls 3 [(0, .int x0), (1, .int x1), (2, .int x2)] → W p l e ({ frames := 0, cells := 0, slots := 0, locals := 0 } : Room) s m args below meth c H locs 0 0 (Ei below args s A D (fun (u : Unit) => ([] : va_W)) (fun (r : Int32) (u : Unit) => Q r ) 0 0) (F0 m 4 ls [])) : ∀ (x0 : Int32) (x1 : Int32) (x2 : Int32) (H : Heap) (locs : List Loc) (ls : Array Slot), bd_X7_bits_4 Q P  x0 x1 x2 → Wd D A s.heap ([] : va_W) H locs → lv_has ls 3 [(0, .int x0), (1, .int x1), (2, .int x2)] → W p l e ({ frames := 0, cells := 0, slots := 0, locals := 0 } : Room) s m args below meth c H locs 0 0 (Ei below args s A D (fun (u : Unit) => ([] : va_W)) (fun (r : Int32) (u : Unit) => Q r ) 0 0) (F0 m 4 ls []) := by
  intro x0 x1 x2 H locs ls h hw hl
  have hx := X.1.1
  have hb := X.1.2.1
  refine lv_iload_n hx hb dX7_bits_4 rfl (lv_at hl 2 rfl) ?_
  refine lv_bipush (v := 12) hx hb dX7_bits_5 (by decide) ?_
  refine lv_icmp_ge (tgt := 24) hx hb dX7_bits_7 (by decide) (fun c_3 => ?_) (fun c_3 => ?_)
  · replace h := h.1 c_3
    refine lv_iload_n hx hb dX7_bits_24 rfl (lv_at hl 1 rfl) ?_
    exact e_i (w1 := (fun (u : Unit) => ([] : va_W))) X () hw h dX7_bits_25
  replace h := h.2 c_3
  refine lv_iload_n hx hb dX7_bits_10 rfl (lv_at hl 1 rfl) ?_
  refine lv_iload_n hx hb dX7_bits_11 rfl (lv_at hl 0 rfl) ?_
  refine lv_iload_n hx hb dX7_bits_12 rfl (lv_at hl 2 rfl) ?_
  refine r_ishr hx hb dX7_bits_13 ?_
  refine lv_iconst (v := 1) hx hb dX7_bits_14 (by decide) ?_
  refine lv_iand hx hb dX7_bits_15 ?_
  refine lv_iadd hx hb dX7_bits_16 ?_
  refine lv_topi (fun x1_1 ex1_1 => ?_)
  replace h := h x1_1 ex1_1
  refine lv_istore_n (lv' := [(1, .int x1_1), (0, .int x0), (2, .int x2)]) hx hb dX7_bits_17 rfl hl (by decide) rfl (fun ls hl => ?_)
  obtain ⟨x2_2, ex2_2⟩ : ∃ z : Int32, z = x2 + 1 := ⟨_, rfl⟩
  replace h := h x2_2 ex2_2
  refine lv_iinc (v := x2_2) (lv' := [(2, .int x2_2), (1, .int x1_1), (0, .int x0)]) hx hb dX7_bits_18 hl (k := 2) rfl (by rw [ex2_2]; rfl) (by decide) rfl (fun ls hl => ?_)
  refine lv_goto (tgt := 4) hx hb dX7_bits_21 (by decide) ?_
  exact hP _ _ _ _ _ _ h hw (lv_sub hl [2, 1, 0] rfl)
set_option maxHeartbeats 4000000 in
set_option maxRecDepth 100000 in
theorem k_X7_bits_4 {p : Program} {l : Launch} {e : Env} {s : State} {m : MethodId} {below : List Frame} {meth : Method} {c : Code} {args : Array Value} {D : va_G} {t : T3} {A : Nat → Prop} (X : Cx p s m meth c args cX7_bits 3 (some .int) RX7 wsX7_bits D t A)  {Q : Int32 → Prop}   : ∀ (x0 : Int32) (x1 : Int32) (x2 : Int32) (H : Heap) (locs : List Loc) (ls : Array Slot), wp_X7_bits_4 Q  x0 x1 x2 → Wd D A s.heap ([] : va_W) H locs → lv_has ls 3 [(0, .int x0), (1, .int x1), (2, .int x2)] → W p l e ({ frames := 0, cells := 0, slots := 0, locals := 0 } : Room) s m args below meth c H locs 0 0 (Ei below args s A D (fun (u : Unit) => ([] : va_W)) (fun (r : Int32) (u : Unit) => Q r ) 0 0) (F0 m 4 ls []) := by
  intro x0 x1 x2 H locs ls h hw hl
  have hx := X.1.1
  have hb := X.1.2.1
  refine h (fun (x0 : Int32) (x1 : Int32) (x2 : Int32) => ∀ (H : Heap) (locs : List Loc) (ls : Array Slot), Wd D A s.heap ([] : va_W) H locs → lv_has ls 3 [(0, .int x0), (1, .int x1), (2, .int x2)] → W p l e ({ frames := 0, cells := 0, slots := 0, locals := 0 } : Room) s m args below meth c H locs 0 0 (Ei below args s A D (fun (u : Unit) => ([] : va_W)) (fun (r : Int32) (u : Unit) => Q r ) 0 0) (F0 m 4 ls [])) (fun x0 x1 x2 h H locs ls hw hl => ?_) H locs ls hw hl
  exact kb_X7_bits_4 X  (fun x0 x1 x2 H locs ls q hw hl => q H locs ls hw hl)  x0 x1 x2 _ _ _ h hw hl
def wp_X7_bits (p0 : Int32) (Q : Int32 → Prop) : Prop := wp_X7_bits_4 Q  p0 0 0
set_option maxHeartbeats 4000000 in
set_option maxRecDepth 100000 in
theorem c_X7_bits (l : Launch) (D : va_G) (t : T3)  (p0 : Int32) (Q : Int32 → Prop) (h : wp_X7_bits p0 Q) : Ct l yX7_bits wsX7_bits 0 0 0 0 [.int p0] D t ([] : va_W) (fun sz => Qi D ([] : va_W) (fun (u : Unit) => ([] : va_W)) (fun (r : Int32) (u : Unit) => Q r ) sz) := by
  refine Ct.of (Qf := fun _ A => va_Qi (fun (r : Int32) (u : Unit) => Q r ) (B1 D (fun (u : Unit) => ([] : va_W)) A) A) cX7_bits 3 (some .int) (by decide) rfl (Nat.le_of_ble_eq_true rfl) ?_
  intro p e s m below meth c A ls hAe hin X hw hl
  generalize ([.int p0] : List Value).toArray = args at X ⊢
  have hl : lv_has ls 3 [(0, .int p0)] := hl
  have hx := X.1.1
  have hb := X.1.2.1
  refine lv_iconst (v := 0) hx hb dX7_bits_0 (by decide) ?_
  refine lv_istore_n (lv' := [(1, .int 0), (0, .int p0)]) hx hb dX7_bits_1 rfl hl (by decide) rfl (fun ls hl => ?_)
  refine lv_iconst (v := 0) hx hb dX7_bits_2 (by decide) ?_
  refine lv_istore_n (lv' := [(2, .int 0), (1, .int 0), (0, .int p0)]) hx hb dX7_bits_3 rfl hl (by decide) rfl (fun ls hl => ?_)
  refine k_X7_bits_4 X   _ _ _ _ _ _ h hw (lv_sub hl [2, 1, 0] rfl)
/-! X7_startsNow -/
def wp_X7_startsNow_37 (P : MV → Int32 → Int32 → Prop) (K43 : MV → Int32 → Prop) (Q : Int32 → MV → Prop) (vM : MV) (x1 : Int32) (x2 : Int32) : Prop := ∀ x2_4 : Int32, x2_4 = x2 + 1 → P vM x1 x2_4
set_option maxHeartbeats 4000000 in
set_option maxRecDepth 100000 in
theorem k_X7_startsNow_37 {p : Program} {l : Launch} {e : Env} {s : State} {m : MethodId} {below : List Frame} {meth : Method} {c : Code} {args : Array Value} {D : va_G} {t : T3} {A : Nat → Prop} (X : Cx p s m meth c args cX7_startsNow 3 (some .int) RX7 wsX7_startsNow D t A) (aM : MA) {P : MV → Int32 → Int32 → Prop} {K43 : MV → Int32 → Prop} {Q : Int32 → MV → Prop} (hP : ∀ (vM : MV) (x1 : Int32) (x2 : Int32) (H : Heap) (locs : List Loc) (ls : Array Slot), P vM x1 x2 → Wd D A s.heap (mW t aM vM) H locs → lv_has ls 3 [(0, .ref (MA.o aM)), (1, .int x1), (2, .int x2)] → W p l e ({ frames := 9, cells := 0, slots := 0, locals := 217 } : Room) s m args below meth c H locs 0 0 (Ei below args s A D (fun (u : MV) => (mW t aM u)) (fun (r : Int32) (u : MV) => Q r u) 0 0) (F0 m 9 ls [])) (hK43 : ∀ (vM : MV) (x1 : Int32) (H : Heap) (locs : List Loc) (ls : Array Slot), K43 vM x1 → Wd D A s.heap (mW t aM vM) H locs → lv_has ls 3 [(0, .ref (MA.o aM)), (1, .int x1)] → W p l e ({ frames := 9, cells := 0, slots := 0, locals := 217 } : Room) s m args below meth c H locs 0 0 (Ei below args s A D (fun (u : MV) => (mW t aM u)) (fun (r : Int32) (u : MV) => Q r u) 0 0) (F0 m 43 ls [])) : ∀ (vM : MV) (x1 : Int32) (x2 : Int32) (H : Heap) (locs : List Loc) (ls : Array Slot), wp_X7_startsNow_37 P K43 Q vM x1 x2 → Wd D A s.heap (mW t aM vM) H locs → lv_has ls 3 [(0, .ref (MA.o aM)), (1, .int x1), (2, .int x2)] → W p l e ({ frames := 9, cells := 0, slots := 0, locals := 217 } : Room) s m args below meth c H locs 0 0 (Ei below args s A D (fun (u : MV) => (mW t aM u)) (fun (r : Int32) (u : MV) => Q r u) 0 0) (F0 m 37 ls []) := by
  intro vM x1 x2 H locs ls h hw hl
  have hx := X.1.1
  have hb := X.1.2.1
  obtain ⟨x2_4, ex2_4⟩ : ∃ z : Int32, z = x2 + 1 := ⟨_, rfl⟩
  replace h := h x2_4 ex2_4
  refine lv_iinc (v := x2_4) (lv' := [(2, .int x2_4), (0, .ref (MA.o aM)), (1, .int x1)]) hx hb dX7_startsNow_37 hl (k := 2) rfl (by rw [ex2_4]; rfl) (by decide) rfl (fun ls hl => ?_)
  refine lv_goto (tgt := 9) hx hb dX7_startsNow_40 (by decide) ?_
  exact hP _ _ _ _ _ _ h hw (lv_sub hl [1, 2, 0] rfl)
def bd_X7_startsNow_9 (Q : Int32 → MV → Prop) (P : MV → Int32 → Int32 → Prop) (K43 : MV → Int32 → Prop) (vM : MV) (x1 : Int32) (x2 : Int32) : Prop := wp_X7_cells vM  (fun (r_2 : Int32) (vM_1 : MV) => ((jshl 1 r_2) ≤ x2 → K43 vM_1 x1) ∧ (¬ (jshl 1 r_2) ≤ x2 → wp_X7_bits  x2 (fun (r_3 : Int32) => (¬ r_3 = x1 → wp_X7_startsNow_37  P K43 Q vM_1 x1 x2) ∧ (r_3 = x1 → wp_X7_isSure vM_1 x2 (fun (r_6 : Int32) (vM_5 : MV) => (r_6 = 0 → wp_X7_startsNow_37  P K43 Q vM_5 x1 x2) ∧ (¬ r_6 = 0 → Q x2 vM_5))))))
def wp_X7_startsNow_9 (Q : Int32 → MV → Prop) (K43 : MV → Int32 → Prop) (vM : MV) (x1 : Int32) (x2 : Int32) : Prop := ∀ P : MV → Int32 → Int32 → Prop, (∀ (vM : MV) (x1 : Int32) (x2 : Int32), bd_X7_startsNow_9 Q P K43 vM x1 x2 → P vM x1 x2) → P vM x1 x2
set_option maxHeartbeats 4000000 in
set_option maxRecDepth 100000 in
theorem kb_X7_startsNow_9 {p : Program} {l : Launch} {e : Env} {s : State} {m : MethodId} {below : List Frame} {meth : Method} {c : Code} {args : Array Value} {D : va_G} {t : T3} {A : Nat → Prop} (X : Cx p s m meth c args cX7_startsNow 3 (some .int) RX7 wsX7_startsNow D t A) (aM : MA) {Q : Int32 → MV → Prop} {P : MV → Int32 → Int32 → Prop} {K43 : MV → Int32 → Prop} (hP : ∀ (vM : MV) (x1 : Int32) (x2 : Int32) (H : Heap) (locs : List Loc) (ls : Array Slot), P vM x1 x2 → Wd D A s.heap (mW t aM vM) H locs → lv_has ls 3 [(0, .ref (MA.o aM)), (1, .int x1), (2, .int x2)] → W p l e ({ frames := 9, cells := 0, slots := 0, locals := 217 } : Room) s m args below meth c H locs 0 0 (Ei below args s A D (fun (u : MV) => (mW t aM u)) (fun (r : Int32) (u : MV) => Q r u) 0 0) (F0 m 9 ls [])) (hK43 : ∀ (vM : MV) (x1 : Int32) (H : Heap) (locs : List Loc) (ls : Array Slot), K43 vM x1 → Wd D A s.heap (mW t aM vM) H locs → lv_has ls 3 [(0, .ref (MA.o aM)), (1, .int x1)] → W p l e ({ frames := 9, cells := 0, slots := 0, locals := 217 } : Room) s m args below meth c H locs 0 0 (Ei below args s A D (fun (u : MV) => (mW t aM u)) (fun (r : Int32) (u : MV) => Q r u) 0 0) (F0 m 43 ls [])) : ∀ (vM : MV) (x1 : Int32) (x2 : Int32) (H : Heap) (locs : List Loc) (ls : Array Slot), bd_X7_startsNow_9 Q P K43 vM x1 x2 → Wd D A s.heap (mW t aM vM) H locs → lv_has ls 3 [(0, .ref (MA.o aM)), (1, .int x1), (2, .int x2)] → W p l e ({ frames := 9, cells := 0, slots := 0, locals := 217 } : Room) s m args below meth c H locs 0 0 (Ei below args s A D (fun (u : MV) => (mW t aM u)) (fun (r : Int32) (u : MV) => Q r u) 0 0) (F0 m 9 ls []) := by
  intro vM x1 x2 H locs ls h hw hl
  have hx := X.1.1
  have hb := X.1.2.1
  refine lv_iload_n hx hb dX7_startsNow_9 rfl (lv_at hl 2 rfl) ?_
  refine lv_iconst (v := 1) hx hb dX7_startsNow_10 (by decide) ?_
  refine lv_aload_n hx hb dX7_startsNow_11 rfl (lv_at hl 0 rfl) ?_
  refine r_ci X hw pm_0 (wn := fun (u : MV) => (mW t aM u)) (fun u => pm_0.symm) (r_runV X hw (c_X7_cells l D t aM vM _ h) pm_0 (cwV 0 X.1.2.2.2.2 gX7_startsNow_X7_cells rfl rfl rfl (by decide +kernel) ⟨Nat.le_of_ble_eq_true rfl, Nat.le_of_ble_eq_true rfl⟩) (ci := 7) rfl rfl rfl rfl hl rfl (Nat.le_of_ble_eq_true rfl) dX7_startsNow_12 ⟨Nat.le_of_ble_eq_true rfl, Nat.le_of_ble_eq_true rfl⟩) (fun r_2 u H locs h hw => ?_)
  obtain ⟨vM_1, rfl⟩ : ∃ z, z = u := ⟨_, rfl⟩
  refine r_ishl hx hb dX7_startsNow_15 ?_
  refine lv_icmp_ge (tgt := 43) hx hb dX7_startsNow_16 (by decide) (fun c_9 => ?_) (fun c_9 => ?_)
  · replace h := h.1 c_9
    exact hK43 _ _ _ _ _ h hw (lv_sub hl [0, 1] rfl)
  replace h := h.2 c_9
  refine lv_iload_n hx hb dX7_startsNow_19 rfl (lv_at hl 2 rfl) ?_
  refine r_ci X hw pm_n (wn := fun (u : Unit) => (mW t aM vM_1)) (fun u => (pm_n).symm) (r_runS X hw (c_X7_bits l D t x2 _ h) pm_n (va_cwS 1 X.1.2.2.2.2 gX7_startsNow_X7_bits rfl rfl rfl (by decide +kernel) ⟨Nat.le_of_ble_eq_true rfl, Nat.le_of_ble_eq_true rfl⟩) rfl hl rfl (Nat.le_of_ble_eq_true rfl) dX7_startsNow_20 ⟨Nat.le_of_ble_eq_true rfl, Nat.le_of_ble_eq_true rfl⟩) (fun r_3 u H locs h hw => ?_)
  refine lv_iload_n hx hb dX7_startsNow_23 rfl (lv_at hl 1 rfl) ?_
  refine lv_icmp_ne (tgt := 37) hx hb dX7_startsNow_24 (by decide) (fun c_8 => ?_) (fun c_8 => ?_)
  · replace h := h.1 c_8
    exact k_X7_startsNow_37 X aM hP hK43 _ _ _ _ _ _ h hw hl
  replace h := h.2 c_8
  refine lv_aload_n hx hb dX7_startsNow_27 rfl (lv_at hl 0 rfl) ?_
  refine lv_iload_n hx hb dX7_startsNow_28 rfl (lv_at hl 2 rfl) ?_
  refine r_ci X hw pm_0 (wn := fun (u : MV) => (mW t aM u)) (fun u => pm_0.symm) (r_runV X hw (c_X7_isSure l D t aM vM_1 x2 _ h) pm_0 (cwV 1 X.1.2.2.2.2 gX7_startsNow_X7_isSure rfl rfl rfl (by decide +kernel) ⟨Nat.le_of_ble_eq_true rfl, Nat.le_of_ble_eq_true rfl⟩) (ci := 7) rfl rfl rfl rfl hl rfl (Nat.le_of_ble_eq_true rfl) dX7_startsNow_29 ⟨Nat.le_of_ble_eq_true rfl, Nat.le_of_ble_eq_true rfl⟩) (fun r_6 u H locs h hw => ?_)
  obtain ⟨vM_5, rfl⟩ : ∃ z, z = u := ⟨_, rfl⟩
  refine lv_if_eq (tgt := 37) hx hb dX7_startsNow_32 (by decide) (fun c_7 => ?_) (fun c_7 => ?_)
  · replace h := h.1 c_7
    exact k_X7_startsNow_37 X aM hP hK43 _ _ _ _ _ _ h hw hl
  replace h := h.2 c_7
  refine lv_iload_n hx hb dX7_startsNow_35 rfl (lv_at hl 2 rfl) ?_
  exact e_i (w1 := (fun (u : MV) => (mW t aM u))) X (vM_5) hw h dX7_startsNow_36
set_option maxHeartbeats 4000000 in
set_option maxRecDepth 100000 in
theorem k_X7_startsNow_9 {p : Program} {l : Launch} {e : Env} {s : State} {m : MethodId} {below : List Frame} {meth : Method} {c : Code} {args : Array Value} {D : va_G} {t : T3} {A : Nat → Prop} (X : Cx p s m meth c args cX7_startsNow 3 (some .int) RX7 wsX7_startsNow D t A) (aM : MA) {Q : Int32 → MV → Prop} {K43 : MV → Int32 → Prop} (hK43 : ∀ (vM : MV) (x1 : Int32) (H : Heap) (locs : List Loc) (ls : Array Slot), K43 vM x1 → Wd D A s.heap (mW t aM vM) H locs → lv_has ls 3 [(0, .ref (MA.o aM)), (1, .int x1)] → W p l e ({ frames := 9, cells := 0, slots := 0, locals := 217 } : Room) s m args below meth c H locs 0 0 (Ei below args s A D (fun (u : MV) => (mW t aM u)) (fun (r : Int32) (u : MV) => Q r u) 0 0) (F0 m 43 ls [])) : ∀ (vM : MV) (x1 : Int32) (x2 : Int32) (H : Heap) (locs : List Loc) (ls : Array Slot), wp_X7_startsNow_9 Q K43 vM x1 x2 → Wd D A s.heap (mW t aM vM) H locs → lv_has ls 3 [(0, .ref (MA.o aM)), (1, .int x1), (2, .int x2)] → W p l e ({ frames := 9, cells := 0, slots := 0, locals := 217 } : Room) s m args below meth c H locs 0 0 (Ei below args s A D (fun (u : MV) => (mW t aM u)) (fun (r : Int32) (u : MV) => Q r u) 0 0) (F0 m 9 ls []) := by
  intro vM x1 x2 H locs ls h hw hl
  have hx := X.1.1
  have hb := X.1.2.1
  refine h (fun (vM : MV) (x1 : Int32) (x2 : Int32) => ∀ (H : Heap) (locs : List Loc) (ls : Array Slot), Wd D A s.heap (mW t aM vM) H locs → lv_has ls 3 [(0, .ref (MA.o aM)), (1, .int x1), (2, .int x2)] → W p l e ({ frames := 9, cells := 0, slots := 0, locals := 217 } : Room) s m args below meth c H locs 0 0 (Ei below args s A D (fun (u : MV) => (mW t aM u)) (fun (r : Int32) (u : MV) => Q r u) 0 0) (F0 m 9 ls [])) (fun vM x1 x2 h H locs ls hw hl => ?_) H locs ls hw hl
  exact kb_X7_startsNow_9 X aM (fun vM x1 x2 H locs ls q hw hl => q H locs ls hw hl) hK43 vM x1 x2 _ _ _ h hw hl
def bd_X7_startsNow_2 (Q : Int32 → MV → Prop) (P : MV → Int32 → Prop) (vM : MV) (x1 : Int32) : Prop := (3 ≤ x1 → Q (-1) vM) ∧ (¬ 3 ≤ x1 → wp_X7_startsNow_9 Q (fun (vM_10 : MV) (x1_11 : Int32) => ∀ x1_12 : Int32, x1_12 = x1_11 + 1 → P vM_10 x1_12) vM x1 0)
def wp_X7_startsNow_2 (Q : Int32 → MV → Prop)  (vM : MV) (x1 : Int32) : Prop := ∀ P : MV → Int32 → Prop, (∀ (vM : MV) (x1 : Int32), bd_X7_startsNow_2 Q P  vM x1 → P vM x1) → P vM x1
set_option maxHeartbeats 4000000 in
set_option maxRecDepth 100000 in
theorem kb_X7_startsNow_2 {p : Program} {l : Launch} {e : Env} {s : State} {m : MethodId} {below : List Frame} {meth : Method} {c : Code} {args : Array Value} {D : va_G} {t : T3} {A : Nat → Prop} (X : Cx p s m meth c args cX7_startsNow 3 (some .int) RX7 wsX7_startsNow D t A) (aM : MA) {Q : Int32 → MV → Prop} {P : MV → Int32 → Prop} (hP : ∀ (vM : MV) (x1 : Int32) (H : Heap) (locs : List Loc) (ls : Array Slot), P vM x1 → Wd D A s.heap (mW t aM vM) H locs → lv_has ls 3 [(0, .ref (MA.o aM)), (1, .int x1)] → W p l e ({ frames := 9, cells := 0, slots := 0, locals := 217 } : Room) s m args below meth c H locs 0 0 (Ei below args s A D (fun (u : MV) => (mW t aM u)) (fun (r : Int32) (u : MV) => Q r u) 0 0) (F0 m 2 ls [])) : ∀ (vM : MV) (x1 : Int32) (H : Heap) (locs : List Loc) (ls : Array Slot), bd_X7_startsNow_2 Q P  vM x1 → Wd D A s.heap (mW t aM vM) H locs → lv_has ls 3 [(0, .ref (MA.o aM)), (1, .int x1)] → W p l e ({ frames := 9, cells := 0, slots := 0, locals := 217 } : Room) s m args below meth c H locs 0 0 (Ei below args s A D (fun (u : MV) => (mW t aM u)) (fun (r : Int32) (u : MV) => Q r u) 0 0) (F0 m 2 ls []) := by
  intro vM x1 H locs ls h hw hl
  have hx := X.1.1
  have hb := X.1.2.1
  refine lv_iload_n hx hb dX7_startsNow_2 rfl (lv_at hl 1 rfl) ?_
  refine lv_iconst (v := 3) hx hb dX7_startsNow_3 (by decide) ?_
  refine lv_icmp_ge (tgt := 49) hx hb dX7_startsNow_4 (by decide) (fun c_13 => ?_) (fun c_13 => ?_)
  · replace h := h.1 c_13
    refine lv_iconst (v := (-1)) hx hb dX7_startsNow_49 (by decide) ?_
    exact e_i (w1 := (fun (u : MV) => (mW t aM u))) X (vM) hw h dX7_startsNow_50
  replace h := h.2 c_13
  refine lv_iconst (v := 0) hx hb dX7_startsNow_7 (by decide) ?_
  refine lv_istore_n (lv' := [(2, .int 0), (0, .ref (MA.o aM)), (1, .int x1)]) hx hb dX7_startsNow_8 rfl hl (by decide) rfl (fun ls hl => ?_)
  refine k_X7_startsNow_9 X aM (fun vM_10 x1_11 H locs ls h hw hl => ?_) _ _ _ _ _ _ h hw (lv_sub hl [1, 2, 0] rfl)
  obtain ⟨x1_12, ex1_12⟩ : ∃ z : Int32, z = x1_11 + 1 := ⟨_, rfl⟩
  replace h := h x1_12 ex1_12
  refine lv_iinc (v := x1_12) (lv' := [(1, .int x1_12), (0, .ref (MA.o aM))]) hx hb dX7_startsNow_43 hl (k := 1) rfl (by rw [ex1_12]; rfl) (by decide) rfl (fun ls hl => ?_)
  refine lv_goto (tgt := 2) hx hb dX7_startsNow_46 (by decide) ?_
  exact hP _ _ _ _ _ h hw (lv_sub hl [1, 0] rfl)
set_option maxHeartbeats 4000000 in
set_option maxRecDepth 100000 in
theorem k_X7_startsNow_2 {p : Program} {l : Launch} {e : Env} {s : State} {m : MethodId} {below : List Frame} {meth : Method} {c : Code} {args : Array Value} {D : va_G} {t : T3} {A : Nat → Prop} (X : Cx p s m meth c args cX7_startsNow 3 (some .int) RX7 wsX7_startsNow D t A) (aM : MA) {Q : Int32 → MV → Prop}   : ∀ (vM : MV) (x1 : Int32) (H : Heap) (locs : List Loc) (ls : Array Slot), wp_X7_startsNow_2 Q  vM x1 → Wd D A s.heap (mW t aM vM) H locs → lv_has ls 3 [(0, .ref (MA.o aM)), (1, .int x1)] → W p l e ({ frames := 9, cells := 0, slots := 0, locals := 217 } : Room) s m args below meth c H locs 0 0 (Ei below args s A D (fun (u : MV) => (mW t aM u)) (fun (r : Int32) (u : MV) => Q r u) 0 0) (F0 m 2 ls []) := by
  intro vM x1 H locs ls h hw hl
  have hx := X.1.1
  have hb := X.1.2.1
  refine h (fun (vM : MV) (x1 : Int32) => ∀ (H : Heap) (locs : List Loc) (ls : Array Slot), Wd D A s.heap (mW t aM vM) H locs → lv_has ls 3 [(0, .ref (MA.o aM)), (1, .int x1)] → W p l e ({ frames := 9, cells := 0, slots := 0, locals := 217 } : Room) s m args below meth c H locs 0 0 (Ei below args s A D (fun (u : MV) => (mW t aM u)) (fun (r : Int32) (u : MV) => Q r u) 0 0) (F0 m 2 ls [])) (fun vM x1 h H locs ls hw hl => ?_) H locs ls hw hl
  exact kb_X7_startsNow_2 X aM (fun vM x1 H locs ls q hw hl => q H locs ls hw hl)  vM x1 _ _ _ h hw hl
def wp_X7_startsNow (vM : MV) (Q : Int32 → MV → Prop) : Prop := wp_X7_startsNow_2 Q  vM 0
set_option maxHeartbeats 4000000 in
set_option maxRecDepth 100000 in
theorem c_X7_startsNow (l : Launch) (D : va_G) (t : T3) (aM : MA) (vM : MV) (Q : Int32 → MV → Prop) (h : wp_X7_startsNow vM Q) : Ct l yX7_startsNow wsX7_startsNow 9 217 0 0 [.ref (MA.o aM)] D t (mW t aM vM) (fun sz => Qi D (mW t aM vM) (fun (u : MV) => (mW t aM u)) (fun (r : Int32) (u : MV) => Q r u) sz) := by
  refine Ct.of (Qf := fun _ A => va_Qi (fun (r : Int32) (u : MV) => Q r u) (B1 D (fun (u : MV) => (mW t aM u)) A) A) cX7_startsNow 3 (some .int) (by decide) rfl (Nat.le_of_ble_eq_true rfl) ?_
  intro p e s m below meth c A ls hAe hin X hw hl
  generalize ([.ref (MA.o aM)] : List Value).toArray = args at X ⊢
  have hl : lv_has ls 3 [(0, .ref (MA.o aM))] := hl
  have hx := X.1.1
  have hb := X.1.2.1
  refine lv_iconst (v := 0) hx hb dX7_startsNow_0 (by decide) ?_
  refine lv_istore_n (lv' := [(1, .int 0), (0, .ref (MA.o aM))]) hx hb dX7_startsNow_1 rfl hl (by decide) rfl (fun ls hl => ?_)
  refine k_X7_startsNow_2 X aM  _ _ _ _ _ h hw (lv_sub hl [1, 0] rfl)
/-! X7_starts -/
theorem in_X7_starts_X7 : ∀ w ∈ u_ws RX7 TX7 16, w ∈ wsX7_starts := fun w h => (List.mem_cons_of_mem _ (List.mem_append_right _ h))
theorem fl_X7_starts_34 : Cond.fieldLink RX7 34 "TwoFacedTilesModel" "thrown" "I" ∈ wsX7_starts := List.mem_of_getElem? (i := 1) rfl
def wp_X7_starts (vM : MV) (Q : Int32 → MV → Prop) : Prop := wp_X7_empties (MV.s_thrown vM 0)  (fun (r_2 : Int32) (vM_1 : MV) => (r_2 ≤ 0 → wp_X7_startsNow vM_1  (fun (r_4 : Int32) (vM_3 : MV) => Q r_4 vM_3)) ∧ (¬ r_2 ≤ 0 → Q (-1) vM_1))
set_option maxHeartbeats 4000000 in
set_option maxRecDepth 100000 in
theorem c_X7_starts (l : Launch) (D : va_G) (t : T3) (aM : MA) (vM : MV) (Q : Int32 → MV → Prop) (h : wp_X7_starts vM Q) : Ct l yX7_starts wsX7_starts 10 239 0 0 [.ref (MA.o aM)] D t (mW t aM vM) (fun sz => Qi D (mW t aM vM) (fun (u : MV) => (mW t aM u)) (fun (r : Int32) (u : MV) => Q r u) sz) := by
  refine Ct.of (Qf := fun _ A => va_Qi (fun (r : Int32) (u : MV) => Q r u) (B1 D (fun (u : MV) => (mW t aM u)) A) A) cX7_starts 1 (some .int) (by decide) rfl (Nat.le_of_ble_eq_true rfl) ?_
  intro p e s m below meth c A ls hAe hin X hw hl
  generalize ([.ref (MA.o aM)] : List Value).toArray = args at X ⊢
  have hl : lv_has ls 1 [(0, .ref (MA.o aM))] := hl
  have hx := X.1.1
  have hb := X.1.2.1
  refine lv_aload_n hx hb dX7_starts_0 rfl (lv_at hl 0 rfl) ?_
  refine lv_iconst (v := 0) hx hb dX7_starts_1 (by decide) ?_
  refine r_put (ci := 7) (C := RX7) (T := TX7) (N := 16) (v := .int 0) (ws' := (mW t aM (MV.s_thrown vM 0))) X hw 0 rfl rfl 0 (by decide) in_X7_starts_X7 tyX7 tyX7_ok nmX7 fl_X7_starts_34 rfl rfl rfl (Nat.le_of_ble_eq_true rfl) rfl dX7_starts_2 (fun H locs hw => ?_)
  refine lv_aload_n hx hb dX7_starts_5 rfl (lv_at hl 0 rfl) ?_
  refine r_ci X hw pm_0 (wn := fun (u : MV) => (mW t aM u)) (fun u => pm_0.symm) (r_runV X hw (c_X7_empties l D t aM (MV.s_thrown vM 0) _ h) pm_0 (cwV 0 X.1.2.2.2.2 gX7_starts_X7_empties rfl rfl rfl (by decide +kernel) ⟨Nat.le_of_ble_eq_true rfl, Nat.le_of_ble_eq_true rfl⟩) (ci := 7) rfl rfl rfl rfl hl rfl (Nat.le_of_ble_eq_true rfl) dX7_starts_6 ⟨Nat.le_of_ble_eq_true rfl, Nat.le_of_ble_eq_true rfl⟩) (fun r_2 u H locs h hw => ?_)
  obtain ⟨vM_1, rfl⟩ : ∃ z, z = u := ⟨_, rfl⟩
  refine lv_if_le (tgt := 16) hx hb dX7_starts_9 (by decide) (fun c_5 => ?_) (fun c_5 => ?_)
  · replace h := h.1 c_5
    refine lv_aload_n hx hb dX7_starts_16 rfl (lv_at hl 0 rfl) ?_
    refine r_ci X hw pm_0 (wn := fun (u : MV) => (mW t aM u)) (fun u => pm_0.symm) (r_runV X hw (c_X7_startsNow l D t aM vM_1 _ h) pm_0 (cwV 0 X.1.2.2.2.2 gX7_starts_X7_startsNow rfl rfl rfl (by decide +kernel) ⟨Nat.le_of_ble_eq_true rfl, Nat.le_of_ble_eq_true rfl⟩) (ci := 7) rfl rfl rfl rfl hl rfl (Nat.le_of_ble_eq_true rfl) dX7_starts_17 ⟨Nat.le_of_ble_eq_true rfl, Nat.le_of_ble_eq_true rfl⟩) (fun r_4 u H locs h hw => ?_)
    obtain ⟨vM_3, rfl⟩ : ∃ z, z = u := ⟨_, rfl⟩
    exact e_i (w1 := (fun (u : MV) => (mW t aM u))) X (vM_3) hw h dX7_starts_20
  replace h := h.2 c_5
  refine lv_iconst (v := (-1)) hx hb dX7_starts_12 (by decide) ?_
  refine lv_goto (tgt := 20) hx hb dX7_starts_13 (by decide) ?_
  exact e_i (w1 := (fun (u : MV) => (mW t aM u))) X (vM_1) hw h dX7_starts_20
/-! X7_why -/
theorem in_X7_why_X7 : ∀ w ∈ u_ws RX7 TX7 16, w ∈ wsX7_why := fun w h => (List.mem_cons_of_mem _ (List.mem_append_right _ h))
theorem fl_X7_why_34 : Cond.fieldLink RX7 34 "TwoFacedTilesModel" "thrown" "I" ∈ wsX7_why := List.mem_of_getElem? (i := 1) rfl
def wp_X7_why_22 (Q : Int32 → MV → Prop) (vM : MV) (x1 : Int32) (x2 : Int32) (t1 : Int32) : Prop := (t1 ≤ 0 → wp_X7_whyNot (MV.s_thrown vM t1) x1 x2 (fun (r_4 : Int32) (vM_3 : MV) => Q r_4 vM_3)) ∧ (¬ t1 ≤ 0 → Q 0 (MV.s_thrown vM t1))
set_option maxHeartbeats 4000000 in
set_option maxRecDepth 100000 in
theorem k_X7_why_22 {p : Program} {l : Launch} {e : Env} {s : State} {m : MethodId} {below : List Frame} {meth : Method} {c : Code} {args : Array Value} {D : va_G} {t : T3} {A : Nat → Prop} (X : Cx p s m meth c args cX7_why 3 (some .int) RX7 wsX7_why D t A) (aM : MA) {Q : Int32 → MV → Prop}  : ∀ (vM : MV) (x1 : Int32) (x2 : Int32) (t1 : Int32) (H : Heap) (locs : List Loc) (ls : Array Slot), wp_X7_why_22 Q vM x1 x2 t1 → Wd D A s.heap (mW t aM vM) H locs → lv_has ls 3 [(0, .ref (MA.o aM)), (1, .int x1), (2, .int x2)] → W p l e ({ frames := 6, cells := 0, slots := 0, locals := 145 } : Room) s m args below meth c H locs 0 0 (Ei below args s A D (fun (u : MV) => (mW t aM u)) (fun (r : Int32) (u : MV) => Q r u) 0 0) (F0 m 22 ls [.int t1, .ref (MA.o aM)]) := by
  intro vM x1 x2 t1 H locs ls h hw hl
  have hx := X.1.1
  have hb := X.1.2.1
  refine r_put (ci := 7) (C := RX7) (T := TX7) (N := 16) (v := .int t1) (ws' := (mW t aM (MV.s_thrown vM t1))) X hw 0 rfl rfl 0 (by decide) in_X7_why_X7 tyX7 tyX7_ok nmX7 fl_X7_why_34 rfl rfl rfl (Nat.le_of_ble_eq_true rfl) rfl dX7_why_22 (fun H locs hw => ?_)
  refine lv_aload_n hx hb dX7_why_25 rfl (lv_at hl 0 rfl) ?_
  refine r_get (ci := 7) (C := RX7) (T := TX7) (N := 16) X hw 0 rfl rfl 0 (by decide) in_X7_why_X7 fl_X7_why_34 (v := .int t1) rfl dX7_why_26 ?_
  refine lv_if_le (tgt := 36) hx hb dX7_why_29 (by decide) (fun c_5 => ?_) (fun c_5 => ?_)
  · replace h := h.1 c_5
    refine lv_aload_n hx hb dX7_why_36 rfl (lv_at hl 0 rfl) ?_
    refine lv_iload_n hx hb dX7_why_37 rfl (lv_at hl 1 rfl) ?_
    refine lv_iload_n hx hb dX7_why_38 rfl (lv_at hl 2 rfl) ?_
    refine r_ci X hw pm_0 (wn := fun (u : MV) => (mW t aM u)) (fun u => pm_0.symm) (r_runV X hw (c_X7_whyNot l D t aM (MV.s_thrown vM t1) x1 x2 _ h) pm_0 (cwV 2 X.1.2.2.2.2 gX7_why_X7_whyNot rfl rfl rfl (by decide +kernel) ⟨Nat.le_of_ble_eq_true rfl, Nat.le_of_ble_eq_true rfl⟩) (ci := 7) rfl rfl rfl rfl hl rfl (Nat.le_of_ble_eq_true rfl) dX7_why_39 ⟨Nat.le_of_ble_eq_true rfl, Nat.le_of_ble_eq_true rfl⟩) (fun r_4 u H locs h hw => ?_)
    obtain ⟨vM_3, rfl⟩ : ∃ z, z = u := ⟨_, rfl⟩
    exact e_i (w1 := (fun (u : MV) => (mW t aM u))) X (vM_3) hw h dX7_why_42
  replace h := h.2 c_5
  refine lv_iconst (v := 0) hx hb dX7_why_32 (by decide) ?_
  refine lv_goto (tgt := 42) hx hb dX7_why_33 (by decide) ?_
  exact e_i (w1 := (fun (u : MV) => (mW t aM u))) X ((MV.s_thrown vM t1)) hw h dX7_why_42
def wp_X7_why_21 (Q : Int32 → MV → Prop) (vM : MV) (x1 : Int32) (x2 : Int32) : Prop := wp_X7_why_22  Q vM x1 x2 1
set_option maxHeartbeats 4000000 in
set_option maxRecDepth 100000 in
theorem k_X7_why_21 {p : Program} {l : Launch} {e : Env} {s : State} {m : MethodId} {below : List Frame} {meth : Method} {c : Code} {args : Array Value} {D : va_G} {t : T3} {A : Nat → Prop} (X : Cx p s m meth c args cX7_why 3 (some .int) RX7 wsX7_why D t A) (aM : MA) {Q : Int32 → MV → Prop}  : ∀ (vM : MV) (x1 : Int32) (x2 : Int32) (H : Heap) (locs : List Loc) (ls : Array Slot), wp_X7_why_21 Q vM x1 x2 → Wd D A s.heap (mW t aM vM) H locs → lv_has ls 3 [(0, .ref (MA.o aM)), (1, .int x1), (2, .int x2)] → W p l e ({ frames := 6, cells := 0, slots := 0, locals := 145 } : Room) s m args below meth c H locs 0 0 (Ei below args s A D (fun (u : MV) => (mW t aM u)) (fun (r : Int32) (u : MV) => Q r u) 0 0) (F0 m 21 ls [.ref (MA.o aM)]) := by
  intro vM x1 x2 H locs ls h hw hl
  have hx := X.1.1
  have hb := X.1.2.1
  refine lv_iconst (v := 1) hx hb dX7_why_21 (by decide) ?_
  exact k_X7_why_22 X aM _ _ _ _ _ _ _ h hw hl
def wp_X7_why (vM : MV) (p1 : Int32) (p2 : Int32) (Q : Int32 → MV → Prop) : Prop := wp_X7_isCell vM p1 (fun (r_2 : Int32) (vM_1 : MV) => (r_2 = 0 → wp_X7_why_21  Q vM_1 p1 p2) ∧ (¬ r_2 = 0 → wp_X7_isPlacing vM_1 p2 (fun (r_7 : Int32) (vM_6 : MV) => (r_7 = 0 → wp_X7_why_21  Q vM_6 p1 p2) ∧ (¬ r_7 = 0 → wp_X7_why_22  Q vM_6 p1 p2 0))))
set_option maxHeartbeats 4000000 in
set_option maxRecDepth 100000 in
theorem c_X7_why (l : Launch) (D : va_G) (t : T3) (aM : MA) (vM : MV) (p1 : Int32) (p2 : Int32) (Q : Int32 → MV → Prop) (h : wp_X7_why vM p1 p2 Q) : Ct l yX7_why wsX7_why 6 145 0 0 [.ref (MA.o aM), .int p1, .int p2] D t (mW t aM vM) (fun sz => Qi D (mW t aM vM) (fun (u : MV) => (mW t aM u)) (fun (r : Int32) (u : MV) => Q r u) sz) := by
  refine Ct.of (Qf := fun _ A => va_Qi (fun (r : Int32) (u : MV) => Q r u) (B1 D (fun (u : MV) => (mW t aM u)) A) A) cX7_why 3 (some .int) (by decide) rfl (Nat.le_of_ble_eq_true rfl) ?_
  intro p e s m below meth c A ls hAe hin X hw hl
  generalize ([.ref (MA.o aM), .int p1, .int p2] : List Value).toArray = args at X ⊢
  have hl : lv_has ls 3 [(0, .ref (MA.o aM)), (1, .int p1), (2, .int p2)] := hl
  have hx := X.1.1
  have hb := X.1.2.1
  refine lv_aload_n hx hb dX7_why_0 rfl (lv_at hl 0 rfl) ?_
  refine lv_aload_n hx hb dX7_why_1 rfl (lv_at hl 0 rfl) ?_
  refine lv_iload_n hx hb dX7_why_2 rfl (lv_at hl 1 rfl) ?_
  refine r_ci X hw pm_0 (wn := fun (u : MV) => (mW t aM u)) (fun u => pm_0.symm) (r_runV X hw (c_X7_isCell l D t aM vM p1 _ h) pm_0 (cwV 1 X.1.2.2.2.2 gX7_why_X7_isCell rfl rfl rfl (by decide +kernel) ⟨Nat.le_of_ble_eq_true rfl, Nat.le_of_ble_eq_true rfl⟩) (ci := 7) rfl rfl rfl rfl hl rfl (Nat.le_of_ble_eq_true rfl) dX7_why_3 ⟨Nat.le_of_ble_eq_true rfl, Nat.le_of_ble_eq_true rfl⟩) (fun r_2 u H locs h hw => ?_)
  obtain ⟨vM_1, rfl⟩ : ∃ z, z = u := ⟨_, rfl⟩
  refine lv_if_eq (tgt := 21) hx hb dX7_why_6 (by decide) (fun c_9 => ?_) (fun c_9 => ?_)
  · replace h := h.1 c_9
    exact k_X7_why_21 X aM _ _ _ _ _ _ h hw hl
  replace h := h.2 c_9
  refine lv_aload_n hx hb dX7_why_9 rfl (lv_at hl 0 rfl) ?_
  refine lv_iload_n hx hb dX7_why_10 rfl (lv_at hl 2 rfl) ?_
  refine r_ci X hw pm_0 (wn := fun (u : MV) => (mW t aM u)) (fun u => pm_0.symm) (r_runV X hw (c_X7_isPlacing l D t aM vM_1 p2 _ h) pm_0 (cwV 1 X.1.2.2.2.2 gX7_why_X7_isPlacing rfl rfl rfl (by decide +kernel) ⟨Nat.le_of_ble_eq_true rfl, Nat.le_of_ble_eq_true rfl⟩) (ci := 7) rfl rfl rfl rfl hl rfl (Nat.le_of_ble_eq_true rfl) dX7_why_11 ⟨Nat.le_of_ble_eq_true rfl, Nat.le_of_ble_eq_true rfl⟩) (fun r_7 u H locs h hw => ?_)
  obtain ⟨vM_6, rfl⟩ : ∃ z, z = u := ⟨_, rfl⟩
  refine lv_if_eq (tgt := 21) hx hb dX7_why_14 (by decide) (fun c_8 => ?_) (fun c_8 => ?_)
  · replace h := h.1 c_8
    exact k_X7_why_21 X aM _ _ _ _ _ _ h hw hl
  replace h := h.2 c_8
  refine lv_iconst (v := 0) hx hb dX7_why_17 (by decide) ?_
  refine lv_goto (tgt := 22) hx hb dX7_why_18 (by decide) ?_
  exact k_X7_why_22 X aM _ _ _ _ _ _ _ h hw hl
/-! X7_fittingNow -/
def wp_X7_fittingNow (vM : MV) (Q : UInt64 → MV → Prop) : Prop := wp_X7_pairs vM  (fun (r_2 : Int32) (vM_1 : MV) => (¬ r_2 = 0 → wp_X7_likePairs vM_1 0 (fun (r_4 : Int32) (vM_3 : MV) => wp_X7_likePairs vM_3 1 (fun (r_6 : Int32) (vM_5 : MV) => vf_n64 (FP.dmul FP.dconst1 (FP.i2d (r_4 + r_6))) ∧ vf_n64 (FP.ddiv (FP.dmul FP.dconst1 (FP.i2d (r_4 + r_6))) (FP.i2d (2 * r_2))) ∧ Q (FP.ddiv (FP.dmul FP.dconst1 (FP.i2d (r_4 + r_6))) (FP.i2d (2 * r_2))) vM_5))) ∧ (r_2 = 0 → Q FP.dconst1 vM_1))
set_option maxHeartbeats 4000000 in
set_option maxRecDepth 100000 in
theorem c_X7_fittingNow (l : Launch) (D : va_G) (t : T3) (aM : MA) (vM : MV) (Q : UInt64 → MV → Prop) (h : wp_X7_fittingNow vM Q) : Ct l yX7_fittingNow wsX7_fittingNow 4 97 0 0 [.ref (MA.o aM)] D t (mW t aM vM) (fun sz => Qd D (mW t aM vM) (fun (u : MV) => (mW t aM u)) (fun (r : UInt64) (u : MV) => Q r u) sz) := by
  refine Ct.of (Qf := fun _ A => va_Qd (fun (r : UInt64) (u : MV) => Q r u) (B1 D (fun (u : MV) => (mW t aM u)) A) A) cX7_fittingNow 2 (some .double) (by decide) rfl (Nat.le_of_ble_eq_true rfl) ?_
  intro p e s m below meth c A ls hAe hin X hw hl
  generalize ([.ref (MA.o aM)] : List Value).toArray = args at X ⊢
  have hl : lv_has ls 2 [(0, .ref (MA.o aM))] := hl
  have hx := X.1.1
  have hb := X.1.2.1
  refine lv_aload_n hx hb dX7_fittingNow_0 rfl (lv_at hl 0 rfl) ?_
  refine r_ci X hw pm_0 (wn := fun (u : MV) => (mW t aM u)) (fun u => pm_0.symm) (r_runV X hw (c_X7_pairs l D t aM vM _ h) pm_0 (cwV 0 X.1.2.2.2.2 gX7_fittingNow_X7_pairs rfl rfl rfl (by decide +kernel) ⟨Nat.le_of_ble_eq_true rfl, Nat.le_of_ble_eq_true rfl⟩) (ci := 7) rfl rfl rfl rfl hl rfl (Nat.le_of_ble_eq_true rfl) dX7_fittingNow_1 ⟨Nat.le_of_ble_eq_true rfl, Nat.le_of_ble_eq_true rfl⟩) (fun r_2 u H locs h hw => ?_)
  obtain ⟨vM_1, rfl⟩ : ∃ z, z = u := ⟨_, rfl⟩
  refine lv_istore_n (lv' := [(1, .int r_2), (0, .ref (MA.o aM))]) hx hb dX7_fittingNow_4 rfl hl (by decide) rfl (fun ls hl => ?_)
  refine lv_iload_n hx hb dX7_fittingNow_5 rfl (lv_at hl 0 rfl) ?_
  refine lv_if_ne (tgt := 13) hx hb dX7_fittingNow_6 (by decide) (fun c_9 => ?_) (fun c_9 => ?_)
  · replace h := h.1 c_9
    refine lv_dconst1 hx hb dX7_fittingNow_13 ?_
    refine lv_aload_n hx hb dX7_fittingNow_14 rfl (lv_at hl 1 rfl) ?_
    refine lv_iconst (v := 0) hx hb dX7_fittingNow_15 (by decide) ?_
    refine r_ci X hw pm_0 (wn := fun (u : MV) => (mW t aM u)) (fun u => pm_0.symm) (r_runV X hw (c_X7_likePairs l D t aM vM_1 0 _ h) pm_0 (cwV 1 X.1.2.2.2.2 gX7_fittingNow_X7_likePairs rfl rfl rfl (by decide +kernel) ⟨Nat.le_of_ble_eq_true rfl, Nat.le_of_ble_eq_true rfl⟩) (ci := 7) rfl rfl rfl rfl hl rfl (Nat.le_of_ble_eq_true rfl) dX7_fittingNow_16 ⟨Nat.le_of_ble_eq_true rfl, Nat.le_of_ble_eq_true rfl⟩) (fun r_4 u H locs h hw => ?_)
    obtain ⟨vM_3, rfl⟩ : ∃ z, z = u := ⟨_, rfl⟩
    refine lv_aload_n hx hb dX7_fittingNow_19 rfl (lv_at hl 1 rfl) ?_
    refine lv_iconst (v := 1) hx hb dX7_fittingNow_20 (by decide) ?_
    refine r_ci X hw pm_0 (wn := fun (u : MV) => (mW t aM u)) (fun u => pm_0.symm) (r_runV X hw (c_X7_likePairs l D t aM vM_3 1 _ h) pm_0 (cwV 1 X.1.2.2.2.2 gX7_fittingNow_X7_likePairs rfl rfl rfl (by decide +kernel) ⟨Nat.le_of_ble_eq_true rfl, Nat.le_of_ble_eq_true rfl⟩) (ci := 7) rfl rfl rfl rfl hl rfl (Nat.le_of_ble_eq_true rfl) dX7_fittingNow_21 ⟨Nat.le_of_ble_eq_true rfl, Nat.le_of_ble_eq_true rfl⟩) (fun r_6 u H locs h hw => ?_)
    obtain ⟨vM_5, rfl⟩ : ∃ z, z = u := ⟨_, rfl⟩
    refine lv_iadd hx hb dX7_fittingNow_24 ?_
    refine lv_i2d hx hb dX7_fittingNow_25 ?_
    obtain ⟨hn_7, h⟩ := h
    refine lv_dmul hx hb dX7_fittingNow_26 hn_7 ?_
    refine lv_iconst (v := 2) hx hb dX7_fittingNow_27 (by decide) ?_
    refine lv_iload_n hx hb dX7_fittingNow_28 rfl (lv_at hl 0 rfl) ?_
    refine lv_imul hx hb dX7_fittingNow_29 ?_
    refine lv_i2d hx hb dX7_fittingNow_30 ?_
    obtain ⟨hn_8, h⟩ := h
    refine lv_ddiv hx hb dX7_fittingNow_31 hn_8 ?_
    exact e_d (w1 := (fun (u : MV) => (mW t aM u))) X (vM_5) hw h dX7_fittingNow_32
  replace h := h.2 c_9
  refine lv_dconst1 hx hb dX7_fittingNow_9 ?_
  refine lv_goto (tgt := 32) hx hb dX7_fittingNow_10 (by decide) ?_
  exact e_d (w1 := (fun (u : MV) => (mW t aM u))) X (vM_1) hw h dX7_fittingNow_32
/-! X7_fitting -/
theorem in_X7_fitting_X7 : ∀ w ∈ u_ws RX7 TX7 16, w ∈ wsX7_fitting := fun w h => (List.mem_cons_of_mem _ (List.mem_append_right _ h))
theorem fl_X7_fitting_34 : Cond.fieldLink RX7 34 "TwoFacedTilesModel" "thrown" "I" ∈ wsX7_fitting := List.mem_of_getElem? (i := 1) rfl
def wp_X7_fitting (vM : MV) (Q : UInt64 → MV → Prop) : Prop := wp_X7_fittingNow (MV.s_thrown vM 0)  (fun (r_2 : UInt64) (vM_1 : MV) => Q r_2 vM_1)
set_option maxHeartbeats 4000000 in
set_option maxRecDepth 100000 in
theorem c_X7_fitting (l : Launch) (D : va_G) (t : T3) (aM : MA) (vM : MV) (Q : UInt64 → MV → Prop) (h : wp_X7_fitting vM Q) : Ct l yX7_fitting wsX7_fitting 5 118 0 0 [.ref (MA.o aM)] D t (mW t aM vM) (fun sz => Qd D (mW t aM vM) (fun (u : MV) => (mW t aM u)) (fun (r : UInt64) (u : MV) => Q r u) sz) := by
  refine Ct.of (Qf := fun _ A => va_Qd (fun (r : UInt64) (u : MV) => Q r u) (B1 D (fun (u : MV) => (mW t aM u)) A) A) cX7_fitting 1 (some .double) (by decide) rfl (Nat.le_of_ble_eq_true rfl) ?_
  intro p e s m below meth c A ls hAe hin X hw hl
  generalize ([.ref (MA.o aM)] : List Value).toArray = args at X ⊢
  have hl : lv_has ls 1 [(0, .ref (MA.o aM))] := hl
  have hx := X.1.1
  have hb := X.1.2.1
  refine lv_aload_n hx hb dX7_fitting_0 rfl (lv_at hl 0 rfl) ?_
  refine lv_iconst (v := 0) hx hb dX7_fitting_1 (by decide) ?_
  refine r_put (ci := 7) (C := RX7) (T := TX7) (N := 16) (v := .int 0) (ws' := (mW t aM (MV.s_thrown vM 0))) X hw 0 rfl rfl 0 (by decide) in_X7_fitting_X7 tyX7 tyX7_ok nmX7 fl_X7_fitting_34 rfl rfl rfl (Nat.le_of_ble_eq_true rfl) rfl dX7_fitting_2 (fun H locs hw => ?_)
  refine lv_aload_n hx hb dX7_fitting_5 rfl (lv_at hl 0 rfl) ?_
  refine r_cd X hw pm_0 (wn := fun (u : MV) => (mW t aM u)) (fun u => pm_0.symm) (r_runV X hw (c_X7_fittingNow l D t aM (MV.s_thrown vM 0) _ h) pm_0 (cwV 0 X.1.2.2.2.2 gX7_fitting_X7_fittingNow rfl rfl rfl (by decide +kernel) ⟨Nat.le_of_ble_eq_true rfl, Nat.le_of_ble_eq_true rfl⟩) (ci := 7) rfl rfl rfl rfl hl rfl (Nat.le_of_ble_eq_true rfl) dX7_fitting_6 ⟨Nat.le_of_ble_eq_true rfl, Nat.le_of_ble_eq_true rfl⟩) (fun r_2 u H locs h hw => ?_)
  obtain ⟨vM_1, rfl⟩ : ∃ z, z = u := ⟨_, rfl⟩
  exact e_d (w1 := (fun (u : MV) => (mW t aM u))) X (vM_1) hw h dX7_fitting_9
/-! X7_mix -/
theorem k_X7_mix_198 : Cond.constantLong RX7 198 (31) ∈ wsX7_mix := List.mem_of_getElem? (i := 1) rfl
theorem in_X7_mix_X7 : ∀ w ∈ u_ws RX7 TX7 16, w ∈ wsX7_mix := fun w h => (List.mem_cons_of_mem _ (List.mem_append_right _ h))
theorem fl_X7_mix_200 : Cond.fieldLink RX7 200 "TwoFacedTilesModel" "h" "J" ∈ wsX7_mix := List.mem_of_getElem? (i := 2) rfl
def wp_X7_mix (vM : MV) (p1 : Int64) (Q : MV → Prop) : Prop := ∀ f_1 : Int64, f_1 = ((31 * (MV.h vM)) + p1) → Q (MV.s_h vM f_1)
set_option maxHeartbeats 4000000 in
set_option maxRecDepth 100000 in
theorem c_X7_mix (l : Launch) (D : va_G) (t : T3) (aM : MA) (vM : MV) (p1 : Int64) (Q : MV → Prop) (h : wp_X7_mix vM p1 Q) : Ct l yX7_mix wsX7_mix 0 0 0 0 [.ref (MA.o aM), .long p1] D t (mW t aM vM) (fun sz => Qv D (mW t aM vM) (fun (u : MV) => (mW t aM u)) (fun (u : MV) => Q u) sz) := by
  refine Ct.of (Qf := fun _ A => va_Qv (fun (u : MV) => Q u) (B1 D (fun (u : MV) => (mW t aM u)) A) A) cX7_mix 3 none (by decide) rfl (Nat.le_of_ble_eq_true rfl) ?_
  intro p e s m below meth c A ls hAe hin X hw hl
  generalize ([.ref (MA.o aM), .long p1] : List Value).toArray = args at X ⊢
  have hl : lv_has ls 3 [(0, .ref (MA.o aM)), (1, .long p1)] := hl
  have hx := X.1.1
  have hb := X.1.2.1
  refine lv_aload_n hx hb dX7_mix_0 rfl (lv_at hl 0 rfl) ?_
  refine lv_ldc2 (v := 31) hx hb X.1.2.2.2.1 (X.1.2.2.2.2 _ k_X7_mix_198) dX7_mix_1 ?_
  refine lv_aload_n hx hb dX7_mix_4 rfl (lv_at hl 0 rfl) ?_
  refine r_get (ci := 7) (C := RX7) (T := TX7) (N := 16) X hw 0 rfl rfl 15 (by decide) in_X7_mix_X7 fl_X7_mix_200 (v := .long (MV.h vM)) rfl dX7_mix_5 ?_
  refine lv_lmul hx hb dX7_mix_8 ?_
  refine lv_lload_n hx hb dX7_mix_9 rfl (lv_at hl 1 rfl) ?_
  refine lv_ladd hx hb dX7_mix_10 ?_
  refine lv_topl (fun f_1 ef_1 => ?_)
  replace h := h f_1 ef_1
  refine r_put (ci := 7) (C := RX7) (T := TX7) (N := 16) (v := .long f_1) (ws' := (mW t aM (MV.s_h vM f_1))) X hw 0 rfl rfl 15 (by decide) in_X7_mix_X7 tyX7 tyX7_ok nmX7 fl_X7_mix_200 rfl rfl rfl (Nat.le_of_ble_eq_true rfl) rfl dX7_mix_11 (fun H locs hw => ?_)
  exact e_v (w1 := (fun (u : MV) => (mW t aM u))) X ((MV.s_h vM f_1)) hw h dX7_mix_14
/-! X7_mixCell -/
def bd_X7_mixCell_2 (Q : MV → Prop) (P : MV → Int32 → Int32 → Prop) (K24 : MV → Int32 → Prop) (vM : MV) (x1 : Int32) (x2 : Int32) : Prop := (4 ≤ x2 → K24 vM x1) ∧ (¬ 4 ≤ x2 → wp_X7_cellNow vM x1 x2 (fun (r_2 : Int32) (vM_1 : MV) => wp_X7_mix vM_1 (Int32.toInt64 r_2) (fun (vM_3 : MV) => ∀ x2_4 : Int32, x2_4 = x2 + 1 → P vM_3 x1 x2_4)))
def wp_X7_mixCell_2 (Q : MV → Prop) (K24 : MV → Int32 → Prop) (vM : MV) (x1 : Int32) (x2 : Int32) : Prop := ∀ P : MV → Int32 → Int32 → Prop, (∀ (vM : MV) (x1 : Int32) (x2 : Int32), bd_X7_mixCell_2 Q P K24 vM x1 x2 → P vM x1 x2) → P vM x1 x2
set_option maxHeartbeats 4000000 in
set_option maxRecDepth 100000 in
theorem kb_X7_mixCell_2 {p : Program} {l : Launch} {e : Env} {s : State} {m : MethodId} {below : List Frame} {meth : Method} {c : Code} {args : Array Value} {D : va_G} {t : T3} {A : Nat → Prop} (X : Cx p s m meth c args cX7_mixCell 3 none RX7 wsX7_mixCell D t A) (aM : MA) {Q : MV → Prop} {P : MV → Int32 → Int32 → Prop} {K24 : MV → Int32 → Prop} (hP : ∀ (vM : MV) (x1 : Int32) (x2 : Int32) (H : Heap) (locs : List Loc) (ls : Array Slot), P vM x1 x2 → Wd D A s.heap (mW t aM vM) H locs → lv_has ls 3 [(0, .ref (MA.o aM)), (1, .int x1), (2, .int x2)] → W p l e ({ frames := 8, cells := 0, slots := 0, locals := 191 } : Room) s m args below meth c H locs 0 0 (Ev below args s A D (fun (u : MV) => (mW t aM u)) (fun (u : MV) => Q u) 0 0) (F0 m 2 ls [])) (hK24 : ∀ (vM : MV) (x1 : Int32) (H : Heap) (locs : List Loc) (ls : Array Slot), K24 vM x1 → Wd D A s.heap (mW t aM vM) H locs → lv_has ls 3 [(0, .ref (MA.o aM)), (1, .int x1)] → W p l e ({ frames := 8, cells := 0, slots := 0, locals := 191 } : Room) s m args below meth c H locs 0 0 (Ev below args s A D (fun (u : MV) => (mW t aM u)) (fun (u : MV) => Q u) 0 0) (F0 m 24 ls [])) : ∀ (vM : MV) (x1 : Int32) (x2 : Int32) (H : Heap) (locs : List Loc) (ls : Array Slot), bd_X7_mixCell_2 Q P K24 vM x1 x2 → Wd D A s.heap (mW t aM vM) H locs → lv_has ls 3 [(0, .ref (MA.o aM)), (1, .int x1), (2, .int x2)] → W p l e ({ frames := 8, cells := 0, slots := 0, locals := 191 } : Room) s m args below meth c H locs 0 0 (Ev below args s A D (fun (u : MV) => (mW t aM u)) (fun (u : MV) => Q u) 0 0) (F0 m 2 ls []) := by
  intro vM x1 x2 H locs ls h hw hl
  have hx := X.1.1
  have hb := X.1.2.1
  refine lv_iload_n hx hb dX7_mixCell_2 rfl (lv_at hl 2 rfl) ?_
  refine lv_iconst (v := 4) hx hb dX7_mixCell_3 (by decide) ?_
  refine lv_icmp_ge (tgt := 24) hx hb dX7_mixCell_4 (by decide) (fun c_5 => ?_) (fun c_5 => ?_)
  · replace h := h.1 c_5
    exact hK24 _ _ _ _ _ h hw (lv_sub hl [0, 1] rfl)
  replace h := h.2 c_5
  refine lv_aload_n hx hb dX7_mixCell_7 rfl (lv_at hl 0 rfl) ?_
  refine lv_aload_n hx hb dX7_mixCell_8 rfl (lv_at hl 0 rfl) ?_
  refine lv_iload_n hx hb dX7_mixCell_9 rfl (lv_at hl 1 rfl) ?_
  refine lv_iload_n hx hb dX7_mixCell_10 rfl (lv_at hl 2 rfl) ?_
  refine r_ci X hw pm_0 (wn := fun (u : MV) => (mW t aM u)) (fun u => pm_0.symm) (r_runV X hw (c_X7_cellNow l D t aM vM x1 x2 _ h) pm_0 (cwV 2 X.1.2.2.2.2 gX7_mixCell_X7_cellNow rfl rfl rfl (by decide +kernel) ⟨Nat.le_of_ble_eq_true rfl, Nat.le_of_ble_eq_true rfl⟩) (ci := 7) rfl rfl rfl rfl hl rfl (Nat.le_of_ble_eq_true rfl) dX7_mixCell_11 ⟨Nat.le_of_ble_eq_true rfl, Nat.le_of_ble_eq_true rfl⟩) (fun r_2 u H locs h hw => ?_)
  obtain ⟨vM_1, rfl⟩ : ∃ z, z = u := ⟨_, rfl⟩
  refine lv_i2l (v := Int32.toInt64 r_2) hx hb dX7_mixCell_14 rfl ?_
  refine r_cv X hw pm_0 (wn := fun (u : MV) => (mW t aM u)) (fun u => pm_0.symm) (r_runV X hw (c_X7_mix l D t aM vM_1 (Int32.toInt64 r_2) _ h) pm_0 (cwV 1 X.1.2.2.2.2 gX7_mixCell_X7_mix rfl rfl rfl (by decide +kernel) ⟨Nat.le_of_ble_eq_true rfl, Nat.le_of_ble_eq_true rfl⟩) (ci := 7) rfl rfl rfl rfl hl rfl (Nat.le_of_ble_eq_true rfl) dX7_mixCell_15 ⟨Nat.le_of_ble_eq_true rfl, Nat.le_of_ble_eq_true rfl⟩) (fun u H locs h hw => ?_)
  obtain ⟨vM_3, rfl⟩ : ∃ z, z = u := ⟨_, rfl⟩
  obtain ⟨x2_4, ex2_4⟩ : ∃ z : Int32, z = x2 + 1 := ⟨_, rfl⟩
  replace h := h x2_4 ex2_4
  refine lv_iinc (v := x2_4) (lv' := [(2, .int x2_4), (0, .ref (MA.o aM)), (1, .int x1)]) hx hb dX7_mixCell_18 hl (k := 2) rfl (by rw [ex2_4]; rfl) (by decide) rfl (fun ls hl => ?_)
  refine lv_goto (tgt := 2) hx hb dX7_mixCell_21 (by decide) ?_
  exact hP _ _ _ _ _ _ h hw (lv_sub hl [1, 2, 0] rfl)
set_option maxHeartbeats 4000000 in
set_option maxRecDepth 100000 in
theorem k_X7_mixCell_2 {p : Program} {l : Launch} {e : Env} {s : State} {m : MethodId} {below : List Frame} {meth : Method} {c : Code} {args : Array Value} {D : va_G} {t : T3} {A : Nat → Prop} (X : Cx p s m meth c args cX7_mixCell 3 none RX7 wsX7_mixCell D t A) (aM : MA) {Q : MV → Prop} {K24 : MV → Int32 → Prop} (hK24 : ∀ (vM : MV) (x1 : Int32) (H : Heap) (locs : List Loc) (ls : Array Slot), K24 vM x1 → Wd D A s.heap (mW t aM vM) H locs → lv_has ls 3 [(0, .ref (MA.o aM)), (1, .int x1)] → W p l e ({ frames := 8, cells := 0, slots := 0, locals := 191 } : Room) s m args below meth c H locs 0 0 (Ev below args s A D (fun (u : MV) => (mW t aM u)) (fun (u : MV) => Q u) 0 0) (F0 m 24 ls [])) : ∀ (vM : MV) (x1 : Int32) (x2 : Int32) (H : Heap) (locs : List Loc) (ls : Array Slot), wp_X7_mixCell_2 Q K24 vM x1 x2 → Wd D A s.heap (mW t aM vM) H locs → lv_has ls 3 [(0, .ref (MA.o aM)), (1, .int x1), (2, .int x2)] → W p l e ({ frames := 8, cells := 0, slots := 0, locals := 191 } : Room) s m args below meth c H locs 0 0 (Ev below args s A D (fun (u : MV) => (mW t aM u)) (fun (u : MV) => Q u) 0 0) (F0 m 2 ls []) := by
  intro vM x1 x2 H locs ls h hw hl
  have hx := X.1.1
  have hb := X.1.2.1
  refine h (fun (vM : MV) (x1 : Int32) (x2 : Int32) => ∀ (H : Heap) (locs : List Loc) (ls : Array Slot), Wd D A s.heap (mW t aM vM) H locs → lv_has ls 3 [(0, .ref (MA.o aM)), (1, .int x1), (2, .int x2)] → W p l e ({ frames := 8, cells := 0, slots := 0, locals := 191 } : Room) s m args below meth c H locs 0 0 (Ev below args s A D (fun (u : MV) => (mW t aM u)) (fun (u : MV) => Q u) 0 0) (F0 m 2 ls [])) (fun vM x1 x2 h H locs ls hw hl => ?_) H locs ls hw hl
  exact kb_X7_mixCell_2 X aM (fun vM x1 x2 H locs ls q hw hl => q H locs ls hw hl) hK24 vM x1 x2 _ _ _ h hw hl
def wp_X7_mixCell_48 (P : MV → Int32 → Int32 → Prop) (Q : MV → Prop) (vM : MV) (x1 : Int32) (x2 : Int32) (t2 : Int32) (t3 : Int32) (t4 : Int32) : Prop := wp_X7_colorNow vM t2 t3 t4 (fun (r_9 : Int32) (vM_8 : MV) => wp_X7_mix vM_8 (Int32.toInt64 r_9) (fun (vM_10 : MV) => ∀ x2_11 : Int32, x2_11 = x2 + 1 → P vM_10 x1 x2_11))
set_option maxHeartbeats 4000000 in
set_option maxRecDepth 100000 in
theorem k_X7_mixCell_48 {p : Program} {l : Launch} {e : Env} {s : State} {m : MethodId} {below : List Frame} {meth : Method} {c : Code} {args : Array Value} {D : va_G} {t : T3} {A : Nat → Prop} (X : Cx p s m meth c args cX7_mixCell 3 none RX7 wsX7_mixCell D t A) (aM : MA) {P : MV → Int32 → Int32 → Prop} {Q : MV → Prop} (hP : ∀ (vM : MV) (x1 : Int32) (x2 : Int32) (H : Heap) (locs : List Loc) (ls : Array Slot), P vM x1 x2 → Wd D A s.heap (mW t aM vM) H locs → lv_has ls 3 [(0, .ref (MA.o aM)), (1, .int x1), (2, .int x2)] → W p l e ({ frames := 8, cells := 0, slots := 0, locals := 191 } : Room) s m args below meth c H locs 0 0 (Ev below args s A D (fun (u : MV) => (mW t aM u)) (fun (u : MV) => Q u) 0 0) (F0 m 26 ls [])) : ∀ (vM : MV) (x1 : Int32) (x2 : Int32) (t2 : Int32) (t3 : Int32) (t4 : Int32) (H : Heap) (locs : List Loc) (ls : Array Slot), wp_X7_mixCell_48 P Q vM x1 x2 t2 t3 t4 → Wd D A s.heap (mW t aM vM) H locs → lv_has ls 3 [(0, .ref (MA.o aM)), (1, .int x1), (2, .int x2)] → W p l e ({ frames := 8, cells := 0, slots := 0, locals := 191 } : Room) s m args below meth c H locs 0 0 (Ev below args s A D (fun (u : MV) => (mW t aM u)) (fun (u : MV) => Q u) 0 0) (F0 m 48 ls [.int t4, .int t3, .int t2, .ref (MA.o aM), .ref (MA.o aM)]) := by
  intro vM x1 x2 t2 t3 t4 H locs ls h hw hl
  have hx := X.1.1
  have hb := X.1.2.1
  refine r_ci X hw pm_0 (wn := fun (u : MV) => (mW t aM u)) (fun u => pm_0.symm) (r_runV X hw (c_X7_colorNow l D t aM vM t2 t3 t4 _ h) pm_0 (cwV 3 X.1.2.2.2.2 gX7_mixCell_X7_colorNow rfl rfl rfl (by decide +kernel) ⟨Nat.le_of_ble_eq_true rfl, Nat.le_of_ble_eq_true rfl⟩) (ci := 7) rfl rfl rfl rfl hl rfl (Nat.le_of_ble_eq_true rfl) dX7_mixCell_48 ⟨Nat.le_of_ble_eq_true rfl, Nat.le_of_ble_eq_true rfl⟩) (fun r_9 u H locs h hw => ?_)
  obtain ⟨vM_8, rfl⟩ : ∃ z, z = u := ⟨_, rfl⟩
  refine lv_i2l (v := Int32.toInt64 r_9) hx hb dX7_mixCell_51 rfl ?_
  refine r_cv X hw pm_0 (wn := fun (u : MV) => (mW t aM u)) (fun u => pm_0.symm) (r_runV X hw (c_X7_mix l D t aM vM_8 (Int32.toInt64 r_9) _ h) pm_0 (cwV 1 X.1.2.2.2.2 gX7_mixCell_X7_mix rfl rfl rfl (by decide +kernel) ⟨Nat.le_of_ble_eq_true rfl, Nat.le_of_ble_eq_true rfl⟩) (ci := 7) rfl rfl rfl rfl hl rfl (Nat.le_of_ble_eq_true rfl) dX7_mixCell_52 ⟨Nat.le_of_ble_eq_true rfl, Nat.le_of_ble_eq_true rfl⟩) (fun u H locs h hw => ?_)
  obtain ⟨vM_10, rfl⟩ : ∃ z, z = u := ⟨_, rfl⟩
  obtain ⟨x2_11, ex2_11⟩ : ∃ z : Int32, z = x2 + 1 := ⟨_, rfl⟩
  replace h := h x2_11 ex2_11
  refine lv_iinc (v := x2_11) (lv' := [(2, .int x2_11), (0, .ref (MA.o aM)), (1, .int x1)]) hx hb dX7_mixCell_55 hl (k := 2) rfl (by rw [ex2_11]; rfl) (by decide) rfl (fun ls hl => ?_)
  refine lv_goto (tgt := 26) hx hb dX7_mixCell_58 (by decide) ?_
  exact hP _ _ _ _ _ _ h hw (lv_sub hl [1, 2, 0] rfl)
def bd_X7_mixCell_26 (Q : MV → Prop) (P : MV → Int32 → Int32 → Prop) (vM : MV) (x1 : Int32) (x2 : Int32) : Prop := (8 ≤ x2 → Q vM) ∧ (¬ 8 ≤ x2 → (x2 ≤ 3 → wp_X7_mixCell_48  P Q vM x1 x2 x1 (jrem x2 4) 0) ∧ (¬ x2 ≤ 3 → wp_X7_mixCell_48  P Q vM x1 x2 x1 (jrem x2 4) 1))
def wp_X7_mixCell_26 (Q : MV → Prop)  (vM : MV) (x1 : Int32) (x2 : Int32) : Prop := ∀ P : MV → Int32 → Int32 → Prop, (∀ (vM : MV) (x1 : Int32) (x2 : Int32), bd_X7_mixCell_26 Q P  vM x1 x2 → P vM x1 x2) → P vM x1 x2
set_option maxHeartbeats 4000000 in
set_option maxRecDepth 100000 in
theorem kb_X7_mixCell_26 {p : Program} {l : Launch} {e : Env} {s : State} {m : MethodId} {below : List Frame} {meth : Method} {c : Code} {args : Array Value} {D : va_G} {t : T3} {A : Nat → Prop} (X : Cx p s m meth c args cX7_mixCell 3 none RX7 wsX7_mixCell D t A) (aM : MA) {Q : MV → Prop} {P : MV → Int32 → Int32 → Prop} (hP : ∀ (vM : MV) (x1 : Int32) (x2 : Int32) (H : Heap) (locs : List Loc) (ls : Array Slot), P vM x1 x2 → Wd D A s.heap (mW t aM vM) H locs → lv_has ls 3 [(0, .ref (MA.o aM)), (1, .int x1), (2, .int x2)] → W p l e ({ frames := 8, cells := 0, slots := 0, locals := 191 } : Room) s m args below meth c H locs 0 0 (Ev below args s A D (fun (u : MV) => (mW t aM u)) (fun (u : MV) => Q u) 0 0) (F0 m 26 ls [])) : ∀ (vM : MV) (x1 : Int32) (x2 : Int32) (H : Heap) (locs : List Loc) (ls : Array Slot), bd_X7_mixCell_26 Q P  vM x1 x2 → Wd D A s.heap (mW t aM vM) H locs → lv_has ls 3 [(0, .ref (MA.o aM)), (1, .int x1), (2, .int x2)] → W p l e ({ frames := 8, cells := 0, slots := 0, locals := 191 } : Room) s m args below meth c H locs 0 0 (Ev below args s A D (fun (u : MV) => (mW t aM u)) (fun (u : MV) => Q u) 0 0) (F0 m 26 ls []) := by
  intro vM x1 x2 H locs ls h hw hl
  have hx := X.1.1
  have hb := X.1.2.1
  refine lv_iload_n hx hb dX7_mixCell_26 rfl (lv_at hl 2 rfl) ?_
  refine lv_bipush (v := 8) hx hb dX7_mixCell_27 (by decide) ?_
  refine lv_icmp_ge (tgt := 61) hx hb dX7_mixCell_29 (by decide) (fun c_13 => ?_) (fun c_13 => ?_)
  · replace h := h.1 c_13
    exact e_v (w1 := (fun (u : MV) => (mW t aM u))) X (vM) hw h dX7_mixCell_61
  replace h := h.2 c_13
  refine lv_aload_n hx hb dX7_mixCell_32 rfl (lv_at hl 0 rfl) ?_
  refine lv_aload_n hx hb dX7_mixCell_33 rfl (lv_at hl 0 rfl) ?_
  refine lv_iload_n hx hb dX7_mixCell_34 rfl (lv_at hl 1 rfl) ?_
  refine lv_iload_n hx hb dX7_mixCell_35 rfl (lv_at hl 2 rfl) ?_
  refine lv_iconst (v := 4) hx hb dX7_mixCell_36 (by decide) ?_
  refine r_irem hx hb dX7_mixCell_37 (by decide) ?_
  refine lv_iload_n hx hb dX7_mixCell_38 rfl (lv_at hl 2 rfl) ?_
  refine lv_iconst (v := 3) hx hb dX7_mixCell_39 (by decide) ?_
  refine lv_icmp_le (tgt := 47) hx hb dX7_mixCell_40 (by decide) (fun c_12 => ?_) (fun c_12 => ?_)
  · replace h := h.1 c_12
    refine lv_iconst (v := 0) hx hb dX7_mixCell_47 (by decide) ?_
    exact k_X7_mixCell_48 X aM hP _ _ _ _ _ _ _ _ _ h hw hl
  replace h := h.2 c_12
  refine lv_iconst (v := 1) hx hb dX7_mixCell_43 (by decide) ?_
  refine lv_goto (tgt := 48) hx hb dX7_mixCell_44 (by decide) ?_
  exact k_X7_mixCell_48 X aM hP _ _ _ _ _ _ _ _ _ h hw hl
set_option maxHeartbeats 4000000 in
set_option maxRecDepth 100000 in
theorem k_X7_mixCell_26 {p : Program} {l : Launch} {e : Env} {s : State} {m : MethodId} {below : List Frame} {meth : Method} {c : Code} {args : Array Value} {D : va_G} {t : T3} {A : Nat → Prop} (X : Cx p s m meth c args cX7_mixCell 3 none RX7 wsX7_mixCell D t A) (aM : MA) {Q : MV → Prop}   : ∀ (vM : MV) (x1 : Int32) (x2 : Int32) (H : Heap) (locs : List Loc) (ls : Array Slot), wp_X7_mixCell_26 Q  vM x1 x2 → Wd D A s.heap (mW t aM vM) H locs → lv_has ls 3 [(0, .ref (MA.o aM)), (1, .int x1), (2, .int x2)] → W p l e ({ frames := 8, cells := 0, slots := 0, locals := 191 } : Room) s m args below meth c H locs 0 0 (Ev below args s A D (fun (u : MV) => (mW t aM u)) (fun (u : MV) => Q u) 0 0) (F0 m 26 ls []) := by
  intro vM x1 x2 H locs ls h hw hl
  have hx := X.1.1
  have hb := X.1.2.1
  refine h (fun (vM : MV) (x1 : Int32) (x2 : Int32) => ∀ (H : Heap) (locs : List Loc) (ls : Array Slot), Wd D A s.heap (mW t aM vM) H locs → lv_has ls 3 [(0, .ref (MA.o aM)), (1, .int x1), (2, .int x2)] → W p l e ({ frames := 8, cells := 0, slots := 0, locals := 191 } : Room) s m args below meth c H locs 0 0 (Ev below args s A D (fun (u : MV) => (mW t aM u)) (fun (u : MV) => Q u) 0 0) (F0 m 26 ls [])) (fun vM x1 x2 h H locs ls hw hl => ?_) H locs ls hw hl
  exact kb_X7_mixCell_26 X aM (fun vM x1 x2 H locs ls q hw hl => q H locs ls hw hl)  vM x1 x2 _ _ _ h hw hl
def wp_X7_mixCell (vM : MV) (p1 : Int32) (Q : MV → Prop) : Prop := wp_X7_mixCell_2 Q (fun (vM_6 : MV) (x1_7 : Int32) => wp_X7_mixCell_26 Q  vM_6 x1_7 0) vM p1 0
set_option maxHeartbeats 4000000 in
set_option maxRecDepth 100000 in
theorem c_X7_mixCell (l : Launch) (D : va_G) (t : T3) (aM : MA) (vM : MV) (p1 : Int32) (Q : MV → Prop) (h : wp_X7_mixCell vM p1 Q) : Ct l yX7_mixCell wsX7_mixCell 8 191 0 0 [.ref (MA.o aM), .int p1] D t (mW t aM vM) (fun sz => Qv D (mW t aM vM) (fun (u : MV) => (mW t aM u)) (fun (u : MV) => Q u) sz) := by
  refine Ct.of (Qf := fun _ A => va_Qv (fun (u : MV) => Q u) (B1 D (fun (u : MV) => (mW t aM u)) A) A) cX7_mixCell 3 none (by decide) rfl (Nat.le_of_ble_eq_true rfl) ?_
  intro p e s m below meth c A ls hAe hin X hw hl
  generalize ([.ref (MA.o aM), .int p1] : List Value).toArray = args at X ⊢
  have hl : lv_has ls 3 [(0, .ref (MA.o aM)), (1, .int p1)] := hl
  have hx := X.1.1
  have hb := X.1.2.1
  refine lv_iconst (v := 0) hx hb dX7_mixCell_0 (by decide) ?_
  refine lv_istore_n (lv' := [(2, .int 0), (0, .ref (MA.o aM)), (1, .int p1)]) hx hb dX7_mixCell_1 rfl hl (by decide) rfl (fun ls hl => ?_)
  refine k_X7_mixCell_2 X aM (fun vM_6 x1_7 H locs ls h hw hl => ?_) _ _ _ _ _ _ h hw (lv_sub hl [1, 2, 0] rfl)
  refine lv_iconst (v := 0) hx hb dX7_mixCell_24 (by decide) ?_
  refine lv_istore_n (lv' := [(2, .int 0), (0, .ref (MA.o aM)), (1, .int x1_7)]) hx hb dX7_mixCell_25 rfl hl (by decide) rfl (fun ls hl => ?_)
  refine k_X7_mixCell_26 X aM  _ _ _ _ _ _ h hw (lv_sub hl [1, 2, 0] rfl)
/-! X7_digest -/
theorem in_X7_digest_X7 : ∀ w ∈ u_ws RX7 TX7 16, w ∈ wsX7_digest := fun w h => (List.mem_cons_of_mem _ (List.mem_append_right _ h))
theorem fl_X7_digest_34 : Cond.fieldLink RX7 34 "TwoFacedTilesModel" "thrown" "I" ∈ wsX7_digest := List.mem_of_getElem? (i := 1) rfl
theorem k_X7_digest_208 : Cond.constantLong RX7 208 (2137) ∈ wsX7_digest := List.mem_of_getElem? (i := 2) rfl
theorem fl_X7_digest_200 : Cond.fieldLink RX7 200 "TwoFacedTilesModel" "h" "J" ∈ wsX7_digest := List.mem_of_getElem? (i := 3) rfl
theorem fl_X7_digest_7 : Cond.fieldLink RX7 7 "TwoFacedTilesModel" "z" "[I" ∈ wsX7_digest := List.mem_of_getElem? (i := 4) rfl
theorem fl_X7_digest_141 : Cond.fieldLink RX7 141 "TwoFacedTilesModel" "length" "I" ∈ wsX7_digest := List.mem_of_getElem? (i := 5) rfl
theorem fl_X7_digest_16 : Cond.fieldLink RX7 16 "TwoFacedTilesModel" "text" "[I" ∈ wsX7_digest := List.mem_of_getElem? (i := 6) rfl
def bd_X7_digest_14 (Q : Int64 → MV → Prop) (P : MV → Int32 → Prop) (K36 : MV → Prop) (vM : MV) (x1 : Int32) : Prop := (10 ≤ x1 → K36 vM) ∧ (¬ 10 ≤ x1 → wp_X7_counted vM x1 (fun (r_2 : Int32) (vM_1 : MV) => wp_X7_mix vM_1 (Int32.toInt64 r_2) (fun (vM_3 : MV) => ∀ x1_4 : Int32, x1_4 = x1 + 1 → P vM_3 x1_4)))
def wp_X7_digest_14 (Q : Int64 → MV → Prop) (K36 : MV → Prop) (vM : MV) (x1 : Int32) : Prop := ∀ P : MV → Int32 → Prop, (∀ (vM : MV) (x1 : Int32), bd_X7_digest_14 Q P K36 vM x1 → P vM x1) → P vM x1
set_option maxHeartbeats 4000000 in
set_option maxRecDepth 100000 in
theorem kb_X7_digest_14 {p : Program} {l : Launch} {e : Env} {s : State} {m : MethodId} {below : List Frame} {meth : Method} {c : Code} {args : Array Value} {D : va_G} {t : T3} {A : Nat → Prop} (X : Cx p s m meth c args cX7_digest 2 (some .long) RX7 wsX7_digest D t A) (aM : MA) {Q : Int64 → MV → Prop} {P : MV → Int32 → Prop} {K36 : MV → Prop} (hP : ∀ (vM : MV) (x1 : Int32) (H : Heap) (locs : List Loc) (ls : Array Slot), P vM x1 → Wd D A s.heap (mW t aM vM) H locs → lv_has ls 2 [(0, .ref (MA.o aM)), (1, .int x1)] → W p l e ({ frames := 9, cells := 0, slots := 0, locals := 217 } : Room) s m args below meth c H locs 0 0 (El below args s A D (fun (u : MV) => (mW t aM u)) (fun (r : Int64) (u : MV) => Q r u) 0 0) (F0 m 14 ls [])) (hK36 : ∀ (vM : MV) (H : Heap) (locs : List Loc) (ls : Array Slot), K36 vM → Wd D A s.heap (mW t aM vM) H locs → lv_has ls 2 [(0, .ref (MA.o aM))] → W p l e ({ frames := 9, cells := 0, slots := 0, locals := 217 } : Room) s m args below meth c H locs 0 0 (El below args s A D (fun (u : MV) => (mW t aM u)) (fun (r : Int64) (u : MV) => Q r u) 0 0) (F0 m 36 ls [])) : ∀ (vM : MV) (x1 : Int32) (H : Heap) (locs : List Loc) (ls : Array Slot), bd_X7_digest_14 Q P K36 vM x1 → Wd D A s.heap (mW t aM vM) H locs → lv_has ls 2 [(0, .ref (MA.o aM)), (1, .int x1)] → W p l e ({ frames := 9, cells := 0, slots := 0, locals := 217 } : Room) s m args below meth c H locs 0 0 (El below args s A D (fun (u : MV) => (mW t aM u)) (fun (r : Int64) (u : MV) => Q r u) 0 0) (F0 m 14 ls []) := by
  intro vM x1 H locs ls h hw hl
  have hx := X.1.1
  have hb := X.1.2.1
  refine lv_iload_n hx hb dX7_digest_14 rfl (lv_at hl 1 rfl) ?_
  refine lv_bipush (v := 10) hx hb dX7_digest_15 (by decide) ?_
  refine lv_icmp_ge (tgt := 36) hx hb dX7_digest_17 (by decide) (fun c_5 => ?_) (fun c_5 => ?_)
  · replace h := h.1 c_5
    exact hK36 _ _ _ _ h hw (lv_sub hl [0] rfl)
  replace h := h.2 c_5
  refine lv_aload_n hx hb dX7_digest_20 rfl (lv_at hl 0 rfl) ?_
  refine lv_aload_n hx hb dX7_digest_21 rfl (lv_at hl 0 rfl) ?_
  refine lv_iload_n hx hb dX7_digest_22 rfl (lv_at hl 1 rfl) ?_
  refine r_ci X hw pm_0 (wn := fun (u : MV) => (mW t aM u)) (fun u => pm_0.symm) (r_runV X hw (c_X7_counted l D t aM vM x1 _ h) pm_0 (cwV 1 X.1.2.2.2.2 gX7_digest_X7_counted rfl rfl rfl (by decide +kernel) ⟨Nat.le_of_ble_eq_true rfl, Nat.le_of_ble_eq_true rfl⟩) (ci := 7) rfl rfl rfl rfl hl rfl (Nat.le_of_ble_eq_true rfl) dX7_digest_23 ⟨Nat.le_of_ble_eq_true rfl, Nat.le_of_ble_eq_true rfl⟩) (fun r_2 u H locs h hw => ?_)
  obtain ⟨vM_1, rfl⟩ : ∃ z, z = u := ⟨_, rfl⟩
  refine lv_i2l (v := Int32.toInt64 r_2) hx hb dX7_digest_26 rfl ?_
  refine r_cv X hw pm_0 (wn := fun (u : MV) => (mW t aM u)) (fun u => pm_0.symm) (r_runV X hw (c_X7_mix l D t aM vM_1 (Int32.toInt64 r_2) _ h) pm_0 (cwV 1 X.1.2.2.2.2 gX7_digest_X7_mix rfl rfl rfl (by decide +kernel) ⟨Nat.le_of_ble_eq_true rfl, Nat.le_of_ble_eq_true rfl⟩) (ci := 7) rfl rfl rfl rfl hl rfl (Nat.le_of_ble_eq_true rfl) dX7_digest_27 ⟨Nat.le_of_ble_eq_true rfl, Nat.le_of_ble_eq_true rfl⟩) (fun u H locs h hw => ?_)
  obtain ⟨vM_3, rfl⟩ : ∃ z, z = u := ⟨_, rfl⟩
  obtain ⟨x1_4, ex1_4⟩ : ∃ z : Int32, z = x1 + 1 := ⟨_, rfl⟩
  replace h := h x1_4 ex1_4
  refine lv_iinc (v := x1_4) (lv' := [(1, .int x1_4), (0, .ref (MA.o aM))]) hx hb dX7_digest_30 hl (k := 1) rfl (by rw [ex1_4]; rfl) (by decide) rfl (fun ls hl => ?_)
  refine lv_goto (tgt := 14) hx hb dX7_digest_33 (by decide) ?_
  exact hP _ _ _ _ _ h hw (lv_sub hl [1, 0] rfl)
set_option maxHeartbeats 4000000 in
set_option maxRecDepth 100000 in
theorem k_X7_digest_14 {p : Program} {l : Launch} {e : Env} {s : State} {m : MethodId} {below : List Frame} {meth : Method} {c : Code} {args : Array Value} {D : va_G} {t : T3} {A : Nat → Prop} (X : Cx p s m meth c args cX7_digest 2 (some .long) RX7 wsX7_digest D t A) (aM : MA) {Q : Int64 → MV → Prop} {K36 : MV → Prop} (hK36 : ∀ (vM : MV) (H : Heap) (locs : List Loc) (ls : Array Slot), K36 vM → Wd D A s.heap (mW t aM vM) H locs → lv_has ls 2 [(0, .ref (MA.o aM))] → W p l e ({ frames := 9, cells := 0, slots := 0, locals := 217 } : Room) s m args below meth c H locs 0 0 (El below args s A D (fun (u : MV) => (mW t aM u)) (fun (r : Int64) (u : MV) => Q r u) 0 0) (F0 m 36 ls [])) : ∀ (vM : MV) (x1 : Int32) (H : Heap) (locs : List Loc) (ls : Array Slot), wp_X7_digest_14 Q K36 vM x1 → Wd D A s.heap (mW t aM vM) H locs → lv_has ls 2 [(0, .ref (MA.o aM)), (1, .int x1)] → W p l e ({ frames := 9, cells := 0, slots := 0, locals := 217 } : Room) s m args below meth c H locs 0 0 (El below args s A D (fun (u : MV) => (mW t aM u)) (fun (r : Int64) (u : MV) => Q r u) 0 0) (F0 m 14 ls []) := by
  intro vM x1 H locs ls h hw hl
  have hx := X.1.1
  have hb := X.1.2.1
  refine h (fun (vM : MV) (x1 : Int32) => ∀ (H : Heap) (locs : List Loc) (ls : Array Slot), Wd D A s.heap (mW t aM vM) H locs → lv_has ls 2 [(0, .ref (MA.o aM)), (1, .int x1)] → W p l e ({ frames := 9, cells := 0, slots := 0, locals := 217 } : Room) s m args below meth c H locs 0 0 (El below args s A D (fun (u : MV) => (mW t aM u)) (fun (r : Int64) (u : MV) => Q r u) 0 0) (F0 m 14 ls [])) (fun vM x1 h H locs ls hw hl => ?_) H locs ls hw hl
  exact kb_X7_digest_14 X aM (fun vM x1 H locs ls q hw hl => q H locs ls hw hl) hK36 vM x1 _ _ _ h hw hl
def bd_X7_digest_38 (Q : Int64 → MV → Prop) (P : MV → Int32 → Prop) (K57 : MV → Prop) (vM : MV) (x1 : Int32) : Prop := wp_X7_cells vM  (fun (r_8 : Int32) (vM_7 : MV) => (r_8 ≤ x1 → K57 vM_7) ∧ (¬ r_8 ≤ x1 → wp_X7_mixCell vM_7 x1 (fun (vM_9 : MV) => ∀ x1_10 : Int32, x1_10 = x1 + 1 → P vM_9 x1_10)))
def wp_X7_digest_38 (Q : Int64 → MV → Prop) (K57 : MV → Prop) (vM : MV) (x1 : Int32) : Prop := ∀ P : MV → Int32 → Prop, (∀ (vM : MV) (x1 : Int32), bd_X7_digest_38 Q P K57 vM x1 → P vM x1) → P vM x1
set_option maxHeartbeats 4000000 in
set_option maxRecDepth 100000 in
theorem kb_X7_digest_38 {p : Program} {l : Launch} {e : Env} {s : State} {m : MethodId} {below : List Frame} {meth : Method} {c : Code} {args : Array Value} {D : va_G} {t : T3} {A : Nat → Prop} (X : Cx p s m meth c args cX7_digest 2 (some .long) RX7 wsX7_digest D t A) (aM : MA) {Q : Int64 → MV → Prop} {P : MV → Int32 → Prop} {K57 : MV → Prop} (hP : ∀ (vM : MV) (x1 : Int32) (H : Heap) (locs : List Loc) (ls : Array Slot), P vM x1 → Wd D A s.heap (mW t aM vM) H locs → lv_has ls 2 [(0, .ref (MA.o aM)), (1, .int x1)] → W p l e ({ frames := 9, cells := 0, slots := 0, locals := 217 } : Room) s m args below meth c H locs 0 0 (El below args s A D (fun (u : MV) => (mW t aM u)) (fun (r : Int64) (u : MV) => Q r u) 0 0) (F0 m 38 ls [])) (hK57 : ∀ (vM : MV) (H : Heap) (locs : List Loc) (ls : Array Slot), K57 vM → Wd D A s.heap (mW t aM vM) H locs → lv_has ls 2 [(0, .ref (MA.o aM))] → W p l e ({ frames := 9, cells := 0, slots := 0, locals := 217 } : Room) s m args below meth c H locs 0 0 (El below args s A D (fun (u : MV) => (mW t aM u)) (fun (r : Int64) (u : MV) => Q r u) 0 0) (F0 m 57 ls [])) : ∀ (vM : MV) (x1 : Int32) (H : Heap) (locs : List Loc) (ls : Array Slot), bd_X7_digest_38 Q P K57 vM x1 → Wd D A s.heap (mW t aM vM) H locs → lv_has ls 2 [(0, .ref (MA.o aM)), (1, .int x1)] → W p l e ({ frames := 9, cells := 0, slots := 0, locals := 217 } : Room) s m args below meth c H locs 0 0 (El below args s A D (fun (u : MV) => (mW t aM u)) (fun (r : Int64) (u : MV) => Q r u) 0 0) (F0 m 38 ls []) := by
  intro vM x1 H locs ls h hw hl
  have hx := X.1.1
  have hb := X.1.2.1
  refine lv_iload_n hx hb dX7_digest_38 rfl (lv_at hl 1 rfl) ?_
  refine lv_aload_n hx hb dX7_digest_39 rfl (lv_at hl 0 rfl) ?_
  refine r_ci X hw pm_0 (wn := fun (u : MV) => (mW t aM u)) (fun u => pm_0.symm) (r_runV X hw (c_X7_cells l D t aM vM _ h) pm_0 (cwV 0 X.1.2.2.2.2 gX7_digest_X7_cells rfl rfl rfl (by decide +kernel) ⟨Nat.le_of_ble_eq_true rfl, Nat.le_of_ble_eq_true rfl⟩) (ci := 7) rfl rfl rfl rfl hl rfl (Nat.le_of_ble_eq_true rfl) dX7_digest_40 ⟨Nat.le_of_ble_eq_true rfl, Nat.le_of_ble_eq_true rfl⟩) (fun r_8 u H locs h hw => ?_)
  obtain ⟨vM_7, rfl⟩ : ∃ z, z = u := ⟨_, rfl⟩
  refine lv_icmp_ge (tgt := 57) hx hb dX7_digest_43 (by decide) (fun c_11 => ?_) (fun c_11 => ?_)
  · replace h := h.1 c_11
    exact hK57 _ _ _ _ h hw (lv_sub hl [0] rfl)
  replace h := h.2 c_11
  refine lv_aload_n hx hb dX7_digest_46 rfl (lv_at hl 0 rfl) ?_
  refine lv_iload_n hx hb dX7_digest_47 rfl (lv_at hl 1 rfl) ?_
  refine r_cv X hw pm_0 (wn := fun (u : MV) => (mW t aM u)) (fun u => pm_0.symm) (r_runV X hw (c_X7_mixCell l D t aM vM_7 x1 _ h) pm_0 (cwV 1 X.1.2.2.2.2 gX7_digest_X7_mixCell rfl rfl rfl (by decide +kernel) ⟨Nat.le_of_ble_eq_true rfl, Nat.le_of_ble_eq_true rfl⟩) (ci := 7) rfl rfl rfl rfl hl rfl (Nat.le_of_ble_eq_true rfl) dX7_digest_48 ⟨Nat.le_of_ble_eq_true rfl, Nat.le_of_ble_eq_true rfl⟩) (fun u H locs h hw => ?_)
  obtain ⟨vM_9, rfl⟩ : ∃ z, z = u := ⟨_, rfl⟩
  obtain ⟨x1_10, ex1_10⟩ : ∃ z : Int32, z = x1 + 1 := ⟨_, rfl⟩
  replace h := h x1_10 ex1_10
  refine lv_iinc (v := x1_10) (lv' := [(1, .int x1_10), (0, .ref (MA.o aM))]) hx hb dX7_digest_51 hl (k := 1) rfl (by rw [ex1_10]; rfl) (by decide) rfl (fun ls hl => ?_)
  refine lv_goto (tgt := 38) hx hb dX7_digest_54 (by decide) ?_
  exact hP _ _ _ _ _ h hw (lv_sub hl [1, 0] rfl)
set_option maxHeartbeats 4000000 in
set_option maxRecDepth 100000 in
theorem k_X7_digest_38 {p : Program} {l : Launch} {e : Env} {s : State} {m : MethodId} {below : List Frame} {meth : Method} {c : Code} {args : Array Value} {D : va_G} {t : T3} {A : Nat → Prop} (X : Cx p s m meth c args cX7_digest 2 (some .long) RX7 wsX7_digest D t A) (aM : MA) {Q : Int64 → MV → Prop} {K57 : MV → Prop} (hK57 : ∀ (vM : MV) (H : Heap) (locs : List Loc) (ls : Array Slot), K57 vM → Wd D A s.heap (mW t aM vM) H locs → lv_has ls 2 [(0, .ref (MA.o aM))] → W p l e ({ frames := 9, cells := 0, slots := 0, locals := 217 } : Room) s m args below meth c H locs 0 0 (El below args s A D (fun (u : MV) => (mW t aM u)) (fun (r : Int64) (u : MV) => Q r u) 0 0) (F0 m 57 ls [])) : ∀ (vM : MV) (x1 : Int32) (H : Heap) (locs : List Loc) (ls : Array Slot), wp_X7_digest_38 Q K57 vM x1 → Wd D A s.heap (mW t aM vM) H locs → lv_has ls 2 [(0, .ref (MA.o aM)), (1, .int x1)] → W p l e ({ frames := 9, cells := 0, slots := 0, locals := 217 } : Room) s m args below meth c H locs 0 0 (El below args s A D (fun (u : MV) => (mW t aM u)) (fun (r : Int64) (u : MV) => Q r u) 0 0) (F0 m 38 ls []) := by
  intro vM x1 H locs ls h hw hl
  have hx := X.1.1
  have hb := X.1.2.1
  refine h (fun (vM : MV) (x1 : Int32) => ∀ (H : Heap) (locs : List Loc) (ls : Array Slot), Wd D A s.heap (mW t aM vM) H locs → lv_has ls 2 [(0, .ref (MA.o aM)), (1, .int x1)] → W p l e ({ frames := 9, cells := 0, slots := 0, locals := 217 } : Room) s m args below meth c H locs 0 0 (El below args s A D (fun (u : MV) => (mW t aM u)) (fun (r : Int64) (u : MV) => Q r u) 0 0) (F0 m 38 ls [])) (fun vM x1 h H locs ls hw hl => ?_) H locs ls hw hl
  exact kb_X7_digest_38 X aM (fun vM x1 H locs ls q hw hl => q H locs ls hw hl) hK57 vM x1 _ _ _ h hw hl
def bd_X7_digest_59 (Q : Int64 → MV → Prop) (P : MV → Int32 → Prop) (K92 : MV → Prop) (vM : MV) (x1 : Int32) : Prop := ((4 * ((MV.z vM) 3)) ≤ x1 → K92 vM) ∧ (¬ (4 * ((MV.z vM) 3)) ≤ x1 → wp_X7_tileNow vM (x1 / 4) (jrem x1 4) (fun (r_14 : Int32) (vM_13 : MV) => wp_X7_mix vM_13 (Int32.toInt64 r_14) (fun (vM_15 : MV) => ∀ x1_16 : Int32, x1_16 = x1 + 1 → P vM_15 x1_16)))
def wp_X7_digest_59 (Q : Int64 → MV → Prop) (K92 : MV → Prop) (vM : MV) (x1 : Int32) : Prop := ∀ P : MV → Int32 → Prop, (∀ (vM : MV) (x1 : Int32), bd_X7_digest_59 Q P K92 vM x1 → P vM x1) → P vM x1
set_option maxHeartbeats 4000000 in
set_option maxRecDepth 100000 in
theorem kb_X7_digest_59 {p : Program} {l : Launch} {e : Env} {s : State} {m : MethodId} {below : List Frame} {meth : Method} {c : Code} {args : Array Value} {D : va_G} {t : T3} {A : Nat → Prop} (X : Cx p s m meth c args cX7_digest 2 (some .long) RX7 wsX7_digest D t A) (aM : MA) {Q : Int64 → MV → Prop} {P : MV → Int32 → Prop} {K92 : MV → Prop} (hP : ∀ (vM : MV) (x1 : Int32) (H : Heap) (locs : List Loc) (ls : Array Slot), P vM x1 → Wd D A s.heap (mW t aM vM) H locs → lv_has ls 2 [(0, .ref (MA.o aM)), (1, .int x1)] → W p l e ({ frames := 9, cells := 0, slots := 0, locals := 217 } : Room) s m args below meth c H locs 0 0 (El below args s A D (fun (u : MV) => (mW t aM u)) (fun (r : Int64) (u : MV) => Q r u) 0 0) (F0 m 59 ls [])) (hK92 : ∀ (vM : MV) (H : Heap) (locs : List Loc) (ls : Array Slot), K92 vM → Wd D A s.heap (mW t aM vM) H locs → lv_has ls 2 [(0, .ref (MA.o aM))] → W p l e ({ frames := 9, cells := 0, slots := 0, locals := 217 } : Room) s m args below meth c H locs 0 0 (El below args s A D (fun (u : MV) => (mW t aM u)) (fun (r : Int64) (u : MV) => Q r u) 0 0) (F0 m 92 ls [])) : ∀ (vM : MV) (x1 : Int32) (H : Heap) (locs : List Loc) (ls : Array Slot), bd_X7_digest_59 Q P K92 vM x1 → Wd D A s.heap (mW t aM vM) H locs → lv_has ls 2 [(0, .ref (MA.o aM)), (1, .int x1)] → W p l e ({ frames := 9, cells := 0, slots := 0, locals := 217 } : Room) s m args below meth c H locs 0 0 (El below args s A D (fun (u : MV) => (mW t aM u)) (fun (r : Int64) (u : MV) => Q r u) 0 0) (F0 m 59 ls []) := by
  intro vM x1 H locs ls h hw hl
  have hx := X.1.1
  have hb := X.1.2.1
  refine lv_iload_n hx hb dX7_digest_59 rfl (lv_at hl 1 rfl) ?_
  refine lv_iconst (v := 4) hx hb dX7_digest_60 (by decide) ?_
  refine lv_aload_n hx hb dX7_digest_61 rfl (lv_at hl 0 rfl) ?_
  refine r_get (ci := 7) (C := RX7) (T := TX7) (N := 16) X hw 0 rfl rfl 1 (by decide) in_X7_digest_X7 fl_X7_digest_7 (v := .ref (MA.z aM)) rfl dX7_digest_62 ?_
  refine lv_iconst (v := 3) hx hb dX7_digest_65 (by decide) ?_
  refine r_iald (v := ((MV.z vM) 3)) X hw 1 rfl (vpl rfl) rfl dX7_digest_66 ?_
  refine lv_imul hx hb dX7_digest_67 ?_
  refine lv_icmp_ge (tgt := 92) hx hb dX7_digest_68 (by decide) (fun c_17 => ?_) (fun c_17 => ?_)
  · replace h := h.1 c_17
    exact hK92 _ _ _ _ h hw (lv_sub hl [0] rfl)
  replace h := h.2 c_17
  refine lv_aload_n hx hb dX7_digest_71 rfl (lv_at hl 0 rfl) ?_
  refine lv_aload_n hx hb dX7_digest_72 rfl (lv_at hl 0 rfl) ?_
  refine lv_iload_n hx hb dX7_digest_73 rfl (lv_at hl 1 rfl) ?_
  refine lv_iconst (v := 4) hx hb dX7_digest_74 (by decide) ?_
  refine lv_idiv hx hb dX7_digest_75 (by decide) ?_
  refine lv_iload_n hx hb dX7_digest_76 rfl (lv_at hl 1 rfl) ?_
  refine lv_iconst (v := 4) hx hb dX7_digest_77 (by decide) ?_
  refine r_irem hx hb dX7_digest_78 (by decide) ?_
  refine r_ci X hw pm_0 (wn := fun (u : MV) => (mW t aM u)) (fun u => pm_0.symm) (r_runV X hw (c_X7_tileNow l D t aM vM (x1 / 4) (jrem x1 4) _ h) pm_0 (cwV 2 X.1.2.2.2.2 gX7_digest_X7_tileNow rfl rfl rfl (by decide +kernel) ⟨Nat.le_of_ble_eq_true rfl, Nat.le_of_ble_eq_true rfl⟩) (ci := 7) rfl rfl rfl rfl hl rfl (Nat.le_of_ble_eq_true rfl) dX7_digest_79 ⟨Nat.le_of_ble_eq_true rfl, Nat.le_of_ble_eq_true rfl⟩) (fun r_14 u H locs h hw => ?_)
  obtain ⟨vM_13, rfl⟩ : ∃ z, z = u := ⟨_, rfl⟩
  refine lv_i2l (v := Int32.toInt64 r_14) hx hb dX7_digest_82 rfl ?_
  refine r_cv X hw pm_0 (wn := fun (u : MV) => (mW t aM u)) (fun u => pm_0.symm) (r_runV X hw (c_X7_mix l D t aM vM_13 (Int32.toInt64 r_14) _ h) pm_0 (cwV 1 X.1.2.2.2.2 gX7_digest_X7_mix rfl rfl rfl (by decide +kernel) ⟨Nat.le_of_ble_eq_true rfl, Nat.le_of_ble_eq_true rfl⟩) (ci := 7) rfl rfl rfl rfl hl rfl (Nat.le_of_ble_eq_true rfl) dX7_digest_83 ⟨Nat.le_of_ble_eq_true rfl, Nat.le_of_ble_eq_true rfl⟩) (fun u H locs h hw => ?_)
  obtain ⟨vM_15, rfl⟩ : ∃ z, z = u := ⟨_, rfl⟩
  obtain ⟨x1_16, ex1_16⟩ : ∃ z : Int32, z = x1 + 1 := ⟨_, rfl⟩
  replace h := h x1_16 ex1_16
  refine lv_iinc (v := x1_16) (lv' := [(1, .int x1_16), (0, .ref (MA.o aM))]) hx hb dX7_digest_86 hl (k := 1) rfl (by rw [ex1_16]; rfl) (by decide) rfl (fun ls hl => ?_)
  refine lv_goto (tgt := 59) hx hb dX7_digest_89 (by decide) ?_
  exact hP _ _ _ _ _ h hw (lv_sub hl [1, 0] rfl)
set_option maxHeartbeats 4000000 in
set_option maxRecDepth 100000 in
theorem k_X7_digest_59 {p : Program} {l : Launch} {e : Env} {s : State} {m : MethodId} {below : List Frame} {meth : Method} {c : Code} {args : Array Value} {D : va_G} {t : T3} {A : Nat → Prop} (X : Cx p s m meth c args cX7_digest 2 (some .long) RX7 wsX7_digest D t A) (aM : MA) {Q : Int64 → MV → Prop} {K92 : MV → Prop} (hK92 : ∀ (vM : MV) (H : Heap) (locs : List Loc) (ls : Array Slot), K92 vM → Wd D A s.heap (mW t aM vM) H locs → lv_has ls 2 [(0, .ref (MA.o aM))] → W p l e ({ frames := 9, cells := 0, slots := 0, locals := 217 } : Room) s m args below meth c H locs 0 0 (El below args s A D (fun (u : MV) => (mW t aM u)) (fun (r : Int64) (u : MV) => Q r u) 0 0) (F0 m 92 ls [])) : ∀ (vM : MV) (x1 : Int32) (H : Heap) (locs : List Loc) (ls : Array Slot), wp_X7_digest_59 Q K92 vM x1 → Wd D A s.heap (mW t aM vM) H locs → lv_has ls 2 [(0, .ref (MA.o aM)), (1, .int x1)] → W p l e ({ frames := 9, cells := 0, slots := 0, locals := 217 } : Room) s m args below meth c H locs 0 0 (El below args s A D (fun (u : MV) => (mW t aM u)) (fun (r : Int64) (u : MV) => Q r u) 0 0) (F0 m 59 ls []) := by
  intro vM x1 H locs ls h hw hl
  have hx := X.1.1
  have hb := X.1.2.1
  refine h (fun (vM : MV) (x1 : Int32) => ∀ (H : Heap) (locs : List Loc) (ls : Array Slot), Wd D A s.heap (mW t aM vM) H locs → lv_has ls 2 [(0, .ref (MA.o aM)), (1, .int x1)] → W p l e ({ frames := 9, cells := 0, slots := 0, locals := 217 } : Room) s m args below meth c H locs 0 0 (El below args s A D (fun (u : MV) => (mW t aM u)) (fun (r : Int64) (u : MV) => Q r u) 0 0) (F0 m 59 ls [])) (fun vM x1 h H locs ls hw hl => ?_) H locs ls hw hl
  exact kb_X7_digest_59 X aM (fun vM x1 H locs ls q hw hl => q H locs ls hw hl) hK92 vM x1 _ _ _ h hw hl
def bd_X7_digest_94 (Q : Int64 → MV → Prop) (P : MV → Int32 → Prop) (K116 : MV → Prop) (vM : MV) (x1 : Int32) : Prop := (3 ≤ x1 → K116 vM) ∧ (¬ 3 ≤ x1 → wp_X7_searched vM 3 x1 (fun (r_20 : Int32) (vM_19 : MV) => wp_X7_mix vM_19 (Int32.toInt64 r_20) (fun (vM_21 : MV) => ∀ x1_22 : Int32, x1_22 = x1 + 1 → P vM_21 x1_22)))
def wp_X7_digest_94 (Q : Int64 → MV → Prop) (K116 : MV → Prop) (vM : MV) (x1 : Int32) : Prop := ∀ P : MV → Int32 → Prop, (∀ (vM : MV) (x1 : Int32), bd_X7_digest_94 Q P K116 vM x1 → P vM x1) → P vM x1
set_option maxHeartbeats 4000000 in
set_option maxRecDepth 100000 in
theorem kb_X7_digest_94 {p : Program} {l : Launch} {e : Env} {s : State} {m : MethodId} {below : List Frame} {meth : Method} {c : Code} {args : Array Value} {D : va_G} {t : T3} {A : Nat → Prop} (X : Cx p s m meth c args cX7_digest 2 (some .long) RX7 wsX7_digest D t A) (aM : MA) {Q : Int64 → MV → Prop} {P : MV → Int32 → Prop} {K116 : MV → Prop} (hP : ∀ (vM : MV) (x1 : Int32) (H : Heap) (locs : List Loc) (ls : Array Slot), P vM x1 → Wd D A s.heap (mW t aM vM) H locs → lv_has ls 2 [(0, .ref (MA.o aM)), (1, .int x1)] → W p l e ({ frames := 9, cells := 0, slots := 0, locals := 217 } : Room) s m args below meth c H locs 0 0 (El below args s A D (fun (u : MV) => (mW t aM u)) (fun (r : Int64) (u : MV) => Q r u) 0 0) (F0 m 94 ls [])) (hK116 : ∀ (vM : MV) (H : Heap) (locs : List Loc) (ls : Array Slot), K116 vM → Wd D A s.heap (mW t aM vM) H locs → lv_has ls 2 [(0, .ref (MA.o aM))] → W p l e ({ frames := 9, cells := 0, slots := 0, locals := 217 } : Room) s m args below meth c H locs 0 0 (El below args s A D (fun (u : MV) => (mW t aM u)) (fun (r : Int64) (u : MV) => Q r u) 0 0) (F0 m 116 ls [])) : ∀ (vM : MV) (x1 : Int32) (H : Heap) (locs : List Loc) (ls : Array Slot), bd_X7_digest_94 Q P K116 vM x1 → Wd D A s.heap (mW t aM vM) H locs → lv_has ls 2 [(0, .ref (MA.o aM)), (1, .int x1)] → W p l e ({ frames := 9, cells := 0, slots := 0, locals := 217 } : Room) s m args below meth c H locs 0 0 (El below args s A D (fun (u : MV) => (mW t aM u)) (fun (r : Int64) (u : MV) => Q r u) 0 0) (F0 m 94 ls []) := by
  intro vM x1 H locs ls h hw hl
  have hx := X.1.1
  have hb := X.1.2.1
  refine lv_iload_n hx hb dX7_digest_94 rfl (lv_at hl 1 rfl) ?_
  refine lv_iconst (v := 3) hx hb dX7_digest_95 (by decide) ?_
  refine lv_icmp_ge (tgt := 116) hx hb dX7_digest_96 (by decide) (fun c_23 => ?_) (fun c_23 => ?_)
  · replace h := h.1 c_23
    exact hK116 _ _ _ _ h hw (lv_sub hl [0] rfl)
  replace h := h.2 c_23
  refine lv_aload_n hx hb dX7_digest_99 rfl (lv_at hl 0 rfl) ?_
  refine lv_aload_n hx hb dX7_digest_100 rfl (lv_at hl 0 rfl) ?_
  refine lv_iconst (v := 3) hx hb dX7_digest_101 (by decide) ?_
  refine lv_iload_n hx hb dX7_digest_102 rfl (lv_at hl 1 rfl) ?_
  refine r_ci X hw pm_0 (wn := fun (u : MV) => (mW t aM u)) (fun u => pm_0.symm) (r_runV X hw (c_X7_searched l D t aM vM 3 x1 _ h) pm_0 (cwV 2 X.1.2.2.2.2 gX7_digest_X7_searched rfl rfl rfl (by decide +kernel) ⟨Nat.le_of_ble_eq_true rfl, Nat.le_of_ble_eq_true rfl⟩) (ci := 7) rfl rfl rfl rfl hl rfl (Nat.le_of_ble_eq_true rfl) dX7_digest_103 ⟨Nat.le_of_ble_eq_true rfl, Nat.le_of_ble_eq_true rfl⟩) (fun r_20 u H locs h hw => ?_)
  obtain ⟨vM_19, rfl⟩ : ∃ z, z = u := ⟨_, rfl⟩
  refine lv_i2l (v := Int32.toInt64 r_20) hx hb dX7_digest_106 rfl ?_
  refine r_cv X hw pm_0 (wn := fun (u : MV) => (mW t aM u)) (fun u => pm_0.symm) (r_runV X hw (c_X7_mix l D t aM vM_19 (Int32.toInt64 r_20) _ h) pm_0 (cwV 1 X.1.2.2.2.2 gX7_digest_X7_mix rfl rfl rfl (by decide +kernel) ⟨Nat.le_of_ble_eq_true rfl, Nat.le_of_ble_eq_true rfl⟩) (ci := 7) rfl rfl rfl rfl hl rfl (Nat.le_of_ble_eq_true rfl) dX7_digest_107 ⟨Nat.le_of_ble_eq_true rfl, Nat.le_of_ble_eq_true rfl⟩) (fun u H locs h hw => ?_)
  obtain ⟨vM_21, rfl⟩ : ∃ z, z = u := ⟨_, rfl⟩
  obtain ⟨x1_22, ex1_22⟩ : ∃ z : Int32, z = x1 + 1 := ⟨_, rfl⟩
  replace h := h x1_22 ex1_22
  refine lv_iinc (v := x1_22) (lv' := [(1, .int x1_22), (0, .ref (MA.o aM))]) hx hb dX7_digest_110 hl (k := 1) rfl (by rw [ex1_22]; rfl) (by decide) rfl (fun ls hl => ?_)
  refine lv_goto (tgt := 94) hx hb dX7_digest_113 (by decide) ?_
  exact hP _ _ _ _ _ h hw (lv_sub hl [1, 0] rfl)
set_option maxHeartbeats 4000000 in
set_option maxRecDepth 100000 in
theorem k_X7_digest_94 {p : Program} {l : Launch} {e : Env} {s : State} {m : MethodId} {below : List Frame} {meth : Method} {c : Code} {args : Array Value} {D : va_G} {t : T3} {A : Nat → Prop} (X : Cx p s m meth c args cX7_digest 2 (some .long) RX7 wsX7_digest D t A) (aM : MA) {Q : Int64 → MV → Prop} {K116 : MV → Prop} (hK116 : ∀ (vM : MV) (H : Heap) (locs : List Loc) (ls : Array Slot), K116 vM → Wd D A s.heap (mW t aM vM) H locs → lv_has ls 2 [(0, .ref (MA.o aM))] → W p l e ({ frames := 9, cells := 0, slots := 0, locals := 217 } : Room) s m args below meth c H locs 0 0 (El below args s A D (fun (u : MV) => (mW t aM u)) (fun (r : Int64) (u : MV) => Q r u) 0 0) (F0 m 116 ls [])) : ∀ (vM : MV) (x1 : Int32) (H : Heap) (locs : List Loc) (ls : Array Slot), wp_X7_digest_94 Q K116 vM x1 → Wd D A s.heap (mW t aM vM) H locs → lv_has ls 2 [(0, .ref (MA.o aM)), (1, .int x1)] → W p l e ({ frames := 9, cells := 0, slots := 0, locals := 217 } : Room) s m args below meth c H locs 0 0 (El below args s A D (fun (u : MV) => (mW t aM u)) (fun (r : Int64) (u : MV) => Q r u) 0 0) (F0 m 94 ls []) := by
  intro vM x1 H locs ls h hw hl
  have hx := X.1.1
  have hb := X.1.2.1
  refine h (fun (vM : MV) (x1 : Int32) => ∀ (H : Heap) (locs : List Loc) (ls : Array Slot), Wd D A s.heap (mW t aM vM) H locs → lv_has ls 2 [(0, .ref (MA.o aM)), (1, .int x1)] → W p l e ({ frames := 9, cells := 0, slots := 0, locals := 217 } : Room) s m args below meth c H locs 0 0 (El below args s A D (fun (u : MV) => (mW t aM u)) (fun (r : Int64) (u : MV) => Q r u) 0 0) (F0 m 94 ls [])) (fun vM x1 h H locs ls hw hl => ?_) H locs ls hw hl
  exact kb_X7_digest_94 X aM (fun vM x1 H locs ls q hw hl => q H locs ls hw hl) hK116 vM x1 _ _ _ h hw hl
def bd_X7_digest_147 (Q : Int64 → MV → Prop) (P : MV → Int32 → Prop) (vM : MV) (x1 : Int32) : Prop := ((MV.length vM) ≤ x1 → Q (MV.h vM) vM) ∧ (¬ (MV.length vM) ≤ x1 → vp_in x1 60 ∧ wp_X7_mix vM (Int32.toInt64 ((MV.text vM) (Int32.toNatClampNeg x1))) (fun (vM_34 : MV) => ∀ x1_35 : Int32, x1_35 = x1 + 1 → P vM_34 x1_35))
def wp_X7_digest_147 (Q : Int64 → MV → Prop)  (vM : MV) (x1 : Int32) : Prop := ∀ P : MV → Int32 → Prop, (∀ (vM : MV) (x1 : Int32), bd_X7_digest_147 Q P  vM x1 → P vM x1) → P vM x1
set_option maxHeartbeats 4000000 in
set_option maxRecDepth 100000 in
theorem kb_X7_digest_147 {p : Program} {l : Launch} {e : Env} {s : State} {m : MethodId} {below : List Frame} {meth : Method} {c : Code} {args : Array Value} {D : va_G} {t : T3} {A : Nat → Prop} (X : Cx p s m meth c args cX7_digest 2 (some .long) RX7 wsX7_digest D t A) (aM : MA) {Q : Int64 → MV → Prop} {P : MV → Int32 → Prop} (hP : ∀ (vM : MV) (x1 : Int32) (H : Heap) (locs : List Loc) (ls : Array Slot), P vM x1 → Wd D A s.heap (mW t aM vM) H locs → lv_has ls 2 [(0, .ref (MA.o aM)), (1, .int x1)] → W p l e ({ frames := 9, cells := 0, slots := 0, locals := 217 } : Room) s m args below meth c H locs 0 0 (El below args s A D (fun (u : MV) => (mW t aM u)) (fun (r : Int64) (u : MV) => Q r u) 0 0) (F0 m 147 ls [])) : ∀ (vM : MV) (x1 : Int32) (H : Heap) (locs : List Loc) (ls : Array Slot), bd_X7_digest_147 Q P  vM x1 → Wd D A s.heap (mW t aM vM) H locs → lv_has ls 2 [(0, .ref (MA.o aM)), (1, .int x1)] → W p l e ({ frames := 9, cells := 0, slots := 0, locals := 217 } : Room) s m args below meth c H locs 0 0 (El below args s A D (fun (u : MV) => (mW t aM u)) (fun (r : Int64) (u : MV) => Q r u) 0 0) (F0 m 147 ls []) := by
  intro vM x1 H locs ls h hw hl
  have hx := X.1.1
  have hb := X.1.2.1
  refine lv_iload_n hx hb dX7_digest_147 rfl (lv_at hl 1 rfl) ?_
  refine lv_aload_n hx hb dX7_digest_148 rfl (lv_at hl 0 rfl) ?_
  refine r_get (ci := 7) (C := RX7) (T := TX7) (N := 16) X hw 0 rfl rfl 4 (by decide) in_X7_digest_X7 fl_X7_digest_141 (v := .int (MV.length vM)) rfl dX7_digest_149 ?_
  refine lv_icmp_ge (tgt := 172) hx hb dX7_digest_152 (by decide) (fun c_36 => ?_) (fun c_36 => ?_)
  · replace h := h.1 c_36
    refine lv_aload_n hx hb dX7_digest_172 rfl (lv_at hl 0 rfl) ?_
    refine r_get (ci := 7) (C := RX7) (T := TX7) (N := 16) X hw 0 rfl rfl 15 (by decide) in_X7_digest_X7 fl_X7_digest_200 (v := .long (MV.h vM)) rfl dX7_digest_173 ?_
    exact e_l (w1 := (fun (u : MV) => (mW t aM u))) X (vM) hw h dX7_digest_176
  replace h := h.2 c_36
  refine lv_aload_n hx hb dX7_digest_155 rfl (lv_at hl 0 rfl) ?_
  refine lv_aload_n hx hb dX7_digest_156 rfl (lv_at hl 0 rfl) ?_
  refine r_get (ci := 7) (C := RX7) (T := TX7) (N := 16) X hw 0 rfl rfl 5 (by decide) in_X7_digest_X7 fl_X7_digest_16 (v := .ref (MA.text aM)) rfl dX7_digest_157 ?_
  refine lv_iload_n hx hb dX7_digest_160 rfl (lv_at hl 1 rfl) ?_
  obtain ⟨hi_33, h⟩ := h
  refine r_iald (v := ((MV.text vM) (Int32.toNatClampNeg x1))) X hw 3 rfl hi_33 rfl dX7_digest_161 ?_
  refine lv_i2l (v := Int32.toInt64 ((MV.text vM) (Int32.toNatClampNeg x1))) hx hb dX7_digest_162 rfl ?_
  refine r_cv X hw pm_0 (wn := fun (u : MV) => (mW t aM u)) (fun u => pm_0.symm) (r_runV X hw (c_X7_mix l D t aM vM (Int32.toInt64 ((MV.text vM) (Int32.toNatClampNeg x1))) _ h) pm_0 (cwV 1 X.1.2.2.2.2 gX7_digest_X7_mix rfl rfl rfl (by decide +kernel) ⟨Nat.le_of_ble_eq_true rfl, Nat.le_of_ble_eq_true rfl⟩) (ci := 7) rfl rfl rfl rfl hl rfl (Nat.le_of_ble_eq_true rfl) dX7_digest_163 ⟨Nat.le_of_ble_eq_true rfl, Nat.le_of_ble_eq_true rfl⟩) (fun u H locs h hw => ?_)
  obtain ⟨vM_34, rfl⟩ : ∃ z, z = u := ⟨_, rfl⟩
  obtain ⟨x1_35, ex1_35⟩ : ∃ z : Int32, z = x1 + 1 := ⟨_, rfl⟩
  replace h := h x1_35 ex1_35
  refine lv_iinc (v := x1_35) (lv' := [(1, .int x1_35), (0, .ref (MA.o aM))]) hx hb dX7_digest_166 hl (k := 1) rfl (by rw [ex1_35]; rfl) (by decide) rfl (fun ls hl => ?_)
  refine lv_goto (tgt := 147) hx hb dX7_digest_169 (by decide) ?_
  exact hP _ _ _ _ _ h hw (lv_sub hl [1, 0] rfl)
set_option maxHeartbeats 4000000 in
set_option maxRecDepth 100000 in
theorem k_X7_digest_147 {p : Program} {l : Launch} {e : Env} {s : State} {m : MethodId} {below : List Frame} {meth : Method} {c : Code} {args : Array Value} {D : va_G} {t : T3} {A : Nat → Prop} (X : Cx p s m meth c args cX7_digest 2 (some .long) RX7 wsX7_digest D t A) (aM : MA) {Q : Int64 → MV → Prop}   : ∀ (vM : MV) (x1 : Int32) (H : Heap) (locs : List Loc) (ls : Array Slot), wp_X7_digest_147 Q  vM x1 → Wd D A s.heap (mW t aM vM) H locs → lv_has ls 2 [(0, .ref (MA.o aM)), (1, .int x1)] → W p l e ({ frames := 9, cells := 0, slots := 0, locals := 217 } : Room) s m args below meth c H locs 0 0 (El below args s A D (fun (u : MV) => (mW t aM u)) (fun (r : Int64) (u : MV) => Q r u) 0 0) (F0 m 147 ls []) := by
  intro vM x1 H locs ls h hw hl
  have hx := X.1.1
  have hb := X.1.2.1
  refine h (fun (vM : MV) (x1 : Int32) => ∀ (H : Heap) (locs : List Loc) (ls : Array Slot), Wd D A s.heap (mW t aM vM) H locs → lv_has ls 2 [(0, .ref (MA.o aM)), (1, .int x1)] → W p l e ({ frames := 9, cells := 0, slots := 0, locals := 217 } : Room) s m args below meth c H locs 0 0 (El below args s A D (fun (u : MV) => (mW t aM u)) (fun (r : Int64) (u : MV) => Q r u) 0 0) (F0 m 147 ls [])) (fun vM x1 h H locs ls hw hl => ?_) H locs ls hw hl
  exact kb_X7_digest_147 X aM (fun vM x1 H locs ls q hw hl => q H locs ls hw hl)  vM x1 _ _ _ h hw hl
def wp_X7_digest (vM : MV) (Q : Int64 → MV → Prop) : Prop := wp_X7_digest_14 Q (fun (vM_6 : MV) => wp_X7_digest_38 Q (fun (vM_12 : MV) => wp_X7_digest_59 Q (fun (vM_18 : MV) => wp_X7_digest_94 Q (fun (vM_24 : MV) => wp_X7_hintNow vM_24  (fun (r_26 : Int32) (vM_25 : MV) => wp_X7_mix vM_25 (Int32.toInt64 r_26) (fun (vM_27 : MV) => wp_X7_fittingNow vM_27  (fun (r_29 : UInt64) (vM_28 : MV) => wp_Jxe99ae_doubleToLongBits_ccdee  r_29 (fun (r_30 : Int64) => wp_X7_mix vM_28 r_30 (fun (vM_31 : MV) => wp_X7_mix vM_31 (Int32.toInt64 (MV.length vM_31)) (fun (vM_32 : MV) => wp_X7_digest_147 Q  vM_32 0))))))) vM_18 0) vM_12 0) vM_6 0) (MV.s_h (MV.s_thrown vM 0) 2137) 0
set_option maxHeartbeats 4000000 in
set_option maxRecDepth 100000 in
theorem c_X7_digest (l : Launch) (D : va_G) (t : T3) (aM : MA) (vM : MV) (Q : Int64 → MV → Prop) (h : wp_X7_digest vM Q) : Ct l yX7_digest wsX7_digest 9 217 0 0 [.ref (MA.o aM)] D t (mW t aM vM) (fun sz => Ql D (mW t aM vM) (fun (u : MV) => (mW t aM u)) (fun (r : Int64) (u : MV) => Q r u) sz) := by
  refine Ct.of (Qf := fun _ A => va_Ql (fun (r : Int64) (u : MV) => Q r u) (B1 D (fun (u : MV) => (mW t aM u)) A) A) cX7_digest 2 (some .long) (by decide) rfl (Nat.le_of_ble_eq_true rfl) ?_
  intro p e s m below meth c A ls hAe hin X hw hl
  generalize ([.ref (MA.o aM)] : List Value).toArray = args at X ⊢
  have hl : lv_has ls 2 [(0, .ref (MA.o aM))] := hl
  have hx := X.1.1
  have hb := X.1.2.1
  refine lv_aload_n hx hb dX7_digest_0 rfl (lv_at hl 0 rfl) ?_
  refine lv_iconst (v := 0) hx hb dX7_digest_1 (by decide) ?_
  refine r_put (ci := 7) (C := RX7) (T := TX7) (N := 16) (v := .int 0) (ws' := (mW t aM (MV.s_thrown vM 0))) X hw 0 rfl rfl 0 (by decide) in_X7_digest_X7 tyX7 tyX7_ok nmX7 fl_X7_digest_34 rfl rfl rfl (Nat.le_of_ble_eq_true rfl) rfl dX7_digest_2 (fun H locs hw => ?_)
  refine lv_aload_n hx hb dX7_digest_5 rfl (lv_at hl 0 rfl) ?_
  refine lv_ldc2 (v := 2137) hx hb X.1.2.2.2.1 (X.1.2.2.2.2 _ k_X7_digest_208) dX7_digest_6 ?_
  refine r_put (ci := 7) (C := RX7) (T := TX7) (N := 16) (v := .long 2137) (ws' := (mW t aM (MV.s_h (MV.s_thrown vM 0) 2137))) X hw 0 rfl rfl 15 (by decide) in_X7_digest_X7 tyX7 tyX7_ok nmX7 fl_X7_digest_200 rfl rfl rfl (Nat.le_of_ble_eq_true rfl) rfl dX7_digest_9 (fun H locs hw => ?_)
  refine lv_iconst (v := 0) hx hb dX7_digest_12 (by decide) ?_
  refine lv_istore_n (lv' := [(1, .int 0), (0, .ref (MA.o aM))]) hx hb dX7_digest_13 rfl hl (by decide) rfl (fun ls hl => ?_)
  refine k_X7_digest_14 X aM (fun vM_6 H locs ls h hw hl => ?_) _ _ _ _ _ h hw (lv_sub hl [1, 0] rfl)
  refine lv_iconst (v := 0) hx hb dX7_digest_36 (by decide) ?_
  refine lv_istore_n (lv' := [(1, .int 0), (0, .ref (MA.o aM))]) hx hb dX7_digest_37 rfl hl (by decide) rfl (fun ls hl => ?_)
  refine k_X7_digest_38 X aM (fun vM_12 H locs ls h hw hl => ?_) _ _ _ _ _ h hw (lv_sub hl [1, 0] rfl)
  refine lv_iconst (v := 0) hx hb dX7_digest_57 (by decide) ?_
  refine lv_istore_n (lv' := [(1, .int 0), (0, .ref (MA.o aM))]) hx hb dX7_digest_58 rfl hl (by decide) rfl (fun ls hl => ?_)
  refine k_X7_digest_59 X aM (fun vM_18 H locs ls h hw hl => ?_) _ _ _ _ _ h hw (lv_sub hl [1, 0] rfl)
  refine lv_iconst (v := 0) hx hb dX7_digest_92 (by decide) ?_
  refine lv_istore_n (lv' := [(1, .int 0), (0, .ref (MA.o aM))]) hx hb dX7_digest_93 rfl hl (by decide) rfl (fun ls hl => ?_)
  refine k_X7_digest_94 X aM (fun vM_24 H locs ls h hw hl => ?_) _ _ _ _ _ h hw (lv_sub hl [1, 0] rfl)
  refine lv_aload_n hx hb dX7_digest_116 rfl (lv_at hl 0 rfl) ?_
  refine lv_aload_n hx hb dX7_digest_117 rfl (lv_at hl 0 rfl) ?_
  refine r_ci X hw pm_0 (wn := fun (u : MV) => (mW t aM u)) (fun u => pm_0.symm) (r_runV X hw (c_X7_hintNow l D t aM vM_24 _ h) pm_0 (cwV 0 X.1.2.2.2.2 gX7_digest_X7_hintNow rfl rfl rfl (by decide +kernel) ⟨Nat.le_of_ble_eq_true rfl, Nat.le_of_ble_eq_true rfl⟩) (ci := 7) rfl rfl rfl rfl hl rfl (Nat.le_of_ble_eq_true rfl) dX7_digest_118 ⟨Nat.le_of_ble_eq_true rfl, Nat.le_of_ble_eq_true rfl⟩) (fun r_26 u H locs h hw => ?_)
  obtain ⟨vM_25, rfl⟩ : ∃ z, z = u := ⟨_, rfl⟩
  refine lv_i2l (v := Int32.toInt64 r_26) hx hb dX7_digest_121 rfl ?_
  refine r_cv X hw pm_0 (wn := fun (u : MV) => (mW t aM u)) (fun u => pm_0.symm) (r_runV X hw (c_X7_mix l D t aM vM_25 (Int32.toInt64 r_26) _ h) pm_0 (cwV 1 X.1.2.2.2.2 gX7_digest_X7_mix rfl rfl rfl (by decide +kernel) ⟨Nat.le_of_ble_eq_true rfl, Nat.le_of_ble_eq_true rfl⟩) (ci := 7) rfl rfl rfl rfl hl rfl (Nat.le_of_ble_eq_true rfl) dX7_digest_122 ⟨Nat.le_of_ble_eq_true rfl, Nat.le_of_ble_eq_true rfl⟩) (fun u H locs h hw => ?_)
  obtain ⟨vM_27, rfl⟩ : ∃ z, z = u := ⟨_, rfl⟩
  refine lv_aload_n hx hb dX7_digest_125 rfl (lv_at hl 0 rfl) ?_
  refine lv_aload_n hx hb dX7_digest_126 rfl (lv_at hl 0 rfl) ?_
  refine r_cd X hw pm_0 (wn := fun (u : MV) => (mW t aM u)) (fun u => pm_0.symm) (r_runV X hw (c_X7_fittingNow l D t aM vM_27 _ h) pm_0 (cwV 0 X.1.2.2.2.2 gX7_digest_X7_fittingNow rfl rfl rfl (by decide +kernel) ⟨Nat.le_of_ble_eq_true rfl, Nat.le_of_ble_eq_true rfl⟩) (ci := 7) rfl rfl rfl rfl hl rfl (Nat.le_of_ble_eq_true rfl) dX7_digest_127 ⟨Nat.le_of_ble_eq_true rfl, Nat.le_of_ble_eq_true rfl⟩) (fun r_29 u H locs h hw => ?_)
  obtain ⟨vM_28, rfl⟩ : ∃ z, z = u := ⟨_, rfl⟩
  refine r_cl X hw pm_n (wn := fun (u : Unit) => (mW t aM vM_28)) (fun u => (pm_n).symm) (r_runS X hw (c_Jxe99ae_doubleToLongBits_ccdee l D t r_29 _ h) pm_n (va_cwS 1 X.1.2.2.2.2 gX7_digest_Jxe99ae_doubleToLongBits_ccdee rfl rfl rfl (by decide +kernel) ⟨Nat.le_of_ble_eq_true rfl, Nat.le_of_ble_eq_true rfl⟩) rfl hl rfl (Nat.le_of_ble_eq_true rfl) dX7_digest_130 ⟨Nat.le_of_ble_eq_true rfl, Nat.le_of_ble_eq_true rfl⟩) (fun r_30 u H locs h hw => ?_)
  refine r_cv X hw pm_0 (wn := fun (u : MV) => (mW t aM u)) (fun u => pm_0.symm) (r_runV X hw (c_X7_mix l D t aM vM_28 r_30 _ h) pm_0 (cwV 1 X.1.2.2.2.2 gX7_digest_X7_mix rfl rfl rfl (by decide +kernel) ⟨Nat.le_of_ble_eq_true rfl, Nat.le_of_ble_eq_true rfl⟩) (ci := 7) rfl rfl rfl rfl hl rfl (Nat.le_of_ble_eq_true rfl) dX7_digest_133 ⟨Nat.le_of_ble_eq_true rfl, Nat.le_of_ble_eq_true rfl⟩) (fun u H locs h hw => ?_)
  obtain ⟨vM_31, rfl⟩ : ∃ z, z = u := ⟨_, rfl⟩
  refine lv_aload_n hx hb dX7_digest_136 rfl (lv_at hl 0 rfl) ?_
  refine lv_aload_n hx hb dX7_digest_137 rfl (lv_at hl 0 rfl) ?_
  refine r_get (ci := 7) (C := RX7) (T := TX7) (N := 16) X hw 0 rfl rfl 4 (by decide) in_X7_digest_X7 fl_X7_digest_141 (v := .int (MV.length vM_31)) rfl dX7_digest_138 ?_
  refine lv_i2l (v := Int32.toInt64 (MV.length vM_31)) hx hb dX7_digest_141 rfl ?_
  refine r_cv X hw pm_0 (wn := fun (u : MV) => (mW t aM u)) (fun u => pm_0.symm) (r_runV X hw (c_X7_mix l D t aM vM_31 (Int32.toInt64 (MV.length vM_31)) _ h) pm_0 (cwV 1 X.1.2.2.2.2 gX7_digest_X7_mix rfl rfl rfl (by decide +kernel) ⟨Nat.le_of_ble_eq_true rfl, Nat.le_of_ble_eq_true rfl⟩) (ci := 7) rfl rfl rfl rfl hl rfl (Nat.le_of_ble_eq_true rfl) dX7_digest_142 ⟨Nat.le_of_ble_eq_true rfl, Nat.le_of_ble_eq_true rfl⟩) (fun u H locs h hw => ?_)
  obtain ⟨vM_32, rfl⟩ : ∃ z, z = u := ⟨_, rfl⟩
  refine lv_iconst (v := 0) hx hb dX7_digest_145 (by decide) ?_
  refine lv_istore_n (lv' := [(1, .int 0), (0, .ref (MA.o aM))]) hx hb dX7_digest_146 rfl hl (by decide) rfl (fun ls hl => ?_)
  refine k_X7_digest_147 X aM  _ _ _ _ _ h hw (lv_sub hl [1, 0] rfl)
