/-! X6_reason -/
theorem in_X6_reason_X6 : ∀ w ∈ u_ws RX6 TX6 6, w ∈ wsX6_reason := fun w h => (List.mem_cons_of_mem _ (List.mem_append_left _ (List.mem_append_left _ (List.mem_append_right _ h))))
theorem fl_X6_reason_12 : Cond.fieldLink RX6 12 "TwoFacedTiles" "board" "LTwoFacedTiles$Board;" ∈ wsX6_reason := List.mem_of_getElem? (i := 1) rfl
theorem fl_X6_reason_33 : Cond.fieldLink RX6 33 "TwoFacedTiles" "needs" "LTwoFacedTiles$Needs;" ∈ wsX6_reason := List.mem_of_getElem? (i := 2) rfl
theorem in_X6_reason_X0 : ∀ w ∈ u_ws RX0 TX0 8, w ∈ wsX6_reason := fun w h => (List.mem_cons_of_mem _ (List.mem_append_left _ (List.mem_append_right _ h)))
theorem fl_X6_reason_278 : Cond.fieldLink RX6 278 "TwoFacedTiles$Board" "looks" "[I" ∈ wsX6_reason := List.mem_of_getElem? (i := 3) rfl
def wp_X6_reason (vX : XV) (p1 : Int32) (p2 : Int32) (Q : Int32 → XV → Prop) : Prop := wp_X0_isEmpty (XV.board vX) p1 (fun (r_2 : Int32) (vB_1 : BV) => (¬ r_2 = 0 → wp_X0_isLaid vB_1 (p2 / 8) (fun (r_4 : Int32) (vB_3 : BV) => (r_4 = 0 → wp_X3_read (XV.needs vX) vB_3 p1 (fun (vN_5 : NV) (vB_6 : BV) => vp_in p2 96 ∧ wp_X3_reasonAgainst vN_5 ((BV.looks vB_6) (Int32.toNatClampNeg p2)) (fun (r_9 : Int32) (vN_8 : NV) => Q r_9 (XV.s_needs (XV.s_board vX vB_6) vN_8)))) ∧ (¬ r_4 = 0 → Q 2 (XV.s_board vX vB_3)))) ∧ (r_2 = 0 → Q 1 (XV.s_board vX vB_1)))
set_option maxHeartbeats 4000000 in
set_option maxRecDepth 100000 in
theorem c_X6_reason (l : Launch) (D : va_G) (t : T3) (aX : XA) (vX : XV) (p1 : Int32) (p2 : Int32) (Q : Int32 → XV → Prop) (h : wp_X6_reason vX p1 p2 Q) : Ct l yX6_reason wsX6_reason 3 68 0 0 [.ref (XA.o aX), .int p1, .int p2] D t (xW t aX vX) (fun sz => Qi D (xW t aX vX) (fun (u : XV) => (xW t aX u)) (fun (r : Int32) (u : XV) => Q r u) sz) := by
  refine Ct.of (Qf := fun _ A => va_Qi (fun (r : Int32) (u : XV) => Q r u) (B1 D (fun (u : XV) => (xW t aX u)) A) A) cX6_reason 3 (some .int) (by decide) rfl (Nat.le_of_ble_eq_true rfl) ?_
  intro p e s m below meth c A ls hAe hin X hw hl
  generalize ([.ref (XA.o aX), .int p1, .int p2] : List Value).toArray = args at X ⊢
  have hl : lv_has ls 3 [(0, .ref (XA.o aX)), (1, .int p1), (2, .int p2)] := hl
  have hx := X.1.1
  have hb := X.1.2.1
  refine lv_aload_n hx hb dX6_reason_0 rfl (lv_at hl 0 rfl) ?_
  refine r_get (ci := 6) (C := RX6) (T := TX6) (N := 6) X hw 0 rfl rfl 0 (by decide) in_X6_reason_X6 fl_X6_reason_12 (v := .ref (BA.o (XA.board aX))) rfl dX6_reason_1 ?_
  refine lv_iload_n hx hb dX6_reason_4 rfl (lv_at hl 1 rfl) ?_
  refine r_ci X hw (pm_r (pm_l pm_0)) (wn := fun (u : BV) => (xW t aX (XV.s_board vX u))) (fun u => (pm_r (pm_l pm_0)).symm) (r_runV X hw (c_X0_isEmpty l D t (XA.board aX) (XV.board vX) p1 _ h) (pm_r (pm_l pm_0)) (cwV 1 X.1.2.2.2.2 gX6_reason_X0_isEmpty rfl rfl rfl (by decide +kernel) ⟨Nat.le_of_ble_eq_true rfl, Nat.le_of_ble_eq_true rfl⟩) (ci := 0) rfl rfl rfl rfl hl rfl (Nat.le_of_ble_eq_true rfl) dX6_reason_5 ⟨Nat.le_of_ble_eq_true rfl, Nat.le_of_ble_eq_true rfl⟩) (fun r_2 u H locs h hw => ?_)
  obtain ⟨vB_1, rfl⟩ : ∃ z, z = u := ⟨_, rfl⟩
  refine lv_if_ne (tgt := 13) hx hb dX6_reason_8 (by decide) (fun c_11 => ?_) (fun c_11 => ?_)
  · replace h := h.1 c_11
    refine lv_aload_n hx hb dX6_reason_13 rfl (lv_at hl 0 rfl) ?_
    refine r_get (ci := 6) (C := RX6) (T := TX6) (N := 6) X hw 0 rfl rfl 0 (by decide) in_X6_reason_X6 fl_X6_reason_12 (v := .ref (BA.o (XA.board aX))) rfl dX6_reason_14 ?_
    refine lv_iload_n hx hb dX6_reason_17 rfl (lv_at hl 2 rfl) ?_
    refine lv_bipush (v := 8) hx hb dX6_reason_18 (by decide) ?_
    refine lv_idiv hx hb dX6_reason_20 (by decide) ?_
    refine r_ci X hw (pm_r (pm_l pm_0)) (wn := fun (u : BV) => (xW t aX (XV.s_board vX u))) (fun u => (pm_r (pm_l pm_0)).symm) (r_runV X hw (c_X0_isLaid l D t (XA.board aX) vB_1 (p2 / 8) _ h) (pm_r (pm_l pm_0)) (cwV 1 X.1.2.2.2.2 gX6_reason_X0_isLaid rfl rfl rfl (by decide +kernel) ⟨Nat.le_of_ble_eq_true rfl, Nat.le_of_ble_eq_true rfl⟩) (ci := 0) rfl rfl rfl rfl hl rfl (Nat.le_of_ble_eq_true rfl) dX6_reason_21 ⟨Nat.le_of_ble_eq_true rfl, Nat.le_of_ble_eq_true rfl⟩) (fun r_4 u H locs h hw => ?_)
    obtain ⟨vB_3, rfl⟩ : ∃ z, z = u := ⟨_, rfl⟩
    refine lv_if_eq (tgt := 29) hx hb dX6_reason_24 (by decide) (fun c_10 => ?_) (fun c_10 => ?_)
    · replace h := h.1 c_10
      refine lv_aload_n hx hb dX6_reason_29 rfl (lv_at hl 0 rfl) ?_
      refine r_get (ci := 6) (C := RX6) (T := TX6) (N := 6) X hw 0 rfl rfl 3 (by decide) in_X6_reason_X6 fl_X6_reason_33 (v := .ref (XA.needs aX)) rfl dX6_reason_30 ?_
      refine lv_aload_n hx hb dX6_reason_33 rfl (lv_at hl 0 rfl) ?_
      refine r_get (ci := 6) (C := RX6) (T := TX6) (N := 6) X hw 0 rfl rfl 0 (by decide) in_X6_reason_X6 fl_X6_reason_12 (v := .ref (BA.o (XA.board aX))) rfl dX6_reason_34 ?_
      refine lv_iload_n hx hb dX6_reason_37 rfl (lv_at hl 1 rfl) ?_
      refine r_cv X hw (pm_2 (pm_r (pm_r (pm_r (pm_r (pm_l pm_0))))) (pm_r (pm_l pm_0))) (wn := fun (u : NV × BV) => (xW t aX (XV.s_needs (XV.s_board vX u.2) u.1))) (fun u => (pm_2 (pm_r (pm_r (pm_r (pm_r (pm_l pm_0))))) (pm_r (pm_l pm_0))).symm) (r_runV X hw (c_X3_read l D t (XA.needs aX) (XA.board aX) (XV.needs vX) vB_3 p1 _ h) (pm_2 (pm_r (pm_r (pm_r (pm_r (pm_l pm_0))))) (pm_r (pm_l pm_0))) (cwV 2 X.1.2.2.2.2 gX6_reason_X3_read rfl rfl rfl (by decide +kernel) ⟨Nat.le_of_ble_eq_true rfl, Nat.le_of_ble_eq_true rfl⟩) (ci := 3) rfl rfl rfl rfl hl rfl (Nat.le_of_ble_eq_true rfl) dX6_reason_38 ⟨Nat.le_of_ble_eq_true rfl, Nat.le_of_ble_eq_true rfl⟩) (fun u H locs h hw => ?_)
      obtain ⟨vN_5, vB_6⟩ := u
      refine lv_aload_n hx hb dX6_reason_41 rfl (lv_at hl 0 rfl) ?_
      refine r_get (ci := 6) (C := RX6) (T := TX6) (N := 6) X hw 0 rfl rfl 3 (by decide) in_X6_reason_X6 fl_X6_reason_33 (v := .ref (XA.needs aX)) rfl dX6_reason_42 ?_
      refine lv_aload_n hx hb dX6_reason_45 rfl (lv_at hl 0 rfl) ?_
      refine r_get (ci := 6) (C := RX6) (T := TX6) (N := 6) X hw 0 rfl rfl 0 (by decide) in_X6_reason_X6 fl_X6_reason_12 (v := .ref (BA.o (XA.board aX))) rfl dX6_reason_46 ?_
      refine r_get (ci := 0) (C := RX0) (T := TX0) (N := 8) X hw 1 rfl rfl 7 (by decide) in_X6_reason_X0 fl_X6_reason_278 (v := .ref (BA.looks (XA.board aX))) rfl dX6_reason_49 ?_
      refine lv_iload_n hx hb dX6_reason_52 rfl (lv_at hl 2 rfl) ?_
      obtain ⟨hi_7, h⟩ := h
      refine r_iald (v := ((BV.looks vB_6) (Int32.toNatClampNeg p2))) X hw 4 rfl hi_7 rfl dX6_reason_53 ?_
      refine r_ci X hw (pm_r (pm_r (pm_r (pm_r (pm_l pm_0))))) (wn := fun (u : NV) => (xW t aX (XV.s_needs (XV.s_board vX vB_6) u))) (fun u => (pm_r (pm_r (pm_r (pm_r (pm_l pm_0))))).symm) (r_runV X hw (c_X3_reasonAgainst l D t (XA.needs aX) vN_5 ((BV.looks vB_6) (Int32.toNatClampNeg p2)) _ h) (pm_r (pm_r (pm_r (pm_r (pm_l pm_0))))) (cwV 1 X.1.2.2.2.2 gX6_reason_X3_reasonAgainst rfl rfl rfl (by decide +kernel) ⟨Nat.le_of_ble_eq_true rfl, Nat.le_of_ble_eq_true rfl⟩) (ci := 3) rfl rfl rfl rfl hl rfl (Nat.le_of_ble_eq_true rfl) dX6_reason_54 ⟨Nat.le_of_ble_eq_true rfl, Nat.le_of_ble_eq_true rfl⟩) (fun r_9 u H locs h hw => ?_)
      obtain ⟨vN_8, rfl⟩ : ∃ z, z = u := ⟨_, rfl⟩
      exact e_i (w1 := (fun (u : XV) => (xW t aX u))) X ((XV.s_needs (XV.s_board vX vB_6) vN_8)) hw h dX6_reason_57
    replace h := h.2 c_10
    refine lv_iconst (v := 2) hx hb dX6_reason_27 (by decide) ?_
    exact e_i (w1 := (fun (u : XV) => (xW t aX u))) X ((XV.s_board vX vB_3)) hw h dX6_reason_28
  replace h := h.2 c_11
  refine lv_iconst (v := 1) hx hb dX6_reason_11 (by decide) ?_
  exact e_i (w1 := (fun (u : XV) => (xW t aX u))) X ((XV.s_board vX vB_1)) hw h dX6_reason_12
/-! X6_clear -/
theorem in_X6_clear_X6 : ∀ w ∈ u_ws RX6 TX6 6, w ∈ wsX6_clear := fun w h => (List.mem_cons_of_mem _ (List.mem_append_left _ (List.mem_append_left _ (List.mem_append_right _ h))))
theorem fl_X6_clear_19 : Cond.fieldLink RX6 19 "TwoFacedTiles" "history" "LTwoFacedTiles$History;" ∈ wsX6_clear := List.mem_of_getElem? (i := 1) rfl
theorem fl_X6_clear_12 : Cond.fieldLink RX6 12 "TwoFacedTiles" "board" "LTwoFacedTiles$Board;" ∈ wsX6_clear := List.mem_of_getElem? (i := 2) rfl
theorem in_X6_clear_X0 : ∀ w ∈ u_ws RX0 TX0 8, w ∈ wsX6_clear := fun w h => (List.mem_cons_of_mem _ (List.mem_append_left _ (List.mem_append_right _ h)))
theorem fl_X6_clear_147 : Cond.fieldLink RX6 147 "TwoFacedTiles$Board" "fixed" "I" ∈ wsX6_clear := List.mem_of_getElem? (i := 3) rfl
def wp_X6_clear (vX : XV) (Q : Int32 → XV → Prop) : Prop := wp_X2_save (XV.history vX) (XV.board vX)  (fun (vH_1 : HV) (vB_2 : BV) => wp_X0_removeAllBut vB_2 (BV.fixed vB_2) (fun (r_4 : Int32) (vB_3 : BV) => Q r_4 (XV.s_history (XV.s_board vX vB_3) vH_1)))
set_option maxHeartbeats 4000000 in
set_option maxRecDepth 100000 in
theorem c_X6_clear (l : Launch) (D : va_G) (t : T3) (aX : XA) (vX : XV) (Q : Int32 → XV → Prop) (h : wp_X6_clear vX Q) : Ct l yX6_clear wsX6_clear 3 102 0 0 [.ref (XA.o aX)] D t (xW t aX vX) (fun sz => Qi D (xW t aX vX) (fun (u : XV) => (xW t aX u)) (fun (r : Int32) (u : XV) => Q r u) sz) := by
  refine Ct.of (Qf := fun _ A => va_Qi (fun (r : Int32) (u : XV) => Q r u) (B1 D (fun (u : XV) => (xW t aX u)) A) A) cX6_clear 1 (some .int) (by decide) rfl (Nat.le_of_ble_eq_true rfl) ?_
  intro p e s m below meth c A ls hAe hin X hw hl
  generalize ([.ref (XA.o aX)] : List Value).toArray = args at X ⊢
  have hl : lv_has ls 1 [(0, .ref (XA.o aX))] := hl
  have hx := X.1.1
  have hb := X.1.2.1
  refine lv_aload_n hx hb dX6_clear_0 rfl (lv_at hl 0 rfl) ?_
  refine r_get (ci := 6) (C := RX6) (T := TX6) (N := 6) X hw 0 rfl rfl 1 (by decide) in_X6_clear_X6 fl_X6_clear_19 (v := .ref (HA.o (XA.history aX))) rfl dX6_clear_1 ?_
  refine lv_aload_n hx hb dX6_clear_4 rfl (lv_at hl 0 rfl) ?_
  refine r_get (ci := 6) (C := RX6) (T := TX6) (N := 6) X hw 0 rfl rfl 0 (by decide) in_X6_clear_X6 fl_X6_clear_12 (v := .ref (BA.o (XA.board aX))) rfl dX6_clear_5 ?_
  refine r_cv X hw (pm_2 (pm_r (pm_r (pm_l pm_0))) (pm_r (pm_l pm_0))) (wn := fun (u : HV × BV) => (xW t aX (XV.s_history (XV.s_board vX u.2) u.1))) (fun u => (pm_2 (pm_r (pm_r (pm_l pm_0))) (pm_r (pm_l pm_0))).symm) (r_runV X hw (c_X2_save l D t (XA.history aX) (XA.board aX) (XV.history vX) (XV.board vX) _ h) (pm_2 (pm_r (pm_r (pm_l pm_0))) (pm_r (pm_l pm_0))) (cwV 1 X.1.2.2.2.2 gX6_clear_X2_save rfl rfl rfl (by decide +kernel) ⟨Nat.le_of_ble_eq_true rfl, Nat.le_of_ble_eq_true rfl⟩) (ci := 2) rfl rfl rfl rfl hl rfl (Nat.le_of_ble_eq_true rfl) dX6_clear_8 ⟨Nat.le_of_ble_eq_true rfl, Nat.le_of_ble_eq_true rfl⟩) (fun u H locs h hw => ?_)
  obtain ⟨vH_1, vB_2⟩ := u
  refine lv_aload_n hx hb dX6_clear_11 rfl (lv_at hl 0 rfl) ?_
  refine r_get (ci := 6) (C := RX6) (T := TX6) (N := 6) X hw 0 rfl rfl 0 (by decide) in_X6_clear_X6 fl_X6_clear_12 (v := .ref (BA.o (XA.board aX))) rfl dX6_clear_12 ?_
  refine lv_aload_n hx hb dX6_clear_15 rfl (lv_at hl 0 rfl) ?_
  refine r_get (ci := 6) (C := RX6) (T := TX6) (N := 6) X hw 0 rfl rfl 0 (by decide) in_X6_clear_X6 fl_X6_clear_12 (v := .ref (BA.o (XA.board aX))) rfl dX6_clear_16 ?_
  refine r_get (ci := 0) (C := RX0) (T := TX0) (N := 8) X hw 1 rfl rfl 4 (by decide) in_X6_clear_X0 fl_X6_clear_147 (v := .int (BV.fixed vB_2)) rfl dX6_clear_19 ?_
  refine r_ci X hw (pm_r (pm_l pm_0)) (wn := fun (u : BV) => (xW t aX (XV.s_history (XV.s_board vX u) vH_1))) (fun u => (pm_r (pm_l pm_0)).symm) (r_runV X hw (c_X0_removeAllBut l D t (XA.board aX) vB_2 (BV.fixed vB_2) _ h) (pm_r (pm_l pm_0)) (cwV 1 X.1.2.2.2.2 gX6_clear_X0_removeAllBut rfl rfl rfl (by decide +kernel) ⟨Nat.le_of_ble_eq_true rfl, Nat.le_of_ble_eq_true rfl⟩) (ci := 0) rfl rfl rfl rfl hl rfl (Nat.le_of_ble_eq_true rfl) dX6_clear_22 ⟨Nat.le_of_ble_eq_true rfl, Nat.le_of_ble_eq_true rfl⟩) (fun r_4 u H locs h hw => ?_)
  obtain ⟨vB_3, rfl⟩ : ∃ z, z = u := ⟨_, rfl⟩
  exact e_i (w1 := (fun (u : XV) => (xW t aX u))) X ((XV.s_history (XV.s_board vX vB_3) vH_1)) hw h dX6_clear_25
/-! X6_turnOver -/
theorem in_X6_turnOver_X6 : ∀ w ∈ u_ws RX6 TX6 6, w ∈ wsX6_turnOver := fun w h => (List.mem_cons_of_mem _ (List.mem_append_left _ (List.mem_append_left _ (List.mem_append_right _ h))))
theorem fl_X6_turnOver_19 : Cond.fieldLink RX6 19 "TwoFacedTiles" "history" "LTwoFacedTiles$History;" ∈ wsX6_turnOver := List.mem_of_getElem? (i := 1) rfl
theorem fl_X6_turnOver_12 : Cond.fieldLink RX6 12 "TwoFacedTiles" "board" "LTwoFacedTiles$Board;" ∈ wsX6_turnOver := List.mem_of_getElem? (i := 2) rfl
def wp_X6_turnOver (vX : XV) (Q : Int32 → XV → Prop) : Prop := wp_X2_save (XV.history vX) (XV.board vX)  (fun (vH_1 : HV) (vB_2 : BV) => wp_X0_mirror vB_2  (fun (vB_3 : BV) => wp_X0_cells vB_3  (fun (r_5 : Int32) (vB_4 : BV) => wp_X0_emptyCells vB_4  (fun (r_7 : Int32) (vB_6 : BV) => Q (r_5 - r_7) (XV.s_history (XV.s_board vX vB_6) vH_1)))))
set_option maxHeartbeats 4000000 in
set_option maxRecDepth 100000 in
theorem c_X6_turnOver (l : Launch) (D : va_G) (t : T3) (aX : XA) (vX : XV) (Q : Int32 → XV → Prop) (h : wp_X6_turnOver vX Q) : Ct l yX6_turnOver wsX6_turnOver 3 102 0 0 [.ref (XA.o aX)] D t (xW t aX vX) (fun sz => Qi D (xW t aX vX) (fun (u : XV) => (xW t aX u)) (fun (r : Int32) (u : XV) => Q r u) sz) := by
  refine Ct.of (Qf := fun _ A => va_Qi (fun (r : Int32) (u : XV) => Q r u) (B1 D (fun (u : XV) => (xW t aX u)) A) A) cX6_turnOver 1 (some .int) (by decide) rfl (Nat.le_of_ble_eq_true rfl) ?_
  intro p e s m below meth c A ls hAe hin X hw hl
  generalize ([.ref (XA.o aX)] : List Value).toArray = args at X ⊢
  have hl : lv_has ls 1 [(0, .ref (XA.o aX))] := hl
  have hx := X.1.1
  have hb := X.1.2.1
  refine lv_aload_n hx hb dX6_turnOver_0 rfl (lv_at hl 0 rfl) ?_
  refine r_get (ci := 6) (C := RX6) (T := TX6) (N := 6) X hw 0 rfl rfl 1 (by decide) in_X6_turnOver_X6 fl_X6_turnOver_19 (v := .ref (HA.o (XA.history aX))) rfl dX6_turnOver_1 ?_
  refine lv_aload_n hx hb dX6_turnOver_4 rfl (lv_at hl 0 rfl) ?_
  refine r_get (ci := 6) (C := RX6) (T := TX6) (N := 6) X hw 0 rfl rfl 0 (by decide) in_X6_turnOver_X6 fl_X6_turnOver_12 (v := .ref (BA.o (XA.board aX))) rfl dX6_turnOver_5 ?_
  refine r_cv X hw (pm_2 (pm_r (pm_r (pm_l pm_0))) (pm_r (pm_l pm_0))) (wn := fun (u : HV × BV) => (xW t aX (XV.s_history (XV.s_board vX u.2) u.1))) (fun u => (pm_2 (pm_r (pm_r (pm_l pm_0))) (pm_r (pm_l pm_0))).symm) (r_runV X hw (c_X2_save l D t (XA.history aX) (XA.board aX) (XV.history vX) (XV.board vX) _ h) (pm_2 (pm_r (pm_r (pm_l pm_0))) (pm_r (pm_l pm_0))) (cwV 1 X.1.2.2.2.2 gX6_turnOver_X2_save rfl rfl rfl (by decide +kernel) ⟨Nat.le_of_ble_eq_true rfl, Nat.le_of_ble_eq_true rfl⟩) (ci := 2) rfl rfl rfl rfl hl rfl (Nat.le_of_ble_eq_true rfl) dX6_turnOver_8 ⟨Nat.le_of_ble_eq_true rfl, Nat.le_of_ble_eq_true rfl⟩) (fun u H locs h hw => ?_)
  obtain ⟨vH_1, vB_2⟩ := u
  refine lv_aload_n hx hb dX6_turnOver_11 rfl (lv_at hl 0 rfl) ?_
  refine r_get (ci := 6) (C := RX6) (T := TX6) (N := 6) X hw 0 rfl rfl 0 (by decide) in_X6_turnOver_X6 fl_X6_turnOver_12 (v := .ref (BA.o (XA.board aX))) rfl dX6_turnOver_12 ?_
  refine r_cv X hw (pm_r (pm_l pm_0)) (wn := fun (u : BV) => (xW t aX (XV.s_history (XV.s_board vX u) vH_1))) (fun u => (pm_r (pm_l pm_0)).symm) (r_runV X hw (c_X0_mirror l D t (XA.board aX) vB_2 _ h) (pm_r (pm_l pm_0)) (cwV 0 X.1.2.2.2.2 gX6_turnOver_X0_mirror rfl rfl rfl (by decide +kernel) ⟨Nat.le_of_ble_eq_true rfl, Nat.le_of_ble_eq_true rfl⟩) (ci := 0) rfl rfl rfl rfl hl rfl (Nat.le_of_ble_eq_true rfl) dX6_turnOver_15 ⟨Nat.le_of_ble_eq_true rfl, Nat.le_of_ble_eq_true rfl⟩) (fun u H locs h hw => ?_)
  obtain ⟨vB_3, rfl⟩ : ∃ z, z = u := ⟨_, rfl⟩
  refine lv_aload_n hx hb dX6_turnOver_18 rfl (lv_at hl 0 rfl) ?_
  refine r_get (ci := 6) (C := RX6) (T := TX6) (N := 6) X hw 0 rfl rfl 0 (by decide) in_X6_turnOver_X6 fl_X6_turnOver_12 (v := .ref (BA.o (XA.board aX))) rfl dX6_turnOver_19 ?_
  refine r_ci X hw (pm_r (pm_l pm_0)) (wn := fun (u : BV) => (xW t aX (XV.s_history (XV.s_board vX u) vH_1))) (fun u => (pm_r (pm_l pm_0)).symm) (r_runV X hw (c_X0_cells l D t (XA.board aX) vB_3 _ h) (pm_r (pm_l pm_0)) (cwV 0 X.1.2.2.2.2 gX6_turnOver_X0_cells rfl rfl rfl (by decide +kernel) ⟨Nat.le_of_ble_eq_true rfl, Nat.le_of_ble_eq_true rfl⟩) (ci := 0) rfl rfl rfl rfl hl rfl (Nat.le_of_ble_eq_true rfl) dX6_turnOver_22 ⟨Nat.le_of_ble_eq_true rfl, Nat.le_of_ble_eq_true rfl⟩) (fun r_5 u H locs h hw => ?_)
  obtain ⟨vB_4, rfl⟩ : ∃ z, z = u := ⟨_, rfl⟩
  refine lv_aload_n hx hb dX6_turnOver_25 rfl (lv_at hl 0 rfl) ?_
  refine r_get (ci := 6) (C := RX6) (T := TX6) (N := 6) X hw 0 rfl rfl 0 (by decide) in_X6_turnOver_X6 fl_X6_turnOver_12 (v := .ref (BA.o (XA.board aX))) rfl dX6_turnOver_26 ?_
  refine r_ci X hw (pm_r (pm_l pm_0)) (wn := fun (u : BV) => (xW t aX (XV.s_history (XV.s_board vX u) vH_1))) (fun u => (pm_r (pm_l pm_0)).symm) (r_runV X hw (c_X0_emptyCells l D t (XA.board aX) vB_4 _ h) (pm_r (pm_l pm_0)) (cwV 0 X.1.2.2.2.2 gX6_turnOver_X0_emptyCells rfl rfl rfl (by decide +kernel) ⟨Nat.le_of_ble_eq_true rfl, Nat.le_of_ble_eq_true rfl⟩) (ci := 0) rfl rfl rfl rfl hl rfl (Nat.le_of_ble_eq_true rfl) dX6_turnOver_29 ⟨Nat.le_of_ble_eq_true rfl, Nat.le_of_ble_eq_true rfl⟩) (fun r_7 u H locs h hw => ?_)
  obtain ⟨vB_6, rfl⟩ : ∃ z, z = u := ⟨_, rfl⟩
  refine lv_isub hx hb dX6_turnOver_32 ?_
  exact e_i (w1 := (fun (u : XV) => (xW t aX u))) X ((XV.s_history (XV.s_board vX vB_6) vH_1)) hw h dX6_turnOver_33
/-! X6_meetsNeeds -/
theorem in_X6_meetsNeeds_X6 : ∀ w ∈ u_ws RX6 TX6 6, w ∈ wsX6_meetsNeeds := fun w h => (List.mem_cons_of_mem _ (List.mem_append_left _ (List.mem_append_left _ (List.mem_append_right _ h))))
theorem fl_X6_meetsNeeds_12 : Cond.fieldLink RX6 12 "TwoFacedTiles" "board" "LTwoFacedTiles$Board;" ∈ wsX6_meetsNeeds := List.mem_of_getElem? (i := 1) rfl
theorem fl_X6_meetsNeeds_33 : Cond.fieldLink RX6 33 "TwoFacedTiles" "needs" "LTwoFacedTiles$Needs;" ∈ wsX6_meetsNeeds := List.mem_of_getElem? (i := 2) rfl
theorem in_X6_meetsNeeds_X0 : ∀ w ∈ u_ws RX0 TX0 8, w ∈ wsX6_meetsNeeds := fun w h => (List.mem_cons_of_mem _ (List.mem_append_left _ (List.mem_append_right _ h)))
theorem fl_X6_meetsNeeds_278 : Cond.fieldLink RX6 278 "TwoFacedTiles$Board" "looks" "[I" ∈ wsX6_meetsNeeds := List.mem_of_getElem? (i := 3) rfl
def wp_X6_meetsNeeds (vX : XV) (p1 : Int32) (Q : Int32 → XV → Prop) : Prop := wp_X0_isLaid (XV.board vX) (p1 / 8) (fun (r_2 : Int32) (vB_1 : BV) => (¬ r_2 = 0 → Q 0 (XV.s_board vX vB_1)) ∧ (r_2 = 0 → vp_in p1 96 ∧ wp_X3_reasonAgainst (XV.needs vX) ((BV.looks vB_1) (Int32.toNatClampNeg p1)) (fun (r_5 : Int32) (vN_4 : NV) => (¬ r_5 = 0 → Q 0 (XV.s_needs (XV.s_board vX vB_1) vN_4)) ∧ (r_5 = 0 → Q 1 (XV.s_needs (XV.s_board vX vB_1) vN_4)))))
set_option maxHeartbeats 4000000 in
set_option maxRecDepth 100000 in
theorem c_X6_meetsNeeds (l : Launch) (D : va_G) (t : T3) (aX : XA) (vX : XV) (p1 : Int32) (Q : Int32 → XV → Prop) (h : wp_X6_meetsNeeds vX p1 Q) : Ct l yX6_meetsNeeds wsX6_meetsNeeds 1 22 0 0 [.ref (XA.o aX), .int p1] D t (xW t aX vX) (fun sz => Qi D (xW t aX vX) (fun (u : XV) => (xW t aX u)) (fun (r : Int32) (u : XV) => Q r u) sz) := by
  refine Ct.of (Qf := fun _ A => va_Qi (fun (r : Int32) (u : XV) => Q r u) (B1 D (fun (u : XV) => (xW t aX u)) A) A) cX6_meetsNeeds 2 (some .boolean) (by decide) rfl (Nat.le_of_ble_eq_true rfl) ?_
  intro p e s m below meth c A ls hAe hin X hw hl
  generalize ([.ref (XA.o aX), .int p1] : List Value).toArray = args at X ⊢
  have hl : lv_has ls 2 [(0, .ref (XA.o aX)), (1, .int p1)] := hl
  have hx := X.1.1
  have hb := X.1.2.1
  refine lv_aload_n hx hb dX6_meetsNeeds_0 rfl (lv_at hl 0 rfl) ?_
  refine r_get (ci := 6) (C := RX6) (T := TX6) (N := 6) X hw 0 rfl rfl 0 (by decide) in_X6_meetsNeeds_X6 fl_X6_meetsNeeds_12 (v := .ref (BA.o (XA.board aX))) rfl dX6_meetsNeeds_1 ?_
  refine lv_iload_n hx hb dX6_meetsNeeds_4 rfl (lv_at hl 1 rfl) ?_
  refine lv_bipush (v := 8) hx hb dX6_meetsNeeds_5 (by decide) ?_
  refine lv_idiv hx hb dX6_meetsNeeds_7 (by decide) ?_
  refine r_ci X hw (pm_r (pm_l pm_0)) (wn := fun (u : BV) => (xW t aX (XV.s_board vX u))) (fun u => (pm_r (pm_l pm_0)).symm) (r_runV X hw (c_X0_isLaid l D t (XA.board aX) (XV.board vX) (p1 / 8) _ h) (pm_r (pm_l pm_0)) (cwV 1 X.1.2.2.2.2 gX6_meetsNeeds_X0_isLaid rfl rfl rfl (by decide +kernel) ⟨Nat.le_of_ble_eq_true rfl, Nat.le_of_ble_eq_true rfl⟩) (ci := 0) rfl rfl rfl rfl hl rfl (Nat.le_of_ble_eq_true rfl) dX6_meetsNeeds_8 ⟨Nat.le_of_ble_eq_true rfl, Nat.le_of_ble_eq_true rfl⟩) (fun r_2 u H locs h hw => ?_)
  obtain ⟨vB_1, rfl⟩ : ∃ z, z = u := ⟨_, rfl⟩
  refine lv_if_ne (tgt := 37) hx hb dX6_meetsNeeds_11 (by decide) (fun c_7 => ?_) (fun c_7 => ?_)
  · replace h := h.1 c_7
    refine lv_iconst (v := 0) hx hb dX6_meetsNeeds_37 (by decide) ?_
    exact e_z (w1 := (fun (u : XV) => (xW t aX u))) X isB_0 ((XV.s_board vX vB_1)) hw h dX6_meetsNeeds_38
  replace h := h.2 c_7
  refine lv_aload_n hx hb dX6_meetsNeeds_14 rfl (lv_at hl 0 rfl) ?_
  refine r_get (ci := 6) (C := RX6) (T := TX6) (N := 6) X hw 0 rfl rfl 3 (by decide) in_X6_meetsNeeds_X6 fl_X6_meetsNeeds_33 (v := .ref (XA.needs aX)) rfl dX6_meetsNeeds_15 ?_
  refine lv_aload_n hx hb dX6_meetsNeeds_18 rfl (lv_at hl 0 rfl) ?_
  refine r_get (ci := 6) (C := RX6) (T := TX6) (N := 6) X hw 0 rfl rfl 0 (by decide) in_X6_meetsNeeds_X6 fl_X6_meetsNeeds_12 (v := .ref (BA.o (XA.board aX))) rfl dX6_meetsNeeds_19 ?_
  refine r_get (ci := 0) (C := RX0) (T := TX0) (N := 8) X hw 1 rfl rfl 7 (by decide) in_X6_meetsNeeds_X0 fl_X6_meetsNeeds_278 (v := .ref (BA.looks (XA.board aX))) rfl dX6_meetsNeeds_22 ?_
  refine lv_iload_n hx hb dX6_meetsNeeds_25 rfl (lv_at hl 1 rfl) ?_
  obtain ⟨hi_3, h⟩ := h
  refine r_iald (v := ((BV.looks vB_1) (Int32.toNatClampNeg p1))) X hw 4 rfl hi_3 rfl dX6_meetsNeeds_26 ?_
  refine r_ci X hw (pm_r (pm_r (pm_r (pm_r (pm_l pm_0))))) (wn := fun (u : NV) => (xW t aX (XV.s_needs (XV.s_board vX vB_1) u))) (fun u => (pm_r (pm_r (pm_r (pm_r (pm_l pm_0))))).symm) (r_runV X hw (c_X3_reasonAgainst l D t (XA.needs aX) (XV.needs vX) ((BV.looks vB_1) (Int32.toNatClampNeg p1)) _ h) (pm_r (pm_r (pm_r (pm_r (pm_l pm_0))))) (cwV 1 X.1.2.2.2.2 gX6_meetsNeeds_X3_reasonAgainst rfl rfl rfl (by decide +kernel) ⟨Nat.le_of_ble_eq_true rfl, Nat.le_of_ble_eq_true rfl⟩) (ci := 3) rfl rfl rfl rfl hl rfl (Nat.le_of_ble_eq_true rfl) dX6_meetsNeeds_27 ⟨Nat.le_of_ble_eq_true rfl, Nat.le_of_ble_eq_true rfl⟩) (fun r_5 u H locs h hw => ?_)
  obtain ⟨vN_4, rfl⟩ : ∃ z, z = u := ⟨_, rfl⟩
  refine lv_if_ne (tgt := 37) hx hb dX6_meetsNeeds_30 (by decide) (fun c_6 => ?_) (fun c_6 => ?_)
  · replace h := h.1 c_6
    refine lv_iconst (v := 0) hx hb dX6_meetsNeeds_37 (by decide) ?_
    exact e_z (w1 := (fun (u : XV) => (xW t aX u))) X isB_0 ((XV.s_needs (XV.s_board vX vB_1) vN_4)) hw h dX6_meetsNeeds_38
  replace h := h.2 c_6
  refine lv_iconst (v := 1) hx hb dX6_meetsNeeds_33 (by decide) ?_
  refine lv_goto (tgt := 38) hx hb dX6_meetsNeeds_34 (by decide) ?_
  exact e_z (w1 := (fun (u : XV) => (xW t aX u))) X isB_1 ((XV.s_needs (XV.s_board vX vB_1) vN_4)) hw h dX6_meetsNeeds_38
/-! X6_possibleCount -/
theorem in_X6_possibleCount_X6 : ∀ w ∈ u_ws RX6 TX6 6, w ∈ wsX6_possibleCount := fun w h => (List.mem_cons_of_mem _ (List.mem_append_left _ (List.mem_append_left _ (List.mem_append_right _ h))))
theorem fl_X6_possibleCount_12 : Cond.fieldLink RX6 12 "TwoFacedTiles" "board" "LTwoFacedTiles$Board;" ∈ wsX6_possibleCount := List.mem_of_getElem? (i := 1) rfl
theorem fl_X6_possibleCount_33 : Cond.fieldLink RX6 33 "TwoFacedTiles" "needs" "LTwoFacedTiles$Needs;" ∈ wsX6_possibleCount := List.mem_of_getElem? (i := 2) rfl
theorem in_X6_possibleCount_X0 : ∀ w ∈ u_ws RX0 TX0 8, w ∈ wsX6_possibleCount := fun w h => (List.mem_cons_of_mem _ (List.mem_append_left _ (List.mem_append_right _ h)))
theorem fl_X6_possibleCount_72 : Cond.fieldLink RX6 72 "TwoFacedTiles$Board" "tiles" "I" ∈ wsX6_possibleCount := List.mem_of_getElem? (i := 3) rfl
def wp_X6_possibleCount_54 (P : XV → Int32 → Int32 → Prop) (Q : Int32 → XV → Prop) (vX : XV) (x2 : Int32) (x3 : Int32) : Prop := ∀ x3_7 : Int32, x3_7 = x3 + 1 → P vX x2 x3_7
set_option maxHeartbeats 4000000 in
set_option maxRecDepth 100000 in
theorem k_X6_possibleCount_54 {p : Program} {l : Launch} {e : Env} {s : State} {m : MethodId} {below : List Frame} {meth : Method} {c : Code} {args : Array Value} {D : va_G} {t : T3} {A : Nat → Prop} (X : Cx p s m meth c args cX6_possibleCount 4 (some .int) RX6 wsX6_possibleCount D t A) (aX : XA) {P : XV → Int32 → Int32 → Prop} {Q : Int32 → XV → Prop} (hP : ∀ (vX : XV) (x2 : Int32) (x3 : Int32) (H : Heap) (locs : List Loc) (ls : Array Slot), P vX x2 x3 → Wd D A s.heap (xW t aX vX) H locs → lv_has ls 4 [(0, .ref (XA.o aX)), (2, .int x2), (3, .int x3)] → W p l e ({ frames := 3, cells := 0, slots := 0, locals := 68 } : Room) s m args below meth c H locs 0 0 (Ei below args s A D (fun (u : XV) => (xW t aX u)) (fun (r : Int32) (u : XV) => Q r u) 0 0) (F0 m 29 ls [])) : ∀ (vX : XV) (x2 : Int32) (x3 : Int32) (H : Heap) (locs : List Loc) (ls : Array Slot), wp_X6_possibleCount_54 P Q vX x2 x3 → Wd D A s.heap (xW t aX vX) H locs → lv_has ls 4 [(0, .ref (XA.o aX)), (2, .int x2), (3, .int x3)] → W p l e ({ frames := 3, cells := 0, slots := 0, locals := 68 } : Room) s m args below meth c H locs 0 0 (Ei below args s A D (fun (u : XV) => (xW t aX u)) (fun (r : Int32) (u : XV) => Q r u) 0 0) (F0 m 54 ls []) := by
  intro vX x2 x3 H locs ls h hw hl
  have hx := X.1.1
  have hb := X.1.2.1
  obtain ⟨x3_7, ex3_7⟩ : ∃ z : Int32, z = x3 + 1 := ⟨_, rfl⟩
  replace h := h x3_7 ex3_7
  refine lv_iinc (v := x3_7) (lv' := [(3, .int x3_7), (0, .ref (XA.o aX)), (2, .int x2)]) hx hb dX6_possibleCount_54 hl (k := 2) rfl (by rw [ex3_7]; rfl) (by decide) rfl (fun ls hl => ?_)
  refine lv_goto (tgt := 29) hx hb dX6_possibleCount_57 (by decide) ?_
  exact hP _ _ _ _ _ _ h hw (lv_sub hl [1, 2, 0] rfl)
def bd_X6_possibleCount_29 (Q : Int32 → XV → Prop) (P : XV → Int32 → Int32 → Prop) (vX : XV) (x2 : Int32) (x3 : Int32) : Prop := ((8 * (BV.tiles (XV.board vX))) ≤ x3 → Q x2 vX) ∧ (¬ (8 * (BV.tiles (XV.board vX))) ≤ x3 → wp_X6_meetsNeeds vX x3 (fun (r_6 : Int32) (vX_5 : XV) => (r_6 = 0 → wp_X6_possibleCount_54  P Q vX_5 x2 x3) ∧ (¬ r_6 = 0 → ∀ x2_8 : Int32, x2_8 = x2 + 1 → wp_X6_possibleCount_54  P Q vX_5 x2_8 x3)))
def wp_X6_possibleCount_29 (Q : Int32 → XV → Prop)  (vX : XV) (x2 : Int32) (x3 : Int32) : Prop := ∀ P : XV → Int32 → Int32 → Prop, (∀ (vX : XV) (x2 : Int32) (x3 : Int32), bd_X6_possibleCount_29 Q P  vX x2 x3 → P vX x2 x3) → P vX x2 x3
set_option maxHeartbeats 4000000 in
set_option maxRecDepth 100000 in
theorem kb_X6_possibleCount_29 {p : Program} {l : Launch} {e : Env} {s : State} {m : MethodId} {below : List Frame} {meth : Method} {c : Code} {args : Array Value} {D : va_G} {t : T3} {A : Nat → Prop} (X : Cx p s m meth c args cX6_possibleCount 4 (some .int) RX6 wsX6_possibleCount D t A) (aX : XA) {Q : Int32 → XV → Prop} {P : XV → Int32 → Int32 → Prop} (hP : ∀ (vX : XV) (x2 : Int32) (x3 : Int32) (H : Heap) (locs : List Loc) (ls : Array Slot), P vX x2 x3 → Wd D A s.heap (xW t aX vX) H locs → lv_has ls 4 [(0, .ref (XA.o aX)), (2, .int x2), (3, .int x3)] → W p l e ({ frames := 3, cells := 0, slots := 0, locals := 68 } : Room) s m args below meth c H locs 0 0 (Ei below args s A D (fun (u : XV) => (xW t aX u)) (fun (r : Int32) (u : XV) => Q r u) 0 0) (F0 m 29 ls [])) : ∀ (vX : XV) (x2 : Int32) (x3 : Int32) (H : Heap) (locs : List Loc) (ls : Array Slot), bd_X6_possibleCount_29 Q P  vX x2 x3 → Wd D A s.heap (xW t aX vX) H locs → lv_has ls 4 [(0, .ref (XA.o aX)), (2, .int x2), (3, .int x3)] → W p l e ({ frames := 3, cells := 0, slots := 0, locals := 68 } : Room) s m args below meth c H locs 0 0 (Ei below args s A D (fun (u : XV) => (xW t aX u)) (fun (r : Int32) (u : XV) => Q r u) 0 0) (F0 m 29 ls []) := by
  intro vX x2 x3 H locs ls h hw hl
  have hx := X.1.1
  have hb := X.1.2.1
  refine lv_iload_n hx hb dX6_possibleCount_29 rfl (lv_at hl 2 rfl) ?_
  refine lv_bipush (v := 8) hx hb dX6_possibleCount_30 (by decide) ?_
  refine lv_aload_n hx hb dX6_possibleCount_32 rfl (lv_at hl 0 rfl) ?_
  refine r_get (ci := 6) (C := RX6) (T := TX6) (N := 6) X hw 0 rfl rfl 0 (by decide) in_X6_possibleCount_X6 fl_X6_possibleCount_12 (v := .ref (BA.o (XA.board aX))) rfl dX6_possibleCount_33 ?_
  refine r_get (ci := 0) (C := RX0) (T := TX0) (N := 8) X hw 1 rfl rfl 3 (by decide) in_X6_possibleCount_X0 fl_X6_possibleCount_72 (v := .int (BV.tiles (XV.board vX))) rfl dX6_possibleCount_36 ?_
  refine lv_imul hx hb dX6_possibleCount_39 ?_
  refine lv_icmp_ge (tgt := 60) hx hb dX6_possibleCount_40 (by decide) (fun c_10 => ?_) (fun c_10 => ?_)
  · replace h := h.1 c_10
    refine lv_iload_n hx hb dX6_possibleCount_60 rfl (lv_at hl 1 rfl) ?_
    exact e_i (w1 := (fun (u : XV) => (xW t aX u))) X (vX) hw h dX6_possibleCount_61
  replace h := h.2 c_10
  refine lv_aload_n hx hb dX6_possibleCount_43 rfl (lv_at hl 0 rfl) ?_
  refine lv_iload_n hx hb dX6_possibleCount_44 rfl (lv_at hl 2 rfl) ?_
  refine r_ci X hw pm_0 (wn := fun (u : XV) => (xW t aX u)) (fun u => pm_0.symm) (r_runV X hw (c_X6_meetsNeeds l D t aX vX x3 _ h) pm_0 (cwV 1 X.1.2.2.2.2 gX6_possibleCount_X6_meetsNeeds rfl rfl rfl (by decide +kernel) ⟨Nat.le_of_ble_eq_true rfl, Nat.le_of_ble_eq_true rfl⟩) (ci := 6) rfl rfl rfl rfl hl rfl (Nat.le_of_ble_eq_true rfl) dX6_possibleCount_45 ⟨Nat.le_of_ble_eq_true rfl, Nat.le_of_ble_eq_true rfl⟩) (fun r_6 u H locs h hw => ?_)
  obtain ⟨vX_5, rfl⟩ : ∃ z, z = u := ⟨_, rfl⟩
  refine lv_if_eq (tgt := 54) hx hb dX6_possibleCount_48 (by decide) (fun c_9 => ?_) (fun c_9 => ?_)
  · replace h := h.1 c_9
    exact k_X6_possibleCount_54 X aX hP _ _ _ _ _ _ h hw hl
  replace h := h.2 c_9
  obtain ⟨x2_8, ex2_8⟩ : ∃ z : Int32, z = x2 + 1 := ⟨_, rfl⟩
  replace h := h x2_8 ex2_8
  refine lv_iinc (v := x2_8) (lv' := [(2, .int x2_8), (0, .ref (XA.o aX)), (3, .int x3)]) hx hb dX6_possibleCount_51 hl (k := 1) rfl (by rw [ex2_8]; rfl) (by decide) rfl (fun ls hl => ?_)
  exact k_X6_possibleCount_54 X aX hP _ _ _ _ _ _ h hw (lv_sub hl [1, 0, 2] rfl)
set_option maxHeartbeats 4000000 in
set_option maxRecDepth 100000 in
theorem k_X6_possibleCount_29 {p : Program} {l : Launch} {e : Env} {s : State} {m : MethodId} {below : List Frame} {meth : Method} {c : Code} {args : Array Value} {D : va_G} {t : T3} {A : Nat → Prop} (X : Cx p s m meth c args cX6_possibleCount 4 (some .int) RX6 wsX6_possibleCount D t A) (aX : XA) {Q : Int32 → XV → Prop}   : ∀ (vX : XV) (x2 : Int32) (x3 : Int32) (H : Heap) (locs : List Loc) (ls : Array Slot), wp_X6_possibleCount_29 Q  vX x2 x3 → Wd D A s.heap (xW t aX vX) H locs → lv_has ls 4 [(0, .ref (XA.o aX)), (2, .int x2), (3, .int x3)] → W p l e ({ frames := 3, cells := 0, slots := 0, locals := 68 } : Room) s m args below meth c H locs 0 0 (Ei below args s A D (fun (u : XV) => (xW t aX u)) (fun (r : Int32) (u : XV) => Q r u) 0 0) (F0 m 29 ls []) := by
  intro vX x2 x3 H locs ls h hw hl
  have hx := X.1.1
  have hb := X.1.2.1
  refine h (fun (vX : XV) (x2 : Int32) (x3 : Int32) => ∀ (H : Heap) (locs : List Loc) (ls : Array Slot), Wd D A s.heap (xW t aX vX) H locs → lv_has ls 4 [(0, .ref (XA.o aX)), (2, .int x2), (3, .int x3)] → W p l e ({ frames := 3, cells := 0, slots := 0, locals := 68 } : Room) s m args below meth c H locs 0 0 (Ei below args s A D (fun (u : XV) => (xW t aX u)) (fun (r : Int32) (u : XV) => Q r u) 0 0) (F0 m 29 ls [])) (fun vX x2 x3 h H locs ls hw hl => ?_) H locs ls hw hl
  exact kb_X6_possibleCount_29 X aX (fun vX x2 x3 H locs ls q hw hl => q H locs ls hw hl)  vX x2 x3 _ _ _ h hw hl
def wp_X6_possibleCount (vX : XV) (p1 : Int32) (Q : Int32 → XV → Prop) : Prop := wp_X0_isEmpty (XV.board vX) p1 (fun (r_2 : Int32) (vB_1 : BV) => (¬ r_2 = 0 → wp_X3_read (XV.needs vX) vB_1 p1 (fun (vN_3 : NV) (vB_4 : BV) => wp_X6_possibleCount_29 Q  (XV.s_needs (XV.s_board vX vB_4) vN_3) 0 0)) ∧ (r_2 = 0 → Q 0 (XV.s_board vX vB_1)))
set_option maxHeartbeats 4000000 in
set_option maxRecDepth 100000 in
theorem c_X6_possibleCount (l : Launch) (D : va_G) (t : T3) (aX : XA) (vX : XV) (p1 : Int32) (Q : Int32 → XV → Prop) (h : wp_X6_possibleCount vX p1 Q) : Ct l yX6_possibleCount wsX6_possibleCount 3 68 0 0 [.ref (XA.o aX), .int p1] D t (xW t aX vX) (fun sz => Qi D (xW t aX vX) (fun (u : XV) => (xW t aX u)) (fun (r : Int32) (u : XV) => Q r u) sz) := by
  refine Ct.of (Qf := fun _ A => va_Qi (fun (r : Int32) (u : XV) => Q r u) (B1 D (fun (u : XV) => (xW t aX u)) A) A) cX6_possibleCount 4 (some .int) (by decide) rfl (Nat.le_of_ble_eq_true rfl) ?_
  intro p e s m below meth c A ls hAe hin X hw hl
  generalize ([.ref (XA.o aX), .int p1] : List Value).toArray = args at X ⊢
  have hl : lv_has ls 4 [(0, .ref (XA.o aX)), (1, .int p1)] := hl
  have hx := X.1.1
  have hb := X.1.2.1
  refine lv_aload_n hx hb dX6_possibleCount_0 rfl (lv_at hl 0 rfl) ?_
  refine r_get (ci := 6) (C := RX6) (T := TX6) (N := 6) X hw 0 rfl rfl 0 (by decide) in_X6_possibleCount_X6 fl_X6_possibleCount_12 (v := .ref (BA.o (XA.board aX))) rfl dX6_possibleCount_1 ?_
  refine lv_iload_n hx hb dX6_possibleCount_4 rfl (lv_at hl 1 rfl) ?_
  refine r_ci X hw (pm_r (pm_l pm_0)) (wn := fun (u : BV) => (xW t aX (XV.s_board vX u))) (fun u => (pm_r (pm_l pm_0)).symm) (r_runV X hw (c_X0_isEmpty l D t (XA.board aX) (XV.board vX) p1 _ h) (pm_r (pm_l pm_0)) (cwV 1 X.1.2.2.2.2 gX6_possibleCount_X0_isEmpty rfl rfl rfl (by decide +kernel) ⟨Nat.le_of_ble_eq_true rfl, Nat.le_of_ble_eq_true rfl⟩) (ci := 0) rfl rfl rfl rfl hl rfl (Nat.le_of_ble_eq_true rfl) dX6_possibleCount_5 ⟨Nat.le_of_ble_eq_true rfl, Nat.le_of_ble_eq_true rfl⟩) (fun r_2 u H locs h hw => ?_)
  obtain ⟨vB_1, rfl⟩ : ∃ z, z = u := ⟨_, rfl⟩
  refine lv_if_ne (tgt := 13) hx hb dX6_possibleCount_8 (by decide) (fun c_11 => ?_) (fun c_11 => ?_)
  · replace h := h.1 c_11
    refine lv_aload_n hx hb dX6_possibleCount_13 rfl (lv_at hl 0 rfl) ?_
    refine r_get (ci := 6) (C := RX6) (T := TX6) (N := 6) X hw 0 rfl rfl 3 (by decide) in_X6_possibleCount_X6 fl_X6_possibleCount_33 (v := .ref (XA.needs aX)) rfl dX6_possibleCount_14 ?_
    refine lv_aload_n hx hb dX6_possibleCount_17 rfl (lv_at hl 0 rfl) ?_
    refine r_get (ci := 6) (C := RX6) (T := TX6) (N := 6) X hw 0 rfl rfl 0 (by decide) in_X6_possibleCount_X6 fl_X6_possibleCount_12 (v := .ref (BA.o (XA.board aX))) rfl dX6_possibleCount_18 ?_
    refine lv_iload_n hx hb dX6_possibleCount_21 rfl (lv_at hl 1 rfl) ?_
    refine r_cv X hw (pm_2 (pm_r (pm_r (pm_r (pm_r (pm_l pm_0))))) (pm_r (pm_l pm_0))) (wn := fun (u : NV × BV) => (xW t aX (XV.s_needs (XV.s_board vX u.2) u.1))) (fun u => (pm_2 (pm_r (pm_r (pm_r (pm_r (pm_l pm_0))))) (pm_r (pm_l pm_0))).symm) (r_runV X hw (c_X3_read l D t (XA.needs aX) (XA.board aX) (XV.needs vX) vB_1 p1 _ h) (pm_2 (pm_r (pm_r (pm_r (pm_r (pm_l pm_0))))) (pm_r (pm_l pm_0))) (cwV 2 X.1.2.2.2.2 gX6_possibleCount_X3_read rfl rfl rfl (by decide +kernel) ⟨Nat.le_of_ble_eq_true rfl, Nat.le_of_ble_eq_true rfl⟩) (ci := 3) rfl rfl rfl rfl hl rfl (Nat.le_of_ble_eq_true rfl) dX6_possibleCount_22 ⟨Nat.le_of_ble_eq_true rfl, Nat.le_of_ble_eq_true rfl⟩) (fun u H locs h hw => ?_)
    obtain ⟨vN_3, vB_4⟩ := u
    refine lv_iconst (v := 0) hx hb dX6_possibleCount_25 (by decide) ?_
    refine lv_istore_n (lv' := [(2, .int 0), (0, .ref (XA.o aX)), (1, .int p1)]) hx hb dX6_possibleCount_26 rfl hl (by decide) rfl (fun ls hl => ?_)
    refine lv_iconst (v := 0) hx hb dX6_possibleCount_27 (by decide) ?_
    refine lv_istore_n (lv' := [(3, .int 0), (2, .int 0), (0, .ref (XA.o aX)), (1, .int p1)]) hx hb dX6_possibleCount_28 rfl hl (by decide) rfl (fun ls hl => ?_)
    refine k_X6_possibleCount_29 X aX  _ _ _ _ _ _ h hw (lv_sub hl [2, 1, 0] rfl)
  replace h := h.2 c_11
  refine lv_iconst (v := 0) hx hb dX6_possibleCount_11 (by decide) ?_
  exact e_i (w1 := (fun (u : XV) => (xW t aX u))) X ((XV.s_board vX vB_1)) hw h dX6_possibleCount_12
/-! X6_firstPossible -/
theorem in_X6_firstPossible_X6 : ∀ w ∈ u_ws RX6 TX6 6, w ∈ wsX6_firstPossible := fun w h => (List.mem_cons_of_mem _ (List.mem_append_left _ (List.mem_append_left _ (List.mem_append_right _ h))))
theorem fl_X6_firstPossible_12 : Cond.fieldLink RX6 12 "TwoFacedTiles" "board" "LTwoFacedTiles$Board;" ∈ wsX6_firstPossible := List.mem_of_getElem? (i := 1) rfl
theorem fl_X6_firstPossible_33 : Cond.fieldLink RX6 33 "TwoFacedTiles" "needs" "LTwoFacedTiles$Needs;" ∈ wsX6_firstPossible := List.mem_of_getElem? (i := 2) rfl
theorem in_X6_firstPossible_X0 : ∀ w ∈ u_ws RX0 TX0 8, w ∈ wsX6_firstPossible := fun w h => (List.mem_cons_of_mem _ (List.mem_append_left _ (List.mem_append_right _ h)))
theorem fl_X6_firstPossible_72 : Cond.fieldLink RX6 72 "TwoFacedTiles$Board" "tiles" "I" ∈ wsX6_firstPossible := List.mem_of_getElem? (i := 3) rfl
def bd_X6_firstPossible_27 (Q : Int32 → XV → Prop) (P : XV → Int32 → Prop) (vX : XV) (x2 : Int32) : Prop := ((8 * (BV.tiles (XV.board vX))) ≤ x2 → Q (-1) vX) ∧ (¬ (8 * (BV.tiles (XV.board vX))) ≤ x2 → wp_X6_meetsNeeds vX x2 (fun (r_6 : Int32) (vX_5 : XV) => (r_6 = 0 → ∀ x2_7 : Int32, x2_7 = x2 + 1 → P vX_5 x2_7) ∧ (¬ r_6 = 0 → Q x2 vX_5)))
def wp_X6_firstPossible_27 (Q : Int32 → XV → Prop)  (vX : XV) (x2 : Int32) : Prop := ∀ P : XV → Int32 → Prop, (∀ (vX : XV) (x2 : Int32), bd_X6_firstPossible_27 Q P  vX x2 → P vX x2) → P vX x2
set_option maxHeartbeats 4000000 in
set_option maxRecDepth 100000 in
theorem kb_X6_firstPossible_27 {p : Program} {l : Launch} {e : Env} {s : State} {m : MethodId} {below : List Frame} {meth : Method} {c : Code} {args : Array Value} {D : va_G} {t : T3} {A : Nat → Prop} (X : Cx p s m meth c args cX6_firstPossible 3 (some .int) RX6 wsX6_firstPossible D t A) (aX : XA) {Q : Int32 → XV → Prop} {P : XV → Int32 → Prop} (hP : ∀ (vX : XV) (x2 : Int32) (H : Heap) (locs : List Loc) (ls : Array Slot), P vX x2 → Wd D A s.heap (xW t aX vX) H locs → lv_has ls 3 [(0, .ref (XA.o aX)), (2, .int x2)] → W p l e ({ frames := 3, cells := 0, slots := 0, locals := 68 } : Room) s m args below meth c H locs 0 0 (Ei below args s A D (fun (u : XV) => (xW t aX u)) (fun (r : Int32) (u : XV) => Q r u) 0 0) (F0 m 27 ls [])) : ∀ (vX : XV) (x2 : Int32) (H : Heap) (locs : List Loc) (ls : Array Slot), bd_X6_firstPossible_27 Q P  vX x2 → Wd D A s.heap (xW t aX vX) H locs → lv_has ls 3 [(0, .ref (XA.o aX)), (2, .int x2)] → W p l e ({ frames := 3, cells := 0, slots := 0, locals := 68 } : Room) s m args below meth c H locs 0 0 (Ei below args s A D (fun (u : XV) => (xW t aX u)) (fun (r : Int32) (u : XV) => Q r u) 0 0) (F0 m 27 ls []) := by
  intro vX x2 H locs ls h hw hl
  have hx := X.1.1
  have hb := X.1.2.1
  refine lv_iload_n hx hb dX6_firstPossible_27 rfl (lv_at hl 1 rfl) ?_
  refine lv_bipush (v := 8) hx hb dX6_firstPossible_28 (by decide) ?_
  refine lv_aload_n hx hb dX6_firstPossible_30 rfl (lv_at hl 0 rfl) ?_
  refine r_get (ci := 6) (C := RX6) (T := TX6) (N := 6) X hw 0 rfl rfl 0 (by decide) in_X6_firstPossible_X6 fl_X6_firstPossible_12 (v := .ref (BA.o (XA.board aX))) rfl dX6_firstPossible_31 ?_
  refine r_get (ci := 0) (C := RX0) (T := TX0) (N := 8) X hw 1 rfl rfl 3 (by decide) in_X6_firstPossible_X0 fl_X6_firstPossible_72 (v := .int (BV.tiles (XV.board vX))) rfl dX6_firstPossible_34 ?_
  refine lv_imul hx hb dX6_firstPossible_37 ?_
  refine lv_icmp_ge (tgt := 57) hx hb dX6_firstPossible_38 (by decide) (fun c_9 => ?_) (fun c_9 => ?_)
  · replace h := h.1 c_9
    refine lv_iconst (v := (-1)) hx hb dX6_firstPossible_57 (by decide) ?_
    exact e_i (w1 := (fun (u : XV) => (xW t aX u))) X (vX) hw h dX6_firstPossible_58
  replace h := h.2 c_9
  refine lv_aload_n hx hb dX6_firstPossible_41 rfl (lv_at hl 0 rfl) ?_
  refine lv_iload_n hx hb dX6_firstPossible_42 rfl (lv_at hl 1 rfl) ?_
  refine r_ci X hw pm_0 (wn := fun (u : XV) => (xW t aX u)) (fun u => pm_0.symm) (r_runV X hw (c_X6_meetsNeeds l D t aX vX x2 _ h) pm_0 (cwV 1 X.1.2.2.2.2 gX6_firstPossible_X6_meetsNeeds rfl rfl rfl (by decide +kernel) ⟨Nat.le_of_ble_eq_true rfl, Nat.le_of_ble_eq_true rfl⟩) (ci := 6) rfl rfl rfl rfl hl rfl (Nat.le_of_ble_eq_true rfl) dX6_firstPossible_43 ⟨Nat.le_of_ble_eq_true rfl, Nat.le_of_ble_eq_true rfl⟩) (fun r_6 u H locs h hw => ?_)
  obtain ⟨vX_5, rfl⟩ : ∃ z, z = u := ⟨_, rfl⟩
  refine lv_if_eq (tgt := 51) hx hb dX6_firstPossible_46 (by decide) (fun c_8 => ?_) (fun c_8 => ?_)
  · replace h := h.1 c_8
    obtain ⟨x2_7, ex2_7⟩ : ∃ z : Int32, z = x2 + 1 := ⟨_, rfl⟩
    replace h := h x2_7 ex2_7
    refine lv_iinc (v := x2_7) (lv' := [(2, .int x2_7), (0, .ref (XA.o aX))]) hx hb dX6_firstPossible_51 hl (k := 1) rfl (by rw [ex2_7]; rfl) (by decide) rfl (fun ls hl => ?_)
    refine lv_goto (tgt := 27) hx hb dX6_firstPossible_54 (by decide) ?_
    exact hP _ _ _ _ _ h hw (lv_sub hl [1, 0] rfl)
  replace h := h.2 c_8
  refine lv_iload_n hx hb dX6_firstPossible_49 rfl (lv_at hl 1 rfl) ?_
  exact e_i (w1 := (fun (u : XV) => (xW t aX u))) X (vX_5) hw h dX6_firstPossible_50
set_option maxHeartbeats 4000000 in
set_option maxRecDepth 100000 in
theorem k_X6_firstPossible_27 {p : Program} {l : Launch} {e : Env} {s : State} {m : MethodId} {below : List Frame} {meth : Method} {c : Code} {args : Array Value} {D : va_G} {t : T3} {A : Nat → Prop} (X : Cx p s m meth c args cX6_firstPossible 3 (some .int) RX6 wsX6_firstPossible D t A) (aX : XA) {Q : Int32 → XV → Prop}   : ∀ (vX : XV) (x2 : Int32) (H : Heap) (locs : List Loc) (ls : Array Slot), wp_X6_firstPossible_27 Q  vX x2 → Wd D A s.heap (xW t aX vX) H locs → lv_has ls 3 [(0, .ref (XA.o aX)), (2, .int x2)] → W p l e ({ frames := 3, cells := 0, slots := 0, locals := 68 } : Room) s m args below meth c H locs 0 0 (Ei below args s A D (fun (u : XV) => (xW t aX u)) (fun (r : Int32) (u : XV) => Q r u) 0 0) (F0 m 27 ls []) := by
  intro vX x2 H locs ls h hw hl
  have hx := X.1.1
  have hb := X.1.2.1
  refine h (fun (vX : XV) (x2 : Int32) => ∀ (H : Heap) (locs : List Loc) (ls : Array Slot), Wd D A s.heap (xW t aX vX) H locs → lv_has ls 3 [(0, .ref (XA.o aX)), (2, .int x2)] → W p l e ({ frames := 3, cells := 0, slots := 0, locals := 68 } : Room) s m args below meth c H locs 0 0 (Ei below args s A D (fun (u : XV) => (xW t aX u)) (fun (r : Int32) (u : XV) => Q r u) 0 0) (F0 m 27 ls [])) (fun vX x2 h H locs ls hw hl => ?_) H locs ls hw hl
  exact kb_X6_firstPossible_27 X aX (fun vX x2 H locs ls q hw hl => q H locs ls hw hl)  vX x2 _ _ _ h hw hl
def wp_X6_firstPossible (vX : XV) (p1 : Int32) (Q : Int32 → XV → Prop) : Prop := wp_X0_isEmpty (XV.board vX) p1 (fun (r_2 : Int32) (vB_1 : BV) => (¬ r_2 = 0 → wp_X3_read (XV.needs vX) vB_1 p1 (fun (vN_3 : NV) (vB_4 : BV) => wp_X6_firstPossible_27 Q  (XV.s_needs (XV.s_board vX vB_4) vN_3) 0)) ∧ (r_2 = 0 → Q (-1) (XV.s_board vX vB_1)))
set_option maxHeartbeats 4000000 in
set_option maxRecDepth 100000 in
theorem c_X6_firstPossible (l : Launch) (D : va_G) (t : T3) (aX : XA) (vX : XV) (p1 : Int32) (Q : Int32 → XV → Prop) (h : wp_X6_firstPossible vX p1 Q) : Ct l yX6_firstPossible wsX6_firstPossible 3 68 0 0 [.ref (XA.o aX), .int p1] D t (xW t aX vX) (fun sz => Qi D (xW t aX vX) (fun (u : XV) => (xW t aX u)) (fun (r : Int32) (u : XV) => Q r u) sz) := by
  refine Ct.of (Qf := fun _ A => va_Qi (fun (r : Int32) (u : XV) => Q r u) (B1 D (fun (u : XV) => (xW t aX u)) A) A) cX6_firstPossible 3 (some .int) (by decide) rfl (Nat.le_of_ble_eq_true rfl) ?_
  intro p e s m below meth c A ls hAe hin X hw hl
  generalize ([.ref (XA.o aX), .int p1] : List Value).toArray = args at X ⊢
  have hl : lv_has ls 3 [(0, .ref (XA.o aX)), (1, .int p1)] := hl
  have hx := X.1.1
  have hb := X.1.2.1
  refine lv_aload_n hx hb dX6_firstPossible_0 rfl (lv_at hl 0 rfl) ?_
  refine r_get (ci := 6) (C := RX6) (T := TX6) (N := 6) X hw 0 rfl rfl 0 (by decide) in_X6_firstPossible_X6 fl_X6_firstPossible_12 (v := .ref (BA.o (XA.board aX))) rfl dX6_firstPossible_1 ?_
  refine lv_iload_n hx hb dX6_firstPossible_4 rfl (lv_at hl 1 rfl) ?_
  refine r_ci X hw (pm_r (pm_l pm_0)) (wn := fun (u : BV) => (xW t aX (XV.s_board vX u))) (fun u => (pm_r (pm_l pm_0)).symm) (r_runV X hw (c_X0_isEmpty l D t (XA.board aX) (XV.board vX) p1 _ h) (pm_r (pm_l pm_0)) (cwV 1 X.1.2.2.2.2 gX6_firstPossible_X0_isEmpty rfl rfl rfl (by decide +kernel) ⟨Nat.le_of_ble_eq_true rfl, Nat.le_of_ble_eq_true rfl⟩) (ci := 0) rfl rfl rfl rfl hl rfl (Nat.le_of_ble_eq_true rfl) dX6_firstPossible_5 ⟨Nat.le_of_ble_eq_true rfl, Nat.le_of_ble_eq_true rfl⟩) (fun r_2 u H locs h hw => ?_)
  obtain ⟨vB_1, rfl⟩ : ∃ z, z = u := ⟨_, rfl⟩
  refine lv_if_ne (tgt := 13) hx hb dX6_firstPossible_8 (by decide) (fun c_10 => ?_) (fun c_10 => ?_)
  · replace h := h.1 c_10
    refine lv_aload_n hx hb dX6_firstPossible_13 rfl (lv_at hl 0 rfl) ?_
    refine r_get (ci := 6) (C := RX6) (T := TX6) (N := 6) X hw 0 rfl rfl 3 (by decide) in_X6_firstPossible_X6 fl_X6_firstPossible_33 (v := .ref (XA.needs aX)) rfl dX6_firstPossible_14 ?_
    refine lv_aload_n hx hb dX6_firstPossible_17 rfl (lv_at hl 0 rfl) ?_
    refine r_get (ci := 6) (C := RX6) (T := TX6) (N := 6) X hw 0 rfl rfl 0 (by decide) in_X6_firstPossible_X6 fl_X6_firstPossible_12 (v := .ref (BA.o (XA.board aX))) rfl dX6_firstPossible_18 ?_
    refine lv_iload_n hx hb dX6_firstPossible_21 rfl (lv_at hl 1 rfl) ?_
    refine r_cv X hw (pm_2 (pm_r (pm_r (pm_r (pm_r (pm_l pm_0))))) (pm_r (pm_l pm_0))) (wn := fun (u : NV × BV) => (xW t aX (XV.s_needs (XV.s_board vX u.2) u.1))) (fun u => (pm_2 (pm_r (pm_r (pm_r (pm_r (pm_l pm_0))))) (pm_r (pm_l pm_0))).symm) (r_runV X hw (c_X3_read l D t (XA.needs aX) (XA.board aX) (XV.needs vX) vB_1 p1 _ h) (pm_2 (pm_r (pm_r (pm_r (pm_r (pm_l pm_0))))) (pm_r (pm_l pm_0))) (cwV 2 X.1.2.2.2.2 gX6_firstPossible_X3_read rfl rfl rfl (by decide +kernel) ⟨Nat.le_of_ble_eq_true rfl, Nat.le_of_ble_eq_true rfl⟩) (ci := 3) rfl rfl rfl rfl hl rfl (Nat.le_of_ble_eq_true rfl) dX6_firstPossible_22 ⟨Nat.le_of_ble_eq_true rfl, Nat.le_of_ble_eq_true rfl⟩) (fun u H locs h hw => ?_)
    obtain ⟨vN_3, vB_4⟩ := u
    refine lv_iconst (v := 0) hx hb dX6_firstPossible_25 (by decide) ?_
    refine lv_istore_n (lv' := [(2, .int 0), (0, .ref (XA.o aX)), (1, .int p1)]) hx hb dX6_firstPossible_26 rfl hl (by decide) rfl (fun ls hl => ?_)
    refine k_X6_firstPossible_27 X aX  _ _ _ _ _ h hw (lv_sub hl [1, 0] rfl)
  replace h := h.2 c_10
  refine lv_iconst (v := (-1)) hx hb dX6_firstPossible_11 (by decide) ?_
  exact e_i (w1 := (fun (u : XV) => (xW t aX u))) X ((XV.s_board vX vB_1)) hw h dX6_firstPossible_12
/-! X6_cellProperty -/
theorem in_X6_cellProperty_X6 : ∀ w ∈ u_ws RX6 TX6 6, w ∈ wsX6_cellProperty := fun w h => (List.mem_cons_of_mem _ (List.mem_append_left _ (List.mem_append_left _ (List.mem_append_right _ h))))
theorem fl_X6_cellProperty_12 : Cond.fieldLink RX6 12 "TwoFacedTiles" "board" "LTwoFacedTiles$Board;" ∈ wsX6_cellProperty := List.mem_of_getElem? (i := 1) rfl
theorem in_X6_cellProperty_X0 : ∀ w ∈ u_ws RX0 TX0 8, w ∈ wsX6_cellProperty := fun w h => (List.mem_cons_of_mem _ (List.mem_append_left _ (List.mem_append_right _ h)))
theorem fl_X6_cellProperty_138 : Cond.fieldLink RX6 138 "TwoFacedTiles$Board" "placings" "[I" ∈ wsX6_cellProperty := List.mem_of_getElem? (i := 2) rfl
def wp_X6_cellProperty (vX : XV) (p1 : Int32) (p2 : Int32) (Q : Int32 → XV → Prop) : Prop := (p2 = 0 → vp_in p1 12 ∧ Q ((BV.placings (XV.board vX)) (Int32.toNatClampNeg p1)) vX) ∧ (p2 = 1 → wp_X0_isFixed (XV.board vX) p1 (fun (r_4 : Int32) (vB_3 : BV) => (r_4 = 0 → Q 0 (XV.s_board vX vB_3)) ∧ (¬ r_4 = 0 → Q 1 (XV.s_board vX vB_3)))) ∧ (p2 = 2 → wp_X6_possibleCount vX p1 (fun (r_8 : Int32) (vX_7 : XV) => Q r_8 vX_7)) ∧ (¬ p2 = 0 → ¬ p2 = 1 → ¬ p2 = 2 → wp_X6_firstPossible vX p1 (fun (r_11 : Int32) (vX_10 : XV) => Q r_11 vX_10))
set_option maxHeartbeats 4000000 in
set_option maxRecDepth 100000 in
theorem c_X6_cellProperty (l : Launch) (D : va_G) (t : T3) (aX : XA) (vX : XV) (p1 : Int32) (p2 : Int32) (Q : Int32 → XV → Prop) (h : wp_X6_cellProperty vX p1 p2 Q) : Ct l yX6_cellProperty wsX6_cellProperty 4 91 0 0 [.ref (XA.o aX), .int p1, .int p2] D t (xW t aX vX) (fun sz => Qi D (xW t aX vX) (fun (u : XV) => (xW t aX u)) (fun (r : Int32) (u : XV) => Q r u) sz) := by
  refine Ct.of (Qf := fun _ A => va_Qi (fun (r : Int32) (u : XV) => Q r u) (B1 D (fun (u : XV) => (xW t aX u)) A) A) cX6_cellProperty 3 (some .int) (by decide) rfl (Nat.le_of_ble_eq_true rfl) ?_
  intro p e s m below meth c A ls hAe hin X hw hl
  generalize ([.ref (XA.o aX), .int p1, .int p2] : List Value).toArray = args at X ⊢
  have hl : lv_has ls 3 [(0, .ref (XA.o aX)), (1, .int p1), (2, .int p2)] := hl
  have hx := X.1.1
  have hb := X.1.2.1
  refine lv_iload_n hx hb dX6_cellProperty_0 rfl (lv_at hl 2 rfl) ?_
  by_cases c_2 : p2 = 0
  · replace h := h.1 c_2
    refine lv_tableIn (off := 27) (tgt := 28) hx hb dX6_cellProperty_1 (by rw [c_2]; decide) (by rw [c_2]; decide) (by rw [c_2]; rfl) (by decide) ?_
    refine lv_aload_n hx hb dX6_cellProperty_28 rfl (lv_at hl 0 rfl) ?_
    refine r_get (ci := 6) (C := RX6) (T := TX6) (N := 6) X hw 0 rfl rfl 0 (by decide) in_X6_cellProperty_X6 fl_X6_cellProperty_12 (v := .ref (BA.o (XA.board aX))) rfl dX6_cellProperty_29 ?_
    refine r_get (ci := 0) (C := RX0) (T := TX0) (N := 8) X hw 1 rfl rfl 5 (by decide) in_X6_cellProperty_X0 fl_X6_cellProperty_138 (v := .ref (BA.placings (XA.board aX))) rfl dX6_cellProperty_32 ?_
    refine lv_iload_n hx hb dX6_cellProperty_35 rfl (lv_at hl 1 rfl) ?_
    obtain ⟨hi_1, h⟩ := h
    refine r_iald (v := ((BV.placings (XV.board vX)) (Int32.toNatClampNeg p1))) X hw 2 rfl hi_1 rfl dX6_cellProperty_36 ?_
    exact e_i (w1 := (fun (u : XV) => (xW t aX u))) X (vX) hw h dX6_cellProperty_37
  by_cases c_6 : p2 = 1
  · replace h := h.2.1 c_6
    refine lv_tableIn (off := 37) (tgt := 38) hx hb dX6_cellProperty_1 (by rw [c_6]; decide) (by rw [c_6]; decide) (by rw [c_6]; rfl) (by decide) ?_
    refine lv_aload_n hx hb dX6_cellProperty_38 rfl (lv_at hl 0 rfl) ?_
    refine r_get (ci := 6) (C := RX6) (T := TX6) (N := 6) X hw 0 rfl rfl 0 (by decide) in_X6_cellProperty_X6 fl_X6_cellProperty_12 (v := .ref (BA.o (XA.board aX))) rfl dX6_cellProperty_39 ?_
    refine lv_iload_n hx hb dX6_cellProperty_42 rfl (lv_at hl 1 rfl) ?_
    refine r_ci X hw (pm_r (pm_l pm_0)) (wn := fun (u : BV) => (xW t aX (XV.s_board vX u))) (fun u => (pm_r (pm_l pm_0)).symm) (r_runV X hw (c_X0_isFixed l D t (XA.board aX) (XV.board vX) p1 _ h) (pm_r (pm_l pm_0)) (cwV 1 X.1.2.2.2.2 gX6_cellProperty_X0_isFixed rfl rfl rfl (by decide +kernel) ⟨Nat.le_of_ble_eq_true rfl, Nat.le_of_ble_eq_true rfl⟩) (ci := 0) rfl rfl rfl rfl hl rfl (Nat.le_of_ble_eq_true rfl) dX6_cellProperty_43 ⟨Nat.le_of_ble_eq_true rfl, Nat.le_of_ble_eq_true rfl⟩) (fun r_4 u H locs h hw => ?_)
    obtain ⟨vB_3, rfl⟩ : ∃ z, z = u := ⟨_, rfl⟩
    refine lv_if_eq (tgt := 53) hx hb dX6_cellProperty_46 (by decide) (fun c_5 => ?_) (fun c_5 => ?_)
    · replace h := h.1 c_5
      refine lv_iconst (v := 0) hx hb dX6_cellProperty_53 (by decide) ?_
      exact e_i (w1 := (fun (u : XV) => (xW t aX u))) X ((XV.s_board vX vB_3)) hw h dX6_cellProperty_54
    replace h := h.2 c_5
    refine lv_iconst (v := 1) hx hb dX6_cellProperty_49 (by decide) ?_
    refine lv_goto (tgt := 54) hx hb dX6_cellProperty_50 (by decide) ?_
    exact e_i (w1 := (fun (u : XV) => (xW t aX u))) X ((XV.s_board vX vB_3)) hw h dX6_cellProperty_54
  by_cases c_9 : p2 = 2
  · replace h := h.2.2.1 c_9
    refine lv_tableIn (off := 54) (tgt := 55) hx hb dX6_cellProperty_1 (by rw [c_9]; decide) (by rw [c_9]; decide) (by rw [c_9]; rfl) (by decide) ?_
    refine lv_aload_n hx hb dX6_cellProperty_55 rfl (lv_at hl 0 rfl) ?_
    refine lv_iload_n hx hb dX6_cellProperty_56 rfl (lv_at hl 1 rfl) ?_
    refine r_ci X hw pm_0 (wn := fun (u : XV) => (xW t aX u)) (fun u => pm_0.symm) (r_runV X hw (c_X6_possibleCount l D t aX vX p1 _ h) pm_0 (cwV 1 X.1.2.2.2.2 gX6_cellProperty_X6_possibleCount rfl rfl rfl (by decide +kernel) ⟨Nat.le_of_ble_eq_true rfl, Nat.le_of_ble_eq_true rfl⟩) (ci := 6) rfl rfl rfl rfl hl rfl (Nat.le_of_ble_eq_true rfl) dX6_cellProperty_57 ⟨Nat.le_of_ble_eq_true rfl, Nat.le_of_ble_eq_true rfl⟩) (fun r_8 u H locs h hw => ?_)
    obtain ⟨vX_7, rfl⟩ : ∃ z, z = u := ⟨_, rfl⟩
    exact e_i (w1 := (fun (u : XV) => (xW t aX u))) X (vX_7) hw h dX6_cellProperty_60
  replace h := h.2.2.2 c_2 c_6 c_9
  refine lv_tableOut (tgt := 61) hx hb dX6_cellProperty_1 (tab_outL 2 (fun k hk => match k, hk with | 0, _ => c_2 | 1, _ => c_6 | 2, _ => c_9 | (z + 3), hk => absurd hk (by omega))) (by decide) ?_
  refine lv_aload_n hx hb dX6_cellProperty_61 rfl (lv_at hl 0 rfl) ?_
  refine lv_iload_n hx hb dX6_cellProperty_62 rfl (lv_at hl 1 rfl) ?_
  refine r_ci X hw pm_0 (wn := fun (u : XV) => (xW t aX u)) (fun u => pm_0.symm) (r_runV X hw (c_X6_firstPossible l D t aX vX p1 _ h) pm_0 (cwV 1 X.1.2.2.2.2 gX6_cellProperty_X6_firstPossible rfl rfl rfl (by decide +kernel) ⟨Nat.le_of_ble_eq_true rfl, Nat.le_of_ble_eq_true rfl⟩) (ci := 6) rfl rfl rfl rfl hl rfl (Nat.le_of_ble_eq_true rfl) dX6_cellProperty_63 ⟨Nat.le_of_ble_eq_true rfl, Nat.le_of_ble_eq_true rfl⟩) (fun r_11 u H locs h hw => ?_)
  obtain ⟨vX_10, rfl⟩ : ∃ z, z = u := ⟨_, rfl⟩
  exact e_i (w1 := (fun (u : XV) => (xW t aX u))) X (vX_10) hw h dX6_cellProperty_66
/-! X6_colorAt -/
theorem in_X6_colorAt_X6 : ∀ w ∈ u_ws RX6 TX6 6, w ∈ wsX6_colorAt := fun w h => (List.mem_cons_of_mem _ (List.mem_append_left _ (List.mem_append_right _ h)))
theorem fl_X6_colorAt_12 : Cond.fieldLink RX6 12 "TwoFacedTiles" "board" "LTwoFacedTiles$Board;" ∈ wsX6_colorAt := List.mem_of_getElem? (i := 1) rfl
def wp_X6_colorAt (vX : XV) (p1 : Int32) (p2 : Int32) (p3 : Int32) (Q : Int32 → XV → Prop) : Prop := wp_X0_isEmpty (XV.board vX) p1 (fun (r_2 : Int32) (vB_1 : BV) => (r_2 = 0 → wp_X0_lookIn vB_1 p1 (fun (r_4 : Int32) (vB_3 : BV) => wp_X6_colorsAt  r_4 p2 (fun (r_5 : Int32) => (p3 = 0 → Q (r_5 &&& 15) (XV.s_board vX vB_3)) ∧ (¬ p3 = 0 → Q (ushr r_5 16) (XV.s_board vX vB_3))))) ∧ (¬ r_2 = 0 → Q (-1) (XV.s_board vX vB_1)))
set_option maxHeartbeats 4000000 in
set_option maxRecDepth 100000 in
theorem c_X6_colorAt (l : Launch) (D : va_G) (t : T3) (aX : XA) (vX : XV) (p1 : Int32) (p2 : Int32) (p3 : Int32) (Q : Int32 → XV → Prop) (h : wp_X6_colorAt vX p1 p2 p3 Q) : Ct l yX6_colorAt wsX6_colorAt 1 21 0 0 [.ref (XA.o aX), .int p1, .int p2, .int p3] D t (xW t aX vX) (fun sz => Qi D (xW t aX vX) (fun (u : XV) => (xW t aX u)) (fun (r : Int32) (u : XV) => Q r u) sz) := by
  refine Ct.of (Qf := fun _ A => va_Qi (fun (r : Int32) (u : XV) => Q r u) (B1 D (fun (u : XV) => (xW t aX u)) A) A) cX6_colorAt 5 (some .int) (by decide) rfl (Nat.le_of_ble_eq_true rfl) ?_
  intro p e s m below meth c A ls hAe hin X hw hl
  generalize ([.ref (XA.o aX), .int p1, .int p2, .int p3] : List Value).toArray = args at X ⊢
  have hl : lv_has ls 5 [(0, .ref (XA.o aX)), (1, .int p1), (2, .int p2), (3, .int p3)] := hl
  have hx := X.1.1
  have hb := X.1.2.1
  refine lv_aload_n hx hb dX6_colorAt_0 rfl (lv_at hl 0 rfl) ?_
  refine r_get (ci := 6) (C := RX6) (T := TX6) (N := 6) X hw 0 rfl rfl 0 (by decide) in_X6_colorAt_X6 fl_X6_colorAt_12 (v := .ref (BA.o (XA.board aX))) rfl dX6_colorAt_1 ?_
  refine lv_iload_n hx hb dX6_colorAt_4 rfl (lv_at hl 1 rfl) ?_
  refine r_ci X hw (pm_r (pm_l pm_0)) (wn := fun (u : BV) => (xW t aX (XV.s_board vX u))) (fun u => (pm_r (pm_l pm_0)).symm) (r_runV X hw (c_X0_isEmpty l D t (XA.board aX) (XV.board vX) p1 _ h) (pm_r (pm_l pm_0)) (cwV 1 X.1.2.2.2.2 gX6_colorAt_X0_isEmpty rfl rfl rfl (by decide +kernel) ⟨Nat.le_of_ble_eq_true rfl, Nat.le_of_ble_eq_true rfl⟩) (ci := 0) rfl rfl rfl rfl hl rfl (Nat.le_of_ble_eq_true rfl) dX6_colorAt_5 ⟨Nat.le_of_ble_eq_true rfl, Nat.le_of_ble_eq_true rfl⟩) (fun r_2 u H locs h hw => ?_)
  obtain ⟨vB_1, rfl⟩ : ∃ z, z = u := ⟨_, rfl⟩
  refine lv_if_eq (tgt := 13) hx hb dX6_colorAt_8 (by decide) (fun c_7 => ?_) (fun c_7 => ?_)
  · replace h := h.1 c_7
    refine lv_aload_n hx hb dX6_colorAt_13 rfl (lv_at hl 0 rfl) ?_
    refine r_get (ci := 6) (C := RX6) (T := TX6) (N := 6) X hw 0 rfl rfl 0 (by decide) in_X6_colorAt_X6 fl_X6_colorAt_12 (v := .ref (BA.o (XA.board aX))) rfl dX6_colorAt_14 ?_
    refine lv_iload_n hx hb dX6_colorAt_17 rfl (lv_at hl 1 rfl) ?_
    refine r_ci X hw (pm_r (pm_l pm_0)) (wn := fun (u : BV) => (xW t aX (XV.s_board vX u))) (fun u => (pm_r (pm_l pm_0)).symm) (r_runV X hw (c_X0_lookIn l D t (XA.board aX) vB_1 p1 _ h) (pm_r (pm_l pm_0)) (cwV 1 X.1.2.2.2.2 gX6_colorAt_X0_lookIn rfl rfl rfl (by decide +kernel) ⟨Nat.le_of_ble_eq_true rfl, Nat.le_of_ble_eq_true rfl⟩) (ci := 0) rfl rfl rfl rfl hl rfl (Nat.le_of_ble_eq_true rfl) dX6_colorAt_18 ⟨Nat.le_of_ble_eq_true rfl, Nat.le_of_ble_eq_true rfl⟩) (fun r_4 u H locs h hw => ?_)
    obtain ⟨vB_3, rfl⟩ : ∃ z, z = u := ⟨_, rfl⟩
    refine lv_iload_n hx hb dX6_colorAt_21 rfl (lv_at hl 2 rfl) ?_
    refine r_ci X hw pm_n (wn := fun (u : Unit) => (xW t aX (XV.s_board vX vB_3))) (fun u => (pm_n).symm) (r_runS X hw (c_X6_colorsAt l D t r_4 p2 _ h) pm_n (va_cwS 2 X.1.2.2.2.2 gX6_colorAt_X6_colorsAt rfl rfl rfl (by decide +kernel) ⟨Nat.le_of_ble_eq_true rfl, Nat.le_of_ble_eq_true rfl⟩) rfl hl rfl (Nat.le_of_ble_eq_true rfl) dX6_colorAt_22 ⟨Nat.le_of_ble_eq_true rfl, Nat.le_of_ble_eq_true rfl⟩) (fun r_5 u H locs h hw => ?_)
    refine lv_istore (lv' := [(4, .int r_5), (0, .ref (XA.o aX)), (1, .int p1), (2, .int p2), (3, .int p3)]) hx hb dX6_colorAt_25 hl (by decide) rfl (fun ls hl => ?_)
    refine lv_iload_n hx hb dX6_colorAt_27 rfl (lv_at hl 4 rfl) ?_
    refine lv_if_eq (tgt := 39) hx hb dX6_colorAt_28 (by decide) (fun c_6 => ?_) (fun c_6 => ?_)
    · replace h := h.1 c_6
      refine lv_iload hx hb dX6_colorAt_39 (lv_at hl 0 rfl) ?_
      refine lv_bipush (v := 15) hx hb dX6_colorAt_41 (by decide) ?_
      refine lv_iand hx hb dX6_colorAt_43 ?_
      exact e_i (w1 := (fun (u : XV) => (xW t aX u))) X ((XV.s_board vX vB_3)) hw h dX6_colorAt_44
    replace h := h.2 c_6
    refine lv_iload hx hb dX6_colorAt_31 (lv_at hl 0 rfl) ?_
    refine lv_bipush (v := 16) hx hb dX6_colorAt_33 (by decide) ?_
    refine r_iushr hx hb dX6_colorAt_35 ?_
    refine lv_goto (tgt := 44) hx hb dX6_colorAt_36 (by decide) ?_
    exact e_i (w1 := (fun (u : XV) => (xW t aX u))) X ((XV.s_board vX vB_3)) hw h dX6_colorAt_44
  replace h := h.2 c_7
  refine lv_iconst (v := (-1)) hx hb dX6_colorAt_11 (by decide) ?_
  exact e_i (w1 := (fun (u : XV) => (xW t aX u))) X ((XV.s_board vX vB_1)) hw h dX6_colorAt_12
/-! X6_tileProperty -/
theorem in_X6_tileProperty_X6 : ∀ w ∈ u_ws RX6 TX6 6, w ∈ wsX6_tileProperty := fun w h => (List.mem_cons_of_mem _ (List.mem_append_left _ (List.mem_append_right _ h)))
theorem fl_X6_tileProperty_12 : Cond.fieldLink RX6 12 "TwoFacedTiles" "board" "LTwoFacedTiles$Board;" ∈ wsX6_tileProperty := List.mem_of_getElem? (i := 1) rfl
theorem in_X6_tileProperty_X0 : ∀ w ∈ u_ws RX0 TX0 8, w ∈ wsX6_tileProperty := fun w h => (List.mem_cons_of_mem _ (List.mem_append_right _ h))
theorem fl_X6_tileProperty_302 : Cond.fieldLink RX6 302 "TwoFacedTiles$Board" "places" "[I" ∈ wsX6_tileProperty := List.mem_of_getElem? (i := 2) rfl
def wp_X6_tileProperty (vX : XV) (p1 : Int32) (p2 : Int32) (Q : Int32 → XV → Prop) : Prop := (p2 = 0 → wp_X0_faceOf (XV.board vX) p1 0 (fun (r_2 : Int32) (vB_1 : BV) => Q r_2 (XV.s_board vX vB_1))) ∧ (p2 = 1 → wp_X0_faceOf (XV.board vX) p1 1 (fun (r_5 : Int32) (vB_4 : BV) => Q r_5 (XV.s_board vX vB_4))) ∧ (p2 = 2 → vp_in p1 12 ∧ Q ((BV.places (XV.board vX)) (Int32.toNatClampNeg p1)) vX) ∧ (¬ p2 = 0 → ¬ p2 = 1 → ¬ p2 = 2 → wp_X0_lowestLike (XV.board vX) p1 (fun (r_10 : Int32) (vB_9 : BV) => Q r_10 (XV.s_board vX vB_9)))
set_option maxHeartbeats 4000000 in
set_option maxRecDepth 100000 in
theorem c_X6_tileProperty (l : Launch) (D : va_G) (t : T3) (aX : XA) (vX : XV) (p1 : Int32) (p2 : Int32) (Q : Int32 → XV → Prop) (h : wp_X6_tileProperty vX p1 p2 Q) : Ct l yX6_tileProperty wsX6_tileProperty 2 46 0 0 [.ref (XA.o aX), .int p1, .int p2] D t (xW t aX vX) (fun sz => Qi D (xW t aX vX) (fun (u : XV) => (xW t aX u)) (fun (r : Int32) (u : XV) => Q r u) sz) := by
  refine Ct.of (Qf := fun _ A => va_Qi (fun (r : Int32) (u : XV) => Q r u) (B1 D (fun (u : XV) => (xW t aX u)) A) A) cX6_tileProperty 3 (some .int) (by decide) rfl (Nat.le_of_ble_eq_true rfl) ?_
  intro p e s m below meth c A ls hAe hin X hw hl
  generalize ([.ref (XA.o aX), .int p1, .int p2] : List Value).toArray = args at X ⊢
  have hl : lv_has ls 3 [(0, .ref (XA.o aX)), (1, .int p1), (2, .int p2)] := hl
  have hx := X.1.1
  have hb := X.1.2.1
  refine lv_iload_n hx hb dX6_tileProperty_0 rfl (lv_at hl 2 rfl) ?_
  by_cases c_3 : p2 = 0
  · replace h := h.1 c_3
    refine lv_tableIn (off := 27) (tgt := 28) hx hb dX6_tileProperty_1 (by rw [c_3]; decide) (by rw [c_3]; decide) (by rw [c_3]; rfl) (by decide) ?_
    refine lv_aload_n hx hb dX6_tileProperty_28 rfl (lv_at hl 0 rfl) ?_
    refine r_get (ci := 6) (C := RX6) (T := TX6) (N := 6) X hw 0 rfl rfl 0 (by decide) in_X6_tileProperty_X6 fl_X6_tileProperty_12 (v := .ref (BA.o (XA.board aX))) rfl dX6_tileProperty_29 ?_
    refine lv_iload_n hx hb dX6_tileProperty_32 rfl (lv_at hl 1 rfl) ?_
    refine lv_iconst (v := 0) hx hb dX6_tileProperty_33 (by decide) ?_
    refine r_ci X hw (pm_r (pm_l pm_0)) (wn := fun (u : BV) => (xW t aX (XV.s_board vX u))) (fun u => (pm_r (pm_l pm_0)).symm) (r_runV X hw (c_X0_faceOf l D t (XA.board aX) (XV.board vX) p1 0 _ h) (pm_r (pm_l pm_0)) (cwV 2 X.1.2.2.2.2 gX6_tileProperty_X0_faceOf rfl rfl rfl (by decide +kernel) ⟨Nat.le_of_ble_eq_true rfl, Nat.le_of_ble_eq_true rfl⟩) (ci := 0) rfl rfl rfl rfl hl rfl (Nat.le_of_ble_eq_true rfl) dX6_tileProperty_34 ⟨Nat.le_of_ble_eq_true rfl, Nat.le_of_ble_eq_true rfl⟩) (fun r_2 u H locs h hw => ?_)
    obtain ⟨vB_1, rfl⟩ : ∃ z, z = u := ⟨_, rfl⟩
    exact e_i (w1 := (fun (u : XV) => (xW t aX u))) X ((XV.s_board vX vB_1)) hw h dX6_tileProperty_37
  by_cases c_6 : p2 = 1
  · replace h := h.2.1 c_6
    refine lv_tableIn (off := 37) (tgt := 38) hx hb dX6_tileProperty_1 (by rw [c_6]; decide) (by rw [c_6]; decide) (by rw [c_6]; rfl) (by decide) ?_
    refine lv_aload_n hx hb dX6_tileProperty_38 rfl (lv_at hl 0 rfl) ?_
    refine r_get (ci := 6) (C := RX6) (T := TX6) (N := 6) X hw 0 rfl rfl 0 (by decide) in_X6_tileProperty_X6 fl_X6_tileProperty_12 (v := .ref (BA.o (XA.board aX))) rfl dX6_tileProperty_39 ?_
    refine lv_iload_n hx hb dX6_tileProperty_42 rfl (lv_at hl 1 rfl) ?_
    refine lv_iconst (v := 1) hx hb dX6_tileProperty_43 (by decide) ?_
    refine r_ci X hw (pm_r (pm_l pm_0)) (wn := fun (u : BV) => (xW t aX (XV.s_board vX u))) (fun u => (pm_r (pm_l pm_0)).symm) (r_runV X hw (c_X0_faceOf l D t (XA.board aX) (XV.board vX) p1 1 _ h) (pm_r (pm_l pm_0)) (cwV 2 X.1.2.2.2.2 gX6_tileProperty_X0_faceOf rfl rfl rfl (by decide +kernel) ⟨Nat.le_of_ble_eq_true rfl, Nat.le_of_ble_eq_true rfl⟩) (ci := 0) rfl rfl rfl rfl hl rfl (Nat.le_of_ble_eq_true rfl) dX6_tileProperty_44 ⟨Nat.le_of_ble_eq_true rfl, Nat.le_of_ble_eq_true rfl⟩) (fun r_5 u H locs h hw => ?_)
    obtain ⟨vB_4, rfl⟩ : ∃ z, z = u := ⟨_, rfl⟩
    exact e_i (w1 := (fun (u : XV) => (xW t aX u))) X ((XV.s_board vX vB_4)) hw h dX6_tileProperty_47
  by_cases c_8 : p2 = 2
  · replace h := h.2.2.1 c_8
    refine lv_tableIn (off := 47) (tgt := 48) hx hb dX6_tileProperty_1 (by rw [c_8]; decide) (by rw [c_8]; decide) (by rw [c_8]; rfl) (by decide) ?_
    refine lv_aload_n hx hb dX6_tileProperty_48 rfl (lv_at hl 0 rfl) ?_
    refine r_get (ci := 6) (C := RX6) (T := TX6) (N := 6) X hw 0 rfl rfl 0 (by decide) in_X6_tileProperty_X6 fl_X6_tileProperty_12 (v := .ref (BA.o (XA.board aX))) rfl dX6_tileProperty_49 ?_
    refine r_get (ci := 0) (C := RX0) (T := TX0) (N := 8) X hw 1 rfl rfl 6 (by decide) in_X6_tileProperty_X0 fl_X6_tileProperty_302 (v := .ref (BA.places (XA.board aX))) rfl dX6_tileProperty_52 ?_
    refine lv_iload_n hx hb dX6_tileProperty_55 rfl (lv_at hl 1 rfl) ?_
    obtain ⟨hi_7, h⟩ := h
    refine r_iald (v := ((BV.places (XV.board vX)) (Int32.toNatClampNeg p1))) X hw 3 rfl hi_7 rfl dX6_tileProperty_56 ?_
    exact e_i (w1 := (fun (u : XV) => (xW t aX u))) X (vX) hw h dX6_tileProperty_57
  replace h := h.2.2.2 c_3 c_6 c_8
  refine lv_tableOut (tgt := 58) hx hb dX6_tileProperty_1 (tab_outL 2 (fun k hk => match k, hk with | 0, _ => c_3 | 1, _ => c_6 | 2, _ => c_8 | (z + 3), hk => absurd hk (by omega))) (by decide) ?_
  refine lv_aload_n hx hb dX6_tileProperty_58 rfl (lv_at hl 0 rfl) ?_
  refine r_get (ci := 6) (C := RX6) (T := TX6) (N := 6) X hw 0 rfl rfl 0 (by decide) in_X6_tileProperty_X6 fl_X6_tileProperty_12 (v := .ref (BA.o (XA.board aX))) rfl dX6_tileProperty_59 ?_
  refine lv_iload_n hx hb dX6_tileProperty_62 rfl (lv_at hl 1 rfl) ?_
  refine r_ci X hw (pm_r (pm_l pm_0)) (wn := fun (u : BV) => (xW t aX (XV.s_board vX u))) (fun u => (pm_r (pm_l pm_0)).symm) (r_runV X hw (c_X0_lowestLike l D t (XA.board aX) (XV.board vX) p1 _ h) (pm_r (pm_l pm_0)) (cwV 1 X.1.2.2.2.2 gX6_tileProperty_X0_lowestLike rfl rfl rfl (by decide +kernel) ⟨Nat.le_of_ble_eq_true rfl, Nat.le_of_ble_eq_true rfl⟩) (ci := 0) rfl rfl rfl rfl hl rfl (Nat.le_of_ble_eq_true rfl) dX6_tileProperty_63 ⟨Nat.le_of_ble_eq_true rfl, Nat.le_of_ble_eq_true rfl⟩) (fun r_10 u H locs h hw => ?_)
  obtain ⟨vB_9, rfl⟩ : ∃ z, z = u := ⟨_, rfl⟩
  exact e_i (w1 := (fun (u : XV) => (xW t aX u))) X ((XV.s_board vX vB_9)) hw h dX6_tileProperty_66
/-! X6_misfits -/
theorem in_X6_misfits_X6 : ∀ w ∈ u_ws RX6 TX6 6, w ∈ wsX6_misfits := fun w h => (List.mem_cons_of_mem _ (List.mem_append_left _ (List.mem_append_left _ (List.mem_append_right _ h))))
theorem fl_X6_misfits_12 : Cond.fieldLink RX6 12 "TwoFacedTiles" "board" "LTwoFacedTiles$Board;" ∈ wsX6_misfits := List.mem_of_getElem? (i := 1) rfl
theorem fl_X6_misfits_33 : Cond.fieldLink RX6 33 "TwoFacedTiles" "needs" "LTwoFacedTiles$Needs;" ∈ wsX6_misfits := List.mem_of_getElem? (i := 2) rfl
def wp_X6_misfits_59 (P : XV → Int32 → Int32 → Prop) (Q : Int32 → XV → Prop) (vX : XV) (x1 : Int32) (x2 : Int32) : Prop := ∀ x2_5 : Int32, x2_5 = x2 + 1 → P vX x1 x2_5
set_option maxHeartbeats 4000000 in
set_option maxRecDepth 100000 in
theorem k_X6_misfits_59 {p : Program} {l : Launch} {e : Env} {s : State} {m : MethodId} {below : List Frame} {meth : Method} {c : Code} {args : Array Value} {D : va_G} {t : T3} {A : Nat → Prop} (X : Cx p s m meth c args cX6_misfits 3 (some .int) RX6 wsX6_misfits D t A) (aX : XA) {P : XV → Int32 → Int32 → Prop} {Q : Int32 → XV → Prop} (hP : ∀ (vX : XV) (x1 : Int32) (x2 : Int32) (H : Heap) (locs : List Loc) (ls : Array Slot), P vX x1 x2 → Wd D A s.heap (xW t aX vX) H locs → lv_has ls 3 [(0, .ref (XA.o aX)), (1, .int x1), (2, .int x2)] → W p l e ({ frames := 3, cells := 0, slots := 0, locals := 68 } : Room) s m args below meth c H locs 0 0 (Ei below args s A D (fun (u : XV) => (xW t aX u)) (fun (r : Int32) (u : XV) => Q r u) 0 0) (F0 m 4 ls [])) : ∀ (vX : XV) (x1 : Int32) (x2 : Int32) (H : Heap) (locs : List Loc) (ls : Array Slot), wp_X6_misfits_59 P Q vX x1 x2 → Wd D A s.heap (xW t aX vX) H locs → lv_has ls 3 [(0, .ref (XA.o aX)), (1, .int x1), (2, .int x2)] → W p l e ({ frames := 3, cells := 0, slots := 0, locals := 68 } : Room) s m args below meth c H locs 0 0 (Ei below args s A D (fun (u : XV) => (xW t aX u)) (fun (r : Int32) (u : XV) => Q r u) 0 0) (F0 m 59 ls []) := by
  intro vX x1 x2 H locs ls h hw hl
  have hx := X.1.1
  have hb := X.1.2.1
  obtain ⟨x2_5, ex2_5⟩ : ∃ z : Int32, z = x2 + 1 := ⟨_, rfl⟩
  replace h := h x2_5 ex2_5
  refine lv_iinc (v := x2_5) (lv' := [(2, .int x2_5), (0, .ref (XA.o aX)), (1, .int x1)]) hx hb dX6_misfits_59 hl (k := 2) rfl (by rw [ex2_5]; rfl) (by decide) rfl (fun ls hl => ?_)
  refine lv_goto (tgt := 4) hx hb dX6_misfits_62 (by decide) ?_
  exact hP _ _ _ _ _ _ h hw (lv_sub hl [1, 2, 0] rfl)
def bd_X6_misfits_4 (Q : Int32 → XV → Prop) (P : XV → Int32 → Int32 → Prop) (vX : XV) (x1 : Int32) (x2 : Int32) : Prop := wp_X0_cells (XV.board vX)  (fun (r_2 : Int32) (vB_1 : BV) => (r_2 ≤ x2 → Q x1 (XV.s_board vX vB_1)) ∧ (¬ r_2 ≤ x2 → wp_X0_isEmpty vB_1 x2 (fun (r_4 : Int32) (vB_3 : BV) => (¬ r_4 = 0 → wp_X6_misfits_59  P Q (XV.s_board vX vB_3) x1 x2) ∧ (r_4 = 0 → wp_X3_read (XV.needs vX) vB_3 x2 (fun (vN_6 : NV) (vB_7 : BV) => wp_X0_lookIn vB_7 x2 (fun (r_9 : Int32) (vB_8 : BV) => wp_X3_reasonAgainst vN_6 r_9 (fun (r_11 : Int32) (vN_10 : NV) => (r_11 = 0 → wp_X6_misfits_59  P Q (XV.s_needs (XV.s_board vX vB_8) vN_10) x1 x2) ∧ (¬ r_11 = 0 → ∀ x1_12 : Int32, x1_12 = x1 + 1 → wp_X6_misfits_59  P Q (XV.s_needs (XV.s_board vX vB_8) vN_10) x1_12 x2))))))))
def wp_X6_misfits_4 (Q : Int32 → XV → Prop)  (vX : XV) (x1 : Int32) (x2 : Int32) : Prop := ∀ P : XV → Int32 → Int32 → Prop, (∀ (vX : XV) (x1 : Int32) (x2 : Int32), bd_X6_misfits_4 Q P  vX x1 x2 → P vX x1 x2) → P vX x1 x2
set_option maxHeartbeats 4000000 in
set_option maxRecDepth 100000 in
theorem kb_X6_misfits_4 {p : Program} {l : Launch} {e : Env} {s : State} {m : MethodId} {below : List Frame} {meth : Method} {c : Code} {args : Array Value} {D : va_G} {t : T3} {A : Nat → Prop} (X : Cx p s m meth c args cX6_misfits 3 (some .int) RX6 wsX6_misfits D t A) (aX : XA) {Q : Int32 → XV → Prop} {P : XV → Int32 → Int32 → Prop} (hP : ∀ (vX : XV) (x1 : Int32) (x2 : Int32) (H : Heap) (locs : List Loc) (ls : Array Slot), P vX x1 x2 → Wd D A s.heap (xW t aX vX) H locs → lv_has ls 3 [(0, .ref (XA.o aX)), (1, .int x1), (2, .int x2)] → W p l e ({ frames := 3, cells := 0, slots := 0, locals := 68 } : Room) s m args below meth c H locs 0 0 (Ei below args s A D (fun (u : XV) => (xW t aX u)) (fun (r : Int32) (u : XV) => Q r u) 0 0) (F0 m 4 ls [])) : ∀ (vX : XV) (x1 : Int32) (x2 : Int32) (H : Heap) (locs : List Loc) (ls : Array Slot), bd_X6_misfits_4 Q P  vX x1 x2 → Wd D A s.heap (xW t aX vX) H locs → lv_has ls 3 [(0, .ref (XA.o aX)), (1, .int x1), (2, .int x2)] → W p l e ({ frames := 3, cells := 0, slots := 0, locals := 68 } : Room) s m args below meth c H locs 0 0 (Ei below args s A D (fun (u : XV) => (xW t aX u)) (fun (r : Int32) (u : XV) => Q r u) 0 0) (F0 m 4 ls []) := by
  intro vX x1 x2 H locs ls h hw hl
  have hx := X.1.1
  have hb := X.1.2.1
  refine lv_iload_n hx hb dX6_misfits_4 rfl (lv_at hl 2 rfl) ?_
  refine lv_aload_n hx hb dX6_misfits_5 rfl (lv_at hl 0 rfl) ?_
  refine r_get (ci := 6) (C := RX6) (T := TX6) (N := 6) X hw 0 rfl rfl 0 (by decide) in_X6_misfits_X6 fl_X6_misfits_12 (v := .ref (BA.o (XA.board aX))) rfl dX6_misfits_6 ?_
  refine r_ci X hw (pm_r (pm_l pm_0)) (wn := fun (u : BV) => (xW t aX (XV.s_board vX u))) (fun u => (pm_r (pm_l pm_0)).symm) (r_runV X hw (c_X0_cells l D t (XA.board aX) (XV.board vX) _ h) (pm_r (pm_l pm_0)) (cwV 0 X.1.2.2.2.2 gX6_misfits_X0_cells rfl rfl rfl (by decide +kernel) ⟨Nat.le_of_ble_eq_true rfl, Nat.le_of_ble_eq_true rfl⟩) (ci := 0) rfl rfl rfl rfl hl rfl (Nat.le_of_ble_eq_true rfl) dX6_misfits_9 ⟨Nat.le_of_ble_eq_true rfl, Nat.le_of_ble_eq_true rfl⟩) (fun r_2 u H locs h hw => ?_)
  obtain ⟨vB_1, rfl⟩ : ∃ z, z = u := ⟨_, rfl⟩
  refine lv_icmp_ge (tgt := 65) hx hb dX6_misfits_12 (by decide) (fun c_15 => ?_) (fun c_15 => ?_)
  · replace h := h.1 c_15
    refine lv_iload_n hx hb dX6_misfits_65 rfl (lv_at hl 1 rfl) ?_
    exact e_i (w1 := (fun (u : XV) => (xW t aX u))) X ((XV.s_board vX vB_1)) hw h dX6_misfits_66
  replace h := h.2 c_15
  refine lv_aload_n hx hb dX6_misfits_15 rfl (lv_at hl 0 rfl) ?_
  refine r_get (ci := 6) (C := RX6) (T := TX6) (N := 6) X hw 0 rfl rfl 0 (by decide) in_X6_misfits_X6 fl_X6_misfits_12 (v := .ref (BA.o (XA.board aX))) rfl dX6_misfits_16 ?_
  refine lv_iload_n hx hb dX6_misfits_19 rfl (lv_at hl 2 rfl) ?_
  refine r_ci X hw (pm_r (pm_l pm_0)) (wn := fun (u : BV) => (xW t aX (XV.s_board vX u))) (fun u => (pm_r (pm_l pm_0)).symm) (r_runV X hw (c_X0_isEmpty l D t (XA.board aX) vB_1 x2 _ h) (pm_r (pm_l pm_0)) (cwV 1 X.1.2.2.2.2 gX6_misfits_X0_isEmpty rfl rfl rfl (by decide +kernel) ⟨Nat.le_of_ble_eq_true rfl, Nat.le_of_ble_eq_true rfl⟩) (ci := 0) rfl rfl rfl rfl hl rfl (Nat.le_of_ble_eq_true rfl) dX6_misfits_20 ⟨Nat.le_of_ble_eq_true rfl, Nat.le_of_ble_eq_true rfl⟩) (fun r_4 u H locs h hw => ?_)
  obtain ⟨vB_3, rfl⟩ : ∃ z, z = u := ⟨_, rfl⟩
  refine lv_if_ne (tgt := 59) hx hb dX6_misfits_23 (by decide) (fun c_14 => ?_) (fun c_14 => ?_)
  · replace h := h.1 c_14
    exact k_X6_misfits_59 X aX hP _ _ _ _ _ _ h hw hl
  replace h := h.2 c_14
  refine lv_aload_n hx hb dX6_misfits_26 rfl (lv_at hl 0 rfl) ?_
  refine r_get (ci := 6) (C := RX6) (T := TX6) (N := 6) X hw 0 rfl rfl 3 (by decide) in_X6_misfits_X6 fl_X6_misfits_33 (v := .ref (XA.needs aX)) rfl dX6_misfits_27 ?_
  refine lv_aload_n hx hb dX6_misfits_30 rfl (lv_at hl 0 rfl) ?_
  refine r_get (ci := 6) (C := RX6) (T := TX6) (N := 6) X hw 0 rfl rfl 0 (by decide) in_X6_misfits_X6 fl_X6_misfits_12 (v := .ref (BA.o (XA.board aX))) rfl dX6_misfits_31 ?_
  refine lv_iload_n hx hb dX6_misfits_34 rfl (lv_at hl 2 rfl) ?_
  refine r_cv X hw (pm_2 (pm_r (pm_r (pm_r (pm_r (pm_l pm_0))))) (pm_r (pm_l pm_0))) (wn := fun (u : NV × BV) => (xW t aX (XV.s_needs (XV.s_board vX u.2) u.1))) (fun u => (pm_2 (pm_r (pm_r (pm_r (pm_r (pm_l pm_0))))) (pm_r (pm_l pm_0))).symm) (r_runV X hw (c_X3_read l D t (XA.needs aX) (XA.board aX) (XV.needs vX) vB_3 x2 _ h) (pm_2 (pm_r (pm_r (pm_r (pm_r (pm_l pm_0))))) (pm_r (pm_l pm_0))) (cwV 2 X.1.2.2.2.2 gX6_misfits_X3_read rfl rfl rfl (by decide +kernel) ⟨Nat.le_of_ble_eq_true rfl, Nat.le_of_ble_eq_true rfl⟩) (ci := 3) rfl rfl rfl rfl hl rfl (Nat.le_of_ble_eq_true rfl) dX6_misfits_35 ⟨Nat.le_of_ble_eq_true rfl, Nat.le_of_ble_eq_true rfl⟩) (fun u H locs h hw => ?_)
  obtain ⟨vN_6, vB_7⟩ := u
  refine lv_aload_n hx hb dX6_misfits_38 rfl (lv_at hl 0 rfl) ?_
  refine r_get (ci := 6) (C := RX6) (T := TX6) (N := 6) X hw 0 rfl rfl 3 (by decide) in_X6_misfits_X6 fl_X6_misfits_33 (v := .ref (XA.needs aX)) rfl dX6_misfits_39 ?_
  refine lv_aload_n hx hb dX6_misfits_42 rfl (lv_at hl 0 rfl) ?_
  refine r_get (ci := 6) (C := RX6) (T := TX6) (N := 6) X hw 0 rfl rfl 0 (by decide) in_X6_misfits_X6 fl_X6_misfits_12 (v := .ref (BA.o (XA.board aX))) rfl dX6_misfits_43 ?_
  refine lv_iload_n hx hb dX6_misfits_46 rfl (lv_at hl 2 rfl) ?_
  refine r_ci X hw (pm_r (pm_l pm_0)) (wn := fun (u : BV) => (xW t aX (XV.s_needs (XV.s_board vX u) vN_6))) (fun u => (pm_r (pm_l pm_0)).symm) (r_runV X hw (c_X0_lookIn l D t (XA.board aX) vB_7 x2 _ h) (pm_r (pm_l pm_0)) (cwV 1 X.1.2.2.2.2 gX6_misfits_X0_lookIn rfl rfl rfl (by decide +kernel) ⟨Nat.le_of_ble_eq_true rfl, Nat.le_of_ble_eq_true rfl⟩) (ci := 0) rfl rfl rfl rfl hl rfl (Nat.le_of_ble_eq_true rfl) dX6_misfits_47 ⟨Nat.le_of_ble_eq_true rfl, Nat.le_of_ble_eq_true rfl⟩) (fun r_9 u H locs h hw => ?_)
  obtain ⟨vB_8, rfl⟩ : ∃ z, z = u := ⟨_, rfl⟩
  refine r_ci X hw (pm_r (pm_r (pm_r (pm_r (pm_l pm_0))))) (wn := fun (u : NV) => (xW t aX (XV.s_needs (XV.s_board vX vB_8) u))) (fun u => (pm_r (pm_r (pm_r (pm_r (pm_l pm_0))))).symm) (r_runV X hw (c_X3_reasonAgainst l D t (XA.needs aX) vN_6 r_9 _ h) (pm_r (pm_r (pm_r (pm_r (pm_l pm_0))))) (cwV 1 X.1.2.2.2.2 gX6_misfits_X3_reasonAgainst rfl rfl rfl (by decide +kernel) ⟨Nat.le_of_ble_eq_true rfl, Nat.le_of_ble_eq_true rfl⟩) (ci := 3) rfl rfl rfl rfl hl rfl (Nat.le_of_ble_eq_true rfl) dX6_misfits_50 ⟨Nat.le_of_ble_eq_true rfl, Nat.le_of_ble_eq_true rfl⟩) (fun r_11 u H locs h hw => ?_)
  obtain ⟨vN_10, rfl⟩ : ∃ z, z = u := ⟨_, rfl⟩
  refine lv_if_eq (tgt := 59) hx hb dX6_misfits_53 (by decide) (fun c_13 => ?_) (fun c_13 => ?_)
  · replace h := h.1 c_13
    exact k_X6_misfits_59 X aX hP _ _ _ _ _ _ h hw hl
  replace h := h.2 c_13
  obtain ⟨x1_12, ex1_12⟩ : ∃ z : Int32, z = x1 + 1 := ⟨_, rfl⟩
  replace h := h x1_12 ex1_12
  refine lv_iinc (v := x1_12) (lv' := [(1, .int x1_12), (0, .ref (XA.o aX)), (2, .int x2)]) hx hb dX6_misfits_56 hl (k := 1) rfl (by rw [ex1_12]; rfl) (by decide) rfl (fun ls hl => ?_)
  exact k_X6_misfits_59 X aX hP _ _ _ _ _ _ h hw (lv_sub hl [1, 0, 2] rfl)
set_option maxHeartbeats 4000000 in
set_option maxRecDepth 100000 in
theorem k_X6_misfits_4 {p : Program} {l : Launch} {e : Env} {s : State} {m : MethodId} {below : List Frame} {meth : Method} {c : Code} {args : Array Value} {D : va_G} {t : T3} {A : Nat → Prop} (X : Cx p s m meth c args cX6_misfits 3 (some .int) RX6 wsX6_misfits D t A) (aX : XA) {Q : Int32 → XV → Prop}   : ∀ (vX : XV) (x1 : Int32) (x2 : Int32) (H : Heap) (locs : List Loc) (ls : Array Slot), wp_X6_misfits_4 Q  vX x1 x2 → Wd D A s.heap (xW t aX vX) H locs → lv_has ls 3 [(0, .ref (XA.o aX)), (1, .int x1), (2, .int x2)] → W p l e ({ frames := 3, cells := 0, slots := 0, locals := 68 } : Room) s m args below meth c H locs 0 0 (Ei below args s A D (fun (u : XV) => (xW t aX u)) (fun (r : Int32) (u : XV) => Q r u) 0 0) (F0 m 4 ls []) := by
  intro vX x1 x2 H locs ls h hw hl
  have hx := X.1.1
  have hb := X.1.2.1
  refine h (fun (vX : XV) (x1 : Int32) (x2 : Int32) => ∀ (H : Heap) (locs : List Loc) (ls : Array Slot), Wd D A s.heap (xW t aX vX) H locs → lv_has ls 3 [(0, .ref (XA.o aX)), (1, .int x1), (2, .int x2)] → W p l e ({ frames := 3, cells := 0, slots := 0, locals := 68 } : Room) s m args below meth c H locs 0 0 (Ei below args s A D (fun (u : XV) => (xW t aX u)) (fun (r : Int32) (u : XV) => Q r u) 0 0) (F0 m 4 ls [])) (fun vX x1 x2 h H locs ls hw hl => ?_) H locs ls hw hl
  exact kb_X6_misfits_4 X aX (fun vX x1 x2 H locs ls q hw hl => q H locs ls hw hl)  vX x1 x2 _ _ _ h hw hl
def wp_X6_misfits (vX : XV) (Q : Int32 → XV → Prop) : Prop := wp_X6_misfits_4 Q  vX 0 0
set_option maxHeartbeats 4000000 in
set_option maxRecDepth 100000 in
theorem c_X6_misfits (l : Launch) (D : va_G) (t : T3) (aX : XA) (vX : XV) (Q : Int32 → XV → Prop) (h : wp_X6_misfits vX Q) : Ct l yX6_misfits wsX6_misfits 3 68 0 0 [.ref (XA.o aX)] D t (xW t aX vX) (fun sz => Qi D (xW t aX vX) (fun (u : XV) => (xW t aX u)) (fun (r : Int32) (u : XV) => Q r u) sz) := by
  refine Ct.of (Qf := fun _ A => va_Qi (fun (r : Int32) (u : XV) => Q r u) (B1 D (fun (u : XV) => (xW t aX u)) A) A) cX6_misfits 3 (some .int) (by decide) rfl (Nat.le_of_ble_eq_true rfl) ?_
  intro p e s m below meth c A ls hAe hin X hw hl
  generalize ([.ref (XA.o aX)] : List Value).toArray = args at X ⊢
  have hl : lv_has ls 3 [(0, .ref (XA.o aX))] := hl
  have hx := X.1.1
  have hb := X.1.2.1
  refine lv_iconst (v := 0) hx hb dX6_misfits_0 (by decide) ?_
  refine lv_istore_n (lv' := [(1, .int 0), (0, .ref (XA.o aX))]) hx hb dX6_misfits_1 rfl hl (by decide) rfl (fun ls hl => ?_)
  refine lv_iconst (v := 0) hx hb dX6_misfits_2 (by decide) ?_
  refine lv_istore_n (lv' := [(2, .int 0), (1, .int 0), (0, .ref (XA.o aX))]) hx hb dX6_misfits_3 rfl hl (by decide) rfl (fun ls hl => ?_)
  refine k_X6_misfits_4 X aX  _ _ _ _ _ _ h hw (lv_sub hl [2, 1, 0] rfl)
/-! X6_number -/
theorem in_X6_number_X6 : ∀ w ∈ u_ws RX6 TX6 6, w ∈ wsX6_number := fun w h => (List.mem_cons_of_mem _ (List.mem_append_left _ (List.mem_append_left _ (List.mem_append_left _ (List.mem_append_right _ h)))))
theorem fl_X6_number_12 : Cond.fieldLink RX6 12 "TwoFacedTiles" "board" "LTwoFacedTiles$Board;" ∈ wsX6_number := List.mem_of_getElem? (i := 1) rfl
theorem in_X6_number_X0 : ∀ w ∈ u_ws RX0 TX0 8, w ∈ wsX6_number := fun w h => (List.mem_cons_of_mem _ (List.mem_append_left _ (List.mem_append_left _ (List.mem_append_right _ h))))
theorem fl_X6_number_98 : Cond.fieldLink RX6 98 "TwoFacedTiles$Board" "rows" "I" ∈ wsX6_number := List.mem_of_getElem? (i := 2) rfl
theorem fl_X6_number_101 : Cond.fieldLink RX6 101 "TwoFacedTiles$Board" "columns" "I" ∈ wsX6_number := List.mem_of_getElem? (i := 3) rfl
theorem fl_X6_number_72 : Cond.fieldLink RX6 72 "TwoFacedTiles$Board" "tiles" "I" ∈ wsX6_number := List.mem_of_getElem? (i := 4) rfl
theorem fl_X6_number_147 : Cond.fieldLink RX6 147 "TwoFacedTiles$Board" "fixed" "I" ∈ wsX6_number := List.mem_of_getElem? (i := 5) rfl
theorem fl_X6_number_92 : Cond.fieldLink RX6 92 "TwoFacedTiles$Board" "rule" "I" ∈ wsX6_number := List.mem_of_getElem? (i := 6) rfl
theorem k_X6_number_311 : Cond.constant RX6 311 (983040) ∈ wsX6_number := List.mem_of_getElem? (i := 7) rfl
theorem fl_X6_number_19 : Cond.fieldLink RX6 19 "TwoFacedTiles" "history" "LTwoFacedTiles$History;" ∈ wsX6_number := List.mem_of_getElem? (i := 8) rfl
theorem in_X6_number_X2 : ∀ w ∈ u_ws RX2 TX2 3, w ∈ wsX6_number := fun w h => (List.mem_cons_of_mem _ (List.mem_append_left _ (List.mem_append_right _ h)))
theorem fl_X6_number_199 : Cond.fieldLink RX6 199 "TwoFacedTiles$History" "kept" "I" ∈ wsX6_number := List.mem_of_getElem? (i := 9) rfl
def wp_X6_number (vX : XV) (p1 : Int32) (Q : Int32 → XV → Prop) : Prop := (p1 = 0 → Q (BV.rows (XV.board vX)) vX) ∧ (p1 = 1 → Q (BV.columns (XV.board vX)) vX) ∧ (p1 = 2 → Q (BV.tiles (XV.board vX)) vX) ∧ (p1 = 3 → wp_X0_emptyCells (XV.board vX)  (fun (r_5 : Int32) (vB_4 : BV) => Q r_5 (XV.s_board vX vB_4))) ∧ (p1 = 4 → wp_J6_bitCount_0f7a4  (BV.fixed (XV.board vX)) (fun (r_7 : Int32) => Q r_7 vX)) ∧ (p1 = 5 → Q (BV.rule (XV.board vX)) vX) ∧ (p1 = 6 → wp_X0_pairsAlike (XV.board vX) 15 (fun (r_11 : Int32) (vB_10 : BV) => Q r_11 (XV.s_board vX vB_10))) ∧ (p1 = 7 → wp_X0_pairsAlike (XV.board vX) 983040 (fun (r_14 : Int32) (vB_13 : BV) => Q r_14 (XV.s_board vX vB_13))) ∧ (p1 = 8 → wp_X6_misfits vX  (fun (r_17 : Int32) (vX_16 : XV) => Q r_17 vX_16)) ∧ (¬ p1 = 0 → ¬ p1 = 1 → ¬ p1 = 2 → ¬ p1 = 3 → ¬ p1 = 4 → ¬ p1 = 5 → ¬ p1 = 6 → ¬ p1 = 7 → ¬ p1 = 8 → Q (HV.kept (XV.history vX)) vX)
set_option maxHeartbeats 4000000 in
set_option maxRecDepth 100000 in
theorem c_X6_number (l : Launch) (D : va_G) (t : T3) (aX : XA) (vX : XV) (p1 : Int32) (Q : Int32 → XV → Prop) (h : wp_X6_number vX p1 Q) : Ct l yX6_number wsX6_number 4 92 0 0 [.ref (XA.o aX), .int p1] D t (xW t aX vX) (fun sz => Qi D (xW t aX vX) (fun (u : XV) => (xW t aX u)) (fun (r : Int32) (u : XV) => Q r u) sz) := by
  refine Ct.of (Qf := fun _ A => va_Qi (fun (r : Int32) (u : XV) => Q r u) (B1 D (fun (u : XV) => (xW t aX u)) A) A) cX6_number 2 (some .int) (by decide) rfl (Nat.le_of_ble_eq_true rfl) ?_
  intro p e s m below meth c A ls hAe hin X hw hl
  generalize ([.ref (XA.o aX), .int p1] : List Value).toArray = args at X ⊢
  have hl : lv_has ls 2 [(0, .ref (XA.o aX)), (1, .int p1)] := hl
  have hx := X.1.1
  have hb := X.1.2.1
  refine lv_iload_n hx hb dX6_number_0 rfl (lv_at hl 1 rfl) ?_
  by_cases c_1 : p1 = 0
  · replace h := h.1 c_1
    refine lv_tableIn (off := 51) (tgt := 52) hx hb dX6_number_1 (by rw [c_1]; decide) (by rw [c_1]; decide) (by rw [c_1]; rfl) (by decide) ?_
    refine lv_aload_n hx hb dX6_number_52 rfl (lv_at hl 0 rfl) ?_
    refine r_get (ci := 6) (C := RX6) (T := TX6) (N := 6) X hw 0 rfl rfl 0 (by decide) in_X6_number_X6 fl_X6_number_12 (v := .ref (BA.o (XA.board aX))) rfl dX6_number_53 ?_
    refine r_get (ci := 0) (C := RX0) (T := TX0) (N := 8) X hw 1 rfl rfl 0 (by decide) in_X6_number_X0 fl_X6_number_98 (v := .int (BV.rows (XV.board vX))) rfl dX6_number_56 ?_
    exact e_i (w1 := (fun (u : XV) => (xW t aX u))) X (vX) hw h dX6_number_59
  by_cases c_2 : p1 = 1
  · replace h := h.2.1 c_2
    refine lv_tableIn (off := 59) (tgt := 60) hx hb dX6_number_1 (by rw [c_2]; decide) (by rw [c_2]; decide) (by rw [c_2]; rfl) (by decide) ?_
    refine lv_aload_n hx hb dX6_number_60 rfl (lv_at hl 0 rfl) ?_
    refine r_get (ci := 6) (C := RX6) (T := TX6) (N := 6) X hw 0 rfl rfl 0 (by decide) in_X6_number_X6 fl_X6_number_12 (v := .ref (BA.o (XA.board aX))) rfl dX6_number_61 ?_
    refine r_get (ci := 0) (C := RX0) (T := TX0) (N := 8) X hw 1 rfl rfl 1 (by decide) in_X6_number_X0 fl_X6_number_101 (v := .int (BV.columns (XV.board vX))) rfl dX6_number_64 ?_
    exact e_i (w1 := (fun (u : XV) => (xW t aX u))) X (vX) hw h dX6_number_67
  by_cases c_3 : p1 = 2
  · replace h := h.2.2.1 c_3
    refine lv_tableIn (off := 67) (tgt := 68) hx hb dX6_number_1 (by rw [c_3]; decide) (by rw [c_3]; decide) (by rw [c_3]; rfl) (by decide) ?_
    refine lv_aload_n hx hb dX6_number_68 rfl (lv_at hl 0 rfl) ?_
    refine r_get (ci := 6) (C := RX6) (T := TX6) (N := 6) X hw 0 rfl rfl 0 (by decide) in_X6_number_X6 fl_X6_number_12 (v := .ref (BA.o (XA.board aX))) rfl dX6_number_69 ?_
    refine r_get (ci := 0) (C := RX0) (T := TX0) (N := 8) X hw 1 rfl rfl 3 (by decide) in_X6_number_X0 fl_X6_number_72 (v := .int (BV.tiles (XV.board vX))) rfl dX6_number_72 ?_
    exact e_i (w1 := (fun (u : XV) => (xW t aX u))) X (vX) hw h dX6_number_75
  by_cases c_6 : p1 = 3
  · replace h := h.2.2.2.1 c_6
    refine lv_tableIn (off := 75) (tgt := 76) hx hb dX6_number_1 (by rw [c_6]; decide) (by rw [c_6]; decide) (by rw [c_6]; rfl) (by decide) ?_
    refine lv_aload_n hx hb dX6_number_76 rfl (lv_at hl 0 rfl) ?_
    refine r_get (ci := 6) (C := RX6) (T := TX6) (N := 6) X hw 0 rfl rfl 0 (by decide) in_X6_number_X6 fl_X6_number_12 (v := .ref (BA.o (XA.board aX))) rfl dX6_number_77 ?_
    refine r_ci X hw (pm_r (pm_l pm_0)) (wn := fun (u : BV) => (xW t aX (XV.s_board vX u))) (fun u => (pm_r (pm_l pm_0)).symm) (r_runV X hw (c_X0_emptyCells l D t (XA.board aX) (XV.board vX) _ h) (pm_r (pm_l pm_0)) (cwV 0 X.1.2.2.2.2 gX6_number_X0_emptyCells rfl rfl rfl (by decide +kernel) ⟨Nat.le_of_ble_eq_true rfl, Nat.le_of_ble_eq_true rfl⟩) (ci := 0) rfl rfl rfl rfl hl rfl (Nat.le_of_ble_eq_true rfl) dX6_number_80 ⟨Nat.le_of_ble_eq_true rfl, Nat.le_of_ble_eq_true rfl⟩) (fun r_5 u H locs h hw => ?_)
    obtain ⟨vB_4, rfl⟩ : ∃ z, z = u := ⟨_, rfl⟩
    exact e_i (w1 := (fun (u : XV) => (xW t aX u))) X ((XV.s_board vX vB_4)) hw h dX6_number_83
  by_cases c_8 : p1 = 4
  · replace h := h.2.2.2.2.1 c_8
    refine lv_tableIn (off := 83) (tgt := 84) hx hb dX6_number_1 (by rw [c_8]; decide) (by rw [c_8]; decide) (by rw [c_8]; rfl) (by decide) ?_
    refine lv_aload_n hx hb dX6_number_84 rfl (lv_at hl 0 rfl) ?_
    refine r_get (ci := 6) (C := RX6) (T := TX6) (N := 6) X hw 0 rfl rfl 0 (by decide) in_X6_number_X6 fl_X6_number_12 (v := .ref (BA.o (XA.board aX))) rfl dX6_number_85 ?_
    refine r_get (ci := 0) (C := RX0) (T := TX0) (N := 8) X hw 1 rfl rfl 4 (by decide) in_X6_number_X0 fl_X6_number_147 (v := .int (BV.fixed (XV.board vX))) rfl dX6_number_88 ?_
    refine r_ci X hw pm_n (wn := fun (u : Unit) => (xW t aX vX)) (fun u => (pm_n).symm) (r_runS X hw (c_J6_bitCount_0f7a4 l D t (BV.fixed (XV.board vX)) _ h) pm_n (va_cwS 1 X.1.2.2.2.2 gX6_number_J6_bitCount_0f7a4 rfl rfl rfl (by decide +kernel) ⟨Nat.le_of_ble_eq_true rfl, Nat.le_of_ble_eq_true rfl⟩) rfl hl rfl (Nat.le_of_ble_eq_true rfl) dX6_number_91 ⟨Nat.le_of_ble_eq_true rfl, Nat.le_of_ble_eq_true rfl⟩) (fun r_7 u H locs h hw => ?_)
    exact e_i (w1 := (fun (u : XV) => (xW t aX u))) X (vX) hw h dX6_number_94
  by_cases c_9 : p1 = 5
  · replace h := h.2.2.2.2.2.1 c_9
    refine lv_tableIn (off := 94) (tgt := 95) hx hb dX6_number_1 (by rw [c_9]; decide) (by rw [c_9]; decide) (by rw [c_9]; rfl) (by decide) ?_
    refine lv_aload_n hx hb dX6_number_95 rfl (lv_at hl 0 rfl) ?_
    refine r_get (ci := 6) (C := RX6) (T := TX6) (N := 6) X hw 0 rfl rfl 0 (by decide) in_X6_number_X6 fl_X6_number_12 (v := .ref (BA.o (XA.board aX))) rfl dX6_number_96 ?_
    refine r_get (ci := 0) (C := RX0) (T := TX0) (N := 8) X hw 1 rfl rfl 2 (by decide) in_X6_number_X0 fl_X6_number_92 (v := .int (BV.rule (XV.board vX))) rfl dX6_number_99 ?_
    exact e_i (w1 := (fun (u : XV) => (xW t aX u))) X (vX) hw h dX6_number_102
  by_cases c_12 : p1 = 6
  · replace h := h.2.2.2.2.2.2.1 c_12
    refine lv_tableIn (off := 102) (tgt := 103) hx hb dX6_number_1 (by rw [c_12]; decide) (by rw [c_12]; decide) (by rw [c_12]; rfl) (by decide) ?_
    refine lv_aload_n hx hb dX6_number_103 rfl (lv_at hl 0 rfl) ?_
    refine r_get (ci := 6) (C := RX6) (T := TX6) (N := 6) X hw 0 rfl rfl 0 (by decide) in_X6_number_X6 fl_X6_number_12 (v := .ref (BA.o (XA.board aX))) rfl dX6_number_104 ?_
    refine lv_bipush (v := 15) hx hb dX6_number_107 (by decide) ?_
    refine r_ci X hw (pm_r (pm_l pm_0)) (wn := fun (u : BV) => (xW t aX (XV.s_board vX u))) (fun u => (pm_r (pm_l pm_0)).symm) (r_runV X hw (c_X0_pairsAlike l D t (XA.board aX) (XV.board vX) 15 _ h) (pm_r (pm_l pm_0)) (cwV 1 X.1.2.2.2.2 gX6_number_X0_pairsAlike rfl rfl rfl (by decide +kernel) ⟨Nat.le_of_ble_eq_true rfl, Nat.le_of_ble_eq_true rfl⟩) (ci := 0) rfl rfl rfl rfl hl rfl (Nat.le_of_ble_eq_true rfl) dX6_number_109 ⟨Nat.le_of_ble_eq_true rfl, Nat.le_of_ble_eq_true rfl⟩) (fun r_11 u H locs h hw => ?_)
    obtain ⟨vB_10, rfl⟩ : ∃ z, z = u := ⟨_, rfl⟩
    exact e_i (w1 := (fun (u : XV) => (xW t aX u))) X ((XV.s_board vX vB_10)) hw h dX6_number_112
  by_cases c_15 : p1 = 7
  · replace h := h.2.2.2.2.2.2.2.1 c_15
    refine lv_tableIn (off := 112) (tgt := 113) hx hb dX6_number_1 (by rw [c_15]; decide) (by rw [c_15]; decide) (by rw [c_15]; rfl) (by decide) ?_
    refine lv_aload_n hx hb dX6_number_113 rfl (lv_at hl 0 rfl) ?_
    refine r_get (ci := 6) (C := RX6) (T := TX6) (N := 6) X hw 0 rfl rfl 0 (by decide) in_X6_number_X6 fl_X6_number_12 (v := .ref (BA.o (XA.board aX))) rfl dX6_number_114 ?_
    refine lv_ldcw (v := 983040) hx hb X.1.2.2.2.1 (X.1.2.2.2.2 _ k_X6_number_311) dX6_number_117 ?_
    refine r_ci X hw (pm_r (pm_l pm_0)) (wn := fun (u : BV) => (xW t aX (XV.s_board vX u))) (fun u => (pm_r (pm_l pm_0)).symm) (r_runV X hw (c_X0_pairsAlike l D t (XA.board aX) (XV.board vX) 983040 _ h) (pm_r (pm_l pm_0)) (cwV 1 X.1.2.2.2.2 gX6_number_X0_pairsAlike rfl rfl rfl (by decide +kernel) ⟨Nat.le_of_ble_eq_true rfl, Nat.le_of_ble_eq_true rfl⟩) (ci := 0) rfl rfl rfl rfl hl rfl (Nat.le_of_ble_eq_true rfl) dX6_number_120 ⟨Nat.le_of_ble_eq_true rfl, Nat.le_of_ble_eq_true rfl⟩) (fun r_14 u H locs h hw => ?_)
    obtain ⟨vB_13, rfl⟩ : ∃ z, z = u := ⟨_, rfl⟩
    exact e_i (w1 := (fun (u : XV) => (xW t aX u))) X ((XV.s_board vX vB_13)) hw h dX6_number_123
  by_cases c_18 : p1 = 8
  · replace h := h.2.2.2.2.2.2.2.2.1 c_18
    refine lv_tableIn (off := 123) (tgt := 124) hx hb dX6_number_1 (by rw [c_18]; decide) (by rw [c_18]; decide) (by rw [c_18]; rfl) (by decide) ?_
    refine lv_aload_n hx hb dX6_number_124 rfl (lv_at hl 0 rfl) ?_
    refine r_ci X hw pm_0 (wn := fun (u : XV) => (xW t aX u)) (fun u => pm_0.symm) (r_runV X hw (c_X6_misfits l D t aX vX _ h) pm_0 (cwV 0 X.1.2.2.2.2 gX6_number_X6_misfits rfl rfl rfl (by decide +kernel) ⟨Nat.le_of_ble_eq_true rfl, Nat.le_of_ble_eq_true rfl⟩) (ci := 6) rfl rfl rfl rfl hl rfl (Nat.le_of_ble_eq_true rfl) dX6_number_125 ⟨Nat.le_of_ble_eq_true rfl, Nat.le_of_ble_eq_true rfl⟩) (fun r_17 u H locs h hw => ?_)
    obtain ⟨vX_16, rfl⟩ : ∃ z, z = u := ⟨_, rfl⟩
    exact e_i (w1 := (fun (u : XV) => (xW t aX u))) X (vX_16) hw h dX6_number_128
  replace h := h.2.2.2.2.2.2.2.2.2 c_1 c_2 c_3 c_6 c_8 c_9 c_12 c_15 c_18
  refine lv_tableOut (tgt := 129) hx hb dX6_number_1 (tab_outL 8 (fun k hk => match k, hk with | 0, _ => c_1 | 1, _ => c_2 | 2, _ => c_3 | 3, _ => c_6 | 4, _ => c_8 | 5, _ => c_9 | 6, _ => c_12 | 7, _ => c_15 | 8, _ => c_18 | (z + 9), hk => absurd hk (by omega))) (by decide) ?_
  refine lv_aload_n hx hb dX6_number_129 rfl (lv_at hl 0 rfl) ?_
  refine r_get (ci := 6) (C := RX6) (T := TX6) (N := 6) X hw 0 rfl rfl 1 (by decide) in_X6_number_X6 fl_X6_number_19 (v := .ref (HA.o (XA.history aX))) rfl dX6_number_130 ?_
  refine r_get (ci := 2) (C := RX2) (T := TX2) (N := 3) X hw 5 rfl rfl 2 (by decide) in_X6_number_X2 fl_X6_number_199 (v := .int (HV.kept (XV.history vX))) rfl dX6_number_133 ?_
  exact e_i (w1 := (fun (u : XV) => (xW t aX u))) X (vX) hw h dX6_number_136
/-! X6_bestStep -/
theorem in_X6_bestStep_X6 : ∀ w ∈ u_ws RX6 TX6 6, w ∈ wsX6_bestStep := fun w h => (List.mem_cons_of_mem _ (List.mem_append_left _ (List.mem_append_left _ (List.mem_append_right _ h))))
theorem fl_X6_bestStep_12 : Cond.fieldLink RX6 12 "TwoFacedTiles" "board" "LTwoFacedTiles$Board;" ∈ wsX6_bestStep := List.mem_of_getElem? (i := 1) rfl
def wp_X6_bestStep_45 (P : XV → Int32 → Int32 → Int32 → Prop) (K51 : XV → Int32 → Prop) (Q : Int32 → XV → Prop) (vX : XV) (x1 : Int32) (x2 : Int32) (x3 : Int32) : Prop := ∀ x3_5 : Int32, x3_5 = x3 + 1 → P vX x1 x2 x3_5
set_option maxHeartbeats 4000000 in
set_option maxRecDepth 100000 in
theorem k_X6_bestStep_45 {p : Program} {l : Launch} {e : Env} {s : State} {m : MethodId} {below : List Frame} {meth : Method} {c : Code} {args : Array Value} {D : va_G} {t : T3} {A : Nat → Prop} (X : Cx p s m meth c args cX6_bestStep 5 (some .int) RX6 wsX6_bestStep D t A) (aX : XA) {P : XV → Int32 → Int32 → Int32 → Prop} {K51 : XV → Int32 → Prop} {Q : Int32 → XV → Prop} (hP : ∀ (vX : XV) (x1 : Int32) (x2 : Int32) (x3 : Int32) (H : Heap) (locs : List Loc) (ls : Array Slot), P vX x1 x2 x3 → Wd D A s.heap (xW t aX vX) H locs → lv_has ls 5 [(0, .ref (XA.o aX)), (1, .int x1), (2, .int x2), (3, .int x3)] → W p l e ({ frames := 4, cells := 0, slots := 0, locals := 91 } : Room) s m args below meth c H locs 0 0 (Ei below args s A D (fun (u : XV) => (xW t aX u)) (fun (r : Int32) (u : XV) => Q r u) 0 0) (F0 m 6 ls [])) (hK51 : ∀ (vX : XV) (x1 : Int32) (H : Heap) (locs : List Loc) (ls : Array Slot), K51 vX x1 → Wd D A s.heap (xW t aX vX) H locs → lv_has ls 5 [(0, .ref (XA.o aX)), (1, .int x1)] → W p l e ({ frames := 4, cells := 0, slots := 0, locals := 91 } : Room) s m args below meth c H locs 0 0 (Ei below args s A D (fun (u : XV) => (xW t aX u)) (fun (r : Int32) (u : XV) => Q r u) 0 0) (F0 m 51 ls [])) : ∀ (vX : XV) (x1 : Int32) (x2 : Int32) (x3 : Int32) (H : Heap) (locs : List Loc) (ls : Array Slot), wp_X6_bestStep_45 P K51 Q vX x1 x2 x3 → Wd D A s.heap (xW t aX vX) H locs → lv_has ls 5 [(0, .ref (XA.o aX)), (1, .int x1), (2, .int x2), (3, .int x3)] → W p l e ({ frames := 4, cells := 0, slots := 0, locals := 91 } : Room) s m args below meth c H locs 0 0 (Ei below args s A D (fun (u : XV) => (xW t aX u)) (fun (r : Int32) (u : XV) => Q r u) 0 0) (F0 m 45 ls []) := by
  intro vX x1 x2 x3 H locs ls h hw hl
  have hx := X.1.1
  have hb := X.1.2.1
  obtain ⟨x3_5, ex3_5⟩ : ∃ z : Int32, z = x3 + 1 := ⟨_, rfl⟩
  replace h := h x3_5 ex3_5
  refine lv_iinc (v := x3_5) (lv' := [(3, .int x3_5), (0, .ref (XA.o aX)), (1, .int x1), (2, .int x2)]) hx hb dX6_bestStep_45 hl (k := 3) rfl (by rw [ex3_5]; rfl) (by decide) rfl (fun ls hl => ?_)
  refine lv_goto (tgt := 6) hx hb dX6_bestStep_48 (by decide) ?_
  exact hP _ _ _ _ _ _ _ h hw (lv_sub hl [1, 2, 3, 0] rfl)
def wp_X6_bestStep_40 (P : XV → Int32 → Int32 → Int32 → Prop) (K51 : XV → Int32 → Prop) (Q : Int32 → XV → Prop) (vX : XV) (x3 : Int32) (x4 : Int32) : Prop := wp_X6_bestStep_45  P K51 Q vX x3 x4 x3
set_option maxHeartbeats 4000000 in
set_option maxRecDepth 100000 in
theorem k_X6_bestStep_40 {p : Program} {l : Launch} {e : Env} {s : State} {m : MethodId} {below : List Frame} {meth : Method} {c : Code} {args : Array Value} {D : va_G} {t : T3} {A : Nat → Prop} (X : Cx p s m meth c args cX6_bestStep 5 (some .int) RX6 wsX6_bestStep D t A) (aX : XA) {P : XV → Int32 → Int32 → Int32 → Prop} {K51 : XV → Int32 → Prop} {Q : Int32 → XV → Prop} (hP : ∀ (vX : XV) (x1 : Int32) (x2 : Int32) (x3 : Int32) (H : Heap) (locs : List Loc) (ls : Array Slot), P vX x1 x2 x3 → Wd D A s.heap (xW t aX vX) H locs → lv_has ls 5 [(0, .ref (XA.o aX)), (1, .int x1), (2, .int x2), (3, .int x3)] → W p l e ({ frames := 4, cells := 0, slots := 0, locals := 91 } : Room) s m args below meth c H locs 0 0 (Ei below args s A D (fun (u : XV) => (xW t aX u)) (fun (r : Int32) (u : XV) => Q r u) 0 0) (F0 m 6 ls [])) (hK51 : ∀ (vX : XV) (x1 : Int32) (H : Heap) (locs : List Loc) (ls : Array Slot), K51 vX x1 → Wd D A s.heap (xW t aX vX) H locs → lv_has ls 5 [(0, .ref (XA.o aX)), (1, .int x1)] → W p l e ({ frames := 4, cells := 0, slots := 0, locals := 91 } : Room) s m args below meth c H locs 0 0 (Ei below args s A D (fun (u : XV) => (xW t aX u)) (fun (r : Int32) (u : XV) => Q r u) 0 0) (F0 m 51 ls [])) : ∀ (vX : XV) (x3 : Int32) (x4 : Int32) (H : Heap) (locs : List Loc) (ls : Array Slot), wp_X6_bestStep_40 P K51 Q vX x3 x4 → Wd D A s.heap (xW t aX vX) H locs → lv_has ls 5 [(0, .ref (XA.o aX)), (3, .int x3), (4, .int x4)] → W p l e ({ frames := 4, cells := 0, slots := 0, locals := 91 } : Room) s m args below meth c H locs 0 0 (Ei below args s A D (fun (u : XV) => (xW t aX u)) (fun (r : Int32) (u : XV) => Q r u) 0 0) (F0 m 40 ls []) := by
  intro vX x3 x4 H locs ls h hw hl
  have hx := X.1.1
  have hb := X.1.2.1
  refine lv_iload_n hx hb dX6_bestStep_40 rfl (lv_at hl 1 rfl) ?_
  refine lv_istore_n (lv' := [(1, .int x3), (0, .ref (XA.o aX)), (3, .int x3), (4, .int x4)]) hx hb dX6_bestStep_41 rfl hl (by decide) rfl (fun ls hl => ?_)
  refine lv_iload hx hb dX6_bestStep_42 (lv_at hl 3 rfl) ?_
  refine lv_istore_n (lv' := [(2, .int x4), (1, .int x3), (0, .ref (XA.o aX)), (3, .int x3), (4, .int x4)]) hx hb dX6_bestStep_44 rfl hl (by decide) rfl (fun ls hl => ?_)
  exact k_X6_bestStep_45 X aX hP hK51 _ _ _ _ _ _ _ h hw (lv_sub hl [2, 1, 0, 3] rfl)
def bd_X6_bestStep_6 (Q : Int32 → XV → Prop) (P : XV → Int32 → Int32 → Int32 → Prop) (K51 : XV → Int32 → Prop) (vX : XV) (x1 : Int32) (x2 : Int32) (x3 : Int32) : Prop := wp_X0_cells (XV.board vX)  (fun (r_2 : Int32) (vB_1 : BV) => (r_2 ≤ x3 → K51 (XV.s_board vX vB_1) x1) ∧ (¬ r_2 ≤ x3 → wp_X6_possibleCount (XV.s_board vX vB_1) x3 (fun (r_4 : Int32) (vX_3 : XV) => (r_4 ≤ 0 → wp_X6_bestStep_45  P K51 Q vX_3 x1 x2 x3) ∧ (¬ r_4 ≤ 0 → (x1 = (-1) → wp_X6_bestStep_40  P K51 Q vX_3 x3 r_4) ∧ (¬ x1 = (-1) → (x2 ≤ r_4 → wp_X6_bestStep_45  P K51 Q vX_3 x1 x2 x3) ∧ (¬ x2 ≤ r_4 → wp_X6_bestStep_40  P K51 Q vX_3 x3 r_4))))))
def wp_X6_bestStep_6 (Q : Int32 → XV → Prop) (K51 : XV → Int32 → Prop) (vX : XV) (x1 : Int32) (x2 : Int32) (x3 : Int32) : Prop := ∀ P : XV → Int32 → Int32 → Int32 → Prop, (∀ (vX : XV) (x1 : Int32) (x2 : Int32) (x3 : Int32), bd_X6_bestStep_6 Q P K51 vX x1 x2 x3 → P vX x1 x2 x3) → P vX x1 x2 x3
set_option maxHeartbeats 4000000 in
set_option maxRecDepth 100000 in
theorem kb_X6_bestStep_6 {p : Program} {l : Launch} {e : Env} {s : State} {m : MethodId} {below : List Frame} {meth : Method} {c : Code} {args : Array Value} {D : va_G} {t : T3} {A : Nat → Prop} (X : Cx p s m meth c args cX6_bestStep 5 (some .int) RX6 wsX6_bestStep D t A) (aX : XA) {Q : Int32 → XV → Prop} {P : XV → Int32 → Int32 → Int32 → Prop} {K51 : XV → Int32 → Prop} (hP : ∀ (vX : XV) (x1 : Int32) (x2 : Int32) (x3 : Int32) (H : Heap) (locs : List Loc) (ls : Array Slot), P vX x1 x2 x3 → Wd D A s.heap (xW t aX vX) H locs → lv_has ls 5 [(0, .ref (XA.o aX)), (1, .int x1), (2, .int x2), (3, .int x3)] → W p l e ({ frames := 4, cells := 0, slots := 0, locals := 91 } : Room) s m args below meth c H locs 0 0 (Ei below args s A D (fun (u : XV) => (xW t aX u)) (fun (r : Int32) (u : XV) => Q r u) 0 0) (F0 m 6 ls [])) (hK51 : ∀ (vX : XV) (x1 : Int32) (H : Heap) (locs : List Loc) (ls : Array Slot), K51 vX x1 → Wd D A s.heap (xW t aX vX) H locs → lv_has ls 5 [(0, .ref (XA.o aX)), (1, .int x1)] → W p l e ({ frames := 4, cells := 0, slots := 0, locals := 91 } : Room) s m args below meth c H locs 0 0 (Ei below args s A D (fun (u : XV) => (xW t aX u)) (fun (r : Int32) (u : XV) => Q r u) 0 0) (F0 m 51 ls [])) : ∀ (vX : XV) (x1 : Int32) (x2 : Int32) (x3 : Int32) (H : Heap) (locs : List Loc) (ls : Array Slot), bd_X6_bestStep_6 Q P K51 vX x1 x2 x3 → Wd D A s.heap (xW t aX vX) H locs → lv_has ls 5 [(0, .ref (XA.o aX)), (1, .int x1), (2, .int x2), (3, .int x3)] → W p l e ({ frames := 4, cells := 0, slots := 0, locals := 91 } : Room) s m args below meth c H locs 0 0 (Ei below args s A D (fun (u : XV) => (xW t aX u)) (fun (r : Int32) (u : XV) => Q r u) 0 0) (F0 m 6 ls []) := by
  intro vX x1 x2 x3 H locs ls h hw hl
  have hx := X.1.1
  have hb := X.1.2.1
  refine lv_iload_n hx hb dX6_bestStep_6 rfl (lv_at hl 3 rfl) ?_
  refine lv_aload_n hx hb dX6_bestStep_7 rfl (lv_at hl 0 rfl) ?_
  refine r_get (ci := 6) (C := RX6) (T := TX6) (N := 6) X hw 0 rfl rfl 0 (by decide) in_X6_bestStep_X6 fl_X6_bestStep_12 (v := .ref (BA.o (XA.board aX))) rfl dX6_bestStep_8 ?_
  refine r_ci X hw (pm_r (pm_l pm_0)) (wn := fun (u : BV) => (xW t aX (XV.s_board vX u))) (fun u => (pm_r (pm_l pm_0)).symm) (r_runV X hw (c_X0_cells l D t (XA.board aX) (XV.board vX) _ h) (pm_r (pm_l pm_0)) (cwV 0 X.1.2.2.2.2 gX6_bestStep_X0_cells rfl rfl rfl (by decide +kernel) ⟨Nat.le_of_ble_eq_true rfl, Nat.le_of_ble_eq_true rfl⟩) (ci := 0) rfl rfl rfl rfl hl rfl (Nat.le_of_ble_eq_true rfl) dX6_bestStep_11 ⟨Nat.le_of_ble_eq_true rfl, Nat.le_of_ble_eq_true rfl⟩) (fun r_2 u H locs h hw => ?_)
  obtain ⟨vB_1, rfl⟩ : ∃ z, z = u := ⟨_, rfl⟩
  refine lv_icmp_ge (tgt := 51) hx hb dX6_bestStep_14 (by decide) (fun c_9 => ?_) (fun c_9 => ?_)
  · replace h := h.1 c_9
    exact hK51 _ _ _ _ _ h hw (lv_sub hl [0, 1] rfl)
  replace h := h.2 c_9
  refine lv_aload_n hx hb dX6_bestStep_17 rfl (lv_at hl 0 rfl) ?_
  refine lv_iload_n hx hb dX6_bestStep_18 rfl (lv_at hl 3 rfl) ?_
  refine r_ci X hw pm_0 (wn := fun (u : XV) => (xW t aX u)) (fun u => pm_0.symm) (r_runV X hw (c_X6_possibleCount l D t aX (XV.s_board vX vB_1) x3 _ h) pm_0 (cwV 1 X.1.2.2.2.2 gX6_bestStep_X6_possibleCount rfl rfl rfl (by decide +kernel) ⟨Nat.le_of_ble_eq_true rfl, Nat.le_of_ble_eq_true rfl⟩) (ci := 6) rfl rfl rfl rfl hl rfl (Nat.le_of_ble_eq_true rfl) dX6_bestStep_19 ⟨Nat.le_of_ble_eq_true rfl, Nat.le_of_ble_eq_true rfl⟩) (fun r_4 u H locs h hw => ?_)
  obtain ⟨vX_3, rfl⟩ : ∃ z, z = u := ⟨_, rfl⟩
  refine lv_istore (lv' := [(4, .int r_4), (0, .ref (XA.o aX)), (1, .int x1), (2, .int x2), (3, .int x3)]) hx hb dX6_bestStep_22 hl (by decide) rfl (fun ls hl => ?_)
  refine lv_iload hx hb dX6_bestStep_24 (lv_at hl 0 rfl) ?_
  refine lv_if_le (tgt := 45) hx hb dX6_bestStep_26 (by decide) (fun c_8 => ?_) (fun c_8 => ?_)
  · replace h := h.1 c_8
    exact k_X6_bestStep_45 X aX hP hK51 _ _ _ _ _ _ _ h hw (lv_sub hl [1, 2, 3, 4] rfl)
  replace h := h.2 c_8
  refine lv_iload_n hx hb dX6_bestStep_29 rfl (lv_at hl 2 rfl) ?_
  refine lv_iconst (v := (-1)) hx hb dX6_bestStep_30 (by decide) ?_
  refine lv_icmp_eq (tgt := 40) hx hb dX6_bestStep_31 (by decide) (fun c_7 => ?_) (fun c_7 => ?_)
  · replace h := h.1 c_7
    exact k_X6_bestStep_40 X aX hP hK51 _ _ _ _ _ _ h hw (lv_sub hl [1, 4, 0] rfl)
  replace h := h.2 c_7
  refine lv_iload hx hb dX6_bestStep_34 (lv_at hl 0 rfl) ?_
  refine lv_iload_n hx hb dX6_bestStep_36 rfl (lv_at hl 3 rfl) ?_
  refine lv_icmp_ge (tgt := 45) hx hb dX6_bestStep_37 (by decide) (fun c_6 => ?_) (fun c_6 => ?_)
  · replace h := h.1 c_6
    exact k_X6_bestStep_45 X aX hP hK51 _ _ _ _ _ _ _ h hw (lv_sub hl [1, 2, 3, 4] rfl)
  replace h := h.2 c_6
  exact k_X6_bestStep_40 X aX hP hK51 _ _ _ _ _ _ h hw (lv_sub hl [1, 4, 0] rfl)
set_option maxHeartbeats 4000000 in
set_option maxRecDepth 100000 in
theorem k_X6_bestStep_6 {p : Program} {l : Launch} {e : Env} {s : State} {m : MethodId} {below : List Frame} {meth : Method} {c : Code} {args : Array Value} {D : va_G} {t : T3} {A : Nat → Prop} (X : Cx p s m meth c args cX6_bestStep 5 (some .int) RX6 wsX6_bestStep D t A) (aX : XA) {Q : Int32 → XV → Prop} {K51 : XV → Int32 → Prop} (hK51 : ∀ (vX : XV) (x1 : Int32) (H : Heap) (locs : List Loc) (ls : Array Slot), K51 vX x1 → Wd D A s.heap (xW t aX vX) H locs → lv_has ls 5 [(0, .ref (XA.o aX)), (1, .int x1)] → W p l e ({ frames := 4, cells := 0, slots := 0, locals := 91 } : Room) s m args below meth c H locs 0 0 (Ei below args s A D (fun (u : XV) => (xW t aX u)) (fun (r : Int32) (u : XV) => Q r u) 0 0) (F0 m 51 ls [])) : ∀ (vX : XV) (x1 : Int32) (x2 : Int32) (x3 : Int32) (H : Heap) (locs : List Loc) (ls : Array Slot), wp_X6_bestStep_6 Q K51 vX x1 x2 x3 → Wd D A s.heap (xW t aX vX) H locs → lv_has ls 5 [(0, .ref (XA.o aX)), (1, .int x1), (2, .int x2), (3, .int x3)] → W p l e ({ frames := 4, cells := 0, slots := 0, locals := 91 } : Room) s m args below meth c H locs 0 0 (Ei below args s A D (fun (u : XV) => (xW t aX u)) (fun (r : Int32) (u : XV) => Q r u) 0 0) (F0 m 6 ls []) := by
  intro vX x1 x2 x3 H locs ls h hw hl
  have hx := X.1.1
  have hb := X.1.2.1
  refine h (fun (vX : XV) (x1 : Int32) (x2 : Int32) (x3 : Int32) => ∀ (H : Heap) (locs : List Loc) (ls : Array Slot), Wd D A s.heap (xW t aX vX) H locs → lv_has ls 5 [(0, .ref (XA.o aX)), (1, .int x1), (2, .int x2), (3, .int x3)] → W p l e ({ frames := 4, cells := 0, slots := 0, locals := 91 } : Room) s m args below meth c H locs 0 0 (Ei below args s A D (fun (u : XV) => (xW t aX u)) (fun (r : Int32) (u : XV) => Q r u) 0 0) (F0 m 6 ls [])) (fun vX x1 x2 x3 h H locs ls hw hl => ?_) H locs ls hw hl
  exact kb_X6_bestStep_6 X aX (fun vX x1 x2 x3 H locs ls q hw hl => q H locs ls hw hl) hK51 vX x1 x2 x3 _ _ _ h hw hl
def wp_X6_bestStep (vX : XV) (Q : Int32 → XV → Prop) : Prop := wp_X6_bestStep_6 Q (fun (vX_10 : XV) (x1_11 : Int32) => (¬ x1_11 = (-1) → wp_X6_firstPossible vX_10 x1_11 (fun (r_13 : Int32) (vX_12 : XV) => Q ((100 * x1_11) + r_13) vX_12)) ∧ (x1_11 = (-1) → Q (-1) vX_10)) vX (-1) 0 0
set_option maxHeartbeats 4000000 in
set_option maxRecDepth 100000 in
theorem c_X6_bestStep (l : Launch) (D : va_G) (t : T3) (aX : XA) (vX : XV) (Q : Int32 → XV → Prop) (h : wp_X6_bestStep vX Q) : Ct l yX6_bestStep wsX6_bestStep 4 91 0 0 [.ref (XA.o aX)] D t (xW t aX vX) (fun sz => Qi D (xW t aX vX) (fun (u : XV) => (xW t aX u)) (fun (r : Int32) (u : XV) => Q r u) sz) := by
  refine Ct.of (Qf := fun _ A => va_Qi (fun (r : Int32) (u : XV) => Q r u) (B1 D (fun (u : XV) => (xW t aX u)) A) A) cX6_bestStep 5 (some .int) (by decide) rfl (Nat.le_of_ble_eq_true rfl) ?_
  intro p e s m below meth c A ls hAe hin X hw hl
  generalize ([.ref (XA.o aX)] : List Value).toArray = args at X ⊢
  have hl : lv_has ls 5 [(0, .ref (XA.o aX))] := hl
  have hx := X.1.1
  have hb := X.1.2.1
  refine lv_iconst (v := (-1)) hx hb dX6_bestStep_0 (by decide) ?_
  refine lv_istore_n (lv' := [(1, .int (-1)), (0, .ref (XA.o aX))]) hx hb dX6_bestStep_1 rfl hl (by decide) rfl (fun ls hl => ?_)
  refine lv_iconst (v := 0) hx hb dX6_bestStep_2 (by decide) ?_
  refine lv_istore_n (lv' := [(2, .int 0), (1, .int (-1)), (0, .ref (XA.o aX))]) hx hb dX6_bestStep_3 rfl hl (by decide) rfl (fun ls hl => ?_)
  refine lv_iconst (v := 0) hx hb dX6_bestStep_4 (by decide) ?_
  refine lv_istore_n (lv' := [(3, .int 0), (2, .int 0), (1, .int (-1)), (0, .ref (XA.o aX))]) hx hb dX6_bestStep_5 rfl hl (by decide) rfl (fun ls hl => ?_)
  refine k_X6_bestStep_6 X aX (fun vX_10 x1_11 H locs ls h hw hl => ?_) _ _ _ _ _ _ _ h hw (lv_sub hl [3, 2, 1, 0] rfl)
  refine lv_iload_n hx hb dX6_bestStep_51 rfl (lv_at hl 1 rfl) ?_
  refine lv_iconst (v := (-1)) hx hb dX6_bestStep_52 (by decide) ?_
  refine lv_icmp_ne (tgt := 60) hx hb dX6_bestStep_53 (by decide) (fun c_14 => ?_) (fun c_14 => ?_)
  · replace h := h.1 c_14
    refine lv_bipush (v := 100) hx hb dX6_bestStep_60 (by decide) ?_
    refine lv_iload_n hx hb dX6_bestStep_62 rfl (lv_at hl 1 rfl) ?_
    refine lv_imul hx hb dX6_bestStep_63 ?_
    refine lv_aload_n hx hb dX6_bestStep_64 rfl (lv_at hl 0 rfl) ?_
    refine lv_iload_n hx hb dX6_bestStep_65 rfl (lv_at hl 1 rfl) ?_
    refine r_ci X hw pm_0 (wn := fun (u : XV) => (xW t aX u)) (fun u => pm_0.symm) (r_runV X hw (c_X6_firstPossible l D t aX vX_10 x1_11 _ h) pm_0 (cwV 1 X.1.2.2.2.2 gX6_bestStep_X6_firstPossible rfl rfl rfl (by decide +kernel) ⟨Nat.le_of_ble_eq_true rfl, Nat.le_of_ble_eq_true rfl⟩) (ci := 6) rfl rfl rfl rfl hl rfl (Nat.le_of_ble_eq_true rfl) dX6_bestStep_66 ⟨Nat.le_of_ble_eq_true rfl, Nat.le_of_ble_eq_true rfl⟩) (fun r_13 u H locs h hw => ?_)
    obtain ⟨vX_12, rfl⟩ : ∃ z, z = u := ⟨_, rfl⟩
    refine lv_iadd hx hb dX6_bestStep_69 ?_
    exact e_i (w1 := (fun (u : XV) => (xW t aX u))) X (vX_12) hw h dX6_bestStep_70
  replace h := h.2 c_14
  refine lv_iconst (v := (-1)) hx hb dX6_bestStep_56 (by decide) ?_
  refine lv_goto (tgt := 70) hx hb dX6_bestStep_57 (by decide) ?_
  exact e_i (w1 := (fun (u : XV) => (xW t aX u))) X (vX_10) hw h dX6_bestStep_70
/-! X6_hint -/
def wp_X6_hint (vX : XV) (Q : Int32 → XV → Prop) : Prop := wp_X6_bestStep vX  (fun (r_2 : Int32) (vX_1 : XV) => Q r_2 vX_1)
set_option maxHeartbeats 4000000 in
set_option maxRecDepth 100000 in
theorem c_X6_hint (l : Launch) (D : va_G) (t : T3) (aX : XA) (vX : XV) (Q : Int32 → XV → Prop) (h : wp_X6_hint vX Q) : Ct l yX6_hint wsX6_hint 5 115 0 0 [.ref (XA.o aX)] D t (xW t aX vX) (fun sz => Qi D (xW t aX vX) (fun (u : XV) => (xW t aX u)) (fun (r : Int32) (u : XV) => Q r u) sz) := by
  refine Ct.of (Qf := fun _ A => va_Qi (fun (r : Int32) (u : XV) => Q r u) (B1 D (fun (u : XV) => (xW t aX u)) A) A) cX6_hint 1 (some .int) (by decide) rfl (Nat.le_of_ble_eq_true rfl) ?_
  intro p e s m below meth c A ls hAe hin X hw hl
  generalize ([.ref (XA.o aX)] : List Value).toArray = args at X ⊢
  have hl : lv_has ls 1 [(0, .ref (XA.o aX))] := hl
  have hx := X.1.1
  have hb := X.1.2.1
  refine lv_aload_n hx hb dX6_hint_0 rfl (lv_at hl 0 rfl) ?_
  refine r_ci X hw pm_0 (wn := fun (u : XV) => (xW t aX u)) (fun u => pm_0.symm) (r_runV X hw (c_X6_bestStep l D t aX vX _ h) pm_0 (cwV 0 X.1.2.2.2.2 gX6_hint_X6_bestStep rfl rfl rfl (by decide +kernel) ⟨Nat.le_of_ble_eq_true rfl, Nat.le_of_ble_eq_true rfl⟩) (ci := 6) rfl rfl rfl rfl hl rfl (Nat.le_of_ble_eq_true rfl) dX6_hint_1 ⟨Nat.le_of_ble_eq_true rfl, Nat.le_of_ble_eq_true rfl⟩) (fun r_2 u H locs h hw => ?_)
  obtain ⟨vX_1, rfl⟩ : ∃ z, z = u := ⟨_, rfl⟩
  exact e_i (w1 := (fun (u : XV) => (xW t aX u))) X (vX_1) hw h dX6_hint_4
/-! X6_fittingPart -/
theorem in_X6_fittingPart_X6 : ∀ w ∈ u_ws RX6 TX6 6, w ∈ wsX6_fittingPart := fun w h => (List.mem_cons_of_mem _ (List.mem_append_left _ (List.mem_append_right _ h)))
theorem fl_X6_fittingPart_12 : Cond.fieldLink RX6 12 "TwoFacedTiles" "board" "LTwoFacedTiles$Board;" ∈ wsX6_fittingPart := List.mem_of_getElem? (i := 1) rfl
theorem k_X6_fittingPart_311 : Cond.constant RX6 311 (983040) ∈ wsX6_fittingPart := List.mem_of_getElem? (i := 2) rfl
def wp_X6_fittingPart (vX : XV) (Q : UInt64 → XV → Prop) : Prop := wp_X0_pairsAlike (XV.board vX) 0 (fun (r_2 : Int32) (vB_1 : BV) => (1 ≤ r_2 → wp_X0_pairsAlike vB_1 15 (fun (r_4 : Int32) (vB_3 : BV) => wp_X0_pairsAlike vB_3 983040 (fun (r_6 : Int32) (vB_5 : BV) => ∀ x2_7 : Int32, x2_7 = (r_4 + r_6) → vf_n64 (FP.ddiv (FP.i2d x2_7) (FP.i2d (2 * r_2))) ∧ Q (FP.ddiv (FP.i2d x2_7) (FP.i2d (2 * r_2))) (XV.s_board vX vB_5)))) ∧ (¬ 1 ≤ r_2 → Q FP.dconst1 (XV.s_board vX vB_1)))
set_option maxHeartbeats 4000000 in
set_option maxRecDepth 100000 in
theorem c_X6_fittingPart (l : Launch) (D : va_G) (t : T3) (aX : XA) (vX : XV) (Q : UInt64 → XV → Prop) (h : wp_X6_fittingPart vX Q) : Ct l yX6_fittingPart wsX6_fittingPart 4 92 0 0 [.ref (XA.o aX)] D t (xW t aX vX) (fun sz => Qd D (xW t aX vX) (fun (u : XV) => (xW t aX u)) (fun (r : UInt64) (u : XV) => Q r u) sz) := by
  refine Ct.of (Qf := fun _ A => va_Qd (fun (r : UInt64) (u : XV) => Q r u) (B1 D (fun (u : XV) => (xW t aX u)) A) A) cX6_fittingPart 3 (some .double) (by decide) rfl (Nat.le_of_ble_eq_true rfl) ?_
  intro p e s m below meth c A ls hAe hin X hw hl
  generalize ([.ref (XA.o aX)] : List Value).toArray = args at X ⊢
  have hl : lv_has ls 3 [(0, .ref (XA.o aX))] := hl
  have hx := X.1.1
  have hb := X.1.2.1
  refine lv_aload_n hx hb dX6_fittingPart_0 rfl (lv_at hl 0 rfl) ?_
  refine r_get (ci := 6) (C := RX6) (T := TX6) (N := 6) X hw 0 rfl rfl 0 (by decide) in_X6_fittingPart_X6 fl_X6_fittingPart_12 (v := .ref (BA.o (XA.board aX))) rfl dX6_fittingPart_1 ?_
  refine lv_iconst (v := 0) hx hb dX6_fittingPart_4 (by decide) ?_
  refine r_ci X hw (pm_r (pm_l pm_0)) (wn := fun (u : BV) => (xW t aX (XV.s_board vX u))) (fun u => (pm_r (pm_l pm_0)).symm) (r_runV X hw (c_X0_pairsAlike l D t (XA.board aX) (XV.board vX) 0 _ h) (pm_r (pm_l pm_0)) (cwV 1 X.1.2.2.2.2 gX6_fittingPart_X0_pairsAlike rfl rfl rfl (by decide +kernel) ⟨Nat.le_of_ble_eq_true rfl, Nat.le_of_ble_eq_true rfl⟩) (ci := 0) rfl rfl rfl rfl hl rfl (Nat.le_of_ble_eq_true rfl) dX6_fittingPart_5 ⟨Nat.le_of_ble_eq_true rfl, Nat.le_of_ble_eq_true rfl⟩) (fun r_2 u H locs h hw => ?_)
  obtain ⟨vB_1, rfl⟩ : ∃ z, z = u := ⟨_, rfl⟩
  refine lv_istore_n (lv' := [(1, .int r_2), (0, .ref (XA.o aX))]) hx hb dX6_fittingPart_8 rfl hl (by decide) rfl (fun ls hl => ?_)
  refine lv_iload_n hx hb dX6_fittingPart_9 rfl (lv_at hl 0 rfl) ?_
  refine lv_iconst (v := 1) hx hb dX6_fittingPart_10 (by decide) ?_
  refine lv_icmp_ge (tgt := 16) hx hb dX6_fittingPart_11 (by decide) (fun c_9 => ?_) (fun c_9 => ?_)
  · replace h := h.1 c_9
    refine lv_aload_n hx hb dX6_fittingPart_16 rfl (lv_at hl 1 rfl) ?_
    refine r_get (ci := 6) (C := RX6) (T := TX6) (N := 6) X hw 0 rfl rfl 0 (by decide) in_X6_fittingPart_X6 fl_X6_fittingPart_12 (v := .ref (BA.o (XA.board aX))) rfl dX6_fittingPart_17 ?_
    refine lv_bipush (v := 15) hx hb dX6_fittingPart_20 (by decide) ?_
    refine r_ci X hw (pm_r (pm_l pm_0)) (wn := fun (u : BV) => (xW t aX (XV.s_board vX u))) (fun u => (pm_r (pm_l pm_0)).symm) (r_runV X hw (c_X0_pairsAlike l D t (XA.board aX) vB_1 15 _ h) (pm_r (pm_l pm_0)) (cwV 1 X.1.2.2.2.2 gX6_fittingPart_X0_pairsAlike rfl rfl rfl (by decide +kernel) ⟨Nat.le_of_ble_eq_true rfl, Nat.le_of_ble_eq_true rfl⟩) (ci := 0) rfl rfl rfl rfl hl rfl (Nat.le_of_ble_eq_true rfl) dX6_fittingPart_22 ⟨Nat.le_of_ble_eq_true rfl, Nat.le_of_ble_eq_true rfl⟩) (fun r_4 u H locs h hw => ?_)
    obtain ⟨vB_3, rfl⟩ : ∃ z, z = u := ⟨_, rfl⟩
    refine lv_aload_n hx hb dX6_fittingPart_25 rfl (lv_at hl 1 rfl) ?_
    refine r_get (ci := 6) (C := RX6) (T := TX6) (N := 6) X hw 0 rfl rfl 0 (by decide) in_X6_fittingPart_X6 fl_X6_fittingPart_12 (v := .ref (BA.o (XA.board aX))) rfl dX6_fittingPart_26 ?_
    refine lv_ldcw (v := 983040) hx hb X.1.2.2.2.1 (X.1.2.2.2.2 _ k_X6_fittingPart_311) dX6_fittingPart_29 ?_
    refine r_ci X hw (pm_r (pm_l pm_0)) (wn := fun (u : BV) => (xW t aX (XV.s_board vX u))) (fun u => (pm_r (pm_l pm_0)).symm) (r_runV X hw (c_X0_pairsAlike l D t (XA.board aX) vB_3 983040 _ h) (pm_r (pm_l pm_0)) (cwV 1 X.1.2.2.2.2 gX6_fittingPart_X0_pairsAlike rfl rfl rfl (by decide +kernel) ⟨Nat.le_of_ble_eq_true rfl, Nat.le_of_ble_eq_true rfl⟩) (ci := 0) rfl rfl rfl rfl hl rfl (Nat.le_of_ble_eq_true rfl) dX6_fittingPart_32 ⟨Nat.le_of_ble_eq_true rfl, Nat.le_of_ble_eq_true rfl⟩) (fun r_6 u H locs h hw => ?_)
    obtain ⟨vB_5, rfl⟩ : ∃ z, z = u := ⟨_, rfl⟩
    refine lv_iadd hx hb dX6_fittingPart_35 ?_
    refine lv_topi (fun x2_7 ex2_7 => ?_)
    replace h := h x2_7 ex2_7
    refine lv_istore_n (lv' := [(2, .int x2_7), (1, .int r_2), (0, .ref (XA.o aX))]) hx hb dX6_fittingPart_36 rfl hl (by decide) rfl (fun ls hl => ?_)
    refine lv_iload_n hx hb dX6_fittingPart_37 rfl (lv_at hl 0 rfl) ?_
    refine lv_i2d hx hb dX6_fittingPart_38 ?_
    refine lv_iconst (v := 2) hx hb dX6_fittingPart_39 (by decide) ?_
    refine lv_iload_n hx hb dX6_fittingPart_40 rfl (lv_at hl 1 rfl) ?_
    refine lv_imul hx hb dX6_fittingPart_41 ?_
    refine lv_i2d hx hb dX6_fittingPart_42 ?_
    obtain ⟨hn_8, h⟩ := h
    refine lv_ddiv hx hb dX6_fittingPart_43 hn_8 ?_
    exact e_d (w1 := (fun (u : XV) => (xW t aX u))) X ((XV.s_board vX vB_5)) hw h dX6_fittingPart_44
  replace h := h.2 c_9
  refine lv_dconst1 hx hb dX6_fittingPart_14 ?_
  exact e_d (w1 := (fun (u : XV) => (xW t aX u))) X ((XV.s_board vX vB_1)) hw h dX6_fittingPart_15
/-! X6_fitting -/
def wp_X6_fitting (vX : XV) (Q : UInt64 → XV → Prop) : Prop := wp_X6_fittingPart vX  (fun (r_2 : UInt64) (vX_1 : XV) => Q r_2 vX_1)
set_option maxHeartbeats 4000000 in
set_option maxRecDepth 100000 in
theorem c_X6_fitting (l : Launch) (D : va_G) (t : T3) (aX : XA) (vX : XV) (Q : UInt64 → XV → Prop) (h : wp_X6_fitting vX Q) : Ct l yX6_fitting wsX6_fitting 5 114 0 0 [.ref (XA.o aX)] D t (xW t aX vX) (fun sz => Qd D (xW t aX vX) (fun (u : XV) => (xW t aX u)) (fun (r : UInt64) (u : XV) => Q r u) sz) := by
  refine Ct.of (Qf := fun _ A => va_Qd (fun (r : UInt64) (u : XV) => Q r u) (B1 D (fun (u : XV) => (xW t aX u)) A) A) cX6_fitting 1 (some .double) (by decide) rfl (Nat.le_of_ble_eq_true rfl) ?_
  intro p e s m below meth c A ls hAe hin X hw hl
  generalize ([.ref (XA.o aX)] : List Value).toArray = args at X ⊢
  have hl : lv_has ls 1 [(0, .ref (XA.o aX))] := hl
  have hx := X.1.1
  have hb := X.1.2.1
  refine lv_aload_n hx hb dX6_fitting_0 rfl (lv_at hl 0 rfl) ?_
  refine r_cd X hw pm_0 (wn := fun (u : XV) => (xW t aX u)) (fun u => pm_0.symm) (r_runV X hw (c_X6_fittingPart l D t aX vX _ h) pm_0 (cwV 0 X.1.2.2.2.2 gX6_fitting_X6_fittingPart rfl rfl rfl (by decide +kernel) ⟨Nat.le_of_ble_eq_true rfl, Nat.le_of_ble_eq_true rfl⟩) (ci := 6) rfl rfl rfl rfl hl rfl (Nat.le_of_ble_eq_true rfl) dX6_fitting_1 ⟨Nat.le_of_ble_eq_true rfl, Nat.le_of_ble_eq_true rfl⟩) (fun r_2 u H locs h hw => ?_)
  obtain ⟨vX_1, rfl⟩ : ∃ z, z = u := ⟨_, rfl⟩
  exact e_d (w1 := (fun (u : XV) => (xW t aX u))) X (vX_1) hw h dX6_fitting_4
