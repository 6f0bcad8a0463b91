/-! X6_begin -/
theorem in_X6_begin_X6 : ∀ w ∈ u_ws RX6 TX6 6, w ∈ wsX6_begin := fun w h => (List.mem_cons_of_mem _ (List.mem_append_left _ (List.mem_append_left _ (List.mem_append_left _ (List.mem_append_right _ h)))))
theorem fl_X6_begin_19 : Cond.fieldLink RX6 19 "TwoFacedTiles" "history" "LTwoFacedTiles$History;" ∈ wsX6_begin := List.mem_of_getElem? (i := 3) rfl
theorem fl_X6_begin_12 : Cond.fieldLink RX6 12 "TwoFacedTiles" "board" "LTwoFacedTiles$Board;" ∈ wsX6_begin := List.mem_of_getElem? (i := 4) rfl
def wp_X6_begin_20 (Q : Int32 → XV → Prop) (XQ : String → XV → Prop) (vX : XV) : Prop := XQ "java/lang/IllegalArgumentException" vX
set_option maxHeartbeats 4000000 in
set_option maxRecDepth 100000 in
theorem k_X6_begin_20 {p : Program} {l : Launch} {e : Env} {s : State} {m : MethodId} {below : List Frame} {meth : Method} {c : Code} {args : Array Value} {D : va_G} {t : T3} {A : Nat → Prop} (X : Cx p s m meth c args cX6_begin 3 (some .int) RX6 wsX6_begin D t A) (aX : XA) {Q : Int32 → XV → Prop}  : ∀ (vX : XV) (H : Heap) (locs : List Loc) (ls : Array Slot), wp_X6_begin_20 Q (fun (_ : String) (_ : XV) => False) vX → Wd D A s.heap (xW t aX vX) H locs → lv_has ls 3 [] → W p l e ({ frames := 6, cells := 0, slots := 0, locals := 102 } : Room) s m args below meth c H locs 0 0 (Ei below args s A D (fun (u : XV) => (xW t aX u)) (fun (r : Int32) (u : XV) => Q r u) 0 0) (F0 m 20 ls []) := by
  intro vX H locs ls h hw hl
  have hx := X.1.1
  have hb := X.1.2.1
  exact (show False from h).elim
def wp_X6_begin (vX : XV) (p1 : Int32) (p2 : Int32) (Q : Int32 → XV → Prop) (XQ : String → XV → Prop) : Prop := (p1 < 1 → wp_X6_begin_20  Q XQ vX) ∧ (¬ p1 < 1 → (3 < p1 → wp_X6_begin_20  Q XQ vX) ∧ (¬ 3 < p1 → (p2 < 1 → wp_X6_begin_20  Q XQ vX) ∧ (¬ p2 < 1 → (p2 ≤ 4 → wp_X2_save (XV.history vX) (XV.board vX)  (fun (vH_1 : HV) (vB_2 : BV) => wp_X0_makeEmpty vB_2 p1 p2 (fun (vB_3 : BV) => wp_X0_cells vB_3  (fun (r_5 : Int32) (vB_4 : BV) => Q r_5 (XV.s_history (XV.s_board vX vB_4) vH_1))))) ∧ (¬ p2 ≤ 4 → wp_X6_begin_20  Q XQ vX))))
set_option maxHeartbeats 4000000 in
set_option maxRecDepth 100000 in
theorem c_X6_begin (l : Launch) (D : va_G) (t : T3) (aX : XA) (vX : XV) (p1 : Int32) (p2 : Int32) (Q : Int32 → XV → Prop) (h : wp_X6_begin vX p1 p2 Q (fun (_ : String) (_ : XV) => False)) : Ct l yX6_begin wsX6_begin 6 102 0 0 [.ref (XA.o aX), .int p1, .int p2] D t (xW t aX vX) (fun sz => Qi D (xW t aX vX) (fun (u : XV) => (xW t aX u)) (fun (r : Int32) (u : XV) => Q r u) sz) := by
  refine Ct.of (Qf := fun _ A => va_Qi (fun (r : Int32) (u : XV) => Q r u) (B1 D (fun (u : XV) => (xW t aX u)) A) A) cX6_begin 3 (some .int) (by decide) rfl (Nat.le_of_ble_eq_true rfl) ?_
  intro p e s m below meth c A ls hAe hin X hw hl
  generalize ([.ref (XA.o aX), .int p1, .int p2] : List Value).toArray = args at X ⊢
  have hl : lv_has ls 3 [(0, .ref (XA.o aX)), (1, .int p1), (2, .int p2)] := hl
  have hx := X.1.1
  have hb := X.1.2.1
  refine lv_iload_n hx hb dX6_begin_0 rfl (lv_at hl 1 rfl) ?_
  refine lv_iconst (v := 1) hx hb dX6_begin_1 (by decide) ?_
  refine lv_icmp_lt (tgt := 20) hx hb dX6_begin_2 (by decide) (fun c_9 => ?_) (fun c_9 => ?_)
  · replace h := h.1 c_9
    exact k_X6_begin_20 X aX _ _ _ _ h hw (lv_sub hl [] rfl)
  replace h := h.2 c_9
  refine lv_iload_n hx hb dX6_begin_5 rfl (lv_at hl 1 rfl) ?_
  refine lv_iconst (v := 3) hx hb dX6_begin_6 (by decide) ?_
  refine lv_icmp_gt (tgt := 20) hx hb dX6_begin_7 (by decide) (fun c_8 => ?_) (fun c_8 => ?_)
  · replace h := h.1 c_8
    exact k_X6_begin_20 X aX _ _ _ _ h hw (lv_sub hl [] rfl)
  replace h := h.2 c_8
  refine lv_iload_n hx hb dX6_begin_10 rfl (lv_at hl 2 rfl) ?_
  refine lv_iconst (v := 1) hx hb dX6_begin_11 (by decide) ?_
  refine lv_icmp_lt (tgt := 20) hx hb dX6_begin_12 (by decide) (fun c_7 => ?_) (fun c_7 => ?_)
  · replace h := h.1 c_7
    exact k_X6_begin_20 X aX _ _ _ _ h hw (lv_sub hl [] rfl)
  replace h := h.2 c_7
  refine lv_iload_n hx hb dX6_begin_15 rfl (lv_at hl 2 rfl) ?_
  refine lv_iconst (v := 4) hx hb dX6_begin_16 (by decide) ?_
  refine lv_icmp_le (tgt := 30) hx hb dX6_begin_17 (by decide) (fun c_6 => ?_) (fun c_6 => ?_)
  · replace h := h.1 c_6
    refine lv_aload_n hx hb dX6_begin_30 rfl (lv_at hl 0 rfl) ?_
    refine r_get (ci := 6) (C := RX6) (T := TX6) (N := 6) X hw 0 rfl rfl 1 (by decide) in_X6_begin_X6 fl_X6_begin_19 (v := .ref (HA.o (XA.history aX))) rfl dX6_begin_31 ?_
    refine lv_aload_n hx hb dX6_begin_34 rfl (lv_at hl 0 rfl) ?_
    refine r_get (ci := 6) (C := RX6) (T := TX6) (N := 6) X hw 0 rfl rfl 0 (by decide) in_X6_begin_X6 fl_X6_begin_12 (v := .ref (BA.o (XA.board aX))) rfl dX6_begin_35 ?_
    refine r_cv X hw (pm_2 (pm_r (pm_r (pm_l pm_0))) (pm_r (pm_l pm_0))) (wn := fun (u : HV × BV) => (xW t aX (XV.s_history (XV.s_board vX u.2) u.1))) (fun u => (pm_2 (pm_r (pm_r (pm_l pm_0))) (pm_r (pm_l pm_0))).symm) (r_runV X hw (c_X2_save l D t (XA.history aX) (XA.board aX) (XV.history vX) (XV.board vX) _ h) (pm_2 (pm_r (pm_r (pm_l pm_0))) (pm_r (pm_l pm_0))) (cwV 1 X.1.2.2.2.2 gX6_begin_X2_save rfl rfl rfl (by decide +kernel) ⟨Nat.le_of_ble_eq_true rfl, Nat.le_of_ble_eq_true rfl⟩) (ci := 2) rfl rfl rfl rfl hl rfl (Nat.le_of_ble_eq_true rfl) dX6_begin_38 ⟨Nat.le_of_ble_eq_true rfl, Nat.le_of_ble_eq_true rfl⟩) (fun u H locs h hw => ?_)
    obtain ⟨vH_1, vB_2⟩ := u
    refine lv_aload_n hx hb dX6_begin_41 rfl (lv_at hl 0 rfl) ?_
    refine r_get (ci := 6) (C := RX6) (T := TX6) (N := 6) X hw 0 rfl rfl 0 (by decide) in_X6_begin_X6 fl_X6_begin_12 (v := .ref (BA.o (XA.board aX))) rfl dX6_begin_42 ?_
    refine lv_iload_n hx hb dX6_begin_45 rfl (lv_at hl 1 rfl) ?_
    refine lv_iload_n hx hb dX6_begin_46 rfl (lv_at hl 2 rfl) ?_
    refine r_cv X hw (pm_r (pm_l pm_0)) (wn := fun (u : BV) => (xW t aX (XV.s_history (XV.s_board vX u) vH_1))) (fun u => (pm_r (pm_l pm_0)).symm) (r_runV X hw (c_X0_makeEmpty l D t (XA.board aX) vB_2 p1 p2 _ h) (pm_r (pm_l pm_0)) (cwV 2 X.1.2.2.2.2 gX6_begin_X0_makeEmpty rfl rfl rfl (by decide +kernel) ⟨Nat.le_of_ble_eq_true rfl, Nat.le_of_ble_eq_true rfl⟩) (ci := 0) rfl rfl rfl rfl hl rfl (Nat.le_of_ble_eq_true rfl) dX6_begin_47 ⟨Nat.le_of_ble_eq_true rfl, Nat.le_of_ble_eq_true rfl⟩) (fun u H locs h hw => ?_)
    obtain ⟨vB_3, rfl⟩ : ∃ z, z = u := ⟨_, rfl⟩
    refine lv_aload_n hx hb dX6_begin_50 rfl (lv_at hl 0 rfl) ?_
    refine r_get (ci := 6) (C := RX6) (T := TX6) (N := 6) X hw 0 rfl rfl 0 (by decide) in_X6_begin_X6 fl_X6_begin_12 (v := .ref (BA.o (XA.board aX))) rfl dX6_begin_51 ?_
    refine r_ci X hw (pm_r (pm_l pm_0)) (wn := fun (u : BV) => (xW t aX (XV.s_history (XV.s_board vX u) vH_1))) (fun u => (pm_r (pm_l pm_0)).symm) (r_runV X hw (c_X0_cells l D t (XA.board aX) vB_3 _ h) (pm_r (pm_l pm_0)) (cwV 0 X.1.2.2.2.2 gX6_begin_X0_cells rfl rfl rfl (by decide +kernel) ⟨Nat.le_of_ble_eq_true rfl, Nat.le_of_ble_eq_true rfl⟩) (ci := 0) rfl rfl rfl rfl hl rfl (Nat.le_of_ble_eq_true rfl) dX6_begin_54 ⟨Nat.le_of_ble_eq_true rfl, Nat.le_of_ble_eq_true rfl⟩) (fun r_5 u H locs h hw => ?_)
    obtain ⟨vB_4, rfl⟩ : ∃ z, z = u := ⟨_, rfl⟩
    exact e_i (w1 := (fun (u : XV) => (xW t aX u))) X ((XV.s_history (XV.s_board vX vB_4) vH_1)) hw h dX6_begin_57
  replace h := h.2 c_6
  exact k_X6_begin_20 X aX _ _ _ _ h hw (lv_sub hl [] rfl)
/-! X6_addTile -/
theorem in_X6_addTile_X6 : ∀ w ∈ u_ws RX6 TX6 6, w ∈ wsX6_addTile := fun w h => (List.mem_cons_of_mem _ (List.mem_append_left _ (List.mem_append_left _ (List.mem_append_left _ (List.mem_append_left _ (List.mem_append_right _ h))))))
theorem fl_X6_addTile_12 : Cond.fieldLink RX6 12 "TwoFacedTiles" "board" "LTwoFacedTiles$Board;" ∈ wsX6_addTile := List.mem_of_getElem? (i := 5) rfl
theorem in_X6_addTile_X0 : ∀ w ∈ u_ws RX0 TX0 8, w ∈ wsX6_addTile := fun w h => (List.mem_cons_of_mem _ (List.mem_append_left _ (List.mem_append_left _ (List.mem_append_left _ (List.mem_append_right _ h)))))
theorem fl_X6_addTile_72 : Cond.fieldLink RX6 72 "TwoFacedTiles$Board" "tiles" "I" ∈ wsX6_addTile := List.mem_of_getElem? (i := 6) rfl
theorem fl_X6_addTile_19 : Cond.fieldLink RX6 19 "TwoFacedTiles" "history" "LTwoFacedTiles$History;" ∈ wsX6_addTile := List.mem_of_getElem? (i := 7) rfl
def wp_X6_addTile_22 (Q : Int32 → XV → Prop) (XQ : String → XV → Prop) (vX : XV) : Prop := XQ "java/lang/IllegalArgumentException" vX
set_option maxHeartbeats 4000000 in
set_option maxRecDepth 100000 in
theorem k_X6_addTile_22 {p : Program} {l : Launch} {e : Env} {s : State} {m : MethodId} {below : List Frame} {meth : Method} {c : Code} {args : Array Value} {D : va_G} {t : T3} {A : Nat → Prop} (X : Cx p s m meth c args cX6_addTile 3 (some .int) RX6 wsX6_addTile D t A) (aX : XA) {Q : Int32 → XV → Prop}  : ∀ (vX : XV) (H : Heap) (locs : List Loc) (ls : Array Slot), wp_X6_addTile_22 Q (fun (_ : String) (_ : XV) => False) vX → Wd D A s.heap (xW t aX vX) H locs → lv_has ls 3 [] → W p l e ({ frames := 6, cells := 0, slots := 0, locals := 102 } : Room) s m args below meth c H locs 0 0 (Ei below args s A D (fun (u : XV) => (xW t aX u)) (fun (r : Int32) (u : XV) => Q r u) 0 0) (F0 m 22 ls []) := by
  intro vX H locs ls h hw hl
  have hx := X.1.1
  have hb := X.1.2.1
  exact (show False from h).elim
def wp_X6_addTile (vX : XV) (p1 : Int32) (p2 : Int32) (Q : Int32 → XV → Prop) (XQ : String → XV → Prop) : Prop := (p1 < 0 → wp_X6_addTile_22  Q XQ vX) ∧ (¬ p1 < 0 → (9999 < p1 → wp_X6_addTile_22  Q XQ vX) ∧ (¬ 9999 < p1 → (p2 < 0 → wp_X6_addTile_22  Q XQ vX) ∧ (¬ p2 < 0 → (p2 ≤ 9999 → ((BV.tiles (XV.board vX)) < 12 → wp_X2_save (XV.history vX) (XV.board vX)  (fun (vH_1 : HV) (vB_2 : BV) => wp_X0_addFaces vB_2 p1 p2 (fun (vB_3 : BV) => Q ((BV.tiles vB_3) - 1) (XV.s_history (XV.s_board vX vB_3) vH_1)))) ∧ (¬ (BV.tiles (XV.board vX)) < 12 → XQ "java/lang/IllegalStateException" vX)) ∧ (¬ p2 ≤ 9999 → wp_X6_addTile_22  Q XQ vX))))
set_option maxHeartbeats 4000000 in
set_option maxRecDepth 100000 in
theorem c_X6_addTile (l : Launch) (D : va_G) (t : T3) (aX : XA) (vX : XV) (p1 : Int32) (p2 : Int32) (Q : Int32 → XV → Prop) (h : wp_X6_addTile vX p1 p2 Q (fun (_ : String) (_ : XV) => False)) : Ct l yX6_addTile wsX6_addTile 6 102 0 0 [.ref (XA.o aX), .int p1, .int p2] D t (xW t aX vX) (fun sz => Qi D (xW t aX vX) (fun (u : XV) => (xW t aX u)) (fun (r : Int32) (u : XV) => Q r u) sz) := by
  refine Ct.of (Qf := fun _ A => va_Qi (fun (r : Int32) (u : XV) => Q r u) (B1 D (fun (u : XV) => (xW t aX u)) A) A) cX6_addTile 3 (some .int) (by decide) rfl (Nat.le_of_ble_eq_true rfl) ?_
  intro p e s m below meth c A ls hAe hin X hw hl
  generalize ([.ref (XA.o aX), .int p1, .int p2] : List Value).toArray = args at X ⊢
  have hl : lv_has ls 3 [(0, .ref (XA.o aX)), (1, .int p1), (2, .int p2)] := hl
  have hx := X.1.1
  have hb := X.1.2.1
  refine lv_iload_n hx hb dX6_addTile_0 rfl (lv_at hl 1 rfl) ?_
  refine lv_if_lt (tgt := 22) hx hb dX6_addTile_1 (by decide) (fun c_8 => ?_) (fun c_8 => ?_)
  · replace h := h.1 c_8
    exact k_X6_addTile_22 X aX _ _ _ _ h hw (lv_sub hl [] rfl)
  replace h := h.2 c_8
  refine lv_iload_n hx hb dX6_addTile_4 rfl (lv_at hl 1 rfl) ?_
  refine lv_sipush (v := 9999) hx hb dX6_addTile_5 (by decide) ?_
  refine lv_icmp_gt (tgt := 22) hx hb dX6_addTile_8 (by decide) (fun c_7 => ?_) (fun c_7 => ?_)
  · replace h := h.1 c_7
    exact k_X6_addTile_22 X aX _ _ _ _ h hw (lv_sub hl [] rfl)
  replace h := h.2 c_7
  refine lv_iload_n hx hb dX6_addTile_11 rfl (lv_at hl 2 rfl) ?_
  refine lv_if_lt (tgt := 22) hx hb dX6_addTile_12 (by decide) (fun c_6 => ?_) (fun c_6 => ?_)
  · replace h := h.1 c_6
    exact k_X6_addTile_22 X aX _ _ _ _ h hw (lv_sub hl [] rfl)
  replace h := h.2 c_6
  refine lv_iload_n hx hb dX6_addTile_15 rfl (lv_at hl 2 rfl) ?_
  refine lv_sipush (v := 9999) hx hb dX6_addTile_16 (by decide) ?_
  refine lv_icmp_le (tgt := 32) hx hb dX6_addTile_19 (by decide) (fun c_5 => ?_) (fun c_5 => ?_)
  · replace h := h.1 c_5
    refine lv_aload_n hx hb dX6_addTile_32 rfl (lv_at hl 0 rfl) ?_
    refine r_get (ci := 6) (C := RX6) (T := TX6) (N := 6) X hw 0 rfl rfl 0 (by decide) in_X6_addTile_X6 fl_X6_addTile_12 (v := .ref (BA.o (XA.board aX))) rfl dX6_addTile_33 ?_
    refine r_get (ci := 0) (C := RX0) (T := TX0) (N := 8) X hw 1 rfl rfl 3 (by decide) in_X6_addTile_X0 fl_X6_addTile_72 (v := .int (BV.tiles (XV.board vX))) rfl dX6_addTile_36 ?_
    refine lv_bipush (v := 12) hx hb dX6_addTile_39 (by decide) ?_
    refine lv_icmp_lt (tgt := 54) hx hb dX6_addTile_41 (by decide) (fun c_4 => ?_) (fun c_4 => ?_)
    · replace h := h.1 c_4
      refine lv_aload_n hx hb dX6_addTile_54 rfl (lv_at hl 0 rfl) ?_
      refine r_get (ci := 6) (C := RX6) (T := TX6) (N := 6) X hw 0 rfl rfl 1 (by decide) in_X6_addTile_X6 fl_X6_addTile_19 (v := .ref (HA.o (XA.history aX))) rfl dX6_addTile_55 ?_
      refine lv_aload_n hx hb dX6_addTile_58 rfl (lv_at hl 0 rfl) ?_
      refine r_get (ci := 6) (C := RX6) (T := TX6) (N := 6) X hw 0 rfl rfl 0 (by decide) in_X6_addTile_X6 fl_X6_addTile_12 (v := .ref (BA.o (XA.board aX))) rfl dX6_addTile_59 ?_
      refine r_cv X hw (pm_2 (pm_r (pm_r (pm_l pm_0))) (pm_r (pm_l pm_0))) (wn := fun (u : HV × BV) => (xW t aX (XV.s_history (XV.s_board vX u.2) u.1))) (fun u => (pm_2 (pm_r (pm_r (pm_l pm_0))) (pm_r (pm_l pm_0))).symm) (r_runV X hw (c_X2_save l D t (XA.history aX) (XA.board aX) (XV.history vX) (XV.board vX) _ h) (pm_2 (pm_r (pm_r (pm_l pm_0))) (pm_r (pm_l pm_0))) (cwV 1 X.1.2.2.2.2 gX6_addTile_X2_save rfl rfl rfl (by decide +kernel) ⟨Nat.le_of_ble_eq_true rfl, Nat.le_of_ble_eq_true rfl⟩) (ci := 2) rfl rfl rfl rfl hl rfl (Nat.le_of_ble_eq_true rfl) dX6_addTile_62 ⟨Nat.le_of_ble_eq_true rfl, Nat.le_of_ble_eq_true rfl⟩) (fun u H locs h hw => ?_)
      obtain ⟨vH_1, vB_2⟩ := u
      refine lv_aload_n hx hb dX6_addTile_65 rfl (lv_at hl 0 rfl) ?_
      refine r_get (ci := 6) (C := RX6) (T := TX6) (N := 6) X hw 0 rfl rfl 0 (by decide) in_X6_addTile_X6 fl_X6_addTile_12 (v := .ref (BA.o (XA.board aX))) rfl dX6_addTile_66 ?_
      refine lv_iload_n hx hb dX6_addTile_69 rfl (lv_at hl 1 rfl) ?_
      refine lv_iload_n hx hb dX6_addTile_70 rfl (lv_at hl 2 rfl) ?_
      refine r_cv X hw (pm_r (pm_l pm_0)) (wn := fun (u : BV) => (xW t aX (XV.s_history (XV.s_board vX u) vH_1))) (fun u => (pm_r (pm_l pm_0)).symm) (r_runV X hw (c_X0_addFaces l D t (XA.board aX) vB_2 p1 p2 _ h) (pm_r (pm_l pm_0)) (cwV 2 X.1.2.2.2.2 gX6_addTile_X0_addFaces rfl rfl rfl (by decide +kernel) ⟨Nat.le_of_ble_eq_true rfl, Nat.le_of_ble_eq_true rfl⟩) (ci := 0) rfl rfl rfl rfl hl rfl (Nat.le_of_ble_eq_true rfl) dX6_addTile_71 ⟨Nat.le_of_ble_eq_true rfl, Nat.le_of_ble_eq_true rfl⟩) (fun u H locs h hw => ?_)
      obtain ⟨vB_3, rfl⟩ : ∃ z, z = u := ⟨_, rfl⟩
      refine lv_aload_n hx hb dX6_addTile_74 rfl (lv_at hl 0 rfl) ?_
      refine r_get (ci := 6) (C := RX6) (T := TX6) (N := 6) X hw 0 rfl rfl 0 (by decide) in_X6_addTile_X6 fl_X6_addTile_12 (v := .ref (BA.o (XA.board aX))) rfl dX6_addTile_75 ?_
      refine r_get (ci := 0) (C := RX0) (T := TX0) (N := 8) X hw 1 rfl rfl 3 (by decide) in_X6_addTile_X0 fl_X6_addTile_72 (v := .int (BV.tiles vB_3)) rfl dX6_addTile_78 ?_
      refine lv_iconst (v := 1) hx hb dX6_addTile_81 (by decide) ?_
      refine lv_isub hx hb dX6_addTile_82 ?_
      exact e_i (w1 := (fun (u : XV) => (xW t aX u))) X ((XV.s_history (XV.s_board vX vB_3) vH_1)) hw h dX6_addTile_83
    replace h := h.2 c_4
    exact (show False from h).elim
  replace h := h.2 c_5
  exact k_X6_addTile_22 X aX _ _ _ _ h hw (lv_sub hl [] rfl)
/-! X6_dropTile -/
theorem in_X6_dropTile_X6 : ∀ w ∈ u_ws RX6 TX6 6, w ∈ wsX6_dropTile := fun w h => (List.mem_cons_of_mem _ (List.mem_append_left _ (List.mem_append_left _ (List.mem_append_left _ (List.mem_append_right _ h)))))
theorem fl_X6_dropTile_12 : Cond.fieldLink RX6 12 "TwoFacedTiles" "board" "LTwoFacedTiles$Board;" ∈ wsX6_dropTile := List.mem_of_getElem? (i := 3) rfl
theorem in_X6_dropTile_X0 : ∀ w ∈ u_ws RX0 TX0 8, w ∈ wsX6_dropTile := fun w h => (List.mem_cons_of_mem _ (List.mem_append_left _ (List.mem_append_left _ (List.mem_append_right _ h))))
theorem fl_X6_dropTile_72 : Cond.fieldLink RX6 72 "TwoFacedTiles$Board" "tiles" "I" ∈ wsX6_dropTile := List.mem_of_getElem? (i := 4) rfl
theorem fl_X6_dropTile_19 : Cond.fieldLink RX6 19 "TwoFacedTiles" "history" "LTwoFacedTiles$History;" ∈ wsX6_dropTile := List.mem_of_getElem? (i := 5) rfl
def wp_X6_dropTile_30 (Q : Int32 → XV → Prop) (XQ : String → XV → Prop) (vX : XV) : Prop := XQ "java/lang/IllegalStateException" vX
set_option maxHeartbeats 4000000 in
set_option maxRecDepth 100000 in
theorem k_X6_dropTile_30 {p : Program} {l : Launch} {e : Env} {s : State} {m : MethodId} {below : List Frame} {meth : Method} {c : Code} {args : Array Value} {D : va_G} {t : T3} {A : Nat → Prop} (X : Cx p s m meth c args cX6_dropTile 1 (some .int) RX6 wsX6_dropTile D t A) (aX : XA) {Q : Int32 → XV → Prop}  : ∀ (vX : XV) (H : Heap) (locs : List Loc) (ls : Array Slot), wp_X6_dropTile_30 Q (fun (_ : String) (_ : XV) => False) vX → Wd D A s.heap (xW t aX vX) H locs → lv_has ls 1 [] → W p l e ({ frames := 6, cells := 0, slots := 0, locals := 102 } : Room) s m args below meth c H locs 0 0 (Ei below args s A D (fun (u : XV) => (xW t aX u)) (fun (r : Int32) (u : XV) => Q r u) 0 0) (F0 m 30 ls []) := by
  intro vX H locs ls h hw hl
  have hx := X.1.1
  have hb := X.1.2.1
  exact (show False from h).elim
def wp_X6_dropTile (vX : XV) (Q : Int32 → XV → Prop) (XQ : String → XV → Prop) : Prop := ((BV.tiles (XV.board vX)) < 1 → wp_X6_dropTile_30  Q XQ vX) ∧ (¬ (BV.tiles (XV.board vX)) < 1 → wp_X0_isLaid (XV.board vX) ((BV.tiles (XV.board vX)) - 1) (fun (r_2 : Int32) (vB_1 : BV) => (r_2 = 0 → wp_X2_save (XV.history vX) vB_1  (fun (vH_3 : HV) (vB_4 : BV) => ∀ f_5 : Int32, f_5 = ((BV.tiles vB_4) - 1) → Q f_5 (XV.s_history (XV.s_board vX (BV.s_tiles vB_4 f_5)) vH_3))) ∧ (¬ r_2 = 0 → wp_X6_dropTile_30  Q XQ (XV.s_board vX vB_1))))
set_option maxHeartbeats 4000000 in
set_option maxRecDepth 100000 in
theorem c_X6_dropTile (l : Launch) (D : va_G) (t : T3) (aX : XA) (vX : XV) (Q : Int32 → XV → Prop) (h : wp_X6_dropTile vX Q (fun (_ : String) (_ : XV) => False)) : Ct l yX6_dropTile wsX6_dropTile 6 102 0 0 [.ref (XA.o aX)] D t (xW t aX vX) (fun sz => Qi D (xW t aX vX) (fun (u : XV) => (xW t aX u)) (fun (r : Int32) (u : XV) => Q r u) sz) := by
  refine Ct.of (Qf := fun _ A => va_Qi (fun (r : Int32) (u : XV) => Q r u) (B1 D (fun (u : XV) => (xW t aX u)) A) A) cX6_dropTile 1 (some .int) (by decide) rfl (Nat.le_of_ble_eq_true rfl) ?_
  intro p e s m below meth c A ls hAe hin X hw hl
  generalize ([.ref (XA.o aX)] : List Value).toArray = args at X ⊢
  have hl : lv_has ls 1 [(0, .ref (XA.o aX))] := hl
  have hx := X.1.1
  have hb := X.1.2.1
  refine lv_aload_n hx hb dX6_dropTile_0 rfl (lv_at hl 0 rfl) ?_
  refine r_get (ci := 6) (C := RX6) (T := TX6) (N := 6) X hw 0 rfl rfl 0 (by decide) in_X6_dropTile_X6 fl_X6_dropTile_12 (v := .ref (BA.o (XA.board aX))) rfl dX6_dropTile_1 ?_
  refine r_get (ci := 0) (C := RX0) (T := TX0) (N := 8) X hw 1 rfl rfl 3 (by decide) in_X6_dropTile_X0 fl_X6_dropTile_72 (v := .int (BV.tiles (XV.board vX))) rfl dX6_dropTile_4 ?_
  refine lv_iconst (v := 1) hx hb dX6_dropTile_7 (by decide) ?_
  refine lv_icmp_lt (tgt := 30) hx hb dX6_dropTile_8 (by decide) (fun c_7 => ?_) (fun c_7 => ?_)
  · replace h := h.1 c_7
    exact k_X6_dropTile_30 X aX _ _ _ _ h hw (lv_sub hl [] rfl)
  replace h := h.2 c_7
  refine lv_aload_n hx hb dX6_dropTile_11 rfl (lv_at hl 0 rfl) ?_
  refine r_get (ci := 6) (C := RX6) (T := TX6) (N := 6) X hw 0 rfl rfl 0 (by decide) in_X6_dropTile_X6 fl_X6_dropTile_12 (v := .ref (BA.o (XA.board aX))) rfl dX6_dropTile_12 ?_
  refine lv_aload_n hx hb dX6_dropTile_15 rfl (lv_at hl 0 rfl) ?_
  refine r_get (ci := 6) (C := RX6) (T := TX6) (N := 6) X hw 0 rfl rfl 0 (by decide) in_X6_dropTile_X6 fl_X6_dropTile_12 (v := .ref (BA.o (XA.board aX))) rfl dX6_dropTile_16 ?_
  refine r_get (ci := 0) (C := RX0) (T := TX0) (N := 8) X hw 1 rfl rfl 3 (by decide) in_X6_dropTile_X0 fl_X6_dropTile_72 (v := .int (BV.tiles (XV.board vX))) rfl dX6_dropTile_19 ?_
  refine lv_iconst (v := 1) hx hb dX6_dropTile_22 (by decide) ?_
  refine lv_isub hx hb dX6_dropTile_23 ?_
  refine r_ci X hw (pm_r (pm_l pm_0)) (wn := fun (u : BV) => (xW t aX (XV.s_board vX u))) (fun u => (pm_r (pm_l pm_0)).symm) (r_runV X hw (c_X0_isLaid l D t (XA.board aX) (XV.board vX) ((BV.tiles (XV.board vX)) - 1) _ h) (pm_r (pm_l pm_0)) (cwV 1 X.1.2.2.2.2 gX6_dropTile_X0_isLaid rfl rfl rfl (by decide +kernel) ⟨Nat.le_of_ble_eq_true rfl, Nat.le_of_ble_eq_true rfl⟩) (ci := 0) rfl rfl rfl rfl hl rfl (Nat.le_of_ble_eq_true rfl) dX6_dropTile_24 ⟨Nat.le_of_ble_eq_true rfl, Nat.le_of_ble_eq_true rfl⟩) (fun r_2 u H locs h hw => ?_)
  obtain ⟨vB_1, rfl⟩ : ∃ z, z = u := ⟨_, rfl⟩
  refine lv_if_eq (tgt := 40) hx hb dX6_dropTile_27 (by decide) (fun c_6 => ?_) (fun c_6 => ?_)
  · replace h := h.1 c_6
    refine lv_aload_n hx hb dX6_dropTile_40 rfl (lv_at hl 0 rfl) ?_
    refine r_get (ci := 6) (C := RX6) (T := TX6) (N := 6) X hw 0 rfl rfl 1 (by decide) in_X6_dropTile_X6 fl_X6_dropTile_19 (v := .ref (HA.o (XA.history aX))) rfl dX6_dropTile_41 ?_
    refine lv_aload_n hx hb dX6_dropTile_44 rfl (lv_at hl 0 rfl) ?_
    refine r_get (ci := 6) (C := RX6) (T := TX6) (N := 6) X hw 0 rfl rfl 0 (by decide) in_X6_dropTile_X6 fl_X6_dropTile_12 (v := .ref (BA.o (XA.board aX))) rfl dX6_dropTile_45 ?_
    refine r_cv X hw (pm_2 (pm_r (pm_r (pm_l pm_0))) (pm_r (pm_l pm_0))) (wn := fun (u : HV × BV) => (xW t aX (XV.s_history (XV.s_board vX u.2) u.1))) (fun u => (pm_2 (pm_r (pm_r (pm_l pm_0))) (pm_r (pm_l pm_0))).symm) (r_runV X hw (c_X2_save l D t (XA.history aX) (XA.board aX) (XV.history vX) vB_1 _ h) (pm_2 (pm_r (pm_r (pm_l pm_0))) (pm_r (pm_l pm_0))) (cwV 1 X.1.2.2.2.2 gX6_dropTile_X2_save rfl rfl rfl (by decide +kernel) ⟨Nat.le_of_ble_eq_true rfl, Nat.le_of_ble_eq_true rfl⟩) (ci := 2) rfl rfl rfl rfl hl rfl (Nat.le_of_ble_eq_true rfl) dX6_dropTile_48 ⟨Nat.le_of_ble_eq_true rfl, Nat.le_of_ble_eq_true rfl⟩) (fun u H locs h hw => ?_)
    obtain ⟨vH_3, vB_4⟩ := u
    refine lv_aload_n hx hb dX6_dropTile_51 rfl (lv_at hl 0 rfl) ?_
    refine r_get (ci := 6) (C := RX6) (T := TX6) (N := 6) X hw 0 rfl rfl 0 (by decide) in_X6_dropTile_X6 fl_X6_dropTile_12 (v := .ref (BA.o (XA.board aX))) rfl dX6_dropTile_52 ?_
    refine lv_dup hx hb dX6_dropTile_55 rfl ?_
    refine r_get (ci := 0) (C := RX0) (T := TX0) (N := 8) X hw 1 rfl rfl 3 (by decide) in_X6_dropTile_X0 fl_X6_dropTile_72 (v := .int (BV.tiles vB_4)) rfl dX6_dropTile_56 ?_
    refine lv_iconst (v := 1) hx hb dX6_dropTile_59 (by decide) ?_
    refine lv_isub hx hb dX6_dropTile_60 ?_
    refine lv_topi (fun f_5 ef_5 => ?_)
    replace h := h f_5 ef_5
    refine r_put (ci := 0) (C := RX0) (T := TX0) (N := 8) (v := .int f_5) (ws' := (xW t aX (XV.s_history (XV.s_board vX (BV.s_tiles vB_4 f_5)) vH_3))) X hw 1 rfl rfl 3 (by decide) in_X6_dropTile_X0 tyX0 tyX0_ok nmX0 fl_X6_dropTile_72 rfl rfl rfl (Nat.le_of_ble_eq_true rfl) rfl dX6_dropTile_61 (fun H locs hw => ?_)
    refine lv_aload_n hx hb dX6_dropTile_64 rfl (lv_at hl 0 rfl) ?_
    refine r_get (ci := 6) (C := RX6) (T := TX6) (N := 6) X hw 0 rfl rfl 0 (by decide) in_X6_dropTile_X6 fl_X6_dropTile_12 (v := .ref (BA.o (XA.board aX))) rfl dX6_dropTile_65 ?_
    refine r_get (ci := 0) (C := RX0) (T := TX0) (N := 8) X hw 1 rfl rfl 3 (by decide) in_X6_dropTile_X0 fl_X6_dropTile_72 (v := .int f_5) rfl dX6_dropTile_68 ?_
    exact e_i (w1 := (fun (u : XV) => (xW t aX u))) X ((XV.s_history (XV.s_board vX (BV.s_tiles vB_4 f_5)) vH_3)) hw h dX6_dropTile_71
  replace h := h.2 c_6
  exact k_X6_dropTile_30 X aX _ _ _ _ h hw (lv_sub hl [] rfl)
/-! X6_setRule -/
theorem in_X6_setRule_X6 : ∀ w ∈ u_ws RX6 TX6 6, w ∈ wsX6_setRule := fun w h => (List.mem_cons_of_mem _ (List.mem_append_left _ (List.mem_append_left _ (List.mem_append_left _ (List.mem_append_right _ h)))))
theorem fl_X6_setRule_19 : Cond.fieldLink RX6 19 "TwoFacedTiles" "history" "LTwoFacedTiles$History;" ∈ wsX6_setRule := List.mem_of_getElem? (i := 3) rfl
theorem fl_X6_setRule_12 : Cond.fieldLink RX6 12 "TwoFacedTiles" "board" "LTwoFacedTiles$Board;" ∈ wsX6_setRule := List.mem_of_getElem? (i := 4) rfl
theorem in_X6_setRule_X0 : ∀ w ∈ u_ws RX0 TX0 8, w ∈ wsX6_setRule := fun w h => (List.mem_cons_of_mem _ (List.mem_append_left _ (List.mem_append_left _ (List.mem_append_right _ h))))
theorem fl_X6_setRule_92 : Cond.fieldLink RX6 92 "TwoFacedTiles$Board" "rule" "I" ∈ wsX6_setRule := List.mem_of_getElem? (i := 5) rfl
def wp_X6_setRule_9 (Q : Int32 → XV → Prop) (XQ : String → XV → Prop) (vX : XV) : Prop := XQ "java/lang/IllegalArgumentException" vX
set_option maxHeartbeats 4000000 in
set_option maxRecDepth 100000 in
theorem k_X6_setRule_9 {p : Program} {l : Launch} {e : Env} {s : State} {m : MethodId} {below : List Frame} {meth : Method} {c : Code} {args : Array Value} {D : va_G} {t : T3} {A : Nat → Prop} (X : Cx p s m meth c args cX6_setRule 3 (some .int) RX6 wsX6_setRule D t A) (aX : XA) {Q : Int32 → XV → Prop}  : ∀ (vX : XV) (H : Heap) (locs : List Loc) (ls : Array Slot), wp_X6_setRule_9 Q (fun (_ : String) (_ : XV) => False) vX → Wd D A s.heap (xW t aX vX) H locs → lv_has ls 3 [] → W p l e ({ frames := 6, cells := 0, slots := 0, locals := 102 } : Room) s m args below meth c H locs 0 0 (Ei below args s A D (fun (u : XV) => (xW t aX u)) (fun (r : Int32) (u : XV) => Q r u) 0 0) (F0 m 9 ls []) := by
  intro vX H locs ls h hw hl
  have hx := X.1.1
  have hb := X.1.2.1
  exact (show False from h).elim
def wp_X6_setRule (vX : XV) (p1 : Int32) (Q : Int32 → XV → Prop) (XQ : String → XV → Prop) : Prop := (p1 < 0 → wp_X6_setRule_9  Q XQ vX) ∧ (¬ p1 < 0 → (p1 ≤ 2 → wp_X2_save (XV.history vX) (XV.board vX)  (fun (vH_1 : HV) (vB_2 : BV) => ∀ x2_3 : Int32, x2_3 = (BV.rule vB_2) → Q x2_3 (XV.s_history (XV.s_board vX (BV.s_rule vB_2 p1)) vH_1))) ∧ (¬ p1 ≤ 2 → wp_X6_setRule_9  Q XQ vX))
set_option maxHeartbeats 4000000 in
set_option maxRecDepth 100000 in
theorem c_X6_setRule (l : Launch) (D : va_G) (t : T3) (aX : XA) (vX : XV) (p1 : Int32) (Q : Int32 → XV → Prop) (h : wp_X6_setRule vX p1 Q (fun (_ : String) (_ : XV) => False)) : Ct l yX6_setRule wsX6_setRule 6 102 0 0 [.ref (XA.o aX), .int p1] D t (xW t aX vX) (fun sz => Qi D (xW t aX vX) (fun (u : XV) => (xW t aX u)) (fun (r : Int32) (u : XV) => Q r u) sz) := by
  refine Ct.of (Qf := fun _ A => va_Qi (fun (r : Int32) (u : XV) => Q r u) (B1 D (fun (u : XV) => (xW t aX u)) A) A) cX6_setRule 3 (some .int) (by decide) rfl (Nat.le_of_ble_eq_true rfl) ?_
  intro p e s m below meth c A ls hAe hin X hw hl
  generalize ([.ref (XA.o aX), .int p1] : List Value).toArray = args at X ⊢
  have hl : lv_has ls 3 [(0, .ref (XA.o aX)), (1, .int p1)] := hl
  have hx := X.1.1
  have hb := X.1.2.1
  refine lv_iload_n hx hb dX6_setRule_0 rfl (lv_at hl 1 rfl) ?_
  refine lv_if_lt (tgt := 9) hx hb dX6_setRule_1 (by decide) (fun c_5 => ?_) (fun c_5 => ?_)
  · replace h := h.1 c_5
    exact k_X6_setRule_9 X aX _ _ _ _ h hw (lv_sub hl [] rfl)
  replace h := h.2 c_5
  refine lv_iload_n hx hb dX6_setRule_4 rfl (lv_at hl 1 rfl) ?_
  refine lv_iconst (v := 2) hx hb dX6_setRule_5 (by decide) ?_
  refine lv_icmp_le (tgt := 19) hx hb dX6_setRule_6 (by decide) (fun c_4 => ?_) (fun c_4 => ?_)
  · replace h := h.1 c_4
    refine lv_aload_n hx hb dX6_setRule_19 rfl (lv_at hl 0 rfl) ?_
    refine r_get (ci := 6) (C := RX6) (T := TX6) (N := 6) X hw 0 rfl rfl 1 (by decide) in_X6_setRule_X6 fl_X6_setRule_19 (v := .ref (HA.o (XA.history aX))) rfl dX6_setRule_20 ?_
    refine lv_aload_n hx hb dX6_setRule_23 rfl (lv_at hl 0 rfl) ?_
    refine r_get (ci := 6) (C := RX6) (T := TX6) (N := 6) X hw 0 rfl rfl 0 (by decide) in_X6_setRule_X6 fl_X6_setRule_12 (v := .ref (BA.o (XA.board aX))) rfl dX6_setRule_24 ?_
    refine r_cv X hw (pm_2 (pm_r (pm_r (pm_l pm_0))) (pm_r (pm_l pm_0))) (wn := fun (u : HV × BV) => (xW t aX (XV.s_history (XV.s_board vX u.2) u.1))) (fun u => (pm_2 (pm_r (pm_r (pm_l pm_0))) (pm_r (pm_l pm_0))).symm) (r_runV X hw (c_X2_save l D t (XA.history aX) (XA.board aX) (XV.history vX) (XV.board vX) _ h) (pm_2 (pm_r (pm_r (pm_l pm_0))) (pm_r (pm_l pm_0))) (cwV 1 X.1.2.2.2.2 gX6_setRule_X2_save rfl rfl rfl (by decide +kernel) ⟨Nat.le_of_ble_eq_true rfl, Nat.le_of_ble_eq_true rfl⟩) (ci := 2) rfl rfl rfl rfl hl rfl (Nat.le_of_ble_eq_true rfl) dX6_setRule_27 ⟨Nat.le_of_ble_eq_true rfl, Nat.le_of_ble_eq_true rfl⟩) (fun u H locs h hw => ?_)
    obtain ⟨vH_1, vB_2⟩ := u
    refine lv_aload_n hx hb dX6_setRule_30 rfl (lv_at hl 0 rfl) ?_
    refine r_get (ci := 6) (C := RX6) (T := TX6) (N := 6) X hw 0 rfl rfl 0 (by decide) in_X6_setRule_X6 fl_X6_setRule_12 (v := .ref (BA.o (XA.board aX))) rfl dX6_setRule_31 ?_
    refine r_get (ci := 0) (C := RX0) (T := TX0) (N := 8) X hw 1 rfl rfl 2 (by decide) in_X6_setRule_X0 fl_X6_setRule_92 (v := .int (BV.rule vB_2)) rfl dX6_setRule_34 ?_
    refine lv_topi (fun x2_3 ex2_3 => ?_)
    replace h := h x2_3 ex2_3
    refine lv_istore_n (lv' := [(2, .int x2_3), (0, .ref (XA.o aX)), (1, .int p1)]) hx hb dX6_setRule_37 rfl hl (by decide) rfl (fun ls hl => ?_)
    refine lv_aload_n hx hb dX6_setRule_38 rfl (lv_at hl 1 rfl) ?_
    refine r_get (ci := 6) (C := RX6) (T := TX6) (N := 6) X hw 0 rfl rfl 0 (by decide) in_X6_setRule_X6 fl_X6_setRule_12 (v := .ref (BA.o (XA.board aX))) rfl dX6_setRule_39 ?_
    refine lv_iload_n hx hb dX6_setRule_42 rfl (lv_at hl 2 rfl) ?_
    refine r_put (ci := 0) (C := RX0) (T := TX0) (N := 8) (v := .int p1) (ws' := (xW t aX (XV.s_history (XV.s_board vX (BV.s_rule vB_2 p1)) vH_1))) X hw 1 rfl rfl 2 (by decide) in_X6_setRule_X0 tyX0 tyX0_ok nmX0 fl_X6_setRule_92 rfl rfl rfl (Nat.le_of_ble_eq_true rfl) rfl dX6_setRule_43 (fun H locs hw => ?_)
    refine lv_iload_n hx hb dX6_setRule_46 rfl (lv_at hl 0 rfl) ?_
    exact e_i (w1 := (fun (u : XV) => (xW t aX u))) X ((XV.s_history (XV.s_board vX (BV.s_rule vB_2 p1)) vH_1)) hw h dX6_setRule_47
  replace h := h.2 c_4
  exact k_X6_setRule_9 X aX _ _ _ _ h hw (lv_sub hl [] rfl)
/-! X6_cut -/
theorem k_X6_cut_95 : Cond.constant RX6 95 (999999999) ∈ wsX6_cut := List.mem_of_getElem? (i := 3) rfl
theorem in_X6_cut_X6 : ∀ w ∈ u_ws RX6 TX6 6, w ∈ wsX6_cut := fun w h => (List.mem_cons_of_mem _ (List.mem_append_left _ (List.mem_append_left _ (List.mem_append_left _ (List.mem_append_left _ (List.mem_append_right _ h))))))
theorem fl_X6_cut_19 : Cond.fieldLink RX6 19 "TwoFacedTiles" "history" "LTwoFacedTiles$History;" ∈ wsX6_cut := List.mem_of_getElem? (i := 4) rfl
theorem fl_X6_cut_12 : Cond.fieldLink RX6 12 "TwoFacedTiles" "board" "LTwoFacedTiles$Board;" ∈ wsX6_cut := List.mem_of_getElem? (i := 5) rfl
theorem in_X6_cut_X0 : ∀ w ∈ u_ws RX0 TX0 8, w ∈ wsX6_cut := fun w h => (List.mem_cons_of_mem _ (List.mem_append_left _ (List.mem_append_left _ (List.mem_append_left _ (List.mem_append_right _ h)))))
theorem fl_X6_cut_98 : Cond.fieldLink RX6 98 "TwoFacedTiles$Board" "rows" "I" ∈ wsX6_cut := List.mem_of_getElem? (i := 6) rfl
theorem fl_X6_cut_101 : Cond.fieldLink RX6 101 "TwoFacedTiles$Board" "columns" "I" ∈ wsX6_cut := List.mem_of_getElem? (i := 7) rfl
theorem fl_X6_cut_47 : Cond.fieldLink RX6 47 "TwoFacedTiles" "draws" "LTwoFacedTiles$Draws;" ∈ wsX6_cut := List.mem_of_getElem? (i := 8) rfl
theorem fl_X6_cut_72 : Cond.fieldLink RX6 72 "TwoFacedTiles$Board" "tiles" "I" ∈ wsX6_cut := List.mem_of_getElem? (i := 9) rfl
def wp_X6_cut_22 (Q : Int32 → XV → Prop) (XQ : String → XV → Prop) (vX : XV) : Prop := XQ "java/lang/IllegalArgumentException" vX
set_option maxHeartbeats 4000000 in
set_option maxRecDepth 100000 in
theorem k_X6_cut_22 {p : Program} {l : Launch} {e : Env} {s : State} {m : MethodId} {below : List Frame} {meth : Method} {c : Code} {args : Array Value} {D : va_G} {t : T3} {A : Nat → Prop} (X : Cx p s m meth c args cX6_cut 3 (some .int) RX6 wsX6_cut D t A) (aX : XA) {Q : Int32 → XV → Prop}  : ∀ (vX : XV) (H : Heap) (locs : List Loc) (ls : Array Slot), wp_X6_cut_22 Q (fun (_ : String) (_ : XV) => False) vX → Wd D A s.heap (xW t aX vX) H locs → lv_has ls 3 [] → W p l e ({ frames := 6, cells := 0, slots := 0, locals := 102 } : Room) s m args below meth c H locs 0 0 (Ei below args s A D (fun (u : XV) => (xW t aX u)) (fun (r : Int32) (u : XV) => Q r u) 0 0) (F0 m 22 ls []) := by
  intro vX H locs ls h hw hl
  have hx := X.1.1
  have hb := X.1.2.1
  exact (show False from h).elim
def wp_X6_cut (vX : XV) (p1 : Int32) (p2 : Int32) (Q : Int32 → XV → Prop) (XQ : String → XV → Prop) : Prop := (p1 < 1 → wp_X6_cut_22  Q XQ vX) ∧ (¬ p1 < 1 → (999999999 < p1 → wp_X6_cut_22  Q XQ vX) ∧ (¬ 999999999 < p1 → (p2 < 1 → wp_X6_cut_22  Q XQ vX) ∧ (¬ p2 < 1 → (p2 ≤ 9 → wp_X2_save (XV.history vX) (XV.board vX)  (fun (vH_1 : HV) (vB_2 : BV) => wp_X0_makeEmpty vB_2 (BV.rows vB_2) (BV.columns vB_2) (fun (vB_3 : BV) => wp_X1_start (XV.draws vX) p1 p2 (fun (vD_4 : DV) => wp_X0_cutTiles vB_3 vD_4  (fun (vB_5 : BV) (vD_6 : DV) => Q (BV.tiles vB_5) (XV.s_draws (XV.s_history (XV.s_board vX vB_5) vH_1) vD_6)))))) ∧ (¬ p2 ≤ 9 → wp_X6_cut_22  Q XQ vX))))
set_option maxHeartbeats 4000000 in
set_option maxRecDepth 100000 in
theorem c_X6_cut (l : Launch) (D : va_G) (t : T3) (aX : XA) (vX : XV) (p1 : Int32) (p2 : Int32) (Q : Int32 → XV → Prop) (h : wp_X6_cut vX p1 p2 Q (fun (_ : String) (_ : XV) => False)) : Ct l yX6_cut wsX6_cut 6 102 0 0 [.ref (XA.o aX), .int p1, .int p2] D t (xW t aX vX) (fun sz => Qi D (xW t aX vX) (fun (u : XV) => (xW t aX u)) (fun (r : Int32) (u : XV) => Q r u) sz) := by
  refine Ct.of (Qf := fun _ A => va_Qi (fun (r : Int32) (u : XV) => Q r u) (B1 D (fun (u : XV) => (xW t aX u)) A) A) cX6_cut 3 (some .int) (by decide) rfl (Nat.le_of_ble_eq_true rfl) ?_
  intro p e s m below meth c A ls hAe hin X hw hl
  generalize ([.ref (XA.o aX), .int p1, .int p2] : List Value).toArray = args at X ⊢
  have hl : lv_has ls 3 [(0, .ref (XA.o aX)), (1, .int p1), (2, .int p2)] := hl
  have hx := X.1.1
  have hb := X.1.2.1
  refine lv_iload_n hx hb dX6_cut_0 rfl (lv_at hl 1 rfl) ?_
  refine lv_iconst (v := 1) hx hb dX6_cut_1 (by decide) ?_
  refine lv_icmp_lt (tgt := 22) hx hb dX6_cut_2 (by decide) (fun c_10 => ?_) (fun c_10 => ?_)
  · replace h := h.1 c_10
    exact k_X6_cut_22 X aX _ _ _ _ h hw (lv_sub hl [] rfl)
  replace h := h.2 c_10
  refine lv_iload_n hx hb dX6_cut_5 rfl (lv_at hl 1 rfl) ?_
  refine lv_ldc (v := 999999999) hx hb X.1.2.2.2.1 (X.1.2.2.2.2 _ k_X6_cut_95) dX6_cut_6 ?_
  refine lv_icmp_gt (tgt := 22) hx hb dX6_cut_8 (by decide) (fun c_9 => ?_) (fun c_9 => ?_)
  · replace h := h.1 c_9
    exact k_X6_cut_22 X aX _ _ _ _ h hw (lv_sub hl [] rfl)
  replace h := h.2 c_9
  refine lv_iload_n hx hb dX6_cut_11 rfl (lv_at hl 2 rfl) ?_
  refine lv_iconst (v := 1) hx hb dX6_cut_12 (by decide) ?_
  refine lv_icmp_lt (tgt := 22) hx hb dX6_cut_13 (by decide) (fun c_8 => ?_) (fun c_8 => ?_)
  · replace h := h.1 c_8
    exact k_X6_cut_22 X aX _ _ _ _ h hw (lv_sub hl [] rfl)
  replace h := h.2 c_8
  refine lv_iload_n hx hb dX6_cut_16 rfl (lv_at hl 2 rfl) ?_
  refine lv_bipush (v := 9) hx hb dX6_cut_17 (by decide) ?_
  refine lv_icmp_le (tgt := 32) hx hb dX6_cut_19 (by decide) (fun c_7 => ?_) (fun c_7 => ?_)
  · replace h := h.1 c_7
    refine lv_aload_n hx hb dX6_cut_32 rfl (lv_at hl 0 rfl) ?_
    refine r_get (ci := 6) (C := RX6) (T := TX6) (N := 6) X hw 0 rfl rfl 1 (by decide) in_X6_cut_X6 fl_X6_cut_19 (v := .ref (HA.o (XA.history aX))) rfl dX6_cut_33 ?_
    refine lv_aload_n hx hb dX6_cut_36 rfl (lv_at hl 0 rfl) ?_
    refine r_get (ci := 6) (C := RX6) (T := TX6) (N := 6) X hw 0 rfl rfl 0 (by decide) in_X6_cut_X6 fl_X6_cut_12 (v := .ref (BA.o (XA.board aX))) rfl dX6_cut_37 ?_
    refine r_cv X hw (pm_2 (pm_r (pm_r (pm_l pm_0))) (pm_r (pm_l pm_0))) (wn := fun (u : HV × BV) => (xW t aX (XV.s_history (XV.s_board vX u.2) u.1))) (fun u => (pm_2 (pm_r (pm_r (pm_l pm_0))) (pm_r (pm_l pm_0))).symm) (r_runV X hw (c_X2_save l D t (XA.history aX) (XA.board aX) (XV.history vX) (XV.board vX) _ h) (pm_2 (pm_r (pm_r (pm_l pm_0))) (pm_r (pm_l pm_0))) (cwV 1 X.1.2.2.2.2 gX6_cut_X2_save rfl rfl rfl (by decide +kernel) ⟨Nat.le_of_ble_eq_true rfl, Nat.le_of_ble_eq_true rfl⟩) (ci := 2) rfl rfl rfl rfl hl rfl (Nat.le_of_ble_eq_true rfl) dX6_cut_40 ⟨Nat.le_of_ble_eq_true rfl, Nat.le_of_ble_eq_true rfl⟩) (fun u H locs h hw => ?_)
    obtain ⟨vH_1, vB_2⟩ := u
    refine lv_aload_n hx hb dX6_cut_43 rfl (lv_at hl 0 rfl) ?_
    refine r_get (ci := 6) (C := RX6) (T := TX6) (N := 6) X hw 0 rfl rfl 0 (by decide) in_X6_cut_X6 fl_X6_cut_12 (v := .ref (BA.o (XA.board aX))) rfl dX6_cut_44 ?_
    refine lv_aload_n hx hb dX6_cut_47 rfl (lv_at hl 0 rfl) ?_
    refine r_get (ci := 6) (C := RX6) (T := TX6) (N := 6) X hw 0 rfl rfl 0 (by decide) in_X6_cut_X6 fl_X6_cut_12 (v := .ref (BA.o (XA.board aX))) rfl dX6_cut_48 ?_
    refine r_get (ci := 0) (C := RX0) (T := TX0) (N := 8) X hw 1 rfl rfl 0 (by decide) in_X6_cut_X0 fl_X6_cut_98 (v := .int (BV.rows vB_2)) rfl dX6_cut_51 ?_
    refine lv_aload_n hx hb dX6_cut_54 rfl (lv_at hl 0 rfl) ?_
    refine r_get (ci := 6) (C := RX6) (T := TX6) (N := 6) X hw 0 rfl rfl 0 (by decide) in_X6_cut_X6 fl_X6_cut_12 (v := .ref (BA.o (XA.board aX))) rfl dX6_cut_55 ?_
    refine r_get (ci := 0) (C := RX0) (T := TX0) (N := 8) X hw 1 rfl rfl 1 (by decide) in_X6_cut_X0 fl_X6_cut_101 (v := .int (BV.columns vB_2)) rfl dX6_cut_58 ?_
    refine r_cv X hw (pm_r (pm_l pm_0)) (wn := fun (u : BV) => (xW t aX (XV.s_history (XV.s_board vX u) vH_1))) (fun u => (pm_r (pm_l pm_0)).symm) (r_runV X hw (c_X0_makeEmpty l D t (XA.board aX) vB_2 (BV.rows vB_2) (BV.columns vB_2) _ h) (pm_r (pm_l pm_0)) (cwV 2 X.1.2.2.2.2 gX6_cut_X0_makeEmpty rfl rfl rfl (by decide +kernel) ⟨Nat.le_of_ble_eq_true rfl, Nat.le_of_ble_eq_true rfl⟩) (ci := 0) rfl rfl rfl rfl hl rfl (Nat.le_of_ble_eq_true rfl) dX6_cut_61 ⟨Nat.le_of_ble_eq_true rfl, Nat.le_of_ble_eq_true rfl⟩) (fun u H locs h hw => ?_)
    obtain ⟨vB_3, rfl⟩ : ∃ z, z = u := ⟨_, rfl⟩
    refine lv_aload_n hx hb dX6_cut_64 rfl (lv_at hl 0 rfl) ?_
    refine r_get (ci := 6) (C := RX6) (T := TX6) (N := 6) X hw 0 rfl rfl 5 (by decide) in_X6_cut_X6 fl_X6_cut_47 (v := .ref (XA.draws aX)) rfl dX6_cut_65 ?_
    refine lv_iload_n hx hb dX6_cut_68 rfl (lv_at hl 1 rfl) ?_
    refine lv_iload_n hx hb dX6_cut_69 rfl (lv_at hl 2 rfl) ?_
    refine r_cv X hw (pm_r (pm_r (pm_r (pm_r (pm_r (pm_r pm_0)))))) (wn := fun (u : DV) => (xW t aX (XV.s_draws (XV.s_history (XV.s_board vX vB_3) vH_1) u))) (fun u => (pm_r (pm_r (pm_r (pm_r (pm_r (pm_r pm_0)))))).symm) (r_runV X hw (c_X1_start l D t (XA.draws aX) (XV.draws vX) p1 p2 _ h) (pm_r (pm_r (pm_r (pm_r (pm_r (pm_r pm_0)))))) (cwV 2 X.1.2.2.2.2 gX6_cut_X1_start rfl rfl rfl (by decide +kernel) ⟨Nat.le_of_ble_eq_true rfl, Nat.le_of_ble_eq_true rfl⟩) (ci := 1) rfl rfl rfl rfl hl rfl (Nat.le_of_ble_eq_true rfl) dX6_cut_70 ⟨Nat.le_of_ble_eq_true rfl, Nat.le_of_ble_eq_true rfl⟩) (fun u H locs h hw => ?_)
    obtain ⟨vD_4, rfl⟩ : ∃ z, z = u := ⟨_, rfl⟩
    refine lv_aload_n hx hb dX6_cut_73 rfl (lv_at hl 0 rfl) ?_
    refine r_get (ci := 6) (C := RX6) (T := TX6) (N := 6) X hw 0 rfl rfl 0 (by decide) in_X6_cut_X6 fl_X6_cut_12 (v := .ref (BA.o (XA.board aX))) rfl dX6_cut_74 ?_
    refine lv_aload_n hx hb dX6_cut_77 rfl (lv_at hl 0 rfl) ?_
    refine r_get (ci := 6) (C := RX6) (T := TX6) (N := 6) X hw 0 rfl rfl 5 (by decide) in_X6_cut_X6 fl_X6_cut_47 (v := .ref (XA.draws aX)) rfl dX6_cut_78 ?_
    refine r_cv X hw (pm_2 (pm_r (pm_l pm_0)) (pm_r (pm_r (pm_r (pm_r (pm_r (pm_r pm_0))))))) (wn := fun (u : BV × DV) => (xW t aX (XV.s_draws (XV.s_history (XV.s_board vX u.1) vH_1) u.2))) (fun u => (pm_2 (pm_r (pm_l pm_0)) (pm_r (pm_r (pm_r (pm_r (pm_r (pm_r pm_0))))))).symm) (r_runV X hw (c_X0_cutTiles l D t (XA.board aX) (XA.draws aX) vB_3 vD_4 _ h) (pm_2 (pm_r (pm_l pm_0)) (pm_r (pm_r (pm_r (pm_r (pm_r (pm_r pm_0))))))) (cwV 1 X.1.2.2.2.2 gX6_cut_X0_cutTiles rfl rfl rfl (by decide +kernel) ⟨Nat.le_of_ble_eq_true rfl, Nat.le_of_ble_eq_true rfl⟩) (ci := 0) rfl rfl rfl rfl hl rfl (Nat.le_of_ble_eq_true rfl) dX6_cut_81 ⟨Nat.le_of_ble_eq_true rfl, Nat.le_of_ble_eq_true rfl⟩) (fun u H locs h hw => ?_)
    obtain ⟨vB_5, vD_6⟩ := u
    refine lv_aload_n hx hb dX6_cut_84 rfl (lv_at hl 0 rfl) ?_
    refine r_get (ci := 6) (C := RX6) (T := TX6) (N := 6) X hw 0 rfl rfl 0 (by decide) in_X6_cut_X6 fl_X6_cut_12 (v := .ref (BA.o (XA.board aX))) rfl dX6_cut_85 ?_
    refine r_get (ci := 0) (C := RX0) (T := TX0) (N := 8) X hw 1 rfl rfl 3 (by decide) in_X6_cut_X0 fl_X6_cut_72 (v := .int (BV.tiles vB_5)) rfl dX6_cut_88 ?_
    exact e_i (w1 := (fun (u : XV) => (xW t aX u))) X ((XV.s_draws (XV.s_history (XV.s_board vX vB_5) vH_1) vD_6)) hw h dX6_cut_91
  replace h := h.2 c_7
  exact k_X6_cut_22 X aX _ _ _ _ h hw (lv_sub hl [] rfl)
/-! X6_requireCell -/
theorem in_X6_requireCell_X6 : ∀ w ∈ u_ws RX6 TX6 6, w ∈ wsX6_requireCell := fun w h => (List.mem_cons_of_mem _ (List.mem_append_left _ (List.mem_append_left _ (List.mem_append_right _ h))))
theorem fl_X6_requireCell_12 : Cond.fieldLink RX6 12 "TwoFacedTiles" "board" "LTwoFacedTiles$Board;" ∈ wsX6_requireCell := List.mem_of_getElem? (i := 3) rfl
def wp_X6_requireCell (vX : XV) (p1 : Int32) (Q : XV → Prop) (XQ : String → XV → Prop) : Prop := wp_X0_hasCell (XV.board vX) p1 (fun (r_2 : Int32) (vB_1 : BV) => (¬ r_2 = 0 → Q (XV.s_board vX vB_1)) ∧ (r_2 = 0 → XQ "java/lang/IndexOutOfBoundsException" (XV.s_board vX vB_1)))
set_option maxHeartbeats 4000000 in
set_option maxRecDepth 100000 in
theorem c_X6_requireCell (l : Launch) (D : va_G) (t : T3) (aX : XA) (vX : XV) (p1 : Int32) (Q : XV → Prop) (h : wp_X6_requireCell vX p1 Q (fun (_ : String) (_ : XV) => False)) : Ct l yX6_requireCell wsX6_requireCell 6 100 0 0 [.ref (XA.o aX), .int p1] D t (xW t aX vX) (fun sz => Qv D (xW t aX vX) (fun (u : XV) => (xW t aX u)) (fun (u : XV) => Q u) sz) := by
  refine Ct.of (Qf := fun _ A => va_Qv (fun (u : XV) => Q u) (B1 D (fun (u : XV) => (xW t aX u)) A) A) cX6_requireCell 2 none (by decide) rfl (Nat.le_of_ble_eq_true rfl) ?_
  intro p e s m below meth c A ls hAe hin X hw hl
  generalize ([.ref (XA.o aX), .int p1] : List Value).toArray = args at X ⊢
  have hl : lv_has ls 2 [(0, .ref (XA.o aX)), (1, .int p1)] := hl
  have hx := X.1.1
  have hb := X.1.2.1
  refine lv_aload_n hx hb dX6_requireCell_0 rfl (lv_at hl 0 rfl) ?_
  refine r_get (ci := 6) (C := RX6) (T := TX6) (N := 6) X hw 0 rfl rfl 0 (by decide) in_X6_requireCell_X6 fl_X6_requireCell_12 (v := .ref (BA.o (XA.board aX))) rfl dX6_requireCell_1 ?_
  refine lv_iload_n hx hb dX6_requireCell_4 rfl (lv_at hl 1 rfl) ?_
  refine r_ci X hw (pm_r (pm_l pm_0)) (wn := fun (u : BV) => (xW t aX (XV.s_board vX u))) (fun u => (pm_r (pm_l pm_0)).symm) (r_runV X hw (c_X0_hasCell l D t (XA.board aX) (XV.board vX) p1 _ h) (pm_r (pm_l pm_0)) (cwV 1 X.1.2.2.2.2 gX6_requireCell_X0_hasCell rfl rfl rfl (by decide +kernel) ⟨Nat.le_of_ble_eq_true rfl, Nat.le_of_ble_eq_true rfl⟩) (ci := 0) rfl rfl rfl rfl hl rfl (Nat.le_of_ble_eq_true rfl) dX6_requireCell_5 ⟨Nat.le_of_ble_eq_true rfl, Nat.le_of_ble_eq_true rfl⟩) (fun r_2 u H locs h hw => ?_)
  obtain ⟨vB_1, rfl⟩ : ∃ z, z = u := ⟨_, rfl⟩
  refine lv_if_ne (tgt := 22) hx hb dX6_requireCell_8 (by decide) (fun c_3 => ?_) (fun c_3 => ?_)
  · replace h := h.1 c_3
    exact e_v (w1 := (fun (u : XV) => (xW t aX u))) X ((XV.s_board vX vB_1)) hw h dX6_requireCell_22
  replace h := h.2 c_3
  exact (show False from h).elim
/-! X6_requirePlacing -/
theorem in_X6_requirePlacing_X6 : ∀ w ∈ u_ws RX6 TX6 6, w ∈ wsX6_requirePlacing := fun w h => (List.mem_cons_of_mem _ (List.mem_append_left _ (List.mem_append_left _ (List.mem_append_right _ h))))
theorem fl_X6_requirePlacing_12 : Cond.fieldLink RX6 12 "TwoFacedTiles" "board" "LTwoFacedTiles$Board;" ∈ wsX6_requirePlacing := List.mem_of_getElem? (i := 3) rfl
def wp_X6_requirePlacing (vX : XV) (p1 : Int32) (p2 : Int32) (Q : XV → Prop) (XQ : String → XV → Prop) : Prop := wp_X6_requireCell vX p1 (fun (vX_1 : XV) => wp_X0_hasPlacing (XV.board vX_1) p2 (fun (r_3 : Int32) (vB_2 : BV) => (¬ r_3 = 0 → Q (XV.s_board vX_1 vB_2)) ∧ (r_3 = 0 → XQ "java/lang/IndexOutOfBoundsException" (XV.s_board vX_1 vB_2)))) (fun (E : String) (vX_5 : XV) => XQ E vX_5)
set_option maxHeartbeats 4000000 in
set_option maxRecDepth 100000 in
theorem c_X6_requirePlacing (l : Launch) (D : va_G) (t : T3) (aX : XA) (vX : XV) (p1 : Int32) (p2 : Int32) (Q : XV → Prop) (h : wp_X6_requirePlacing vX p1 p2 Q (fun (_ : String) (_ : XV) => False)) : Ct l yX6_requirePlacing wsX6_requirePlacing 7 121 0 0 [.ref (XA.o aX), .int p1, .int p2] D t (xW t aX vX) (fun sz => Qv D (xW t aX vX) (fun (u : XV) => (xW t aX u)) (fun (u : XV) => Q u) sz) := by
  refine Ct.of (Qf := fun _ A => va_Qv (fun (u : XV) => Q u) (B1 D (fun (u : XV) => (xW t aX u)) A) A) cX6_requirePlacing 3 none (by decide) rfl (Nat.le_of_ble_eq_true rfl) ?_
  intro p e s m below meth c A ls hAe hin X hw hl
  generalize ([.ref (XA.o aX), .int p1, .int p2] : List Value).toArray = args at X ⊢
  have hl : lv_has ls 3 [(0, .ref (XA.o aX)), (1, .int p1), (2, .int p2)] := hl
  have hx := X.1.1
  have hb := X.1.2.1
  refine lv_aload_n hx hb dX6_requirePlacing_0 rfl (lv_at hl 0 rfl) ?_
  refine lv_iload_n hx hb dX6_requirePlacing_1 rfl (lv_at hl 1 rfl) ?_
  refine r_cv X hw pm_0 (wn := fun (u : XV) => (xW t aX u)) (fun u => pm_0.symm) (r_runV X hw (c_X6_requireCell l D t aX vX p1 _ h) pm_0 (cwV 1 X.1.2.2.2.2 gX6_requirePlacing_X6_requireCell rfl rfl rfl (by decide +kernel) ⟨Nat.le_of_ble_eq_true rfl, Nat.le_of_ble_eq_true rfl⟩) (ci := 6) rfl rfl rfl rfl hl rfl (Nat.le_of_ble_eq_true rfl) dX6_requirePlacing_2 ⟨Nat.le_of_ble_eq_true rfl, Nat.le_of_ble_eq_true rfl⟩) (fun u H locs h hw => ?_)
  obtain ⟨vX_1, rfl⟩ : ∃ z, z = u := ⟨_, rfl⟩
  refine lv_aload_n hx hb dX6_requirePlacing_5 rfl (lv_at hl 0 rfl) ?_
  refine r_get (ci := 6) (C := RX6) (T := TX6) (N := 6) X hw 0 rfl rfl 0 (by decide) in_X6_requirePlacing_X6 fl_X6_requirePlacing_12 (v := .ref (BA.o (XA.board aX))) rfl dX6_requirePlacing_6 ?_
  refine lv_iload_n hx hb dX6_requirePlacing_9 rfl (lv_at hl 2 rfl) ?_
  refine r_ci X hw (pm_r (pm_l pm_0)) (wn := fun (u : BV) => (xW t aX (XV.s_board vX_1 u))) (fun u => (pm_r (pm_l pm_0)).symm) (r_runV X hw (c_X0_hasPlacing l D t (XA.board aX) (XV.board vX_1) p2 _ h) (pm_r (pm_l pm_0)) (cwV 1 X.1.2.2.2.2 gX6_requirePlacing_X0_hasPlacing rfl rfl rfl (by decide +kernel) ⟨Nat.le_of_ble_eq_true rfl, Nat.le_of_ble_eq_true rfl⟩) (ci := 0) rfl rfl rfl rfl hl rfl (Nat.le_of_ble_eq_true rfl) dX6_requirePlacing_10 ⟨Nat.le_of_ble_eq_true rfl, Nat.le_of_ble_eq_true rfl⟩) (fun r_3 u H locs h hw => ?_)
  obtain ⟨vB_2, rfl⟩ : ∃ z, z = u := ⟨_, rfl⟩
  refine lv_if_ne (tgt := 26) hx hb dX6_requirePlacing_13 (by decide) (fun c_4 => ?_) (fun c_4 => ?_)
  · replace h := h.1 c_4
    exact e_v (w1 := (fun (u : XV) => (xW t aX u))) X ((XV.s_board vX_1 vB_2)) hw h dX6_requirePlacing_26
  replace h := h.2 c_4
  exact (show False from h).elim
/-! X6_lay -/
theorem in_X6_lay_X6 : ∀ w ∈ u_ws RX6 TX6 6, w ∈ wsX6_lay := fun w h => (List.mem_cons_of_mem _ (List.mem_append_left _ (List.mem_append_left _ (List.mem_append_left _ (List.mem_append_left _ (List.mem_append_left _ (List.mem_append_right _ h)))))))
theorem fl_X6_lay_19 : Cond.fieldLink RX6 19 "TwoFacedTiles" "history" "LTwoFacedTiles$History;" ∈ wsX6_lay := List.mem_of_getElem? (i := 3) rfl
theorem fl_X6_lay_12 : Cond.fieldLink RX6 12 "TwoFacedTiles" "board" "LTwoFacedTiles$Board;" ∈ wsX6_lay := List.mem_of_getElem? (i := 4) rfl
def wp_X6_lay (vX : XV) (p1 : Int32) (p2 : Int32) (Q : Int32 → XV → Prop) (XQ : String → XV → Prop) : Prop := wp_X6_requirePlacing vX p1 p2 (fun (vX_1 : XV) => wp_X6_reason vX_1 p1 p2 (fun (r_3 : Int32) (vX_2 : XV) => (r_3 = 0 → wp_X2_save (XV.history vX_2) (XV.board vX_2)  (fun (vH_4 : HV) (vB_5 : BV) => wp_X0_put vB_5 p1 p2 (fun (vB_6 : BV) => wp_X0_emptyCells vB_6  (fun (r_8 : Int32) (vB_7 : BV) => Q r_8 (XV.s_history (XV.s_board vX_2 vB_7) vH_4))))) ∧ (¬ r_3 = 0 → XQ "java/lang/IllegalStateException" vX_2))) (fun (E : String) (vX_10 : XV) => XQ E vX_10)
set_option maxHeartbeats 4000000 in
set_option maxRecDepth 100000 in
theorem c_X6_lay (l : Launch) (D : va_G) (t : T3) (aX : XA) (vX : XV) (p1 : Int32) (p2 : Int32) (Q : Int32 → XV → Prop) (h : wp_X6_lay vX p1 p2 Q (fun (_ : String) (_ : XV) => False)) : Ct l yX6_lay wsX6_lay 8 143 0 0 [.ref (XA.o aX), .int p1, .int p2] D t (xW t aX vX) (fun sz => Qi D (xW t aX vX) (fun (u : XV) => (xW t aX u)) (fun (r : Int32) (u : XV) => Q r u) sz) := by
  refine Ct.of (Qf := fun _ A => va_Qi (fun (r : Int32) (u : XV) => Q r u) (B1 D (fun (u : XV) => (xW t aX u)) A) A) cX6_lay 3 (some .int) (by decide) rfl (Nat.le_of_ble_eq_true rfl) ?_
  intro p e s m below meth c A ls hAe hin X hw hl
  generalize ([.ref (XA.o aX), .int p1, .int p2] : List Value).toArray = args at X ⊢
  have hl : lv_has ls 3 [(0, .ref (XA.o aX)), (1, .int p1), (2, .int p2)] := hl
  have hx := X.1.1
  have hb := X.1.2.1
  refine lv_aload_n hx hb dX6_lay_0 rfl (lv_at hl 0 rfl) ?_
  refine lv_iload_n hx hb dX6_lay_1 rfl (lv_at hl 1 rfl) ?_
  refine lv_iload_n hx hb dX6_lay_2 rfl (lv_at hl 2 rfl) ?_
  refine r_cv X hw pm_0 (wn := fun (u : XV) => (xW t aX u)) (fun u => pm_0.symm) (r_runV X hw (c_X6_requirePlacing l D t aX vX p1 p2 _ h) pm_0 (cwV 2 X.1.2.2.2.2 gX6_lay_X6_requirePlacing rfl rfl rfl (by decide +kernel) ⟨Nat.le_of_ble_eq_true rfl, Nat.le_of_ble_eq_true rfl⟩) (ci := 6) rfl rfl rfl rfl hl rfl (Nat.le_of_ble_eq_true rfl) dX6_lay_3 ⟨Nat.le_of_ble_eq_true rfl, Nat.le_of_ble_eq_true rfl⟩) (fun u H locs h hw => ?_)
  obtain ⟨vX_1, rfl⟩ : ∃ z, z = u := ⟨_, rfl⟩
  refine lv_aload_n hx hb dX6_lay_6 rfl (lv_at hl 0 rfl) ?_
  refine lv_iload_n hx hb dX6_lay_7 rfl (lv_at hl 1 rfl) ?_
  refine lv_iload_n hx hb dX6_lay_8 rfl (lv_at hl 2 rfl) ?_
  refine r_ci X hw pm_0 (wn := fun (u : XV) => (xW t aX u)) (fun u => pm_0.symm) (r_runV X hw (c_X6_reason l D t aX vX_1 p1 p2 _ h) pm_0 (cwV 2 X.1.2.2.2.2 gX6_lay_X6_reason rfl rfl rfl (by decide +kernel) ⟨Nat.le_of_ble_eq_true rfl, Nat.le_of_ble_eq_true rfl⟩) (ci := 6) rfl rfl rfl rfl hl rfl (Nat.le_of_ble_eq_true rfl) dX6_lay_9 ⟨Nat.le_of_ble_eq_true rfl, Nat.le_of_ble_eq_true rfl⟩) (fun r_3 u H locs h hw => ?_)
  obtain ⟨vX_2, rfl⟩ : ∃ z, z = u := ⟨_, rfl⟩
  refine lv_if_eq (tgt := 25) hx hb dX6_lay_12 (by decide) (fun c_9 => ?_) (fun c_9 => ?_)
  · replace h := h.1 c_9
    refine lv_aload_n hx hb dX6_lay_25 rfl (lv_at hl 0 rfl) ?_
    refine r_get (ci := 6) (C := RX6) (T := TX6) (N := 6) X hw 0 rfl rfl 1 (by decide) in_X6_lay_X6 fl_X6_lay_19 (v := .ref (HA.o (XA.history aX))) rfl dX6_lay_26 ?_
    refine lv_aload_n hx hb dX6_lay_29 rfl (lv_at hl 0 rfl) ?_
    refine r_get (ci := 6) (C := RX6) (T := TX6) (N := 6) X hw 0 rfl rfl 0 (by decide) in_X6_lay_X6 fl_X6_lay_12 (v := .ref (BA.o (XA.board aX))) rfl dX6_lay_30 ?_
    refine r_cv X hw (pm_2 (pm_r (pm_r (pm_l pm_0))) (pm_r (pm_l pm_0))) (wn := fun (u : HV × BV) => (xW t aX (XV.s_history (XV.s_board vX_2 u.2) u.1))) (fun u => (pm_2 (pm_r (pm_r (pm_l pm_0))) (pm_r (pm_l pm_0))).symm) (r_runV X hw (c_X2_save l D t (XA.history aX) (XA.board aX) (XV.history vX_2) (XV.board vX_2) _ h) (pm_2 (pm_r (pm_r (pm_l pm_0))) (pm_r (pm_l pm_0))) (cwV 1 X.1.2.2.2.2 gX6_lay_X2_save rfl rfl rfl (by decide +kernel) ⟨Nat.le_of_ble_eq_true rfl, Nat.le_of_ble_eq_true rfl⟩) (ci := 2) rfl rfl rfl rfl hl rfl (Nat.le_of_ble_eq_true rfl) dX6_lay_33 ⟨Nat.le_of_ble_eq_true rfl, Nat.le_of_ble_eq_true rfl⟩) (fun u H locs h hw => ?_)
    obtain ⟨vH_4, vB_5⟩ := u
    refine lv_aload_n hx hb dX6_lay_36 rfl (lv_at hl 0 rfl) ?_
    refine r_get (ci := 6) (C := RX6) (T := TX6) (N := 6) X hw 0 rfl rfl 0 (by decide) in_X6_lay_X6 fl_X6_lay_12 (v := .ref (BA.o (XA.board aX))) rfl dX6_lay_37 ?_
    refine lv_iload_n hx hb dX6_lay_40 rfl (lv_at hl 1 rfl) ?_
    refine lv_iload_n hx hb dX6_lay_41 rfl (lv_at hl 2 rfl) ?_
    refine r_cv X hw (pm_r (pm_l pm_0)) (wn := fun (u : BV) => (xW t aX (XV.s_history (XV.s_board vX_2 u) vH_4))) (fun u => (pm_r (pm_l pm_0)).symm) (r_runV X hw (c_X0_put l D t (XA.board aX) vB_5 p1 p2 _ h) (pm_r (pm_l pm_0)) (cwV 2 X.1.2.2.2.2 gX6_lay_X0_put rfl rfl rfl (by decide +kernel) ⟨Nat.le_of_ble_eq_true rfl, Nat.le_of_ble_eq_true rfl⟩) (ci := 0) rfl rfl rfl rfl hl rfl (Nat.le_of_ble_eq_true rfl) dX6_lay_42 ⟨Nat.le_of_ble_eq_true rfl, Nat.le_of_ble_eq_true rfl⟩) (fun u H locs h hw => ?_)
    obtain ⟨vB_6, rfl⟩ : ∃ z, z = u := ⟨_, rfl⟩
    refine lv_aload_n hx hb dX6_lay_45 rfl (lv_at hl 0 rfl) ?_
    refine r_get (ci := 6) (C := RX6) (T := TX6) (N := 6) X hw 0 rfl rfl 0 (by decide) in_X6_lay_X6 fl_X6_lay_12 (v := .ref (BA.o (XA.board aX))) rfl dX6_lay_46 ?_
    refine r_ci X hw (pm_r (pm_l pm_0)) (wn := fun (u : BV) => (xW t aX (XV.s_history (XV.s_board vX_2 u) vH_4))) (fun u => (pm_r (pm_l pm_0)).symm) (r_runV X hw (c_X0_emptyCells l D t (XA.board aX) vB_6 _ h) (pm_r (pm_l pm_0)) (cwV 0 X.1.2.2.2.2 gX6_lay_X0_emptyCells rfl rfl rfl (by decide +kernel) ⟨Nat.le_of_ble_eq_true rfl, Nat.le_of_ble_eq_true rfl⟩) (ci := 0) rfl rfl rfl rfl hl rfl (Nat.le_of_ble_eq_true rfl) dX6_lay_49 ⟨Nat.le_of_ble_eq_true rfl, Nat.le_of_ble_eq_true rfl⟩) (fun r_8 u H locs h hw => ?_)
    obtain ⟨vB_7, rfl⟩ : ∃ z, z = u := ⟨_, rfl⟩
    exact e_i (w1 := (fun (u : XV) => (xW t aX u))) X ((XV.s_history (XV.s_board vX_2 vB_7) vH_4)) hw h dX6_lay_52
  replace h := h.2 c_9
  exact (show False from h).elim
/-! X6_take -/
theorem in_X6_take_X6 : ∀ w ∈ u_ws RX6 TX6 6, w ∈ wsX6_take := fun w h => (List.mem_cons_of_mem _ (List.mem_append_left _ (List.mem_append_left _ (List.mem_append_left _ (List.mem_append_left _ (List.mem_append_right _ h))))))
theorem fl_X6_take_12 : Cond.fieldLink RX6 12 "TwoFacedTiles" "board" "LTwoFacedTiles$Board;" ∈ wsX6_take := List.mem_of_getElem? (i := 3) rfl
theorem fl_X6_take_19 : Cond.fieldLink RX6 19 "TwoFacedTiles" "history" "LTwoFacedTiles$History;" ∈ wsX6_take := List.mem_of_getElem? (i := 4) rfl
theorem in_X6_take_X0 : ∀ w ∈ u_ws RX0 TX0 8, w ∈ wsX6_take := fun w h => (List.mem_cons_of_mem _ (List.mem_append_left _ (List.mem_append_left _ (List.mem_append_left _ (List.mem_append_right _ h)))))
theorem fl_X6_take_138 : Cond.fieldLink RX6 138 "TwoFacedTiles$Board" "placings" "[I" ∈ wsX6_take := List.mem_of_getElem? (i := 5) rfl
def wp_X6_take_27 (Q : Int32 → XV → Prop) (XQ : String → XV → Prop) (vX : XV) : Prop := XQ "java/lang/IllegalStateException" vX
set_option maxHeartbeats 4000000 in
set_option maxRecDepth 100000 in
theorem k_X6_take_27 {p : Program} {l : Launch} {e : Env} {s : State} {m : MethodId} {below : List Frame} {meth : Method} {c : Code} {args : Array Value} {D : va_G} {t : T3} {A : Nat → Prop} (X : Cx p s m meth c args cX6_take 3 (some .int) RX6 wsX6_take D t A) (aX : XA) {Q : Int32 → XV → Prop}  : ∀ (vX : XV) (H : Heap) (locs : List Loc) (ls : Array Slot), wp_X6_take_27 Q (fun (_ : String) (_ : XV) => False) vX → Wd D A s.heap (xW t aX vX) H locs → lv_has ls 3 [] → W p l e ({ frames := 7, cells := 0, slots := 0, locals := 121 } : Room) s m args below meth c H locs 0 0 (Ei below args s A D (fun (u : XV) => (xW t aX u)) (fun (r : Int32) (u : XV) => Q r u) 0 0) (F0 m 27 ls []) := by
  intro vX H locs ls h hw hl
  have hx := X.1.1
  have hb := X.1.2.1
  exact (show False from h).elim
def wp_X6_take (vX : XV) (p1 : Int32) (Q : Int32 → XV → Prop) (XQ : String → XV → Prop) : Prop := wp_X6_requireCell vX p1 (fun (vX_1 : XV) => wp_X0_isEmpty (XV.board vX_1) p1 (fun (r_3 : Int32) (vB_2 : BV) => (¬ r_3 = 0 → wp_X6_take_27  Q XQ (XV.s_board vX_1 vB_2)) ∧ (r_3 = 0 → wp_X0_isFixed vB_2 p1 (fun (r_5 : Int32) (vB_4 : BV) => (r_5 = 0 → wp_X2_save (XV.history vX_1) vB_4  (fun (vH_6 : HV) (vB_7 : BV) => vp_in p1 12 ∧ ∀ x2_9 : Int32, x2_9 = ((BV.placings vB_7) (Int32.toNatClampNeg p1)) → wp_X0_remove vB_7 p1 (fun (vB_10 : BV) => Q x2_9 (XV.s_history (XV.s_board vX_1 vB_10) vH_6)))) ∧ (¬ r_5 = 0 → wp_X6_take_27  Q XQ (XV.s_board vX_1 vB_4)))))) (fun (E : String) (vX_13 : XV) => XQ E vX_13)
set_option maxHeartbeats 4000000 in
set_option maxRecDepth 100000 in
theorem c_X6_take (l : Launch) (D : va_G) (t : T3) (aX : XA) (vX : XV) (p1 : Int32) (Q : Int32 → XV → Prop) (h : wp_X6_take vX p1 Q (fun (_ : String) (_ : XV) => False)) : Ct l yX6_take wsX6_take 7 121 0 0 [.ref (XA.o aX), .int p1] D t (xW t aX vX) (fun sz => Qi D (xW t aX vX) (fun (u : XV) => (xW t aX u)) (fun (r : Int32) (u : XV) => Q r u) sz) := by
  refine Ct.of (Qf := fun _ A => va_Qi (fun (r : Int32) (u : XV) => Q r u) (B1 D (fun (u : XV) => (xW t aX u)) A) A) cX6_take 3 (some .int) (by decide) rfl (Nat.le_of_ble_eq_true rfl) ?_
  intro p e s m below meth c A ls hAe hin X hw hl
  generalize ([.ref (XA.o aX), .int p1] : List Value).toArray = args at X ⊢
  have hl : lv_has ls 3 [(0, .ref (XA.o aX)), (1, .int p1)] := hl
  have hx := X.1.1
  have hb := X.1.2.1
  refine lv_aload_n hx hb dX6_take_0 rfl (lv_at hl 0 rfl) ?_
  refine lv_iload_n hx hb dX6_take_1 rfl (lv_at hl 1 rfl) ?_
  refine r_cv X hw pm_0 (wn := fun (u : XV) => (xW t aX u)) (fun u => pm_0.symm) (r_runV X hw (c_X6_requireCell l D t aX vX p1 _ h) pm_0 (cwV 1 X.1.2.2.2.2 gX6_take_X6_requireCell rfl rfl rfl (by decide +kernel) ⟨Nat.le_of_ble_eq_true rfl, Nat.le_of_ble_eq_true rfl⟩) (ci := 6) rfl rfl rfl rfl hl rfl (Nat.le_of_ble_eq_true rfl) dX6_take_2 ⟨Nat.le_of_ble_eq_true rfl, Nat.le_of_ble_eq_true rfl⟩) (fun u H locs h hw => ?_)
  obtain ⟨vX_1, rfl⟩ : ∃ z, z = u := ⟨_, rfl⟩
  refine lv_aload_n hx hb dX6_take_5 rfl (lv_at hl 0 rfl) ?_
  refine r_get (ci := 6) (C := RX6) (T := TX6) (N := 6) X hw 0 rfl rfl 0 (by decide) in_X6_take_X6 fl_X6_take_12 (v := .ref (BA.o (XA.board aX))) rfl dX6_take_6 ?_
  refine lv_iload_n hx hb dX6_take_9 rfl (lv_at hl 1 rfl) ?_
  refine r_ci X hw (pm_r (pm_l pm_0)) (wn := fun (u : BV) => (xW t aX (XV.s_board vX_1 u))) (fun u => (pm_r (pm_l pm_0)).symm) (r_runV X hw (c_X0_isEmpty l D t (XA.board aX) (XV.board vX_1) p1 _ h) (pm_r (pm_l pm_0)) (cwV 1 X.1.2.2.2.2 gX6_take_X0_isEmpty rfl rfl rfl (by decide +kernel) ⟨Nat.le_of_ble_eq_true rfl, Nat.le_of_ble_eq_true rfl⟩) (ci := 0) rfl rfl rfl rfl hl rfl (Nat.le_of_ble_eq_true rfl) dX6_take_10 ⟨Nat.le_of_ble_eq_true rfl, Nat.le_of_ble_eq_true rfl⟩) (fun r_3 u H locs h hw => ?_)
  obtain ⟨vB_2, rfl⟩ : ∃ z, z = u := ⟨_, rfl⟩
  refine lv_if_ne (tgt := 27) hx hb dX6_take_13 (by decide) (fun c_12 => ?_) (fun c_12 => ?_)
  · replace h := h.1 c_12
    exact k_X6_take_27 X aX _ _ _ _ h hw (lv_sub hl [] rfl)
  replace h := h.2 c_12
  refine lv_aload_n hx hb dX6_take_16 rfl (lv_at hl 0 rfl) ?_
  refine r_get (ci := 6) (C := RX6) (T := TX6) (N := 6) X hw 0 rfl rfl 0 (by decide) in_X6_take_X6 fl_X6_take_12 (v := .ref (BA.o (XA.board aX))) rfl dX6_take_17 ?_
  refine lv_iload_n hx hb dX6_take_20 rfl (lv_at hl 1 rfl) ?_
  refine r_ci X hw (pm_r (pm_l pm_0)) (wn := fun (u : BV) => (xW t aX (XV.s_board vX_1 u))) (fun u => (pm_r (pm_l pm_0)).symm) (r_runV X hw (c_X0_isFixed l D t (XA.board aX) vB_2 p1 _ h) (pm_r (pm_l pm_0)) (cwV 1 X.1.2.2.2.2 gX6_take_X0_isFixed rfl rfl rfl (by decide +kernel) ⟨Nat.le_of_ble_eq_true rfl, Nat.le_of_ble_eq_true rfl⟩) (ci := 0) rfl rfl rfl rfl hl rfl (Nat.le_of_ble_eq_true rfl) dX6_take_21 ⟨Nat.le_of_ble_eq_true rfl, Nat.le_of_ble_eq_true rfl⟩) (fun r_5 u H locs h hw => ?_)
  obtain ⟨vB_4, rfl⟩ : ∃ z, z = u := ⟨_, rfl⟩
  refine lv_if_eq (tgt := 37) hx hb dX6_take_24 (by decide) (fun c_11 => ?_) (fun c_11 => ?_)
  · replace h := h.1 c_11
    refine lv_aload_n hx hb dX6_take_37 rfl (lv_at hl 0 rfl) ?_
    refine r_get (ci := 6) (C := RX6) (T := TX6) (N := 6) X hw 0 rfl rfl 1 (by decide) in_X6_take_X6 fl_X6_take_19 (v := .ref (HA.o (XA.history aX))) rfl dX6_take_38 ?_
    refine lv_aload_n hx hb dX6_take_41 rfl (lv_at hl 0 rfl) ?_
    refine r_get (ci := 6) (C := RX6) (T := TX6) (N := 6) X hw 0 rfl rfl 0 (by decide) in_X6_take_X6 fl_X6_take_12 (v := .ref (BA.o (XA.board aX))) rfl dX6_take_42 ?_
    refine r_cv X hw (pm_2 (pm_r (pm_r (pm_l pm_0))) (pm_r (pm_l pm_0))) (wn := fun (u : HV × BV) => (xW t aX (XV.s_history (XV.s_board vX_1 u.2) u.1))) (fun u => (pm_2 (pm_r (pm_r (pm_l pm_0))) (pm_r (pm_l pm_0))).symm) (r_runV X hw (c_X2_save l D t (XA.history aX) (XA.board aX) (XV.history vX_1) vB_4 _ h) (pm_2 (pm_r (pm_r (pm_l pm_0))) (pm_r (pm_l pm_0))) (cwV 1 X.1.2.2.2.2 gX6_take_X2_save rfl rfl rfl (by decide +kernel) ⟨Nat.le_of_ble_eq_true rfl, Nat.le_of_ble_eq_true rfl⟩) (ci := 2) rfl rfl rfl rfl hl rfl (Nat.le_of_ble_eq_true rfl) dX6_take_45 ⟨Nat.le_of_ble_eq_true rfl, Nat.le_of_ble_eq_true rfl⟩) (fun u H locs h hw => ?_)
    obtain ⟨vH_6, vB_7⟩ := u
    refine lv_aload_n hx hb dX6_take_48 rfl (lv_at hl 0 rfl) ?_
    refine r_get (ci := 6) (C := RX6) (T := TX6) (N := 6) X hw 0 rfl rfl 0 (by decide) in_X6_take_X6 fl_X6_take_12 (v := .ref (BA.o (XA.board aX))) rfl dX6_take_49 ?_
    refine r_get (ci := 0) (C := RX0) (T := TX0) (N := 8) X hw 1 rfl rfl 5 (by decide) in_X6_take_X0 fl_X6_take_138 (v := .ref (BA.placings (XA.board aX))) rfl dX6_take_52 ?_
    refine lv_iload_n hx hb dX6_take_55 rfl (lv_at hl 1 rfl) ?_
    obtain ⟨hi_8, h⟩ := h
    refine r_iald (v := ((BV.placings vB_7) (Int32.toNatClampNeg p1))) X hw 2 rfl hi_8 rfl dX6_take_56 ?_
    refine lv_topi (fun x2_9 ex2_9 => ?_)
    replace h := h x2_9 ex2_9
    refine lv_istore_n (lv' := [(2, .int x2_9), (0, .ref (XA.o aX)), (1, .int p1)]) hx hb dX6_take_57 rfl hl (by decide) rfl (fun ls hl => ?_)
    refine lv_aload_n hx hb dX6_take_58 rfl (lv_at hl 1 rfl) ?_
    refine r_get (ci := 6) (C := RX6) (T := TX6) (N := 6) X hw 0 rfl rfl 0 (by decide) in_X6_take_X6 fl_X6_take_12 (v := .ref (BA.o (XA.board aX))) rfl dX6_take_59 ?_
    refine lv_iload_n hx hb dX6_take_62 rfl (lv_at hl 2 rfl) ?_
    refine r_cv X hw (pm_r (pm_l pm_0)) (wn := fun (u : BV) => (xW t aX (XV.s_history (XV.s_board vX_1 u) vH_6))) (fun u => (pm_r (pm_l pm_0)).symm) (r_runV X hw (c_X0_remove l D t (XA.board aX) vB_7 p1 _ h) (pm_r (pm_l pm_0)) (cwV 1 X.1.2.2.2.2 gX6_take_X0_remove rfl rfl rfl (by decide +kernel) ⟨Nat.le_of_ble_eq_true rfl, Nat.le_of_ble_eq_true rfl⟩) (ci := 0) rfl rfl rfl rfl hl rfl (Nat.le_of_ble_eq_true rfl) dX6_take_63 ⟨Nat.le_of_ble_eq_true rfl, Nat.le_of_ble_eq_true rfl⟩) (fun u H locs h hw => ?_)
    obtain ⟨vB_10, rfl⟩ : ∃ z, z = u := ⟨_, rfl⟩
    refine lv_iload_n hx hb dX6_take_66 rfl (lv_at hl 0 rfl) ?_
    exact e_i (w1 := (fun (u : XV) => (xW t aX u))) X ((XV.s_history (XV.s_board vX_1 vB_10) vH_6)) hw h dX6_take_67
  replace h := h.2 c_11
  exact k_X6_take_27 X aX _ _ _ _ h hw (lv_sub hl [] rfl)
/-! X6_fix -/
theorem in_X6_fix_X6 : ∀ w ∈ u_ws RX6 TX6 6, w ∈ wsX6_fix := fun w h => (List.mem_cons_of_mem _ (List.mem_append_left _ (List.mem_append_left _ (List.mem_append_left _ (List.mem_append_left _ (List.mem_append_right _ h))))))
theorem fl_X6_fix_12 : Cond.fieldLink RX6 12 "TwoFacedTiles" "board" "LTwoFacedTiles$Board;" ∈ wsX6_fix := List.mem_of_getElem? (i := 3) rfl
theorem fl_X6_fix_19 : Cond.fieldLink RX6 19 "TwoFacedTiles" "history" "LTwoFacedTiles$History;" ∈ wsX6_fix := List.mem_of_getElem? (i := 4) rfl
theorem in_X6_fix_X0 : ∀ w ∈ u_ws RX0 TX0 8, w ∈ wsX6_fix := fun w h => (List.mem_cons_of_mem _ (List.mem_append_left _ (List.mem_append_left _ (List.mem_append_left _ (List.mem_append_right _ h)))))
theorem fl_X6_fix_147 : Cond.fieldLink RX6 147 "TwoFacedTiles$Board" "fixed" "I" ∈ wsX6_fix := List.mem_of_getElem? (i := 5) rfl
def wp_X6_fix (vX : XV) (p1 : Int32) (Q : Int32 → XV → Prop) (XQ : String → XV → Prop) : Prop := wp_X6_requireCell vX p1 (fun (vX_1 : XV) => wp_X0_isEmpty (XV.board vX_1) p1 (fun (r_3 : Int32) (vB_2 : BV) => (r_3 = 0 → wp_X2_save (XV.history vX_1) vB_2  (fun (vH_4 : HV) (vB_5 : BV) => ∀ f_6 : Int32, f_6 = ((BV.fixed vB_5) ^^^ (jshl 1 p1)) → wp_X0_isFixed (BV.s_fixed vB_5 f_6) p1 (fun (r_8 : Int32) (vB_7 : BV) => (r_8 = 0 → Q 0 (XV.s_history (XV.s_board vX_1 vB_7) vH_4)) ∧ (¬ r_8 = 0 → Q 1 (XV.s_history (XV.s_board vX_1 vB_7) vH_4))))) ∧ (¬ r_3 = 0 → XQ "java/lang/IllegalStateException" (XV.s_board vX_1 vB_2)))) (fun (E : String) (vX_11 : XV) => XQ E vX_11)
set_option maxHeartbeats 4000000 in
set_option maxRecDepth 100000 in
theorem c_X6_fix (l : Launch) (D : va_G) (t : T3) (aX : XA) (vX : XV) (p1 : Int32) (Q : Int32 → XV → Prop) (h : wp_X6_fix vX p1 Q (fun (_ : String) (_ : XV) => False)) : Ct l yX6_fix wsX6_fix 7 121 0 0 [.ref (XA.o aX), .int p1] D t (xW t aX vX) (fun sz => Qi D (xW t aX vX) (fun (u : XV) => (xW t aX u)) (fun (r : Int32) (u : XV) => Q r u) sz) := by
  refine Ct.of (Qf := fun _ A => va_Qi (fun (r : Int32) (u : XV) => Q r u) (B1 D (fun (u : XV) => (xW t aX u)) A) A) cX6_fix 2 (some .int) (by decide) rfl (Nat.le_of_ble_eq_true rfl) ?_
  intro p e s m below meth c A ls hAe hin X hw hl
  generalize ([.ref (XA.o aX), .int p1] : List Value).toArray = args at X ⊢
  have hl : lv_has ls 2 [(0, .ref (XA.o aX)), (1, .int p1)] := hl
  have hx := X.1.1
  have hb := X.1.2.1
  refine lv_aload_n hx hb dX6_fix_0 rfl (lv_at hl 0 rfl) ?_
  refine lv_iload_n hx hb dX6_fix_1 rfl (lv_at hl 1 rfl) ?_
  refine r_cv X hw pm_0 (wn := fun (u : XV) => (xW t aX u)) (fun u => pm_0.symm) (r_runV X hw (c_X6_requireCell l D t aX vX p1 _ h) pm_0 (cwV 1 X.1.2.2.2.2 gX6_fix_X6_requireCell rfl rfl rfl (by decide +kernel) ⟨Nat.le_of_ble_eq_true rfl, Nat.le_of_ble_eq_true rfl⟩) (ci := 6) rfl rfl rfl rfl hl rfl (Nat.le_of_ble_eq_true rfl) dX6_fix_2 ⟨Nat.le_of_ble_eq_true rfl, Nat.le_of_ble_eq_true rfl⟩) (fun u H locs h hw => ?_)
  obtain ⟨vX_1, rfl⟩ : ∃ z, z = u := ⟨_, rfl⟩
  refine lv_aload_n hx hb dX6_fix_5 rfl (lv_at hl 0 rfl) ?_
  refine r_get (ci := 6) (C := RX6) (T := TX6) (N := 6) X hw 0 rfl rfl 0 (by decide) in_X6_fix_X6 fl_X6_fix_12 (v := .ref (BA.o (XA.board aX))) rfl dX6_fix_6 ?_
  refine lv_iload_n hx hb dX6_fix_9 rfl (lv_at hl 1 rfl) ?_
  refine r_ci X hw (pm_r (pm_l pm_0)) (wn := fun (u : BV) => (xW t aX (XV.s_board vX_1 u))) (fun u => (pm_r (pm_l pm_0)).symm) (r_runV X hw (c_X0_isEmpty l D t (XA.board aX) (XV.board vX_1) p1 _ h) (pm_r (pm_l pm_0)) (cwV 1 X.1.2.2.2.2 gX6_fix_X0_isEmpty rfl rfl rfl (by decide +kernel) ⟨Nat.le_of_ble_eq_true rfl, Nat.le_of_ble_eq_true rfl⟩) (ci := 0) rfl rfl rfl rfl hl rfl (Nat.le_of_ble_eq_true rfl) dX6_fix_10 ⟨Nat.le_of_ble_eq_true rfl, Nat.le_of_ble_eq_true rfl⟩) (fun r_3 u H locs h hw => ?_)
  obtain ⟨vB_2, rfl⟩ : ∃ z, z = u := ⟨_, rfl⟩
  refine lv_if_eq (tgt := 26) hx hb dX6_fix_13 (by decide) (fun c_10 => ?_) (fun c_10 => ?_)
  · replace h := h.1 c_10
    refine lv_aload_n hx hb dX6_fix_26 rfl (lv_at hl 0 rfl) ?_
    refine r_get (ci := 6) (C := RX6) (T := TX6) (N := 6) X hw 0 rfl rfl 1 (by decide) in_X6_fix_X6 fl_X6_fix_19 (v := .ref (HA.o (XA.history aX))) rfl dX6_fix_27 ?_
    refine lv_aload_n hx hb dX6_fix_30 rfl (lv_at hl 0 rfl) ?_
    refine r_get (ci := 6) (C := RX6) (T := TX6) (N := 6) X hw 0 rfl rfl 0 (by decide) in_X6_fix_X6 fl_X6_fix_12 (v := .ref (BA.o (XA.board aX))) rfl dX6_fix_31 ?_
    refine r_cv X hw (pm_2 (pm_r (pm_r (pm_l pm_0))) (pm_r (pm_l pm_0))) (wn := fun (u : HV × BV) => (xW t aX (XV.s_history (XV.s_board vX_1 u.2) u.1))) (fun u => (pm_2 (pm_r (pm_r (pm_l pm_0))) (pm_r (pm_l pm_0))).symm) (r_runV X hw (c_X2_save l D t (XA.history aX) (XA.board aX) (XV.history vX_1) vB_2 _ h) (pm_2 (pm_r (pm_r (pm_l pm_0))) (pm_r (pm_l pm_0))) (cwV 1 X.1.2.2.2.2 gX6_fix_X2_save rfl rfl rfl (by decide +kernel) ⟨Nat.le_of_ble_eq_true rfl, Nat.le_of_ble_eq_true rfl⟩) (ci := 2) rfl rfl rfl rfl hl rfl (Nat.le_of_ble_eq_true rfl) dX6_fix_34 ⟨Nat.le_of_ble_eq_true rfl, Nat.le_of_ble_eq_true rfl⟩) (fun u H locs h hw => ?_)
    obtain ⟨vH_4, vB_5⟩ := u
    refine lv_aload_n hx hb dX6_fix_37 rfl (lv_at hl 0 rfl) ?_
    refine r_get (ci := 6) (C := RX6) (T := TX6) (N := 6) X hw 0 rfl rfl 0 (by decide) in_X6_fix_X6 fl_X6_fix_12 (v := .ref (BA.o (XA.board aX))) rfl dX6_fix_38 ?_
    refine lv_dup hx hb dX6_fix_41 rfl ?_
    refine r_get (ci := 0) (C := RX0) (T := TX0) (N := 8) X hw 1 rfl rfl 4 (by decide) in_X6_fix_X0 fl_X6_fix_147 (v := .int (BV.fixed vB_5)) rfl dX6_fix_42 ?_
    refine lv_iconst (v := 1) hx hb dX6_fix_45 (by decide) ?_
    refine lv_iload_n hx hb dX6_fix_46 rfl (lv_at hl 1 rfl) ?_
    refine r_ishl hx hb dX6_fix_47 ?_
    refine lv_ixor hx hb dX6_fix_48 ?_
    refine lv_topi (fun f_6 ef_6 => ?_)
    replace h := h f_6 ef_6
    refine r_put (ci := 0) (C := RX0) (T := TX0) (N := 8) (v := .int f_6) (ws' := (xW t aX (XV.s_history (XV.s_board vX_1 (BV.s_fixed vB_5 f_6)) vH_4))) X hw 1 rfl rfl 4 (by decide) in_X6_fix_X0 tyX0 tyX0_ok nmX0 fl_X6_fix_147 rfl rfl rfl (Nat.le_of_ble_eq_true rfl) rfl dX6_fix_49 (fun H locs hw => ?_)
    refine lv_aload_n hx hb dX6_fix_52 rfl (lv_at hl 0 rfl) ?_
    refine r_get (ci := 6) (C := RX6) (T := TX6) (N := 6) X hw 0 rfl rfl 0 (by decide) in_X6_fix_X6 fl_X6_fix_12 (v := .ref (BA.o (XA.board aX))) rfl dX6_fix_53 ?_
    refine lv_iload_n hx hb dX6_fix_56 rfl (lv_at hl 1 rfl) ?_
    refine r_ci X hw (pm_r (pm_l pm_0)) (wn := fun (u : BV) => (xW t aX (XV.s_history (XV.s_board vX_1 u) vH_4))) (fun u => (pm_r (pm_l pm_0)).symm) (r_runV X hw (c_X0_isFixed l D t (XA.board aX) (BV.s_fixed vB_5 f_6) p1 _ h) (pm_r (pm_l pm_0)) (cwV 1 X.1.2.2.2.2 gX6_fix_X0_isFixed rfl rfl rfl (by decide +kernel) ⟨Nat.le_of_ble_eq_true rfl, Nat.le_of_ble_eq_true rfl⟩) (ci := 0) rfl rfl rfl rfl hl rfl (Nat.le_of_ble_eq_true rfl) dX6_fix_57 ⟨Nat.le_of_ble_eq_true rfl, Nat.le_of_ble_eq_true rfl⟩) (fun r_8 u H locs h hw => ?_)
    obtain ⟨vB_7, rfl⟩ : ∃ z, z = u := ⟨_, rfl⟩
    refine lv_if_eq (tgt := 67) hx hb dX6_fix_60 (by decide) (fun c_9 => ?_) (fun c_9 => ?_)
    · replace h := h.1 c_9
      refine lv_iconst (v := 0) hx hb dX6_fix_67 (by decide) ?_
      exact e_i (w1 := (fun (u : XV) => (xW t aX u))) X ((XV.s_history (XV.s_board vX_1 vB_7) vH_4)) hw h dX6_fix_68
    replace h := h.2 c_9
    refine lv_iconst (v := 1) hx hb dX6_fix_63 (by decide) ?_
    refine lv_goto (tgt := 68) hx hb dX6_fix_64 (by decide) ?_
    exact e_i (w1 := (fun (u : XV) => (xW t aX u))) X ((XV.s_history (XV.s_board vX_1 vB_7) vH_4)) hw h dX6_fix_68
  replace h := h.2 c_10
  exact (show False from h).elim
/-! X6_solve -/
theorem in_X6_solve_X6 : ∀ w ∈ u_ws RX6 TX6 6, w ∈ wsX6_solve := fun w h => (List.mem_cons_of_mem _ (List.mem_append_left _ (List.mem_append_left _ (List.mem_append_left _ (List.mem_append_left _ (List.mem_append_left _ (List.mem_append_right _ h)))))))
theorem fl_X6_solve_40 : Cond.fieldLink RX6 40 "TwoFacedTiles" "search" "LTwoFacedTiles$Search;" ∈ wsX6_solve := List.mem_of_getElem? (i := 3) rfl
theorem fl_X6_solve_12 : Cond.fieldLink RX6 12 "TwoFacedTiles" "board" "LTwoFacedTiles$Board;" ∈ wsX6_solve := List.mem_of_getElem? (i := 4) rfl
theorem in_X6_solve_X4 : ∀ w ∈ u_ws RX4 TX4 7, w ∈ wsX6_solve := fun w h => (List.mem_cons_of_mem _ (List.mem_append_left _ (List.mem_append_left _ (List.mem_append_left _ (List.mem_append_left _ (List.mem_append_right _ h))))))
theorem fl_X6_solve_161 : Cond.fieldLink RX6 161 "TwoFacedTiles$Search" "found" "I" ∈ wsX6_solve := List.mem_of_getElem? (i := 5) rfl
theorem fl_X6_solve_19 : Cond.fieldLink RX6 19 "TwoFacedTiles" "history" "LTwoFacedTiles$History;" ∈ wsX6_solve := List.mem_of_getElem? (i := 6) rfl
theorem fl_X6_solve_166 : Cond.fieldLink RX6 166 "TwoFacedTiles$Search" "trial" "LTwoFacedTiles$Board;" ∈ wsX6_solve := List.mem_of_getElem? (i := 7) rfl
def wp_X6_solve (vX : XV) (Q : Int32 → XV → Prop) (XQ : String → XV → Prop) : Prop := wp_X4_run (XV.search vX) (XV.board vX) 1 (fun (vS_1 : SV) (vB_2 : BV) => (1 ≤ (SV.found vS_1) → wp_X2_save (XV.history vX) vB_2  (fun (vH_3 : HV) (vB_4 : BV) => wp_X0_emptyCells vB_4  (fun (r_6 : Int32) (vB_5 : BV) => wp_X0_copyFrom vB_5 (SV.trial vS_1)  (fun (vB_7 : BV) (vB_8 : BV) => Q r_6 (XV.s_search (XV.s_history (XV.s_board vX vB_7) vH_3) (SV.s_trial vS_1 vB_8)))))) ∧ (¬ 1 ≤ (SV.found vS_1) → XQ "java/lang/IllegalStateException" (XV.s_search (XV.s_board vX vB_2) vS_1)))
set_option maxHeartbeats 4000000 in
set_option maxRecDepth 100000 in
theorem c_X6_solve (l : Launch) (D : va_G) (t : T3) (aX : XA) (vX : XV) (Q : Int32 → XV → Prop) (h : wp_X6_solve vX Q (fun (_ : String) (_ : XV) => False)) : Ct l yX6_solve wsX6_solve 81 1629 0 0 [.ref (XA.o aX)] D t (xW t aX vX) (fun sz => Qi D (xW t aX vX) (fun (u : XV) => (xW t aX u)) (fun (r : Int32) (u : XV) => Q r u) sz) := by
  refine Ct.of (Qf := fun _ A => va_Qi (fun (r : Int32) (u : XV) => Q r u) (B1 D (fun (u : XV) => (xW t aX u)) A) A) cX6_solve 2 (some .int) (by decide) rfl (Nat.le_of_ble_eq_true rfl) ?_
  intro p e s m below meth c A ls hAe hin X hw hl
  generalize ([.ref (XA.o aX)] : List Value).toArray = args at X ⊢
  have hl : lv_has ls 2 [(0, .ref (XA.o aX))] := hl
  have hx := X.1.1
  have hb := X.1.2.1
  refine lv_aload_n hx hb dX6_solve_0 rfl (lv_at hl 0 rfl) ?_
  refine r_get (ci := 6) (C := RX6) (T := TX6) (N := 6) X hw 0 rfl rfl 4 (by decide) in_X6_solve_X6 fl_X6_solve_40 (v := .ref (SA.o (XA.search aX))) rfl dX6_solve_1 ?_
  refine lv_aload_n hx hb dX6_solve_4 rfl (lv_at hl 0 rfl) ?_
  refine r_get (ci := 6) (C := RX6) (T := TX6) (N := 6) X hw 0 rfl rfl 0 (by decide) in_X6_solve_X6 fl_X6_solve_12 (v := .ref (BA.o (XA.board aX))) rfl dX6_solve_5 ?_
  refine lv_iconst (v := 1) hx hb dX6_solve_8 (by decide) ?_
  refine r_cv X hw (pm_2 (pm_r (pm_r (pm_r (pm_r (pm_r (pm_l pm_0)))))) (pm_r (pm_l pm_0))) (wn := fun (u : SV × BV) => (xW t aX (XV.s_search (XV.s_board vX u.2) u.1))) (fun u => (pm_2 (pm_r (pm_r (pm_r (pm_r (pm_r (pm_l pm_0)))))) (pm_r (pm_l pm_0))).symm) (r_runV X hw (c_X4_run l D t (XA.search aX) (XA.board aX) (XV.search vX) (XV.board vX) 1 _ h) (pm_2 (pm_r (pm_r (pm_r (pm_r (pm_r (pm_l pm_0)))))) (pm_r (pm_l pm_0))) (cwV 2 X.1.2.2.2.2 gX6_solve_X4_run rfl rfl rfl (by decide +kernel) ⟨Nat.le_of_ble_eq_true rfl, Nat.le_of_ble_eq_true rfl⟩) (ci := 4) rfl rfl rfl rfl hl rfl (Nat.le_of_ble_eq_true rfl) dX6_solve_9 ⟨Nat.le_of_ble_eq_true rfl, Nat.le_of_ble_eq_true rfl⟩) (fun u H locs h hw => ?_)
  obtain ⟨vS_1, vB_2⟩ := u
  refine lv_aload_n hx hb dX6_solve_12 rfl (lv_at hl 0 rfl) ?_
  refine r_get (ci := 6) (C := RX6) (T := TX6) (N := 6) X hw 0 rfl rfl 4 (by decide) in_X6_solve_X6 fl_X6_solve_40 (v := .ref (SA.o (XA.search aX))) rfl dX6_solve_13 ?_
  refine r_get (ci := 4) (C := RX4) (T := TX4) (N := 7) X hw 42 rfl rfl 1 (by decide) in_X6_solve_X4 fl_X6_solve_161 (v := .int (SV.found vS_1)) rfl dX6_solve_16 ?_
  refine lv_iconst (v := 1) hx hb dX6_solve_19 (by decide) ?_
  refine lv_icmp_ge (tgt := 33) hx hb dX6_solve_20 (by decide) (fun c_9 => ?_) (fun c_9 => ?_)
  · replace h := h.1 c_9
    refine lv_aload_n hx hb dX6_solve_33 rfl (lv_at hl 0 rfl) ?_
    refine r_get (ci := 6) (C := RX6) (T := TX6) (N := 6) X hw 0 rfl rfl 1 (by decide) in_X6_solve_X6 fl_X6_solve_19 (v := .ref (HA.o (XA.history aX))) rfl dX6_solve_34 ?_
    refine lv_aload_n hx hb dX6_solve_37 rfl (lv_at hl 0 rfl) ?_
    refine r_get (ci := 6) (C := RX6) (T := TX6) (N := 6) X hw 0 rfl rfl 0 (by decide) in_X6_solve_X6 fl_X6_solve_12 (v := .ref (BA.o (XA.board aX))) rfl dX6_solve_38 ?_
    refine r_cv X hw (pm_2 (pm_r (pm_r (pm_l pm_0))) (pm_r (pm_l pm_0))) (wn := fun (u : HV × BV) => (xW t aX (XV.s_search (XV.s_history (XV.s_board vX u.2) u.1) vS_1))) (fun u => (pm_2 (pm_r (pm_r (pm_l pm_0))) (pm_r (pm_l pm_0))).symm) (r_runV X hw (c_X2_save l D t (XA.history aX) (XA.board aX) (XV.history vX) vB_2 _ h) (pm_2 (pm_r (pm_r (pm_l pm_0))) (pm_r (pm_l pm_0))) (cwV 1 X.1.2.2.2.2 gX6_solve_X2_save rfl rfl rfl (by decide +kernel) ⟨Nat.le_of_ble_eq_true rfl, Nat.le_of_ble_eq_true rfl⟩) (ci := 2) rfl rfl rfl rfl hl rfl (Nat.le_of_ble_eq_true rfl) dX6_solve_41 ⟨Nat.le_of_ble_eq_true rfl, Nat.le_of_ble_eq_true rfl⟩) (fun u H locs h hw => ?_)
    obtain ⟨vH_3, vB_4⟩ := u
    refine lv_aload_n hx hb dX6_solve_44 rfl (lv_at hl 0 rfl) ?_
    refine r_get (ci := 6) (C := RX6) (T := TX6) (N := 6) X hw 0 rfl rfl 0 (by decide) in_X6_solve_X6 fl_X6_solve_12 (v := .ref (BA.o (XA.board aX))) rfl dX6_solve_45 ?_
    refine r_ci X hw (pm_r (pm_l pm_0)) (wn := fun (u : BV) => (xW t aX (XV.s_search (XV.s_history (XV.s_board vX u) vH_3) vS_1))) (fun u => (pm_r (pm_l pm_0)).symm) (r_runV X hw (c_X0_emptyCells l D t (XA.board aX) vB_4 _ h) (pm_r (pm_l pm_0)) (cwV 0 X.1.2.2.2.2 gX6_solve_X0_emptyCells rfl rfl rfl (by decide +kernel) ⟨Nat.le_of_ble_eq_true rfl, Nat.le_of_ble_eq_true rfl⟩) (ci := 0) rfl rfl rfl rfl hl rfl (Nat.le_of_ble_eq_true rfl) dX6_solve_48 ⟨Nat.le_of_ble_eq_true rfl, Nat.le_of_ble_eq_true rfl⟩) (fun r_6 u H locs h hw => ?_)
    obtain ⟨vB_5, rfl⟩ : ∃ z, z = u := ⟨_, rfl⟩
    refine lv_istore_n (lv' := [(1, .int r_6), (0, .ref (XA.o aX))]) hx hb dX6_solve_51 rfl hl (by decide) rfl (fun ls hl => ?_)
    refine lv_aload_n hx hb dX6_solve_52 rfl (lv_at hl 1 rfl) ?_
    refine r_get (ci := 6) (C := RX6) (T := TX6) (N := 6) X hw 0 rfl rfl 0 (by decide) in_X6_solve_X6 fl_X6_solve_12 (v := .ref (BA.o (XA.board aX))) rfl dX6_solve_53 ?_
    refine lv_aload_n hx hb dX6_solve_56 rfl (lv_at hl 1 rfl) ?_
    refine r_get (ci := 6) (C := RX6) (T := TX6) (N := 6) X hw 0 rfl rfl 4 (by decide) in_X6_solve_X6 fl_X6_solve_40 (v := .ref (SA.o (XA.search aX))) rfl dX6_solve_57 ?_
    refine r_get (ci := 4) (C := RX4) (T := TX4) (N := 7) X hw 42 rfl rfl 0 (by decide) in_X6_solve_X4 fl_X6_solve_166 (v := .ref (BA.o (SA.trial (XA.search aX)))) rfl dX6_solve_60 ?_
    refine r_cv X hw (pm_2 (pm_r (pm_l pm_0)) (pm_r (pm_r (pm_r (pm_r (pm_r (pm_l (pm_r (pm_l pm_0))))))))) (wn := fun (u : BV × BV) => (xW t aX (XV.s_search (XV.s_history (XV.s_board vX u.1) vH_3) (SV.s_trial vS_1 u.2)))) (fun u => (pm_2 (pm_r (pm_l pm_0)) (pm_r (pm_r (pm_r (pm_r (pm_r (pm_l (pm_r (pm_l pm_0))))))))).symm) (r_runV X hw (c_X0_copyFrom l D t (XA.board aX) (SA.trial (XA.search aX)) vB_5 (SV.trial vS_1) _ h) (pm_2 (pm_r (pm_l pm_0)) (pm_r (pm_r (pm_r (pm_r (pm_r (pm_l (pm_r (pm_l pm_0))))))))) (cwV 1 X.1.2.2.2.2 gX6_solve_X0_copyFrom rfl rfl rfl (by decide +kernel) ⟨Nat.le_of_ble_eq_true rfl, Nat.le_of_ble_eq_true rfl⟩) (ci := 0) rfl rfl rfl rfl hl rfl (Nat.le_of_ble_eq_true rfl) dX6_solve_63 ⟨Nat.le_of_ble_eq_true rfl, Nat.le_of_ble_eq_true rfl⟩) (fun u H locs h hw => ?_)
    obtain ⟨vB_7, vB_8⟩ := u
    refine lv_iload_n hx hb dX6_solve_66 rfl (lv_at hl 0 rfl) ?_
    exact e_i (w1 := (fun (u : XV) => (xW t aX u))) X ((XV.s_search (XV.s_history (XV.s_board vX vB_7) vH_3) (SV.s_trial vS_1 vB_8))) hw h dX6_solve_67
  replace h := h.2 c_9
  exact (show False from h).elim
/-! X6_undo -/
theorem in_X6_undo_X6 : ∀ w ∈ u_ws RX6 TX6 6, w ∈ wsX6_undo := fun w h => (List.mem_cons_of_mem _ (List.mem_append_left _ (List.mem_append_left _ (List.mem_append_left _ (List.mem_append_right _ h)))))
theorem fl_X6_undo_19 : Cond.fieldLink RX6 19 "TwoFacedTiles" "history" "LTwoFacedTiles$History;" ∈ wsX6_undo := List.mem_of_getElem? (i := 3) rfl
theorem in_X6_undo_X2 : ∀ w ∈ u_ws RX2 TX2 3, w ∈ wsX6_undo := fun w h => (List.mem_cons_of_mem _ (List.mem_append_left _ (List.mem_append_left _ (List.mem_append_right _ h))))
theorem fl_X6_undo_199 : Cond.fieldLink RX6 199 "TwoFacedTiles$History" "kept" "I" ∈ wsX6_undo := List.mem_of_getElem? (i := 4) rfl
theorem fl_X6_undo_12 : Cond.fieldLink RX6 12 "TwoFacedTiles" "board" "LTwoFacedTiles$Board;" ∈ wsX6_undo := List.mem_of_getElem? (i := 5) rfl
def wp_X6_undo (vX : XV) (Q : Int32 → XV → Prop) (XQ : String → XV → Prop) : Prop := (1 ≤ (HV.kept (XV.history vX)) → wp_X2_restore (XV.history vX) (XV.board vX)  (fun (vH_1 : HV) (vB_2 : BV) => Q (HV.kept vH_1) (XV.s_history (XV.s_board vX vB_2) vH_1))) ∧ (¬ 1 ≤ (HV.kept (XV.history vX)) → XQ "java/lang/IllegalStateException" vX)
set_option maxHeartbeats 4000000 in
set_option maxRecDepth 100000 in
theorem c_X6_undo (l : Launch) (D : va_G) (t : T3) (aX : XA) (vX : XV) (Q : Int32 → XV → Prop) (h : wp_X6_undo vX Q (fun (_ : String) (_ : XV) => False)) : Ct l yX6_undo wsX6_undo 6 102 0 0 [.ref (XA.o aX)] D t (xW t aX vX) (fun sz => Qi D (xW t aX vX) (fun (u : XV) => (xW t aX u)) (fun (r : Int32) (u : XV) => Q r u) sz) := by
  refine Ct.of (Qf := fun _ A => va_Qi (fun (r : Int32) (u : XV) => Q r u) (B1 D (fun (u : XV) => (xW t aX u)) A) A) cX6_undo 1 (some .int) (by decide) rfl (Nat.le_of_ble_eq_true rfl) ?_
  intro p e s m below meth c A ls hAe hin X hw hl
  generalize ([.ref (XA.o aX)] : List Value).toArray = args at X ⊢
  have hl : lv_has ls 1 [(0, .ref (XA.o aX))] := hl
  have hx := X.1.1
  have hb := X.1.2.1
  refine lv_aload_n hx hb dX6_undo_0 rfl (lv_at hl 0 rfl) ?_
  refine r_get (ci := 6) (C := RX6) (T := TX6) (N := 6) X hw 0 rfl rfl 1 (by decide) in_X6_undo_X6 fl_X6_undo_19 (v := .ref (HA.o (XA.history aX))) rfl dX6_undo_1 ?_
  refine r_get (ci := 2) (C := RX2) (T := TX2) (N := 3) X hw 5 rfl rfl 2 (by decide) in_X6_undo_X2 fl_X6_undo_199 (v := .int (HV.kept (XV.history vX))) rfl dX6_undo_4 ?_
  refine lv_iconst (v := 1) hx hb dX6_undo_7 (by decide) ?_
  refine lv_icmp_ge (tgt := 21) hx hb dX6_undo_8 (by decide) (fun c_3 => ?_) (fun c_3 => ?_)
  · replace h := h.1 c_3
    refine lv_aload_n hx hb dX6_undo_21 rfl (lv_at hl 0 rfl) ?_
    refine r_get (ci := 6) (C := RX6) (T := TX6) (N := 6) X hw 0 rfl rfl 1 (by decide) in_X6_undo_X6 fl_X6_undo_19 (v := .ref (HA.o (XA.history aX))) rfl dX6_undo_22 ?_
    refine lv_aload_n hx hb dX6_undo_25 rfl (lv_at hl 0 rfl) ?_
    refine r_get (ci := 6) (C := RX6) (T := TX6) (N := 6) X hw 0 rfl rfl 0 (by decide) in_X6_undo_X6 fl_X6_undo_12 (v := .ref (BA.o (XA.board aX))) rfl dX6_undo_26 ?_
    refine r_cv X hw (pm_2 (pm_r (pm_r (pm_l pm_0))) (pm_r (pm_l pm_0))) (wn := fun (u : HV × BV) => (xW t aX (XV.s_history (XV.s_board vX u.2) u.1))) (fun u => (pm_2 (pm_r (pm_r (pm_l pm_0))) (pm_r (pm_l pm_0))).symm) (r_runV X hw (c_X2_restore l D t (XA.history aX) (XA.board aX) (XV.history vX) (XV.board vX) _ h) (pm_2 (pm_r (pm_r (pm_l pm_0))) (pm_r (pm_l pm_0))) (cwV 1 X.1.2.2.2.2 gX6_undo_X2_restore rfl rfl rfl (by decide +kernel) ⟨Nat.le_of_ble_eq_true rfl, Nat.le_of_ble_eq_true rfl⟩) (ci := 2) rfl rfl rfl rfl hl rfl (Nat.le_of_ble_eq_true rfl) dX6_undo_29 ⟨Nat.le_of_ble_eq_true rfl, Nat.le_of_ble_eq_true rfl⟩) (fun u H locs h hw => ?_)
    obtain ⟨vH_1, vB_2⟩ := u
    refine lv_aload_n hx hb dX6_undo_32 rfl (lv_at hl 0 rfl) ?_
    refine r_get (ci := 6) (C := RX6) (T := TX6) (N := 6) X hw 0 rfl rfl 1 (by decide) in_X6_undo_X6 fl_X6_undo_19 (v := .ref (HA.o (XA.history aX))) rfl dX6_undo_33 ?_
    refine r_get (ci := 2) (C := RX2) (T := TX2) (N := 3) X hw 5 rfl rfl 2 (by decide) in_X6_undo_X2 fl_X6_undo_199 (v := .int (HV.kept vH_1)) rfl dX6_undo_36 ?_
    exact e_i (w1 := (fun (u : XV) => (xW t aX u))) X ((XV.s_history (XV.s_board vX vB_2) vH_1)) hw h dX6_undo_39
  replace h := h.2 c_3
  exact (show False from h).elim
/-! X6_cell -/
def wp_X6_cell_14 (Q : Int32 → XV → Prop) (XQ : String → XV → Prop) (vX : XV) : Prop := XQ "java/lang/IllegalArgumentException" vX
set_option maxHeartbeats 4000000 in
set_option maxRecDepth 100000 in
theorem k_X6_cell_14 {p : Program} {l : Launch} {e : Env} {s : State} {m : MethodId} {below : List Frame} {meth : Method} {c : Code} {args : Array Value} {D : va_G} {t : T3} {A : Nat → Prop} (X : Cx p s m meth c args cX6_cell 3 (some .int) RX6 wsX6_cell D t A) (aX : XA) {Q : Int32 → XV → Prop}  : ∀ (vX : XV) (H : Heap) (locs : List Loc) (ls : Array Slot), wp_X6_cell_14 Q (fun (_ : String) (_ : XV) => False) vX → Wd D A s.heap (xW t aX vX) H locs → lv_has ls 3 [] → W p l e ({ frames := 7, cells := 0, slots := 0, locals := 121 } : Room) s m args below meth c H locs 0 0 (Ei below args s A D (fun (u : XV) => (xW t aX u)) (fun (r : Int32) (u : XV) => Q r u) 0 0) (F0 m 14 ls []) := by
  intro vX H locs ls h hw hl
  have hx := X.1.1
  have hb := X.1.2.1
  exact (show False from h).elim
def wp_X6_cell (vX : XV) (p1 : Int32) (p2 : Int32) (Q : Int32 → XV → Prop) (XQ : String → XV → Prop) : Prop := wp_X6_requireCell vX p1 (fun (vX_1 : XV) => (p2 < 0 → wp_X6_cell_14  Q XQ vX_1) ∧ (¬ p2 < 0 → (p2 < 4 → wp_X6_cellProperty vX_1 p1 p2 (fun (r_3 : Int32) (vX_2 : XV) => Q r_3 vX_2)) ∧ (¬ p2 < 4 → wp_X6_cell_14  Q XQ vX_1))) (fun (E : String) (vX_6 : XV) => XQ E vX_6)
set_option maxHeartbeats 4000000 in
set_option maxRecDepth 100000 in
theorem c_X6_cell (l : Launch) (D : va_G) (t : T3) (aX : XA) (vX : XV) (p1 : Int32) (p2 : Int32) (Q : Int32 → XV → Prop) (h : wp_X6_cell vX p1 p2 Q (fun (_ : String) (_ : XV) => False)) : Ct l yX6_cell wsX6_cell 7 121 0 0 [.ref (XA.o aX), .int p1, .int p2] D t (xW t aX vX) (fun sz => Qi D (xW t aX vX) (fun (u : XV) => (xW t aX u)) (fun (r : Int32) (u : XV) => Q r u) sz) := by
  refine Ct.of (Qf := fun _ A => va_Qi (fun (r : Int32) (u : XV) => Q r u) (B1 D (fun (u : XV) => (xW t aX u)) A) A) cX6_cell 3 (some .int) (by decide) rfl (Nat.le_of_ble_eq_true rfl) ?_
  intro p e s m below meth c A ls hAe hin X hw hl
  generalize ([.ref (XA.o aX), .int p1, .int p2] : List Value).toArray = args at X ⊢
  have hl : lv_has ls 3 [(0, .ref (XA.o aX)), (1, .int p1), (2, .int p2)] := hl
  have hx := X.1.1
  have hb := X.1.2.1
  refine lv_aload_n hx hb dX6_cell_0 rfl (lv_at hl 0 rfl) ?_
  refine lv_iload_n hx hb dX6_cell_1 rfl (lv_at hl 1 rfl) ?_
  refine r_cv X hw pm_0 (wn := fun (u : XV) => (xW t aX u)) (fun u => pm_0.symm) (r_runV X hw (c_X6_requireCell l D t aX vX p1 _ h) pm_0 (cwV 1 X.1.2.2.2.2 gX6_cell_X6_requireCell rfl rfl rfl (by decide +kernel) ⟨Nat.le_of_ble_eq_true rfl, Nat.le_of_ble_eq_true rfl⟩) (ci := 6) rfl rfl rfl rfl hl rfl (Nat.le_of_ble_eq_true rfl) dX6_cell_2 ⟨Nat.le_of_ble_eq_true rfl, Nat.le_of_ble_eq_true rfl⟩) (fun u H locs h hw => ?_)
  obtain ⟨vX_1, rfl⟩ : ∃ z, z = u := ⟨_, rfl⟩
  refine lv_iload_n hx hb dX6_cell_5 rfl (lv_at hl 2 rfl) ?_
  refine lv_if_lt (tgt := 14) hx hb dX6_cell_6 (by decide) (fun c_5 => ?_) (fun c_5 => ?_)
  · replace h := h.1 c_5
    exact k_X6_cell_14 X aX _ _ _ _ h hw (lv_sub hl [] rfl)
  replace h := h.2 c_5
  refine lv_iload_n hx hb dX6_cell_9 rfl (lv_at hl 2 rfl) ?_
  refine lv_iconst (v := 4) hx hb dX6_cell_10 (by decide) ?_
  refine lv_icmp_lt (tgt := 24) hx hb dX6_cell_11 (by decide) (fun c_4 => ?_) (fun c_4 => ?_)
  · replace h := h.1 c_4
    refine lv_aload_n hx hb dX6_cell_24 rfl (lv_at hl 0 rfl) ?_
    refine lv_iload_n hx hb dX6_cell_25 rfl (lv_at hl 1 rfl) ?_
    refine lv_iload_n hx hb dX6_cell_26 rfl (lv_at hl 2 rfl) ?_
    refine r_ci X hw pm_0 (wn := fun (u : XV) => (xW t aX u)) (fun u => pm_0.symm) (r_runV X hw (c_X6_cellProperty l D t aX vX_1 p1 p2 _ h) pm_0 (cwV 2 X.1.2.2.2.2 gX6_cell_X6_cellProperty rfl rfl rfl (by decide +kernel) ⟨Nat.le_of_ble_eq_true rfl, Nat.le_of_ble_eq_true rfl⟩) (ci := 6) rfl rfl rfl rfl hl rfl (Nat.le_of_ble_eq_true rfl) dX6_cell_27 ⟨Nat.le_of_ble_eq_true rfl, Nat.le_of_ble_eq_true rfl⟩) (fun r_3 u H locs h hw => ?_)
    obtain ⟨vX_2, rfl⟩ : ∃ z, z = u := ⟨_, rfl⟩
    exact e_i (w1 := (fun (u : XV) => (xW t aX u))) X (vX_2) hw h dX6_cell_30
  replace h := h.2 c_4
  exact k_X6_cell_14 X aX _ _ _ _ h hw (lv_sub hl [] rfl)
/-! X6_color -/
def wp_X6_color_14 (Q : Int32 → XV → Prop) (XQ : String → XV → Prop) (vX : XV) : Prop := XQ "java/lang/IndexOutOfBoundsException" vX
set_option maxHeartbeats 4000000 in
set_option maxRecDepth 100000 in
theorem k_X6_color_14 {p : Program} {l : Launch} {e : Env} {s : State} {m : MethodId} {below : List Frame} {meth : Method} {c : Code} {args : Array Value} {D : va_G} {t : T3} {A : Nat → Prop} (X : Cx p s m meth c args cX6_color 4 (some .int) RX6 wsX6_color D t A) (aX : XA) {Q : Int32 → XV → Prop}  : ∀ (vX : XV) (H : Heap) (locs : List Loc) (ls : Array Slot), wp_X6_color_14 Q (fun (_ : String) (_ : XV) => False) vX → Wd D A s.heap (xW t aX vX) H locs → lv_has ls 4 [] → W p l e ({ frames := 7, cells := 0, slots := 0, locals := 121 } : Room) s m args below meth c H locs 0 0 (Ei below args s A D (fun (u : XV) => (xW t aX u)) (fun (r : Int32) (u : XV) => Q r u) 0 0) (F0 m 14 ls []) := by
  intro vX H locs ls h hw hl
  have hx := X.1.1
  have hb := X.1.2.1
  exact (show False from h).elim
def wp_X6_color (vX : XV) (p1 : Int32) (p2 : Int32) (p3 : Int32) (Q : Int32 → XV → Prop) (XQ : String → XV → Prop) : Prop := wp_X6_requireCell vX p1 (fun (vX_1 : XV) => (p2 < 0 → wp_X6_color_14  Q XQ vX_1) ∧ (¬ p2 < 0 → (p2 < 4 → wp_X6_colorAt vX_1 p1 p2 p3 (fun (r_3 : Int32) (vX_2 : XV) => Q r_3 vX_2)) ∧ (¬ p2 < 4 → wp_X6_color_14  Q XQ vX_1))) (fun (E : String) (vX_6 : XV) => XQ E vX_6)
set_option maxHeartbeats 4000000 in
set_option maxRecDepth 100000 in
theorem c_X6_color (l : Launch) (D : va_G) (t : T3) (aX : XA) (vX : XV) (p1 : Int32) (p2 : Int32) (p3 : Int32) (Q : Int32 → XV → Prop) (h : wp_X6_color vX p1 p2 p3 Q (fun (_ : String) (_ : XV) => False)) : Ct l yX6_color wsX6_color 7 121 0 0 [.ref (XA.o aX), .int p1, .int p2, .int p3] D t (xW t aX vX) (fun sz => Qi D (xW t aX vX) (fun (u : XV) => (xW t aX u)) (fun (r : Int32) (u : XV) => Q r u) sz) := by
  refine Ct.of (Qf := fun _ A => va_Qi (fun (r : Int32) (u : XV) => Q r u) (B1 D (fun (u : XV) => (xW t aX u)) A) A) cX6_color 4 (some .int) (by decide) rfl (Nat.le_of_ble_eq_true rfl) ?_
  intro p e s m below meth c A ls hAe hin X hw hl
  generalize ([.ref (XA.o aX), .int p1, .int p2, .int p3] : List Value).toArray = args at X ⊢
  have hl : lv_has ls 4 [(0, .ref (XA.o aX)), (1, .int p1), (2, .int p2), (3, .int p3)] := hl
  have hx := X.1.1
  have hb := X.1.2.1
  refine lv_aload_n hx hb dX6_color_0 rfl (lv_at hl 0 rfl) ?_
  refine lv_iload_n hx hb dX6_color_1 rfl (lv_at hl 1 rfl) ?_
  refine r_cv X hw pm_0 (wn := fun (u : XV) => (xW t aX u)) (fun u => pm_0.symm) (r_runV X hw (c_X6_requireCell l D t aX vX p1 _ h) pm_0 (cwV 1 X.1.2.2.2.2 gX6_color_X6_requireCell rfl rfl rfl (by decide +kernel) ⟨Nat.le_of_ble_eq_true rfl, Nat.le_of_ble_eq_true rfl⟩) (ci := 6) rfl rfl rfl rfl hl rfl (Nat.le_of_ble_eq_true rfl) dX6_color_2 ⟨Nat.le_of_ble_eq_true rfl, Nat.le_of_ble_eq_true rfl⟩) (fun u H locs h hw => ?_)
  obtain ⟨vX_1, rfl⟩ : ∃ z, z = u := ⟨_, rfl⟩
  refine lv_iload_n hx hb dX6_color_5 rfl (lv_at hl 2 rfl) ?_
  refine lv_if_lt (tgt := 14) hx hb dX6_color_6 (by decide) (fun c_5 => ?_) (fun c_5 => ?_)
  · replace h := h.1 c_5
    exact k_X6_color_14 X aX _ _ _ _ h hw (lv_sub hl [] rfl)
  replace h := h.2 c_5
  refine lv_iload_n hx hb dX6_color_9 rfl (lv_at hl 2 rfl) ?_
  refine lv_iconst (v := 4) hx hb dX6_color_10 (by decide) ?_
  refine lv_icmp_lt (tgt := 24) hx hb dX6_color_11 (by decide) (fun c_4 => ?_) (fun c_4 => ?_)
  · replace h := h.1 c_4
    refine lv_aload_n hx hb dX6_color_24 rfl (lv_at hl 0 rfl) ?_
    refine lv_iload_n hx hb dX6_color_25 rfl (lv_at hl 1 rfl) ?_
    refine lv_iload_n hx hb dX6_color_26 rfl (lv_at hl 2 rfl) ?_
    refine lv_iload_n hx hb dX6_color_27 rfl (lv_at hl 3 rfl) ?_
    refine r_ci X hw pm_0 (wn := fun (u : XV) => (xW t aX u)) (fun u => pm_0.symm) (r_runV X hw (c_X6_colorAt l D t aX vX_1 p1 p2 p3 _ h) pm_0 (cwV 3 X.1.2.2.2.2 gX6_color_X6_colorAt rfl rfl rfl (by decide +kernel) ⟨Nat.le_of_ble_eq_true rfl, Nat.le_of_ble_eq_true rfl⟩) (ci := 6) rfl rfl rfl rfl hl rfl (Nat.le_of_ble_eq_true rfl) dX6_color_28 ⟨Nat.le_of_ble_eq_true rfl, Nat.le_of_ble_eq_true rfl⟩) (fun r_3 u H locs h hw => ?_)
    obtain ⟨vX_2, rfl⟩ : ∃ z, z = u := ⟨_, rfl⟩
    exact e_i (w1 := (fun (u : XV) => (xW t aX u))) X (vX_2) hw h dX6_color_31
  replace h := h.2 c_4
  exact k_X6_color_14 X aX _ _ _ _ h hw (lv_sub hl [] rfl)
/-! X6_tile -/
theorem in_X6_tile_X6 : ∀ w ∈ u_ws RX6 TX6 6, w ∈ wsX6_tile := fun w h => (List.mem_cons_of_mem _ (List.mem_append_left _ (List.mem_append_left _ (List.mem_append_left _ (List.mem_append_right _ h)))))
theorem fl_X6_tile_12 : Cond.fieldLink RX6 12 "TwoFacedTiles" "board" "LTwoFacedTiles$Board;" ∈ wsX6_tile := List.mem_of_getElem? (i := 5) rfl
theorem in_X6_tile_X0 : ∀ w ∈ u_ws RX0 TX0 8, w ∈ wsX6_tile := fun w h => (List.mem_cons_of_mem _ (List.mem_append_left _ (List.mem_append_left _ (List.mem_append_right _ h))))
theorem fl_X6_tile_72 : Cond.fieldLink RX6 72 "TwoFacedTiles$Board" "tiles" "I" ∈ wsX6_tile := List.mem_of_getElem? (i := 6) rfl
def wp_X6_tile_15 (Q : Int32 → XV → Prop) (XQ : String → XV → Prop) (vX : XV) : Prop := XQ "java/lang/IndexOutOfBoundsException" vX
set_option maxHeartbeats 4000000 in
set_option maxRecDepth 100000 in
theorem k_X6_tile_15 {p : Program} {l : Launch} {e : Env} {s : State} {m : MethodId} {below : List Frame} {meth : Method} {c : Code} {args : Array Value} {D : va_G} {t : T3} {A : Nat → Prop} (X : Cx p s m meth c args cX6_tile 3 (some .int) RX6 wsX6_tile D t A) (aX : XA) {Q : Int32 → XV → Prop}  : ∀ (vX : XV) (H : Heap) (locs : List Loc) (ls : Array Slot), wp_X6_tile_15 Q (fun (_ : String) (_ : XV) => False) vX → Wd D A s.heap (xW t aX vX) H locs → lv_has ls 3 [] → W p l e ({ frames := 6, cells := 0, slots := 0, locals := 100 } : Room) s m args below meth c H locs 0 0 (Ei below args s A D (fun (u : XV) => (xW t aX u)) (fun (r : Int32) (u : XV) => Q r u) 0 0) (F0 m 15 ls []) := by
  intro vX H locs ls h hw hl
  have hx := X.1.1
  have hb := X.1.2.1
  exact (show False from h).elim
def wp_X6_tile_34 (Q : Int32 → XV → Prop) (XQ : String → XV → Prop) (vX : XV) : Prop := XQ "java/lang/IllegalArgumentException" vX
set_option maxHeartbeats 4000000 in
set_option maxRecDepth 100000 in
theorem k_X6_tile_34 {p : Program} {l : Launch} {e : Env} {s : State} {m : MethodId} {below : List Frame} {meth : Method} {c : Code} {args : Array Value} {D : va_G} {t : T3} {A : Nat → Prop} (X : Cx p s m meth c args cX6_tile 3 (some .int) RX6 wsX6_tile D t A) (aX : XA) {Q : Int32 → XV → Prop}  : ∀ (vX : XV) (H : Heap) (locs : List Loc) (ls : Array Slot), wp_X6_tile_34 Q (fun (_ : String) (_ : XV) => False) vX → Wd D A s.heap (xW t aX vX) H locs → lv_has ls 3 [] → W p l e ({ frames := 6, cells := 0, slots := 0, locals := 100 } : Room) s m args below meth c H locs 0 0 (Ei below args s A D (fun (u : XV) => (xW t aX u)) (fun (r : Int32) (u : XV) => Q r u) 0 0) (F0 m 34 ls []) := by
  intro vX H locs ls h hw hl
  have hx := X.1.1
  have hb := X.1.2.1
  exact (show False from h).elim
def wp_X6_tile (vX : XV) (p1 : Int32) (p2 : Int32) (Q : Int32 → XV → Prop) (XQ : String → XV → Prop) : Prop := (p1 < 0 → wp_X6_tile_15  Q XQ vX) ∧ (¬ p1 < 0 → (p1 < (BV.tiles (XV.board vX)) → (p2 < 0 → wp_X6_tile_34  Q XQ vX) ∧ (¬ p2 < 0 → (p2 < 4 → wp_X6_tileProperty vX p1 p2 (fun (r_2 : Int32) (vX_1 : XV) => Q r_2 vX_1)) ∧ (¬ p2 < 4 → wp_X6_tile_34  Q XQ vX))) ∧ (¬ p1 < (BV.tiles (XV.board vX)) → wp_X6_tile_15  Q XQ vX))
set_option maxHeartbeats 4000000 in
set_option maxRecDepth 100000 in
theorem c_X6_tile (l : Launch) (D : va_G) (t : T3) (aX : XA) (vX : XV) (p1 : Int32) (p2 : Int32) (Q : Int32 → XV → Prop) (h : wp_X6_tile vX p1 p2 Q (fun (_ : String) (_ : XV) => False)) : Ct l yX6_tile wsX6_tile 6 100 0 0 [.ref (XA.o aX), .int p1, .int p2] D t (xW t aX vX) (fun sz => Qi D (xW t aX vX) (fun (u : XV) => (xW t aX u)) (fun (r : Int32) (u : XV) => Q r u) sz) := by
  refine Ct.of (Qf := fun _ A => va_Qi (fun (r : Int32) (u : XV) => Q r u) (B1 D (fun (u : XV) => (xW t aX u)) A) A) cX6_tile 3 (some .int) (by decide) rfl (Nat.le_of_ble_eq_true rfl) ?_
  intro p e s m below meth c A ls hAe hin X hw hl
  generalize ([.ref (XA.o aX), .int p1, .int p2] : List Value).toArray = args at X ⊢
  have hl : lv_has ls 3 [(0, .ref (XA.o aX)), (1, .int p1), (2, .int p2)] := hl
  have hx := X.1.1
  have hb := X.1.2.1
  refine lv_iload_n hx hb dX6_tile_0 rfl (lv_at hl 1 rfl) ?_
  refine lv_if_lt (tgt := 15) hx hb dX6_tile_1 (by decide) (fun c_6 => ?_) (fun c_6 => ?_)
  · replace h := h.1 c_6
    exact k_X6_tile_15 X aX _ _ _ _ h hw (lv_sub hl [] rfl)
  replace h := h.2 c_6
  refine lv_iload_n hx hb dX6_tile_4 rfl (lv_at hl 1 rfl) ?_
  refine lv_aload_n hx hb dX6_tile_5 rfl (lv_at hl 0 rfl) ?_
  refine r_get (ci := 6) (C := RX6) (T := TX6) (N := 6) X hw 0 rfl rfl 0 (by decide) in_X6_tile_X6 fl_X6_tile_12 (v := .ref (BA.o (XA.board aX))) rfl dX6_tile_6 ?_
  refine r_get (ci := 0) (C := RX0) (T := TX0) (N := 8) X hw 1 rfl rfl 3 (by decide) in_X6_tile_X0 fl_X6_tile_72 (v := .int (BV.tiles (XV.board vX))) rfl dX6_tile_9 ?_
  refine lv_icmp_lt (tgt := 25) hx hb dX6_tile_12 (by decide) (fun c_5 => ?_) (fun c_5 => ?_)
  · replace h := h.1 c_5
    refine lv_iload_n hx hb dX6_tile_25 rfl (lv_at hl 2 rfl) ?_
    refine lv_if_lt (tgt := 34) hx hb dX6_tile_26 (by decide) (fun c_4 => ?_) (fun c_4 => ?_)
    · replace h := h.1 c_4
      exact k_X6_tile_34 X aX _ _ _ _ h hw (lv_sub hl [] rfl)
    replace h := h.2 c_4
    refine lv_iload_n hx hb dX6_tile_29 rfl (lv_at hl 2 rfl) ?_
    refine lv_iconst (v := 4) hx hb dX6_tile_30 (by decide) ?_
    refine lv_icmp_lt (tgt := 44) hx hb dX6_tile_31 (by decide) (fun c_3 => ?_) (fun c_3 => ?_)
    · replace h := h.1 c_3
      refine lv_aload_n hx hb dX6_tile_44 rfl (lv_at hl 0 rfl) ?_
      refine lv_iload_n hx hb dX6_tile_45 rfl (lv_at hl 1 rfl) ?_
      refine lv_iload_n hx hb dX6_tile_46 rfl (lv_at hl 2 rfl) ?_
      refine r_ci X hw pm_0 (wn := fun (u : XV) => (xW t aX u)) (fun u => pm_0.symm) (r_runV X hw (c_X6_tileProperty l D t aX vX p1 p2 _ h) pm_0 (cwV 2 X.1.2.2.2.2 gX6_tile_X6_tileProperty rfl rfl rfl (by decide +kernel) ⟨Nat.le_of_ble_eq_true rfl, Nat.le_of_ble_eq_true rfl⟩) (ci := 6) rfl rfl rfl rfl hl rfl (Nat.le_of_ble_eq_true rfl) dX6_tile_47 ⟨Nat.le_of_ble_eq_true rfl, Nat.le_of_ble_eq_true rfl⟩) (fun r_2 u H locs h hw => ?_)
      obtain ⟨vX_1, rfl⟩ : ∃ z, z = u := ⟨_, rfl⟩
      exact e_i (w1 := (fun (u : XV) => (xW t aX u))) X (vX_1) hw h dX6_tile_50
    replace h := h.2 c_3
    exact k_X6_tile_34 X aX _ _ _ _ h hw (lv_sub hl [] rfl)
  replace h := h.2 c_5
  exact k_X6_tile_15 X aX _ _ _ _ h hw (lv_sub hl [] rfl)
/-! X6_count -/
def wp_X6_count_10 (Q : Int32 → XV → Prop) (XQ : String → XV → Prop) (vX : XV) : Prop := XQ "java/lang/IllegalArgumentException" vX
set_option maxHeartbeats 4000000 in
set_option maxRecDepth 100000 in
theorem k_X6_count_10 {p : Program} {l : Launch} {e : Env} {s : State} {m : MethodId} {below : List Frame} {meth : Method} {c : Code} {args : Array Value} {D : va_G} {t : T3} {A : Nat → Prop} (X : Cx p s m meth c args cX6_count 2 (some .int) RX6 wsX6_count D t A) (aX : XA) {Q : Int32 → XV → Prop}  : ∀ (vX : XV) (H : Heap) (locs : List Loc) (ls : Array Slot), wp_X6_count_10 Q (fun (_ : String) (_ : XV) => False) vX → Wd D A s.heap (xW t aX vX) H locs → lv_has ls 2 [] → W p l e ({ frames := 6, cells := 0, slots := 0, locals := 113 } : Room) s m args below meth c H locs 0 0 (Ei below args s A D (fun (u : XV) => (xW t aX u)) (fun (r : Int32) (u : XV) => Q r u) 0 0) (F0 m 10 ls []) := by
  intro vX H locs ls h hw hl
  have hx := X.1.1
  have hb := X.1.2.1
  exact (show False from h).elim
def wp_X6_count (vX : XV) (p1 : Int32) (Q : Int32 → XV → Prop) (XQ : String → XV → Prop) : Prop := (p1 < 0 → wp_X6_count_10  Q XQ vX) ∧ (¬ p1 < 0 → (p1 < 10 → wp_X6_number vX p1 (fun (r_2 : Int32) (vX_1 : XV) => Q r_2 vX_1)) ∧ (¬ p1 < 10 → wp_X6_count_10  Q XQ vX))
set_option maxHeartbeats 4000000 in
set_option maxRecDepth 100000 in
theorem c_X6_count (l : Launch) (D : va_G) (t : T3) (aX : XA) (vX : XV) (p1 : Int32) (Q : Int32 → XV → Prop) (h : wp_X6_count vX p1 Q (fun (_ : String) (_ : XV) => False)) : Ct l yX6_count wsX6_count 6 113 0 0 [.ref (XA.o aX), .int p1] D t (xW t aX vX) (fun sz => Qi D (xW t aX vX) (fun (u : XV) => (xW t aX u)) (fun (r : Int32) (u : XV) => Q r u) sz) := by
  refine Ct.of (Qf := fun _ A => va_Qi (fun (r : Int32) (u : XV) => Q r u) (B1 D (fun (u : XV) => (xW t aX u)) A) A) cX6_count 2 (some .int) (by decide) rfl (Nat.le_of_ble_eq_true rfl) ?_
  intro p e s m below meth c A ls hAe hin X hw hl
  generalize ([.ref (XA.o aX), .int p1] : List Value).toArray = args at X ⊢
  have hl : lv_has ls 2 [(0, .ref (XA.o aX)), (1, .int p1)] := hl
  have hx := X.1.1
  have hb := X.1.2.1
  refine lv_iload_n hx hb dX6_count_0 rfl (lv_at hl 1 rfl) ?_
  refine lv_if_lt (tgt := 10) hx hb dX6_count_1 (by decide) (fun c_4 => ?_) (fun c_4 => ?_)
  · replace h := h.1 c_4
    exact k_X6_count_10 X aX _ _ _ _ h hw (lv_sub hl [] rfl)
  replace h := h.2 c_4
  refine lv_iload_n hx hb dX6_count_4 rfl (lv_at hl 1 rfl) ?_
  refine lv_bipush (v := 10) hx hb dX6_count_5 (by decide) ?_
  refine lv_icmp_lt (tgt := 20) hx hb dX6_count_7 (by decide) (fun c_3 => ?_) (fun c_3 => ?_)
  · replace h := h.1 c_3
    refine lv_aload_n hx hb dX6_count_20 rfl (lv_at hl 0 rfl) ?_
    refine lv_iload_n hx hb dX6_count_21 rfl (lv_at hl 1 rfl) ?_
    refine r_ci X hw pm_0 (wn := fun (u : XV) => (xW t aX u)) (fun u => pm_0.symm) (r_runV X hw (c_X6_number l D t aX vX p1 _ h) pm_0 (cwV 1 X.1.2.2.2.2 gX6_count_X6_number rfl rfl rfl (by decide +kernel) ⟨Nat.le_of_ble_eq_true rfl, Nat.le_of_ble_eq_true rfl⟩) (ci := 6) rfl rfl rfl rfl hl rfl (Nat.le_of_ble_eq_true rfl) dX6_count_22 ⟨Nat.le_of_ble_eq_true rfl, Nat.le_of_ble_eq_true rfl⟩) (fun r_2 u H locs h hw => ?_)
    obtain ⟨vX_1, rfl⟩ : ∃ z, z = u := ⟨_, rfl⟩
    exact e_i (w1 := (fun (u : XV) => (xW t aX u))) X (vX_1) hw h dX6_count_25
  replace h := h.2 c_3
  exact k_X6_count_10 X aX _ _ _ _ h hw (lv_sub hl [] rfl)
/-! X6_layings -/
theorem in_X6_layings_X6 : ∀ w ∈ u_ws RX6 TX6 6, w ∈ wsX6_layings := fun w h => (List.mem_cons_of_mem _ (List.mem_append_left _ (List.mem_append_left _ (List.mem_append_left _ (List.mem_append_left _ (List.mem_append_right _ h))))))
theorem fl_X6_layings_40 : Cond.fieldLink RX6 40 "TwoFacedTiles" "search" "LTwoFacedTiles$Search;" ∈ wsX6_layings := List.mem_of_getElem? (i := 3) rfl
theorem fl_X6_layings_12 : Cond.fieldLink RX6 12 "TwoFacedTiles" "board" "LTwoFacedTiles$Board;" ∈ wsX6_layings := List.mem_of_getElem? (i := 4) rfl
def wp_X6_layings_20 (Q : Int32 → XV → Prop) (XQ : String → XV → Prop) (vX : XV) : Prop := XQ "java/lang/IllegalArgumentException" vX
set_option maxHeartbeats 4000000 in
set_option maxRecDepth 100000 in
theorem k_X6_layings_20 {p : Program} {l : Launch} {e : Env} {s : State} {m : MethodId} {below : List Frame} {meth : Method} {c : Code} {args : Array Value} {D : va_G} {t : T3} {A : Nat → Prop} (X : Cx p s m meth c args cX6_layings 3 (some .int) RX6 wsX6_layings D t A) (aX : XA) {Q : Int32 → XV → Prop}  : ∀ (vX : XV) (H : Heap) (locs : List Loc) (ls : Array Slot), wp_X6_layings_20 Q (fun (_ : String) (_ : XV) => False) vX → Wd D A s.heap (xW t aX vX) H locs → lv_has ls 3 [] → W p l e ({ frames := 81, cells := 0, slots := 0, locals := 1629 } : Room) s m args below meth c H locs 0 0 (Ei below args s A D (fun (u : XV) => (xW t aX u)) (fun (r : Int32) (u : XV) => Q r u) 0 0) (F0 m 20 ls []) := by
  intro vX H locs ls h hw hl
  have hx := X.1.1
  have hb := X.1.2.1
  exact (show False from h).elim
def wp_X6_layings (vX : XV) (p1 : Int32) (p2 : Int32) (Q : Int32 → XV → Prop) (XQ : String → XV → Prop) : Prop := (p1 < 1 → wp_X6_layings_20  Q XQ vX) ∧ (¬ p1 < 1 → (50 < p1 → wp_X6_layings_20  Q XQ vX) ∧ (¬ 50 < p1 → (p2 < 0 → wp_X6_layings_20  Q XQ vX) ∧ (¬ p2 < 0 → (p2 < 3 → wp_X4_run (XV.search vX) (XV.board vX) p1 (fun (vS_1 : SV) (vB_2 : BV) => wp_X4_result vS_1 p2 (fun (r_4 : Int32) (vS_3 : SV) => Q r_4 (XV.s_search (XV.s_board vX vB_2) vS_3)))) ∧ (¬ p2 < 3 → wp_X6_layings_20  Q XQ vX))))
set_option maxHeartbeats 4000000 in
set_option maxRecDepth 100000 in
theorem c_X6_layings (l : Launch) (D : va_G) (t : T3) (aX : XA) (vX : XV) (p1 : Int32) (p2 : Int32) (Q : Int32 → XV → Prop) (h : wp_X6_layings vX p1 p2 Q (fun (_ : String) (_ : XV) => False)) : Ct l yX6_layings wsX6_layings 81 1629 0 0 [.ref (XA.o aX), .int p1, .int p2] D t (xW t aX vX) (fun sz => Qi D (xW t aX vX) (fun (u : XV) => (xW t aX u)) (fun (r : Int32) (u : XV) => Q r u) sz) := by
  refine Ct.of (Qf := fun _ A => va_Qi (fun (r : Int32) (u : XV) => Q r u) (B1 D (fun (u : XV) => (xW t aX u)) A) A) cX6_layings 3 (some .int) (by decide) rfl (Nat.le_of_ble_eq_true rfl) ?_
  intro p e s m below meth c A ls hAe hin X hw hl
  generalize ([.ref (XA.o aX), .int p1, .int p2] : List Value).toArray = args at X ⊢
  have hl : lv_has ls 3 [(0, .ref (XA.o aX)), (1, .int p1), (2, .int p2)] := hl
  have hx := X.1.1
  have hb := X.1.2.1
  refine lv_iload_n hx hb dX6_layings_0 rfl (lv_at hl 1 rfl) ?_
  refine lv_iconst (v := 1) hx hb dX6_layings_1 (by decide) ?_
  refine lv_icmp_lt (tgt := 20) hx hb dX6_layings_2 (by decide) (fun c_8 => ?_) (fun c_8 => ?_)
  · replace h := h.1 c_8
    exact k_X6_layings_20 X aX _ _ _ _ h hw (lv_sub hl [] rfl)
  replace h := h.2 c_8
  refine lv_iload_n hx hb dX6_layings_5 rfl (lv_at hl 1 rfl) ?_
  refine lv_bipush (v := 50) hx hb dX6_layings_6 (by decide) ?_
  refine lv_icmp_gt (tgt := 20) hx hb dX6_layings_8 (by decide) (fun c_7 => ?_) (fun c_7 => ?_)
  · replace h := h.1 c_7
    exact k_X6_layings_20 X aX _ _ _ _ h hw (lv_sub hl [] rfl)
  replace h := h.2 c_7
  refine lv_iload_n hx hb dX6_layings_11 rfl (lv_at hl 2 rfl) ?_
  refine lv_if_lt (tgt := 20) hx hb dX6_layings_12 (by decide) (fun c_6 => ?_) (fun c_6 => ?_)
  · replace h := h.1 c_6
    exact k_X6_layings_20 X aX _ _ _ _ h hw (lv_sub hl [] rfl)
  replace h := h.2 c_6
  refine lv_iload_n hx hb dX6_layings_15 rfl (lv_at hl 2 rfl) ?_
  refine lv_iconst (v := 3) hx hb dX6_layings_16 (by decide) ?_
  refine lv_icmp_lt (tgt := 30) hx hb dX6_layings_17 (by decide) (fun c_5 => ?_) (fun c_5 => ?_)
  · replace h := h.1 c_5
    refine lv_aload_n hx hb dX6_layings_30 rfl (lv_at hl 0 rfl) ?_
    refine r_get (ci := 6) (C := RX6) (T := TX6) (N := 6) X hw 0 rfl rfl 4 (by decide) in_X6_layings_X6 fl_X6_layings_40 (v := .ref (SA.o (XA.search aX))) rfl dX6_layings_31 ?_
    refine lv_aload_n hx hb dX6_layings_34 rfl (lv_at hl 0 rfl) ?_
    refine r_get (ci := 6) (C := RX6) (T := TX6) (N := 6) X hw 0 rfl rfl 0 (by decide) in_X6_layings_X6 fl_X6_layings_12 (v := .ref (BA.o (XA.board aX))) rfl dX6_layings_35 ?_
    refine lv_iload_n hx hb dX6_layings_38 rfl (lv_at hl 1 rfl) ?_
    refine r_cv X hw (pm_2 (pm_r (pm_r (pm_r (pm_r (pm_r (pm_l pm_0)))))) (pm_r (pm_l pm_0))) (wn := fun (u : SV × BV) => (xW t aX (XV.s_search (XV.s_board vX u.2) u.1))) (fun u => (pm_2 (pm_r (pm_r (pm_r (pm_r (pm_r (pm_l pm_0)))))) (pm_r (pm_l pm_0))).symm) (r_runV X hw (c_X4_run l D t (XA.search aX) (XA.board aX) (XV.search vX) (XV.board vX) p1 _ h) (pm_2 (pm_r (pm_r (pm_r (pm_r (pm_r (pm_l pm_0)))))) (pm_r (pm_l pm_0))) (cwV 2 X.1.2.2.2.2 gX6_layings_X4_run rfl rfl rfl (by decide +kernel) ⟨Nat.le_of_ble_eq_true rfl, Nat.le_of_ble_eq_true rfl⟩) (ci := 4) rfl rfl rfl rfl hl rfl (Nat.le_of_ble_eq_true rfl) dX6_layings_39 ⟨Nat.le_of_ble_eq_true rfl, Nat.le_of_ble_eq_true rfl⟩) (fun u H locs h hw => ?_)
    obtain ⟨vS_1, vB_2⟩ := u
    refine lv_aload_n hx hb dX6_layings_42 rfl (lv_at hl 0 rfl) ?_
    refine r_get (ci := 6) (C := RX6) (T := TX6) (N := 6) X hw 0 rfl rfl 4 (by decide) in_X6_layings_X6 fl_X6_layings_40 (v := .ref (SA.o (XA.search aX))) rfl dX6_layings_43 ?_
    refine lv_iload_n hx hb dX6_layings_46 rfl (lv_at hl 2 rfl) ?_
    refine r_ci X hw (pm_r (pm_r (pm_r (pm_r (pm_r (pm_l pm_0)))))) (wn := fun (u : SV) => (xW t aX (XV.s_search (XV.s_board vX vB_2) u))) (fun u => (pm_r (pm_r (pm_r (pm_r (pm_r (pm_l pm_0)))))).symm) (r_runV X hw (c_X4_result l D t (XA.search aX) vS_1 p2 _ h) (pm_r (pm_r (pm_r (pm_r (pm_r (pm_l pm_0)))))) (cwV 1 X.1.2.2.2.2 gX6_layings_X4_result rfl rfl rfl (by decide +kernel) ⟨Nat.le_of_ble_eq_true rfl, Nat.le_of_ble_eq_true rfl⟩) (ci := 4) rfl rfl rfl rfl hl rfl (Nat.le_of_ble_eq_true rfl) dX6_layings_47 ⟨Nat.le_of_ble_eq_true rfl, Nat.le_of_ble_eq_true rfl⟩) (fun r_4 u H locs h hw => ?_)
    obtain ⟨vS_3, rfl⟩ : ∃ z, z = u := ⟨_, rfl⟩
    exact e_i (w1 := (fun (u : XV) => (xW t aX u))) X ((XV.s_search (XV.s_board vX vB_2) vS_3)) hw h dX6_layings_50
  replace h := h.2 c_5
  exact k_X6_layings_20 X aX _ _ _ _ h hw (lv_sub hl [] rfl)
/-! X6_why -/
def wp_X6_why (vX : XV) (p1 : Int32) (p2 : Int32) (Q : Int32 → XV → Prop) (XQ : String → XV → Prop) : Prop := wp_X6_requirePlacing vX p1 p2 (fun (vX_1 : XV) => wp_X6_reason vX_1 p1 p2 (fun (r_3 : Int32) (vX_2 : XV) => Q r_3 vX_2)) (fun (E : String) (vX_4 : XV) => XQ E vX_4)
set_option maxHeartbeats 4000000 in
set_option maxRecDepth 100000 in
theorem c_X6_why (l : Launch) (D : va_G) (t : T3) (aX : XA) (vX : XV) (p1 : Int32) (p2 : Int32) (Q : Int32 → XV → Prop) (h : wp_X6_why vX p1 p2 Q (fun (_ : String) (_ : XV) => False)) : Ct l yX6_why wsX6_why 8 143 0 0 [.ref (XA.o aX), .int p1, .int p2] D t (xW t aX vX) (fun sz => Qi D (xW t aX vX) (fun (u : XV) => (xW t aX u)) (fun (r : Int32) (u : XV) => Q r u) sz) := by
  refine Ct.of (Qf := fun _ A => va_Qi (fun (r : Int32) (u : XV) => Q r u) (B1 D (fun (u : XV) => (xW t aX u)) A) A) cX6_why 3 (some .int) (by decide) rfl (Nat.le_of_ble_eq_true rfl) ?_
  intro p e s m below meth c A ls hAe hin X hw hl
  generalize ([.ref (XA.o aX), .int p1, .int p2] : List Value).toArray = args at X ⊢
  have hl : lv_has ls 3 [(0, .ref (XA.o aX)), (1, .int p1), (2, .int p2)] := hl
  have hx := X.1.1
  have hb := X.1.2.1
  refine lv_aload_n hx hb dX6_why_0 rfl (lv_at hl 0 rfl) ?_
  refine lv_iload_n hx hb dX6_why_1 rfl (lv_at hl 1 rfl) ?_
  refine lv_iload_n hx hb dX6_why_2 rfl (lv_at hl 2 rfl) ?_
  refine r_cv X hw pm_0 (wn := fun (u : XV) => (xW t aX u)) (fun u => pm_0.symm) (r_runV X hw (c_X6_requirePlacing l D t aX vX p1 p2 _ h) pm_0 (cwV 2 X.1.2.2.2.2 gX6_why_X6_requirePlacing rfl rfl rfl (by decide +kernel) ⟨Nat.le_of_ble_eq_true rfl, Nat.le_of_ble_eq_true rfl⟩) (ci := 6) rfl rfl rfl rfl hl rfl (Nat.le_of_ble_eq_true rfl) dX6_why_3 ⟨Nat.le_of_ble_eq_true rfl, Nat.le_of_ble_eq_true rfl⟩) (fun u H locs h hw => ?_)
  obtain ⟨vX_1, rfl⟩ : ∃ z, z = u := ⟨_, rfl⟩
  refine lv_aload_n hx hb dX6_why_6 rfl (lv_at hl 0 rfl) ?_
  refine lv_iload_n hx hb dX6_why_7 rfl (lv_at hl 1 rfl) ?_
  refine lv_iload_n hx hb dX6_why_8 rfl (lv_at hl 2 rfl) ?_
  refine r_ci X hw pm_0 (wn := fun (u : XV) => (xW t aX u)) (fun u => pm_0.symm) (r_runV X hw (c_X6_reason l D t aX vX_1 p1 p2 _ h) pm_0 (cwV 2 X.1.2.2.2.2 gX6_why_X6_reason rfl rfl rfl (by decide +kernel) ⟨Nat.le_of_ble_eq_true rfl, Nat.le_of_ble_eq_true rfl⟩) (ci := 6) rfl rfl rfl rfl hl rfl (Nat.le_of_ble_eq_true rfl) dX6_why_9 ⟨Nat.le_of_ble_eq_true rfl, Nat.le_of_ble_eq_true rfl⟩) (fun r_3 u H locs h hw => ?_)
  obtain ⟨vX_2, rfl⟩ : ∃ z, z = u := ⟨_, rfl⟩
  exact e_i (w1 := (fun (u : XV) => (xW t aX u))) X (vX_2) hw h dX6_why_12
