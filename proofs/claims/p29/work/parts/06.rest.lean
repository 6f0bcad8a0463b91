/-! X2_save -/
theorem in_X2_save_X2 : ∀ w ∈ u_ws RX2 TX2 3, w ∈ wsX2_save := fun w h => (List.mem_cons_of_mem _ (List.mem_append_left _ (List.mem_append_right _ h)))
theorem fl_X2_save_21 : Cond.fieldLink RX2 21 "TwoFacedTiles$History" "kept" "I" ∈ wsX2_save := List.mem_of_getElem? (i := 1) rfl
theorem fl_X2_save_11 : Cond.fieldLink RX2 11 "TwoFacedTiles$History" "states" "[LTwoFacedTiles$Board;" ∈ wsX2_save := List.mem_of_getElem? (i := 3) rfl
theorem fl_X2_save_17 : Cond.fieldLink RX2 17 "TwoFacedTiles$History" "oldest" "I" ∈ wsX2_save := List.mem_of_getElem? (i := 2) rfl
def wp_X2_save_32 (Q : HV → BV → Prop) (vH : HV) (vB : BV) : Prop := vp_in (jrem ((HV.oldest vH) + (HV.kept vH)) 8) 8 ∧ ∀ j_1 : Nat, j_1 < 8 → (jrem ((HV.oldest vH) + (HV.kept vH)) 8) = nI j_1 → wp_X0_copyFrom ((HV.states vH) j_1) vB  (fun (vB_5 : BV) (vB_6 : BV) => ∀ f_7 : Int32, f_7 = ((HV.kept vH) + 1) → Q (HV.s_kept (HV.s_states vH (upE (HV.states vH) j_1 vB_5)) f_7) vB_6)
set_option maxHeartbeats 4000000 in
set_option maxRecDepth 100000 in
theorem k_X2_save_32 {p : Program} {l : Launch} {e : Env} {s : State} {m : MethodId} {below : List Frame} {meth : Method} {c : Code} {args : Array Value} {D : va_G} {t : T3} {A : Nat → Prop} (X : Cx p s m meth c args cX2_save 2 none RX2 wsX2_save D t A) (aH : HA) (aB : BA) {Q : HV → BV → Prop}  : ∀ (vH : HV) (vB : BV) (H : Heap) (locs : List Loc) (ls : Array Slot), wp_X2_save_32 Q vH vB → Wd D A s.heap (hW t aH vH ++ (bW t aB vB)) H locs → lv_has ls 2 [(0, .ref (HA.o aH)), (1, .ref (BA.o aB))] → W p l e ({ frames := 2, cells := 0, slots := 0, locals := 81 } : Room) s m args below meth c H locs 0 0 (Ev below args s A D (fun (u : HV × BV) => (hW t aH u.1 ++ (bW t aB u.2))) (fun (u : HV × BV) => Q u.1 u.2) 0 0) (F0 m 32 ls []) := by
  intro vH vB H locs ls h hw hl
  have hx := X.1.1
  have hb := X.1.2.1
  refine lv_aload_n hx hb dX2_save_32 rfl (lv_at hl 0 rfl) ?_
  refine r_get (ci := 2) (C := RX2) (T := TX2) (N := 3) X hw 0 rfl rfl 0 (by decide) in_X2_save_X2 fl_X2_save_11 (v := .ref (HA.states aH)) rfl dX2_save_33 ?_
  refine lv_aload_n hx hb dX2_save_36 rfl (lv_at hl 0 rfl) ?_
  refine r_get (ci := 2) (C := RX2) (T := TX2) (N := 3) X hw 0 rfl rfl 1 (by decide) in_X2_save_X2 fl_X2_save_17 (v := .int (HV.oldest vH)) rfl dX2_save_37 ?_
  refine lv_aload_n hx hb dX2_save_40 rfl (lv_at hl 0 rfl) ?_
  refine r_get (ci := 2) (C := RX2) (T := TX2) (N := 3) X hw 0 rfl rfl 2 (by decide) in_X2_save_X2 fl_X2_save_21 (v := .int (HV.kept vH)) rfl dX2_save_41 ?_
  refine lv_iadd hx hb dX2_save_44 ?_
  refine lv_bipush (v := 8) hx hb dX2_save_45 (by decide) ?_
  refine r_irem hx hb dX2_save_47 (by decide) ?_
  obtain ⟨hi_4, h⟩ := h
  obtain ⟨j_1, hj_2, ej_3⟩ := idx_of (by decide) hi_4
  replace h := h j_1 hj_2 ej_3
  refine r_aald (C := "TwoFacedTiles$Board") (b := (BA.o ((HA.states_e aH) j_1))) X hw 1 1 rfl rfl hi_4 (by rw [ej_3, nI_clamp (by omega)]) dX2_save_48 ?_
  refine lv_aload_n hx hb dX2_save_49 rfl (lv_at hl 1 rfl) ?_
  have kk : ∀ (u : BV × BV) (H : Heap) (locs : List Loc), (fun (vB_5 : BV) (vB_6 : BV) => ∀ f_7 : Int32, f_7 = ((HV.kept vH) + 1) → Q (HV.s_kept (HV.s_states vH (upE (HV.states vH) j_1 vB_5)) f_7) vB_6) u.1 u.2 → Wd D A s.heap (hW t aH (HV.s_states vH (upE (HV.states vH) j_1 u.1)) ++ (bW t aB u.2)) H locs → W p l e ({ frames := 2, cells := 0, slots := 0, locals := 81 } : Room) s m args below meth c H locs 0 0 (Ev below args s A D (fun (u : HV × BV) => (hW t aH u.1 ++ (bW t aB u.2))) (fun (u : HV × BV) => Q u.1 u.2) 0 0) (F0 m 53 ls []) := by
    intro u H locs h hw
    obtain ⟨vB_5, vB_6⟩ := u
    refine lv_aload_n hx hb dX2_save_53 rfl (lv_at hl 0 rfl) ?_
    refine lv_dup hx hb dX2_save_54 rfl ?_
    refine r_get (ci := 2) (C := RX2) (T := TX2) (N := 3) X hw 0 rfl rfl 2 (by decide) in_X2_save_X2 fl_X2_save_21 (v := .int (HV.kept vH)) rfl dX2_save_55 ?_
    refine lv_iconst (v := 1) hx hb dX2_save_58 (by decide) ?_
    refine lv_iadd hx hb dX2_save_59 ?_
    refine lv_topi (fun f_7 ef_7 => ?_)
    replace h := h f_7 ef_7
    refine r_put (ci := 2) (C := RX2) (T := TX2) (N := 3) (v := .int f_7) (ws' := (hW t aH (HV.s_kept (HV.s_states vH (upE (HV.states vH) j_1 vB_5)) f_7) ++ (bW t aB vB_6))) X hw 0 rfl rfl 2 (by decide) in_X2_save_X2 tyX2 tyX2_ok nmX2 fl_X2_save_21 rfl rfl rfl (Nat.le_of_ble_eq_true rfl) rfl dX2_save_60 (fun H locs hw => ?_)
    exact e_v (w1 := (fun (u : HV × BV) => (hW t aH u.1 ++ (bW t aB u.2)))) X ((HV.s_kept (HV.s_states vH (upE (HV.states vH) j_1 vB_5)) f_7), vB_6) hw h dX2_save_63
  rcases cases8 hj_2 with rfl | rfl | rfl | rfl | rfl | rfl | rfl | rfl
  · exact r_cv X hw (pm_2 (pm_l (pm_r (pm_r (pm_l pm_0)))) (pm_r pm_0)) (wn := fun (u : BV × BV) => (hW t aH (HV.s_states vH (upE (HV.states vH) 0 u.1)) ++ (bW t aB u.2))) (fun u => (pm_2 (pm_l (pm_r (pm_r (pm_l pm_0)))) (pm_r pm_0)).symm) (r_runV X hw (c_X0_copyFrom l D t ((HA.states_e aH) 0) aB ((HV.states vH) 0) vB _ h) (pm_2 (pm_l (pm_r (pm_r (pm_l pm_0)))) (pm_r pm_0)) (cwV 1 X.1.2.2.2.2 gX2_save_X0_copyFrom rfl rfl rfl (by decide +kernel) ⟨Nat.le_of_ble_eq_true rfl, Nat.le_of_ble_eq_true rfl⟩) (ci := 0) rfl rfl rfl rfl hl rfl (Nat.le_of_ble_eq_true rfl) dX2_save_50 ⟨Nat.le_of_ble_eq_true rfl, Nat.le_of_ble_eq_true rfl⟩) kk
  · exact r_cv X hw (pm_2 (pm_l (pm_r (pm_r (pm_r (pm_l pm_0))))) (pm_r pm_0)) (wn := fun (u : BV × BV) => (hW t aH (HV.s_states vH (upE (HV.states vH) 1 u.1)) ++ (bW t aB u.2))) (fun u => (pm_2 (pm_l (pm_r (pm_r (pm_r (pm_l pm_0))))) (pm_r pm_0)).symm) (r_runV X hw (c_X0_copyFrom l D t ((HA.states_e aH) 1) aB ((HV.states vH) 1) vB _ h) (pm_2 (pm_l (pm_r (pm_r (pm_r (pm_l pm_0))))) (pm_r pm_0)) (cwV 1 X.1.2.2.2.2 gX2_save_X0_copyFrom rfl rfl rfl (by decide +kernel) ⟨Nat.le_of_ble_eq_true rfl, Nat.le_of_ble_eq_true rfl⟩) (ci := 0) rfl rfl rfl rfl hl rfl (Nat.le_of_ble_eq_true rfl) dX2_save_50 ⟨Nat.le_of_ble_eq_true rfl, Nat.le_of_ble_eq_true rfl⟩) kk
  · exact r_cv X hw (pm_2 (pm_l (pm_r (pm_r (pm_r (pm_r (pm_l pm_0)))))) (pm_r pm_0)) (wn := fun (u : BV × BV) => (hW t aH (HV.s_states vH (upE (HV.states vH) 2 u.1)) ++ (bW t aB u.2))) (fun u => (pm_2 (pm_l (pm_r (pm_r (pm_r (pm_r (pm_l pm_0)))))) (pm_r pm_0)).symm) (r_runV X hw (c_X0_copyFrom l D t ((HA.states_e aH) 2) aB ((HV.states vH) 2) vB _ h) (pm_2 (pm_l (pm_r (pm_r (pm_r (pm_r (pm_l pm_0)))))) (pm_r pm_0)) (cwV 1 X.1.2.2.2.2 gX2_save_X0_copyFrom rfl rfl rfl (by decide +kernel) ⟨Nat.le_of_ble_eq_true rfl, Nat.le_of_ble_eq_true rfl⟩) (ci := 0) rfl rfl rfl rfl hl rfl (Nat.le_of_ble_eq_true rfl) dX2_save_50 ⟨Nat.le_of_ble_eq_true rfl, Nat.le_of_ble_eq_true rfl⟩) kk
  · exact r_cv X hw (pm_2 (pm_l (pm_r (pm_r (pm_r (pm_r (pm_r (pm_l pm_0))))))) (pm_r pm_0)) (wn := fun (u : BV × BV) => (hW t aH (HV.s_states vH (upE (HV.states vH) 3 u.1)) ++ (bW t aB u.2))) (fun u => (pm_2 (pm_l (pm_r (pm_r (pm_r (pm_r (pm_r (pm_l pm_0))))))) (pm_r pm_0)).symm) (r_runV X hw (c_X0_copyFrom l D t ((HA.states_e aH) 3) aB ((HV.states vH) 3) vB _ h) (pm_2 (pm_l (pm_r (pm_r (pm_r (pm_r (pm_r (pm_l pm_0))))))) (pm_r pm_0)) (cwV 1 X.1.2.2.2.2 gX2_save_X0_copyFrom rfl rfl rfl (by decide +kernel) ⟨Nat.le_of_ble_eq_true rfl, Nat.le_of_ble_eq_true rfl⟩) (ci := 0) rfl rfl rfl rfl hl rfl (Nat.le_of_ble_eq_true rfl) dX2_save_50 ⟨Nat.le_of_ble_eq_true rfl, Nat.le_of_ble_eq_true rfl⟩) kk
  · exact r_cv X hw (pm_2 (pm_l (pm_r (pm_r (pm_r (pm_r (pm_r (pm_r (pm_l pm_0)))))))) (pm_r pm_0)) (wn := fun (u : BV × BV) => (hW t aH (HV.s_states vH (upE (HV.states vH) 4 u.1)) ++ (bW t aB u.2))) (fun u => (pm_2 (pm_l (pm_r (pm_r (pm_r (pm_r (pm_r (pm_r (pm_l pm_0)))))))) (pm_r pm_0)).symm) (r_runV X hw (c_X0_copyFrom l D t ((HA.states_e aH) 4) aB ((HV.states vH) 4) vB _ h) (pm_2 (pm_l (pm_r (pm_r (pm_r (pm_r (pm_r (pm_r (pm_l pm_0)))))))) (pm_r pm_0)) (cwV 1 X.1.2.2.2.2 gX2_save_X0_copyFrom rfl rfl rfl (by decide +kernel) ⟨Nat.le_of_ble_eq_true rfl, Nat.le_of_ble_eq_true rfl⟩) (ci := 0) rfl rfl rfl rfl hl rfl (Nat.le_of_ble_eq_true rfl) dX2_save_50 ⟨Nat.le_of_ble_eq_true rfl, Nat.le_of_ble_eq_true rfl⟩) kk
  · exact r_cv X hw (pm_2 (pm_l (pm_r (pm_r (pm_r (pm_r (pm_r (pm_r (pm_r (pm_l pm_0))))))))) (pm_r pm_0)) (wn := fun (u : BV × BV) => (hW t aH (HV.s_states vH (upE (HV.states vH) 5 u.1)) ++ (bW t aB u.2))) (fun u => (pm_2 (pm_l (pm_r (pm_r (pm_r (pm_r (pm_r (pm_r (pm_r (pm_l pm_0))))))))) (pm_r pm_0)).symm) (r_runV X hw (c_X0_copyFrom l D t ((HA.states_e aH) 5) aB ((HV.states vH) 5) vB _ h) (pm_2 (pm_l (pm_r (pm_r (pm_r (pm_r (pm_r (pm_r (pm_r (pm_l pm_0))))))))) (pm_r pm_0)) (cwV 1 X.1.2.2.2.2 gX2_save_X0_copyFrom rfl rfl rfl (by decide +kernel) ⟨Nat.le_of_ble_eq_true rfl, Nat.le_of_ble_eq_true rfl⟩) (ci := 0) rfl rfl rfl rfl hl rfl (Nat.le_of_ble_eq_true rfl) dX2_save_50 ⟨Nat.le_of_ble_eq_true rfl, Nat.le_of_ble_eq_true rfl⟩) kk
  · exact r_cv X hw (pm_2 (pm_l (pm_r (pm_r (pm_r (pm_r (pm_r (pm_r (pm_r (pm_r (pm_l pm_0)))))))))) (pm_r pm_0)) (wn := fun (u : BV × BV) => (hW t aH (HV.s_states vH (upE (HV.states vH) 6 u.1)) ++ (bW t aB u.2))) (fun u => (pm_2 (pm_l (pm_r (pm_r (pm_r (pm_r (pm_r (pm_r (pm_r (pm_r (pm_l pm_0)))))))))) (pm_r pm_0)).symm) (r_runV X hw (c_X0_copyFrom l D t ((HA.states_e aH) 6) aB ((HV.states vH) 6) vB _ h) (pm_2 (pm_l (pm_r (pm_r (pm_r (pm_r (pm_r (pm_r (pm_r (pm_r (pm_l pm_0)))))))))) (pm_r pm_0)) (cwV 1 X.1.2.2.2.2 gX2_save_X0_copyFrom rfl rfl rfl (by decide +kernel) ⟨Nat.le_of_ble_eq_true rfl, Nat.le_of_ble_eq_true rfl⟩) (ci := 0) rfl rfl rfl rfl hl rfl (Nat.le_of_ble_eq_true rfl) dX2_save_50 ⟨Nat.le_of_ble_eq_true rfl, Nat.le_of_ble_eq_true rfl⟩) kk
  · exact r_cv X hw (pm_2 (pm_l (pm_r (pm_r (pm_r (pm_r (pm_r (pm_r (pm_r (pm_r (pm_r pm_0)))))))))) (pm_r pm_0)) (wn := fun (u : BV × BV) => (hW t aH (HV.s_states vH (upE (HV.states vH) 7 u.1)) ++ (bW t aB u.2))) (fun u => (pm_2 (pm_l (pm_r (pm_r (pm_r (pm_r (pm_r (pm_r (pm_r (pm_r (pm_r pm_0)))))))))) (pm_r pm_0)).symm) (r_runV X hw (c_X0_copyFrom l D t ((HA.states_e aH) 7) aB ((HV.states vH) 7) vB _ h) (pm_2 (pm_l (pm_r (pm_r (pm_r (pm_r (pm_r (pm_r (pm_r (pm_r (pm_r pm_0)))))))))) (pm_r pm_0)) (cwV 1 X.1.2.2.2.2 gX2_save_X0_copyFrom rfl rfl rfl (by decide +kernel) ⟨Nat.le_of_ble_eq_true rfl, Nat.le_of_ble_eq_true rfl⟩) (ci := 0) rfl rfl rfl rfl hl rfl (Nat.le_of_ble_eq_true rfl) dX2_save_50 ⟨Nat.le_of_ble_eq_true rfl, Nat.le_of_ble_eq_true rfl⟩) kk
def wp_X2_save (vH : HV) (vB : BV) (Q : HV → BV → Prop) : Prop := ((HV.kept vH) < 8 → wp_X2_save_32  Q vH vB) ∧ (¬ (HV.kept vH) < 8 → ∀ f_8 : Int32, f_8 = (jrem ((HV.oldest vH) + 1) 8) → ∀ f_9 : Int32, f_9 = ((HV.kept vH) - 1) → wp_X2_save_32  Q (HV.s_kept (HV.s_oldest vH f_8) f_9) vB)
set_option maxHeartbeats 4000000 in
set_option maxRecDepth 100000 in
theorem c_X2_save (l : Launch) (D : va_G) (t : T3) (aH : HA) (aB : BA) (vH : HV) (vB : BV) (Q : HV → BV → Prop) (h : wp_X2_save vH vB Q) : Ct l yX2_save wsX2_save 2 81 0 0 [.ref (HA.o aH), .ref (BA.o aB)] D t (hW t aH vH ++ (bW t aB vB)) (fun sz => Qv D (hW t aH vH ++ (bW t aB vB)) (fun (u : HV × BV) => (hW t aH u.1 ++ (bW t aB u.2))) (fun (u : HV × BV) => Q u.1 u.2) sz) := by
  refine Ct.of (Qf := fun _ A => va_Qv (fun (u : HV × BV) => Q u.1 u.2) (B1 D (fun (u : HV × BV) => (hW t aH u.1 ++ (bW t aB u.2))) A) A) cX2_save 2 none (by decide) rfl (Nat.le_of_ble_eq_true rfl) ?_
  intro p e s m below meth c A ls hAe hin X hw hl
  generalize ([.ref (HA.o aH), .ref (BA.o aB)] : List Value).toArray = args at X ⊢
  have hl : lv_has ls 2 [(0, .ref (HA.o aH)), (1, .ref (BA.o aB))] := hl
  have hx := X.1.1
  have hb := X.1.2.1
  refine lv_aload_n hx hb dX2_save_0 rfl (lv_at hl 0 rfl) ?_
  refine r_get (ci := 2) (C := RX2) (T := TX2) (N := 3) X hw 0 rfl rfl 2 (by decide) in_X2_save_X2 fl_X2_save_21 (v := .int (HV.kept vH)) rfl dX2_save_1 ?_
  refine lv_bipush (v := 8) hx hb dX2_save_4 (by decide) ?_
  refine lv_icmp_lt (tgt := 32) hx hb dX2_save_6 (by decide) (fun c_10 => ?_) (fun c_10 => ?_)
  · replace h := h.1 c_10
    exact k_X2_save_32 X aH aB _ _ _ _ _ h hw hl
  replace h := h.2 c_10
  refine lv_aload_n hx hb dX2_save_9 rfl (lv_at hl 0 rfl) ?_
  refine lv_aload_n hx hb dX2_save_10 rfl (lv_at hl 0 rfl) ?_
  refine r_get (ci := 2) (C := RX2) (T := TX2) (N := 3) X hw 0 rfl rfl 1 (by decide) in_X2_save_X2 fl_X2_save_17 (v := .int (HV.oldest vH)) rfl dX2_save_11 ?_
  refine lv_iconst (v := 1) hx hb dX2_save_14 (by decide) ?_
  refine lv_iadd hx hb dX2_save_15 ?_
  refine lv_bipush (v := 8) hx hb dX2_save_16 (by decide) ?_
  refine r_irem hx hb dX2_save_18 (by decide) ?_
  refine lv_topi (fun f_8 ef_8 => ?_)
  replace h := h f_8 ef_8
  refine r_put (ci := 2) (C := RX2) (T := TX2) (N := 3) (v := .int f_8) (ws' := (hW t aH (HV.s_oldest vH f_8) ++ (bW t aB vB))) X hw 0 rfl rfl 1 (by decide) in_X2_save_X2 tyX2 tyX2_ok nmX2 fl_X2_save_17 rfl rfl rfl (Nat.le_of_ble_eq_true rfl) rfl dX2_save_19 (fun H locs hw => ?_)
  refine lv_aload_n hx hb dX2_save_22 rfl (lv_at hl 0 rfl) ?_
  refine lv_dup hx hb dX2_save_23 rfl ?_
  refine r_get (ci := 2) (C := RX2) (T := TX2) (N := 3) X hw 0 rfl rfl 2 (by decide) in_X2_save_X2 fl_X2_save_21 (v := .int (HV.kept vH)) rfl dX2_save_24 ?_
  refine lv_iconst (v := 1) hx hb dX2_save_27 (by decide) ?_
  refine lv_isub hx hb dX2_save_28 ?_
  refine lv_topi (fun f_9 ef_9 => ?_)
  replace h := h f_9 ef_9
  refine r_put (ci := 2) (C := RX2) (T := TX2) (N := 3) (v := .int f_9) (ws' := (hW t aH (HV.s_kept (HV.s_oldest vH f_8) f_9) ++ (bW t aB vB))) X hw 0 rfl rfl 2 (by decide) in_X2_save_X2 tyX2 tyX2_ok nmX2 fl_X2_save_21 rfl rfl rfl (Nat.le_of_ble_eq_true rfl) rfl dX2_save_29 (fun H locs hw => ?_)
  exact k_X2_save_32 X aH aB _ _ _ _ _ h hw hl
/-! X2_restore -/
theorem in_X2_restore_X2 : ∀ w ∈ u_ws RX2 TX2 3, w ∈ wsX2_restore := fun w h => (List.mem_cons_of_mem _ (List.mem_append_left _ (List.mem_append_right _ h)))
theorem fl_X2_restore_21 : Cond.fieldLink RX2 21 "TwoFacedTiles$History" "kept" "I" ∈ wsX2_restore := List.mem_of_getElem? (i := 1) rfl
theorem fl_X2_restore_11 : Cond.fieldLink RX2 11 "TwoFacedTiles$History" "states" "[LTwoFacedTiles$Board;" ∈ wsX2_restore := List.mem_of_getElem? (i := 2) rfl
theorem fl_X2_restore_17 : Cond.fieldLink RX2 17 "TwoFacedTiles$History" "oldest" "I" ∈ wsX2_restore := List.mem_of_getElem? (i := 3) rfl
def wp_X2_restore (vH : HV) (vB : BV) (Q : HV → BV → Prop) : Prop := ∀ f_1 : Int32, f_1 = ((HV.kept vH) - 1) → vp_in (jrem ((HV.oldest vH) + f_1) 8) 8 ∧ ∀ j_2 : Nat, j_2 < 8 → (jrem ((HV.oldest vH) + f_1) 8) = nI j_2 → wp_X0_copyFrom vB ((HV.states vH) j_2)  (fun (vB_6 : BV) (vB_7 : BV) => Q (HV.s_kept (HV.s_states vH (upE (HV.states vH) j_2 vB_7)) f_1) vB_6)
set_option maxHeartbeats 4000000 in
set_option maxRecDepth 100000 in
theorem c_X2_restore (l : Launch) (D : va_G) (t : T3) (aH : HA) (aB : BA) (vH : HV) (vB : BV) (Q : HV → BV → Prop) (h : wp_X2_restore vH vB Q) : Ct l yX2_restore wsX2_restore 2 81 0 0 [.ref (HA.o aH), .ref (BA.o aB)] D t (hW t aH vH ++ (bW t aB vB)) (fun sz => Qv D (hW t aH vH ++ (bW t aB vB)) (fun (u : HV × BV) => (hW t aH u.1 ++ (bW t aB u.2))) (fun (u : HV × BV) => Q u.1 u.2) sz) := by
  refine Ct.of (Qf := fun _ A => va_Qv (fun (u : HV × BV) => Q u.1 u.2) (B1 D (fun (u : HV × BV) => (hW t aH u.1 ++ (bW t aB u.2))) A) A) cX2_restore 2 none (by decide) rfl (Nat.le_of_ble_eq_true rfl) ?_
  intro p e s m below meth c A ls hAe hin X hw hl
  generalize ([.ref (HA.o aH), .ref (BA.o aB)] : List Value).toArray = args at X ⊢
  have hl : lv_has ls 2 [(0, .ref (HA.o aH)), (1, .ref (BA.o aB))] := hl
  have hx := X.1.1
  have hb := X.1.2.1
  refine lv_aload_n hx hb dX2_restore_0 rfl (lv_at hl 0 rfl) ?_
  refine lv_dup hx hb dX2_restore_1 rfl ?_
  refine r_get (ci := 2) (C := RX2) (T := TX2) (N := 3) X hw 0 rfl rfl 2 (by decide) in_X2_restore_X2 fl_X2_restore_21 (v := .int (HV.kept vH)) rfl dX2_restore_2 ?_
  refine lv_iconst (v := 1) hx hb dX2_restore_5 (by decide) ?_
  refine lv_isub hx hb dX2_restore_6 ?_
  refine lv_topi (fun f_1 ef_1 => ?_)
  replace h := h f_1 ef_1
  refine r_put (ci := 2) (C := RX2) (T := TX2) (N := 3) (v := .int f_1) (ws' := (hW t aH (HV.s_kept vH f_1) ++ (bW t aB vB))) X hw 0 rfl rfl 2 (by decide) in_X2_restore_X2 tyX2 tyX2_ok nmX2 fl_X2_restore_21 rfl rfl rfl (Nat.le_of_ble_eq_true rfl) rfl dX2_restore_7 (fun H locs hw => ?_)
  refine lv_aload_n hx hb dX2_restore_10 rfl (lv_at hl 1 rfl) ?_
  refine lv_aload_n hx hb dX2_restore_11 rfl (lv_at hl 0 rfl) ?_
  refine r_get (ci := 2) (C := RX2) (T := TX2) (N := 3) X hw 0 rfl rfl 0 (by decide) in_X2_restore_X2 fl_X2_restore_11 (v := .ref (HA.states aH)) rfl dX2_restore_12 ?_
  refine lv_aload_n hx hb dX2_restore_15 rfl (lv_at hl 0 rfl) ?_
  refine r_get (ci := 2) (C := RX2) (T := TX2) (N := 3) X hw 0 rfl rfl 1 (by decide) in_X2_restore_X2 fl_X2_restore_17 (v := .int (HV.oldest vH)) rfl dX2_restore_16 ?_
  refine lv_aload_n hx hb dX2_restore_19 rfl (lv_at hl 0 rfl) ?_
  refine r_get (ci := 2) (C := RX2) (T := TX2) (N := 3) X hw 0 rfl rfl 2 (by decide) in_X2_restore_X2 fl_X2_restore_21 (v := .int f_1) rfl dX2_restore_20 ?_
  refine lv_iadd hx hb dX2_restore_23 ?_
  refine lv_bipush (v := 8) hx hb dX2_restore_24 (by decide) ?_
  refine r_irem hx hb dX2_restore_26 (by decide) ?_
  obtain ⟨hi_5, h⟩ := h
  obtain ⟨j_2, hj_3, ej_4⟩ := idx_of (by decide) hi_5
  replace h := h j_2 hj_3 ej_4
  refine r_aald (C := "TwoFacedTiles$Board") (b := (BA.o ((HA.states_e aH) j_2))) X hw 1 1 rfl rfl hi_5 (by rw [ej_4, nI_clamp (by omega)]) dX2_restore_27 ?_
  have kk : ∀ (u : BV × BV) (H : Heap) (locs : List Loc), (fun (vB_6 : BV) (vB_7 : BV) => Q (HV.s_kept (HV.s_states vH (upE (HV.states vH) j_2 vB_7)) f_1) vB_6) u.1 u.2 → Wd D A s.heap (hW t aH (HV.s_kept (HV.s_states vH (upE (HV.states vH) j_2 u.2)) f_1) ++ (bW t aB u.1)) H locs → W p l e ({ frames := 2, cells := 0, slots := 0, locals := 81 } : Room) s m args below meth c H locs 0 0 (Ev below args s A D (fun (u : HV × BV) => (hW t aH u.1 ++ (bW t aB u.2))) (fun (u : HV × BV) => Q u.1 u.2) 0 0) (F0 m 31 ls []) := by
    intro u H locs h hw
    obtain ⟨vB_6, vB_7⟩ := u
    exact e_v (w1 := (fun (u : HV × BV) => (hW t aH u.1 ++ (bW t aB u.2)))) X ((HV.s_kept (HV.s_states vH (upE (HV.states vH) j_2 vB_7)) f_1), vB_6) hw h dX2_restore_31
  rcases cases8 hj_3 with rfl | rfl | rfl | rfl | rfl | rfl | rfl | rfl
  · exact r_cv X hw (pm_2 (pm_r pm_0) (pm_l (pm_r (pm_r (pm_l pm_0))))) (wn := fun (u : BV × BV) => (hW t aH (HV.s_kept (HV.s_states vH (upE (HV.states vH) 0 u.2)) f_1) ++ (bW t aB u.1))) (fun u => (pm_2 (pm_r pm_0) (pm_l (pm_r (pm_r (pm_l pm_0))))).symm) (r_runV X hw (c_X0_copyFrom l D t aB ((HA.states_e aH) 0) vB ((HV.states vH) 0) _ h) (pm_2 (pm_r pm_0) (pm_l (pm_r (pm_r (pm_l pm_0))))) (cwV 1 X.1.2.2.2.2 gX2_restore_X0_copyFrom rfl rfl rfl (by decide +kernel) ⟨Nat.le_of_ble_eq_true rfl, Nat.le_of_ble_eq_true rfl⟩) (ci := 0) rfl rfl rfl rfl hl rfl (Nat.le_of_ble_eq_true rfl) dX2_restore_28 ⟨Nat.le_of_ble_eq_true rfl, Nat.le_of_ble_eq_true rfl⟩) kk
  · exact r_cv X hw (pm_2 (pm_r pm_0) (pm_l (pm_r (pm_r (pm_r (pm_l pm_0)))))) (wn := fun (u : BV × BV) => (hW t aH (HV.s_kept (HV.s_states vH (upE (HV.states vH) 1 u.2)) f_1) ++ (bW t aB u.1))) (fun u => (pm_2 (pm_r pm_0) (pm_l (pm_r (pm_r (pm_r (pm_l pm_0)))))).symm) (r_runV X hw (c_X0_copyFrom l D t aB ((HA.states_e aH) 1) vB ((HV.states vH) 1) _ h) (pm_2 (pm_r pm_0) (pm_l (pm_r (pm_r (pm_r (pm_l pm_0)))))) (cwV 1 X.1.2.2.2.2 gX2_restore_X0_copyFrom rfl rfl rfl (by decide +kernel) ⟨Nat.le_of_ble_eq_true rfl, Nat.le_of_ble_eq_true rfl⟩) (ci := 0) rfl rfl rfl rfl hl rfl (Nat.le_of_ble_eq_true rfl) dX2_restore_28 ⟨Nat.le_of_ble_eq_true rfl, Nat.le_of_ble_eq_true rfl⟩) kk
  · exact r_cv X hw (pm_2 (pm_r pm_0) (pm_l (pm_r (pm_r (pm_r (pm_r (pm_l pm_0))))))) (wn := fun (u : BV × BV) => (hW t aH (HV.s_kept (HV.s_states vH (upE (HV.states vH) 2 u.2)) f_1) ++ (bW t aB u.1))) (fun u => (pm_2 (pm_r pm_0) (pm_l (pm_r (pm_r (pm_r (pm_r (pm_l pm_0))))))).symm) (r_runV X hw (c_X0_copyFrom l D t aB ((HA.states_e aH) 2) vB ((HV.states vH) 2) _ h) (pm_2 (pm_r pm_0) (pm_l (pm_r (pm_r (pm_r (pm_r (pm_l pm_0))))))) (cwV 1 X.1.2.2.2.2 gX2_restore_X0_copyFrom rfl rfl rfl (by decide +kernel) ⟨Nat.le_of_ble_eq_true rfl, Nat.le_of_ble_eq_true rfl⟩) (ci := 0) rfl rfl rfl rfl hl rfl (Nat.le_of_ble_eq_true rfl) dX2_restore_28 ⟨Nat.le_of_ble_eq_true rfl, Nat.le_of_ble_eq_true rfl⟩) kk
  · exact r_cv X hw (pm_2 (pm_r pm_0) (pm_l (pm_r (pm_r (pm_r (pm_r (pm_r (pm_l pm_0)))))))) (wn := fun (u : BV × BV) => (hW t aH (HV.s_kept (HV.s_states vH (upE (HV.states vH) 3 u.2)) f_1) ++ (bW t aB u.1))) (fun u => (pm_2 (pm_r pm_0) (pm_l (pm_r (pm_r (pm_r (pm_r (pm_r (pm_l pm_0)))))))).symm) (r_runV X hw (c_X0_copyFrom l D t aB ((HA.states_e aH) 3) vB ((HV.states vH) 3) _ h) (pm_2 (pm_r pm_0) (pm_l (pm_r (pm_r (pm_r (pm_r (pm_r (pm_l pm_0)))))))) (cwV 1 X.1.2.2.2.2 gX2_restore_X0_copyFrom rfl rfl rfl (by decide +kernel) ⟨Nat.le_of_ble_eq_true rfl, Nat.le_of_ble_eq_true rfl⟩) (ci := 0) rfl rfl rfl rfl hl rfl (Nat.le_of_ble_eq_true rfl) dX2_restore_28 ⟨Nat.le_of_ble_eq_true rfl, Nat.le_of_ble_eq_true rfl⟩) kk
  · exact r_cv X hw (pm_2 (pm_r pm_0) (pm_l (pm_r (pm_r (pm_r (pm_r (pm_r (pm_r (pm_l pm_0))))))))) (wn := fun (u : BV × BV) => (hW t aH (HV.s_kept (HV.s_states vH (upE (HV.states vH) 4 u.2)) f_1) ++ (bW t aB u.1))) (fun u => (pm_2 (pm_r pm_0) (pm_l (pm_r (pm_r (pm_r (pm_r (pm_r (pm_r (pm_l pm_0))))))))).symm) (r_runV X hw (c_X0_copyFrom l D t aB ((HA.states_e aH) 4) vB ((HV.states vH) 4) _ h) (pm_2 (pm_r pm_0) (pm_l (pm_r (pm_r (pm_r (pm_r (pm_r (pm_r (pm_l pm_0))))))))) (cwV 1 X.1.2.2.2.2 gX2_restore_X0_copyFrom rfl rfl rfl (by decide +kernel) ⟨Nat.le_of_ble_eq_true rfl, Nat.le_of_ble_eq_true rfl⟩) (ci := 0) rfl rfl rfl rfl hl rfl (Nat.le_of_ble_eq_true rfl) dX2_restore_28 ⟨Nat.le_of_ble_eq_true rfl, Nat.le_of_ble_eq_true rfl⟩) kk
  · exact r_cv X hw (pm_2 (pm_r pm_0) (pm_l (pm_r (pm_r (pm_r (pm_r (pm_r (pm_r (pm_r (pm_l pm_0)))))))))) (wn := fun (u : BV × BV) => (hW t aH (HV.s_kept (HV.s_states vH (upE (HV.states vH) 5 u.2)) f_1) ++ (bW t aB u.1))) (fun u => (pm_2 (pm_r pm_0) (pm_l (pm_r (pm_r (pm_r (pm_r (pm_r (pm_r (pm_r (pm_l pm_0)))))))))).symm) (r_runV X hw (c_X0_copyFrom l D t aB ((HA.states_e aH) 5) vB ((HV.states vH) 5) _ h) (pm_2 (pm_r pm_0) (pm_l (pm_r (pm_r (pm_r (pm_r (pm_r (pm_r (pm_r (pm_l pm_0)))))))))) (cwV 1 X.1.2.2.2.2 gX2_restore_X0_copyFrom rfl rfl rfl (by decide +kernel) ⟨Nat.le_of_ble_eq_true rfl, Nat.le_of_ble_eq_true rfl⟩) (ci := 0) rfl rfl rfl rfl hl rfl (Nat.le_of_ble_eq_true rfl) dX2_restore_28 ⟨Nat.le_of_ble_eq_true rfl, Nat.le_of_ble_eq_true rfl⟩) kk
  · exact r_cv X hw (pm_2 (pm_r pm_0) (pm_l (pm_r (pm_r (pm_r (pm_r (pm_r (pm_r (pm_r (pm_r (pm_l pm_0))))))))))) (wn := fun (u : BV × BV) => (hW t aH (HV.s_kept (HV.s_states vH (upE (HV.states vH) 6 u.2)) f_1) ++ (bW t aB u.1))) (fun u => (pm_2 (pm_r pm_0) (pm_l (pm_r (pm_r (pm_r (pm_r (pm_r (pm_r (pm_r (pm_r (pm_l pm_0))))))))))).symm) (r_runV X hw (c_X0_copyFrom l D t aB ((HA.states_e aH) 6) vB ((HV.states vH) 6) _ h) (pm_2 (pm_r pm_0) (pm_l (pm_r (pm_r (pm_r (pm_r (pm_r (pm_r (pm_r (pm_r (pm_l pm_0))))))))))) (cwV 1 X.1.2.2.2.2 gX2_restore_X0_copyFrom rfl rfl rfl (by decide +kernel) ⟨Nat.le_of_ble_eq_true rfl, Nat.le_of_ble_eq_true rfl⟩) (ci := 0) rfl rfl rfl rfl hl rfl (Nat.le_of_ble_eq_true rfl) dX2_restore_28 ⟨Nat.le_of_ble_eq_true rfl, Nat.le_of_ble_eq_true rfl⟩) kk
  · exact r_cv X hw (pm_2 (pm_r pm_0) (pm_l (pm_r (pm_r (pm_r (pm_r (pm_r (pm_r (pm_r (pm_r (pm_r pm_0))))))))))) (wn := fun (u : BV × BV) => (hW t aH (HV.s_kept (HV.s_states vH (upE (HV.states vH) 7 u.2)) f_1) ++ (bW t aB u.1))) (fun u => (pm_2 (pm_r pm_0) (pm_l (pm_r (pm_r (pm_r (pm_r (pm_r (pm_r (pm_r (pm_r (pm_r pm_0))))))))))).symm) (r_runV X hw (c_X0_copyFrom l D t aB ((HA.states_e aH) 7) vB ((HV.states vH) 7) _ h) (pm_2 (pm_r pm_0) (pm_l (pm_r (pm_r (pm_r (pm_r (pm_r (pm_r (pm_r (pm_r (pm_r pm_0))))))))))) (cwV 1 X.1.2.2.2.2 gX2_restore_X0_copyFrom rfl rfl rfl (by decide +kernel) ⟨Nat.le_of_ble_eq_true rfl, Nat.le_of_ble_eq_true rfl⟩) (ci := 0) rfl rfl rfl rfl hl rfl (Nat.le_of_ble_eq_true rfl) dX2_restore_28 ⟨Nat.le_of_ble_eq_true rfl, Nat.le_of_ble_eq_true rfl⟩) kk
/-! X3_ruledColors -/
theorem k_X3_ruledColors_55 : Cond.constant RX3 55 (983055) ∈ wsX3_ruledColors := List.mem_of_getElem? (i := 1) rfl
def wp_X3_ruledColors (p0 : Int32) (Q : Int32 → Prop) : Prop := (¬ p0 = 0 → (¬ p0 = 1 → Q 983055 ) ∧ (p0 = 1 → Q 15 )) ∧ (p0 = 0 → Q 0 )
set_option maxHeartbeats 4000000 in
set_option maxRecDepth 100000 in
theorem c_X3_ruledColors (l : Launch) (D : va_G) (t : T3)  (p0 : Int32) (Q : Int32 → Prop) (h : wp_X3_ruledColors p0 Q) : Ct l yX3_ruledColors wsX3_ruledColors 0 0 0 0 [.int p0] D t ([] : va_W) (fun sz => Qi D ([] : va_W) (fun (u : Unit) => ([] : va_W)) (fun (r : Int32) (u : Unit) => Q r ) sz) := by
  refine Ct.of (Qf := fun _ A => va_Qi (fun (r : Int32) (u : Unit) => Q r ) (B1 D (fun (u : Unit) => ([] : va_W)) A) A) cX3_ruledColors 1 (some .int) (by decide) rfl (Nat.le_of_ble_eq_true rfl) ?_
  intro p e s m below meth c A ls hAe hin X hw hl
  generalize ([.int p0] : List Value).toArray = args at X ⊢
  have hl : lv_has ls 1 [(0, .int p0)] := hl
  have hx := X.1.1
  have hb := X.1.2.1
  refine lv_iload_n hx hb dX3_ruledColors_0 rfl (lv_at hl 0 rfl) ?_
  refine lv_if_ne (tgt := 6) hx hb dX3_ruledColors_1 (by decide) (fun c_2 => ?_) (fun c_2 => ?_)
  · replace h := h.1 c_2
    refine lv_iload_n hx hb dX3_ruledColors_6 rfl (lv_at hl 0 rfl) ?_
    refine lv_iconst (v := 1) hx hb dX3_ruledColors_7 (by decide) ?_
    refine lv_icmp_ne (tgt := 16) hx hb dX3_ruledColors_8 (by decide) (fun c_1 => ?_) (fun c_1 => ?_)
    · replace h := h.1 c_1
      refine lv_ldc (v := 983055) hx hb X.1.2.2.2.1 (X.1.2.2.2.2 _ k_X3_ruledColors_55) dX3_ruledColors_16 ?_
      exact e_i (w1 := (fun (u : Unit) => ([] : va_W))) X () hw h dX3_ruledColors_18
    replace h := h.2 c_1
    refine lv_bipush (v := 15) hx hb dX3_ruledColors_11 (by decide) ?_
    refine lv_goto (tgt := 18) hx hb dX3_ruledColors_13 (by decide) ?_
    exact e_i (w1 := (fun (u : Unit) => ([] : va_W))) X () hw h dX3_ruledColors_18
  replace h := h.2 c_2
  refine lv_iconst (v := 0) hx hb dX3_ruledColors_4 (by decide) ?_
  exact e_i (w1 := (fun (u : Unit) => ([] : va_W))) X () hw h dX3_ruledColors_5
/-! X3_readNeighbor -/
theorem in_X3_readNeighbor_X3 : ∀ w ∈ u_ws RX3 TX3 4, w ∈ wsX3_readNeighbor := fun w h => (List.mem_cons_of_mem _ (List.mem_append_right _ h))
theorem fl_X3_readNeighbor_15 : Cond.fieldLink RX3 15 "TwoFacedTiles$Needs" "mustAgree" "I" ∈ wsX3_readNeighbor := List.mem_of_getElem? (i := 1) rfl
theorem k_X3_readNeighbor_55 : Cond.constant RX3 55 (983055) ∈ wsX3_readNeighbor := List.mem_of_getElem? (i := 2) rfl
theorem fl_X3_readNeighbor_18 : Cond.fieldLink RX3 18 "TwoFacedTiles$Needs" "wanted" "I" ∈ wsX3_readNeighbor := List.mem_of_getElem? (i := 3) rfl
theorem k_X3_readNeighbor_56 : Cond.constant RX3 56 (983040) ∈ wsX3_readNeighbor := List.mem_of_getElem? (i := 5) rfl
theorem fl_X3_readNeighbor_21 : Cond.fieldLink RX3 21 "TwoFacedTiles$Needs" "forbiddenZero" "Z" ∈ wsX3_readNeighbor := List.mem_of_getElem? (i := 4) rfl
def wp_X3_readNeighbor_48 (Q : NV → Prop) (vN : NV) (x1 : Int32) (x3 : Int32) : Prop := ((x3 &&& 983040) = 0 → Q vN) ∧ (¬ (x3 &&& 983040) = 0 → (¬ (x1 &&& 983040) = 0 → Q vN) ∧ ((x1 &&& 983040) = 0 → Q (NV.s_forbiddenZero vN 1)))
set_option maxHeartbeats 4000000 in
set_option maxRecDepth 100000 in
theorem k_X3_readNeighbor_48 {p : Program} {l : Launch} {e : Env} {s : State} {m : MethodId} {below : List Frame} {meth : Method} {c : Code} {args : Array Value} {D : va_G} {t : T3} {A : Nat → Prop} (X : Cx p s m meth c args cX3_readNeighbor 4 none RX3 wsX3_readNeighbor D t A) (aN : Nat) {Q : NV → Prop}  : ∀ (vN : NV) (x1 : Int32) (x3 : Int32) (H : Heap) (locs : List Loc) (ls : Array Slot), wp_X3_readNeighbor_48 Q vN x1 x3 → Wd D A s.heap (nW t aN vN) H locs → lv_has ls 4 [(0, .ref aN), (1, .int x1), (3, .int x3)] → W p l e ({ frames := 0, cells := 0, slots := 0, locals := 0 } : Room) s m args below meth c H locs 0 0 (Ev below args s A D (fun (u : NV) => (nW t aN u)) (fun (u : NV) => Q u) 0 0) (F0 m 48 ls []) := by
  intro vN x1 x3 H locs ls h hw hl
  have hx := X.1.1
  have hb := X.1.2.1
  refine lv_iload_n hx hb dX3_readNeighbor_48 rfl (lv_at hl 2 rfl) ?_
  refine lv_ldc (v := 983040) hx hb X.1.2.2.2.1 (X.1.2.2.2.2 _ k_X3_readNeighbor_56) dX3_readNeighbor_49 ?_
  refine lv_iand hx hb dX3_readNeighbor_51 ?_
  refine lv_if_eq (tgt := 67) hx hb dX3_readNeighbor_52 (by decide) (fun c_4 => ?_) (fun c_4 => ?_)
  · replace h := h.1 c_4
    exact e_v (w1 := (fun (u : NV) => (nW t aN u))) X (vN) hw h dX3_readNeighbor_67
  replace h := h.2 c_4
  refine lv_iload_n hx hb dX3_readNeighbor_55 rfl (lv_at hl 1 rfl) ?_
  refine lv_ldc (v := 983040) hx hb X.1.2.2.2.1 (X.1.2.2.2.2 _ k_X3_readNeighbor_56) dX3_readNeighbor_56 ?_
  refine lv_iand hx hb dX3_readNeighbor_58 ?_
  refine lv_if_ne (tgt := 67) hx hb dX3_readNeighbor_59 (by decide) (fun c_3 => ?_) (fun c_3 => ?_)
  · replace h := h.1 c_3
    exact e_v (w1 := (fun (u : NV) => (nW t aN u))) X (vN) hw h dX3_readNeighbor_67
  replace h := h.2 c_3
  refine lv_aload_n hx hb dX3_readNeighbor_62 rfl (lv_at hl 0 rfl) ?_
  refine lv_iconst (v := 1) hx hb dX3_readNeighbor_63 (by decide) ?_
  refine r_put (ci := 3) (C := RX3) (T := TX3) (N := 4) (v := .int 1) (ws' := (nW t aN (NV.s_forbiddenZero vN 1))) X hw 0 rfl rfl 3 (by decide) in_X3_readNeighbor_X3 tyX3 tyX3_ok nmX3 fl_X3_readNeighbor_21 rfl rfl rfl (Nat.le_of_ble_eq_true rfl) rfl dX3_readNeighbor_64 (fun H locs hw => ?_)
  exact e_v (w1 := (fun (u : NV) => (nW t aN u))) X ((NV.s_forbiddenZero vN 1)) hw h dX3_readNeighbor_67
def wp_X3_readNeighbor (vN : NV) (p1 : Int32) (p2 : Int32) (p3 : Int32) (Q : NV → Prop) : Prop := ∀ f_1 : Int32, f_1 = ((NV.mustAgree vN) ||| (jshl 983055 (4 * p2))) → ∀ f_2 : Int32, f_2 = ((NV.wanted vN) ||| (jshl p1 (4 * p2))) → ((p3 &&& 15) = 0 → wp_X3_readNeighbor_48  Q (NV.s_wanted (NV.s_mustAgree vN f_1) f_2) p1 p3) ∧ (¬ (p3 &&& 15) = 0 → (¬ (p1 &&& 15) = 0 → wp_X3_readNeighbor_48  Q (NV.s_wanted (NV.s_mustAgree vN f_1) f_2) p1 p3) ∧ ((p1 &&& 15) = 0 → wp_X3_readNeighbor_48  Q (NV.s_forbiddenZero (NV.s_wanted (NV.s_mustAgree vN f_1) f_2) 1) p1 p3))
set_option maxHeartbeats 4000000 in
set_option maxRecDepth 100000 in
theorem c_X3_readNeighbor (l : Launch) (D : va_G) (t : T3) (aN : Nat) (vN : NV) (p1 : Int32) (p2 : Int32) (p3 : Int32) (Q : NV → Prop) (h : wp_X3_readNeighbor vN p1 p2 p3 Q) : Ct l yX3_readNeighbor wsX3_readNeighbor 0 0 0 0 [.ref aN, .int p1, .int p2, .int p3] D t (nW t aN vN) (fun sz => Qv D (nW t aN vN) (fun (u : NV) => (nW t aN u)) (fun (u : NV) => Q u) sz) := by
  refine Ct.of (Qf := fun _ A => va_Qv (fun (u : NV) => Q u) (B1 D (fun (u : NV) => (nW t aN u)) A) A) cX3_readNeighbor 4 none (by decide) rfl (Nat.le_of_ble_eq_true rfl) ?_
  intro p e s m below meth c A ls hAe hin X hw hl
  generalize ([.ref aN, .int p1, .int p2, .int p3] : List Value).toArray = args at X ⊢
  have hl : lv_has ls 4 [(0, .ref aN), (1, .int p1), (2, .int p2), (3, .int p3)] := hl
  have hx := X.1.1
  have hb := X.1.2.1
  refine lv_aload_n hx hb dX3_readNeighbor_0 rfl (lv_at hl 0 rfl) ?_
  refine lv_dup hx hb dX3_readNeighbor_1 rfl ?_
  refine r_get (ci := 3) (C := RX3) (T := TX3) (N := 4) X hw 0 rfl rfl 1 (by decide) in_X3_readNeighbor_X3 fl_X3_readNeighbor_15 (v := .int (NV.mustAgree vN)) rfl dX3_readNeighbor_2 ?_
  refine lv_ldc (v := 983055) hx hb X.1.2.2.2.1 (X.1.2.2.2.2 _ k_X3_readNeighbor_55) dX3_readNeighbor_5 ?_
  refine lv_iconst (v := 4) hx hb dX3_readNeighbor_7 (by decide) ?_
  refine lv_iload_n hx hb dX3_readNeighbor_8 rfl (lv_at hl 2 rfl) ?_
  refine lv_imul hx hb dX3_readNeighbor_9 ?_
  refine r_ishl hx hb dX3_readNeighbor_10 ?_
  refine lv_ior hx hb dX3_readNeighbor_11 ?_
  refine lv_topi (fun f_1 ef_1 => ?_)
  replace h := h f_1 ef_1
  refine r_put (ci := 3) (C := RX3) (T := TX3) (N := 4) (v := .int f_1) (ws' := (nW t aN (NV.s_mustAgree vN f_1))) X hw 0 rfl rfl 1 (by decide) in_X3_readNeighbor_X3 tyX3 tyX3_ok nmX3 fl_X3_readNeighbor_15 rfl rfl rfl (Nat.le_of_ble_eq_true rfl) rfl dX3_readNeighbor_12 (fun H locs hw => ?_)
  refine lv_aload_n hx hb dX3_readNeighbor_15 rfl (lv_at hl 0 rfl) ?_
  refine lv_dup hx hb dX3_readNeighbor_16 rfl ?_
  refine r_get (ci := 3) (C := RX3) (T := TX3) (N := 4) X hw 0 rfl rfl 2 (by decide) in_X3_readNeighbor_X3 fl_X3_readNeighbor_18 (v := .int (NV.wanted vN)) rfl dX3_readNeighbor_17 ?_
  refine lv_iload_n hx hb dX3_readNeighbor_20 rfl (lv_at hl 1 rfl) ?_
  refine lv_iconst (v := 4) hx hb dX3_readNeighbor_21 (by decide) ?_
  refine lv_iload_n hx hb dX3_readNeighbor_22 rfl (lv_at hl 2 rfl) ?_
  refine lv_imul hx hb dX3_readNeighbor_23 ?_
  refine r_ishl hx hb dX3_readNeighbor_24 ?_
  refine lv_ior hx hb dX3_readNeighbor_25 ?_
  refine lv_topi (fun f_2 ef_2 => ?_)
  replace h := h f_2 ef_2
  refine r_put (ci := 3) (C := RX3) (T := TX3) (N := 4) (v := .int f_2) (ws' := (nW t aN (NV.s_wanted (NV.s_mustAgree vN f_1) f_2))) X hw 0 rfl rfl 2 (by decide) in_X3_readNeighbor_X3 tyX3 tyX3_ok nmX3 fl_X3_readNeighbor_18 rfl rfl rfl (Nat.le_of_ble_eq_true rfl) rfl dX3_readNeighbor_26 (fun H locs hw => ?_)
  refine lv_iload_n hx hb dX3_readNeighbor_29 rfl (lv_at hl 3 rfl) ?_
  refine lv_bipush (v := 15) hx hb dX3_readNeighbor_30 (by decide) ?_
  refine lv_iand hx hb dX3_readNeighbor_32 ?_
  refine lv_if_eq (tgt := 48) hx hb dX3_readNeighbor_33 (by decide) (fun c_6 => ?_) (fun c_6 => ?_)
  · replace h := h.1 c_6
    exact k_X3_readNeighbor_48 X aN _ _ _ _ _ _ h hw (lv_sub hl [0, 1, 3] rfl)
  replace h := h.2 c_6
  refine lv_iload_n hx hb dX3_readNeighbor_36 rfl (lv_at hl 1 rfl) ?_
  refine lv_bipush (v := 15) hx hb dX3_readNeighbor_37 (by decide) ?_
  refine lv_iand hx hb dX3_readNeighbor_39 ?_
  refine lv_if_ne (tgt := 48) hx hb dX3_readNeighbor_40 (by decide) (fun c_5 => ?_) (fun c_5 => ?_)
  · replace h := h.1 c_5
    exact k_X3_readNeighbor_48 X aN _ _ _ _ _ _ h hw (lv_sub hl [0, 1, 3] rfl)
  replace h := h.2 c_5
  refine lv_aload_n hx hb dX3_readNeighbor_43 rfl (lv_at hl 0 rfl) ?_
  refine lv_iconst (v := 1) hx hb dX3_readNeighbor_44 (by decide) ?_
  refine r_put (ci := 3) (C := RX3) (T := TX3) (N := 4) (v := .int 1) (ws' := (nW t aN (NV.s_forbiddenZero (NV.s_wanted (NV.s_mustAgree vN f_1) f_2) 1))) X hw 0 rfl rfl 3 (by decide) in_X3_readNeighbor_X3 tyX3 tyX3_ok nmX3 fl_X3_readNeighbor_21 rfl rfl rfl (Nat.le_of_ble_eq_true rfl) rfl dX3_readNeighbor_45 (fun H locs hw => ?_)
  exact k_X3_readNeighbor_48 X aN _ _ _ _ _ _ h hw (lv_sub hl [0, 1, 3] rfl)
/-! X3_read -/
theorem in_X3_read_X3 : ∀ w ∈ u_ws RX3 TX3 4, w ∈ wsX3_read := fun w h => (List.mem_cons_of_mem _ (List.mem_append_left _ (List.mem_append_right _ h)))
theorem fl_X3_read_9 : Cond.fieldLink RX3 9 "TwoFacedTiles$Needs" "mustBeZero" "I" ∈ wsX3_read := List.mem_of_getElem? (i := 1) rfl
theorem fl_X3_read_15 : Cond.fieldLink RX3 15 "TwoFacedTiles$Needs" "mustAgree" "I" ∈ wsX3_read := List.mem_of_getElem? (i := 2) rfl
theorem fl_X3_read_18 : Cond.fieldLink RX3 18 "TwoFacedTiles$Needs" "wanted" "I" ∈ wsX3_read := List.mem_of_getElem? (i := 3) rfl
theorem fl_X3_read_21 : Cond.fieldLink RX3 21 "TwoFacedTiles$Needs" "forbiddenZero" "Z" ∈ wsX3_read := List.mem_of_getElem? (i := 4) rfl
theorem in_X3_read_X0 : ∀ w ∈ u_ws RX0 TX0 8, w ∈ wsX3_read := fun w h => (List.mem_cons_of_mem _ (List.mem_append_right _ h))
theorem fl_X3_read_25 : Cond.fieldLink RX3 25 "TwoFacedTiles$Board" "rule" "I" ∈ wsX3_read := List.mem_of_getElem? (i := 5) rfl
theorem ii_X3_read_X6 : Cond.initialized RX6 ∈ wsX3_read := List.mem_of_getElem? (i := 33) rfl
theorem is_X3_read_X6_colorsAt : Cond.static yX6_colorsAt ∈ wsX3_read := List.mem_of_getElem? (i := 35) rfl
theorem is_X3_read_X6_opposite : Cond.static yX6_opposite ∈ wsX3_read := List.mem_of_getElem? (i := 32) rfl
def wp_X3_read_100 (P : NV → BV → Int32 → Int32 → Int32 → Prop) (Q : NV → BV → Prop) (vN : NV) (vB : BV) (x2 : Int32) (x3 : Int32) (x4 : Int32) : Prop := ∀ x4_6 : Int32, x4_6 = x4 + 1 → P vN vB x2 x3 x4_6
set_option maxHeartbeats 4000000 in
set_option maxRecDepth 100000 in
theorem k_X3_read_100 {p : Program} {l : Launch} {e : Env} {s : State} {m : MethodId} {below : List Frame} {meth : Method} {c : Code} {args : Array Value} {D : va_G} {t : T3} {A : Nat → Prop} (X : Cx p s m meth c args cX3_read 6 none RX3 wsX3_read D t A) (aN : Nat) (aB : BA) {P : NV → BV → Int32 → Int32 → Int32 → Prop} {Q : NV → BV → Prop} (hP : ∀ (vN : NV) (vB : BV) (x2 : Int32) (x3 : Int32) (x4 : Int32) (H : Heap) (locs : List Loc) (ls : Array Slot), P vN vB x2 x3 x4 → Wd D A s.heap (nW t aN vN ++ (bW t aB vB)) H locs → lv_has ls 6 [(0, .ref aN), (1, .ref (BA.o aB)), (2, .int x2), (3, .int x3), (4, .int x4)] → W p l e ({ frames := 2, cells := 0, slots := 0, locals := 43 } : Room) s m args below meth c H locs 0 0 (Ev below args s A D (fun (u : NV × BV) => (nW t aN u.1 ++ (bW t aB u.2))) (fun (u : NV × BV) => Q u.1 u.2) 0 0) (F0 m 31 ls [])) : ∀ (vN : NV) (vB : BV) (x2 : Int32) (x3 : Int32) (x4 : Int32) (H : Heap) (locs : List Loc) (ls : Array Slot), wp_X3_read_100 P Q vN vB x2 x3 x4 → Wd D A s.heap (nW t aN vN ++ (bW t aB vB)) H locs → lv_has ls 6 [(0, .ref aN), (1, .ref (BA.o aB)), (2, .int x2), (3, .int x3), (4, .int x4)] → W p l e ({ frames := 2, cells := 0, slots := 0, locals := 43 } : Room) s m args below meth c H locs 0 0 (Ev below args s A D (fun (u : NV × BV) => (nW t aN u.1 ++ (bW t aB u.2))) (fun (u : NV × BV) => Q u.1 u.2) 0 0) (F0 m 100 ls []) := by
  intro vN vB x2 x3 x4 H locs ls h hw hl
  have hx := X.1.1
  have hb := X.1.2.1
  obtain ⟨x4_6, ex4_6⟩ : ∃ z : Int32, z = x4 + 1 := ⟨_, rfl⟩
  replace h := h x4_6 ex4_6
  refine lv_iinc (v := x4_6) (lv' := [(4, .int x4_6), (0, .ref aN), (1, .ref (BA.o aB)), (2, .int x2), (3, .int x3)]) hx hb dX3_read_100 hl (k := 4) rfl (by rw [ex4_6]; rfl) (by decide) rfl (fun ls hl => ?_)
  refine lv_goto (tgt := 31) hx hb dX3_read_103 (by decide) ?_
  exact hP _ _ _ _ _ _ _ _ h hw (lv_sub hl [1, 2, 3, 4, 0] rfl)
def bd_X3_read_31 (Q : NV → BV → Prop) (P : NV → BV → Int32 → Int32 → Int32 → Prop) (vN : NV) (vB : BV) (x2 : Int32) (x3 : Int32) (x4 : Int32) : Prop := (4 ≤ x4 → Q vN vB) ∧ (¬ 4 ≤ x4 → wp_X0_neighbor vB x2 x4 (fun (r_3 : Int32) (vB_2 : BV) => (¬ r_3 = (-1) → wp_X0_isEmpty vB_2 r_3 (fun (r_5 : Int32) (vB_4 : BV) => (¬ r_5 = 0 → wp_X3_read_100  P Q vN vB_4 x2 x3 x4) ∧ (r_5 = 0 → wp_X0_lookIn vB_4 r_3 (fun (r_8 : Int32) (vB_7 : BV) => wp_X6_opposite  x4 (fun (r_9 : Int32) => wp_X6_colorsAt  r_8 r_9 (fun (r_10 : Int32) => wp_X3_readNeighbor vN r_10 x4 x3 (fun (vN_11 : NV) => wp_X3_read_100  P Q vN_11 vB_7 x2 x3 x4))))))) ∧ (r_3 = (-1) → ∀ f_13 : Int32, f_13 = ((NV.mustBeZero vN) ||| (jshl x3 (4 * x4))) → wp_X3_read_100  P Q (NV.s_mustBeZero vN f_13) vB_2 x2 x3 x4)))
def wp_X3_read_31 (Q : NV → BV → Prop)  (vN : NV) (vB : BV) (x2 : Int32) (x3 : Int32) (x4 : Int32) : Prop := ∀ P : NV → BV → Int32 → Int32 → Int32 → Prop, (∀ (vN : NV) (vB : BV) (x2 : Int32) (x3 : Int32) (x4 : Int32), bd_X3_read_31 Q P  vN vB x2 x3 x4 → P vN vB x2 x3 x4) → P vN vB x2 x3 x4
set_option maxHeartbeats 4000000 in
set_option maxRecDepth 100000 in
theorem kb_X3_read_31 {p : Program} {l : Launch} {e : Env} {s : State} {m : MethodId} {below : List Frame} {meth : Method} {c : Code} {args : Array Value} {D : va_G} {t : T3} {A : Nat → Prop} (X : Cx p s m meth c args cX3_read 6 none RX3 wsX3_read D t A) (aN : Nat) (aB : BA) {Q : NV → BV → Prop} {P : NV → BV → Int32 → Int32 → Int32 → Prop} (hP : ∀ (vN : NV) (vB : BV) (x2 : Int32) (x3 : Int32) (x4 : Int32) (H : Heap) (locs : List Loc) (ls : Array Slot), P vN vB x2 x3 x4 → Wd D A s.heap (nW t aN vN ++ (bW t aB vB)) H locs → lv_has ls 6 [(0, .ref aN), (1, .ref (BA.o aB)), (2, .int x2), (3, .int x3), (4, .int x4)] → W p l e ({ frames := 2, cells := 0, slots := 0, locals := 43 } : Room) s m args below meth c H locs 0 0 (Ev below args s A D (fun (u : NV × BV) => (nW t aN u.1 ++ (bW t aB u.2))) (fun (u : NV × BV) => Q u.1 u.2) 0 0) (F0 m 31 ls [])) : ∀ (vN : NV) (vB : BV) (x2 : Int32) (x3 : Int32) (x4 : Int32) (H : Heap) (locs : List Loc) (ls : Array Slot), bd_X3_read_31 Q P  vN vB x2 x3 x4 → Wd D A s.heap (nW t aN vN ++ (bW t aB vB)) H locs → lv_has ls 6 [(0, .ref aN), (1, .ref (BA.o aB)), (2, .int x2), (3, .int x3), (4, .int x4)] → W p l e ({ frames := 2, cells := 0, slots := 0, locals := 43 } : Room) s m args below meth c H locs 0 0 (Ev below args s A D (fun (u : NV × BV) => (nW t aN u.1 ++ (bW t aB u.2))) (fun (u : NV × BV) => Q u.1 u.2) 0 0) (F0 m 31 ls []) := by
  intro vN vB x2 x3 x4 H locs ls h hw hl
  have hx := X.1.1
  have hb := X.1.2.1
  refine lv_iload hx hb dX3_read_31 (lv_at hl 4 rfl) ?_
  refine lv_iconst (v := 4) hx hb dX3_read_33 (by decide) ?_
  refine lv_icmp_ge (tgt := 106) hx hb dX3_read_34 (by decide) (fun c_15 => ?_) (fun c_15 => ?_)
  · replace h := h.1 c_15
    exact e_v (w1 := (fun (u : NV × BV) => (nW t aN u.1 ++ (bW t aB u.2)))) X (vN, vB) hw h dX3_read_106
  replace h := h.2 c_15
  refine lv_aload_n hx hb dX3_read_37 rfl (lv_at hl 1 rfl) ?_
  refine lv_iload_n hx hb dX3_read_38 rfl (lv_at hl 2 rfl) ?_
  refine lv_iload hx hb dX3_read_39 (lv_at hl 4 rfl) ?_
  refine r_ci X hw (pm_r pm_0) (wn := fun (u : BV) => (nW t aN vN ++ (bW t aB u))) (fun u => (pm_r pm_0).symm) (r_runV X hw (c_X0_neighbor l D t aB vB x2 x4 _ h) (pm_r pm_0) (cwV 2 X.1.2.2.2.2 gX3_read_X0_neighbor rfl rfl rfl (by decide +kernel) ⟨Nat.le_of_ble_eq_true rfl, Nat.le_of_ble_eq_true rfl⟩) (ci := 0) rfl rfl rfl rfl hl rfl (Nat.le_of_ble_eq_true rfl) dX3_read_41 ⟨Nat.le_of_ble_eq_true rfl, Nat.le_of_ble_eq_true rfl⟩) (fun r_3 u H locs h hw => ?_)
  obtain ⟨vB_2, rfl⟩ : ∃ z, z = u := ⟨_, rfl⟩
  refine lv_istore (lv' := [(5, .int r_3), (0, .ref aN), (1, .ref (BA.o aB)), (2, .int x2), (3, .int x3), (4, .int x4)]) hx hb dX3_read_44 hl (by decide) rfl (fun ls hl => ?_)
  refine lv_iload hx hb dX3_read_46 (lv_at hl 0 rfl) ?_
  refine lv_iconst (v := (-1)) hx hb dX3_read_48 (by decide) ?_
  refine lv_icmp_ne (tgt := 70) hx hb dX3_read_49 (by decide) (fun c_14 => ?_) (fun c_14 => ?_)
  · replace h := h.1 c_14
    refine lv_aload_n hx hb dX3_read_70 rfl (lv_at hl 2 rfl) ?_
    refine lv_iload hx hb dX3_read_71 (lv_at hl 0 rfl) ?_
    refine r_ci X hw (pm_r pm_0) (wn := fun (u : BV) => (nW t aN vN ++ (bW t aB u))) (fun u => (pm_r pm_0).symm) (r_runV X hw (c_X0_isEmpty l D t aB vB_2 r_3 _ h) (pm_r pm_0) (cwV 1 X.1.2.2.2.2 gX3_read_X0_isEmpty rfl rfl rfl (by decide +kernel) ⟨Nat.le_of_ble_eq_true rfl, Nat.le_of_ble_eq_true rfl⟩) (ci := 0) rfl rfl rfl rfl hl rfl (Nat.le_of_ble_eq_true rfl) dX3_read_73 ⟨Nat.le_of_ble_eq_true rfl, Nat.le_of_ble_eq_true rfl⟩) (fun r_5 u H locs h hw => ?_)
    obtain ⟨vB_4, rfl⟩ : ∃ z, z = u := ⟨_, rfl⟩
    refine lv_if_ne (tgt := 100) hx hb dX3_read_76 (by decide) (fun c_12 => ?_) (fun c_12 => ?_)
    · replace h := h.1 c_12
      exact k_X3_read_100 X aN aB hP _ _ _ _ _ _ _ _ h hw (lv_sub hl [1, 2, 3, 4, 5] rfl)
    replace h := h.2 c_12
    refine lv_aload_n hx hb dX3_read_79 rfl (lv_at hl 1 rfl) ?_
    refine lv_aload_n hx hb dX3_read_80 rfl (lv_at hl 2 rfl) ?_
    refine lv_iload hx hb dX3_read_81 (lv_at hl 0 rfl) ?_
    refine r_ci X hw (pm_r pm_0) (wn := fun (u : BV) => (nW t aN vN ++ (bW t aB u))) (fun u => (pm_r pm_0).symm) (r_runV X hw (c_X0_lookIn l D t aB vB_4 r_3 _ h) (pm_r pm_0) (cwV 1 X.1.2.2.2.2 gX3_read_X0_lookIn rfl rfl rfl (by decide +kernel) ⟨Nat.le_of_ble_eq_true rfl, Nat.le_of_ble_eq_true rfl⟩) (ci := 0) rfl rfl rfl rfl hl rfl (Nat.le_of_ble_eq_true rfl) dX3_read_83 ⟨Nat.le_of_ble_eq_true rfl, Nat.le_of_ble_eq_true rfl⟩) (fun r_8 u H locs h hw => ?_)
    obtain ⟨vB_7, rfl⟩ : ∃ z, z = u := ⟨_, rfl⟩
    refine lv_iload hx hb dX3_read_86 (lv_at hl 5 rfl) ?_
    refine r_ci X hw pm_n (wn := fun (u : Unit) => (nW t aN vN ++ (bW t aB vB_7))) (fun u => (pm_n).symm) (r_runSN X hw (c_X6_opposite l D t x4 _ h) pm_n (va_cnB 1 X.1.2.2.2.2 gX3_read_X6_opposite_n45 rfl rfl rfl (X.2.2.2.1.2.1 (RX3, 45, yX6_opposite, RX6) (by decide +kernel)) (X.1.2.2.2.2 _ (ii_X3_read_X6)) (by decide +kernel) ⟨Nat.le_of_ble_eq_true rfl, Nat.le_of_ble_eq_true rfl⟩) (X.1.2.2.2.2 _ (is_X3_read_X6_opposite)) rfl hl rfl (Nat.le_of_ble_eq_true rfl) dX3_read_88 ⟨Nat.le_of_ble_eq_true rfl, Nat.le_of_ble_eq_true rfl⟩) (fun r_9 u H locs h hw => ?_)
    refine r_ci X hw pm_n (wn := fun (u : Unit) => (nW t aN vN ++ (bW t aB vB_7))) (fun u => (pm_n).symm) (r_runSN X hw (c_X6_colorsAt l D t r_8 r_9 _ h) pm_n (va_cnB 2 X.1.2.2.2.2 gX3_read_X6_colorsAt_n48 rfl rfl rfl (X.2.2.2.1.2.1 (RX3, 48, yX6_colorsAt, RX6) (by decide +kernel)) (X.1.2.2.2.2 _ (ii_X3_read_X6)) (by decide +kernel) ⟨Nat.le_of_ble_eq_true rfl, Nat.le_of_ble_eq_true rfl⟩) (X.1.2.2.2.2 _ (is_X3_read_X6_colorsAt)) rfl hl rfl (Nat.le_of_ble_eq_true rfl) dX3_read_91 ⟨Nat.le_of_ble_eq_true rfl, Nat.le_of_ble_eq_true rfl⟩) (fun r_10 u H locs h hw => ?_)
    refine lv_iload hx hb dX3_read_94 (lv_at hl 5 rfl) ?_
    refine lv_iload_n hx hb dX3_read_96 rfl (lv_at hl 4 rfl) ?_
    refine r_cv X hw (pm_l pm_0) (wn := fun (u : NV) => (nW t aN u ++ (bW t aB vB_7))) (fun u => (pm_l pm_0).symm) (r_runV X hw (c_X3_readNeighbor l D t aN vN r_10 x4 x3 _ h) (pm_l pm_0) (cwV 3 X.1.2.2.2.2 gX3_read_X3_readNeighbor rfl rfl rfl (by decide +kernel) ⟨Nat.le_of_ble_eq_true rfl, Nat.le_of_ble_eq_true rfl⟩) (ci := 3) rfl rfl rfl rfl hl rfl (Nat.le_of_ble_eq_true rfl) dX3_read_97 ⟨Nat.le_of_ble_eq_true rfl, Nat.le_of_ble_eq_true rfl⟩) (fun u H locs h hw => ?_)
    obtain ⟨vN_11, rfl⟩ : ∃ z, z = u := ⟨_, rfl⟩
    exact k_X3_read_100 X aN aB hP _ _ _ _ _ _ _ _ h hw (lv_sub hl [1, 2, 3, 4, 5] rfl)
  replace h := h.2 c_14
  refine lv_aload_n hx hb dX3_read_52 rfl (lv_at hl 1 rfl) ?_
  refine lv_dup hx hb dX3_read_53 rfl ?_
  refine r_get (ci := 3) (C := RX3) (T := TX3) (N := 4) X hw 0 rfl rfl 0 (by decide) in_X3_read_X3 fl_X3_read_9 (v := .int (NV.mustBeZero vN)) rfl dX3_read_54 ?_
  refine lv_iload_n hx hb dX3_read_57 rfl (lv_at hl 4 rfl) ?_
  refine lv_iconst (v := 4) hx hb dX3_read_58 (by decide) ?_
  refine lv_iload hx hb dX3_read_59 (lv_at hl 5 rfl) ?_
  refine lv_imul hx hb dX3_read_61 ?_
  refine r_ishl hx hb dX3_read_62 ?_
  refine lv_ior hx hb dX3_read_63 ?_
  refine lv_topi (fun f_13 ef_13 => ?_)
  replace h := h f_13 ef_13
  refine r_put (ci := 3) (C := RX3) (T := TX3) (N := 4) (v := .int f_13) (ws' := (nW t aN (NV.s_mustBeZero vN f_13) ++ (bW t aB vB_2))) X hw 0 rfl rfl 0 (by decide) in_X3_read_X3 tyX3 tyX3_ok nmX3 fl_X3_read_9 rfl rfl rfl (Nat.le_of_ble_eq_true rfl) rfl dX3_read_64 (fun H locs hw => ?_)
  refine lv_goto (tgt := 100) hx hb dX3_read_67 (by decide) ?_
  exact k_X3_read_100 X aN aB hP _ _ _ _ _ _ _ _ h hw (lv_sub hl [1, 2, 3, 4, 5] rfl)
set_option maxHeartbeats 4000000 in
set_option maxRecDepth 100000 in
theorem k_X3_read_31 {p : Program} {l : Launch} {e : Env} {s : State} {m : MethodId} {below : List Frame} {meth : Method} {c : Code} {args : Array Value} {D : va_G} {t : T3} {A : Nat → Prop} (X : Cx p s m meth c args cX3_read 6 none RX3 wsX3_read D t A) (aN : Nat) (aB : BA) {Q : NV → BV → Prop}   : ∀ (vN : NV) (vB : BV) (x2 : Int32) (x3 : Int32) (x4 : Int32) (H : Heap) (locs : List Loc) (ls : Array Slot), wp_X3_read_31 Q  vN vB x2 x3 x4 → Wd D A s.heap (nW t aN vN ++ (bW t aB vB)) H locs → lv_has ls 6 [(0, .ref aN), (1, .ref (BA.o aB)), (2, .int x2), (3, .int x3), (4, .int x4)] → W p l e ({ frames := 2, cells := 0, slots := 0, locals := 43 } : Room) s m args below meth c H locs 0 0 (Ev below args s A D (fun (u : NV × BV) => (nW t aN u.1 ++ (bW t aB u.2))) (fun (u : NV × BV) => Q u.1 u.2) 0 0) (F0 m 31 ls []) := by
  intro vN vB x2 x3 x4 H locs ls h hw hl
  have hx := X.1.1
  have hb := X.1.2.1
  refine h (fun (vN : NV) (vB : BV) (x2 : Int32) (x3 : Int32) (x4 : Int32) => ∀ (H : Heap) (locs : List Loc) (ls : Array Slot), Wd D A s.heap (nW t aN vN ++ (bW t aB vB)) H locs → lv_has ls 6 [(0, .ref aN), (1, .ref (BA.o aB)), (2, .int x2), (3, .int x3), (4, .int x4)] → W p l e ({ frames := 2, cells := 0, slots := 0, locals := 43 } : Room) s m args below meth c H locs 0 0 (Ev below args s A D (fun (u : NV × BV) => (nW t aN u.1 ++ (bW t aB u.2))) (fun (u : NV × BV) => Q u.1 u.2) 0 0) (F0 m 31 ls [])) (fun vN vB x2 x3 x4 h H locs ls hw hl => ?_) H locs ls hw hl
  exact kb_X3_read_31 X aN aB (fun vN vB x2 x3 x4 H locs ls q hw hl => q H locs ls hw hl)  vN vB x2 x3 x4 _ _ _ h hw hl
def wp_X3_read (vN : NV) (vB : BV) (p2 : Int32) (Q : NV → BV → Prop) : Prop := wp_X3_ruledColors  (BV.rule vB) (fun (r_1 : Int32) => wp_X3_read_31 Q  (NV.s_forbiddenZero (NV.s_wanted (NV.s_mustAgree (NV.s_mustBeZero vN 0) 0) 0) 0) vB p2 r_1 0)
set_option maxHeartbeats 4000000 in
set_option maxRecDepth 100000 in
theorem c_X3_read (l : Launch) (D : va_G) (t : T3) (aN : Nat) (aB : BA) (vN : NV) (vB : BV) (p2 : Int32) (Q : NV → BV → Prop) (h : wp_X3_read vN vB p2 Q) : Ct l yX3_read wsX3_read 2 43 0 0 [.ref aN, .ref (BA.o aB), .int p2] D t (nW t aN vN ++ (bW t aB vB)) (fun sz => Qv D (nW t aN vN ++ (bW t aB vB)) (fun (u : NV × BV) => (nW t aN u.1 ++ (bW t aB u.2))) (fun (u : NV × BV) => Q u.1 u.2) sz) := by
  refine Ct.of (Qf := fun _ A => va_Qv (fun (u : NV × BV) => Q u.1 u.2) (B1 D (fun (u : NV × BV) => (nW t aN u.1 ++ (bW t aB u.2))) A) A) cX3_read 6 none (by decide) rfl (Nat.le_of_ble_eq_true rfl) ?_
  intro p e s m below meth c A ls hAe hin X hw hl
  generalize ([.ref aN, .ref (BA.o aB), .int p2] : List Value).toArray = args at X ⊢
  have hl : lv_has ls 6 [(0, .ref aN), (1, .ref (BA.o aB)), (2, .int p2)] := hl
  have hx := X.1.1
  have hb := X.1.2.1
  refine lv_aload_n hx hb dX3_read_0 rfl (lv_at hl 0 rfl) ?_
  refine lv_iconst (v := 0) hx hb dX3_read_1 (by decide) ?_
  refine r_put (ci := 3) (C := RX3) (T := TX3) (N := 4) (v := .int 0) (ws' := (nW t aN (NV.s_mustBeZero vN 0) ++ (bW t aB vB))) X hw 0 rfl rfl 0 (by decide) in_X3_read_X3 tyX3 tyX3_ok nmX3 fl_X3_read_9 rfl rfl rfl (Nat.le_of_ble_eq_true rfl) rfl dX3_read_2 (fun H locs hw => ?_)
  refine lv_aload_n hx hb dX3_read_5 rfl (lv_at hl 0 rfl) ?_
  refine lv_iconst (v := 0) hx hb dX3_read_6 (by decide) ?_
  refine r_put (ci := 3) (C := RX3) (T := TX3) (N := 4) (v := .int 0) (ws' := (nW t aN (NV.s_mustAgree (NV.s_mustBeZero vN 0) 0) ++ (bW t aB vB))) X hw 0 rfl rfl 1 (by decide) in_X3_read_X3 tyX3 tyX3_ok nmX3 fl_X3_read_15 rfl rfl rfl (Nat.le_of_ble_eq_true rfl) rfl dX3_read_7 (fun H locs hw => ?_)
  refine lv_aload_n hx hb dX3_read_10 rfl (lv_at hl 0 rfl) ?_
  refine lv_iconst (v := 0) hx hb dX3_read_11 (by decide) ?_
  refine r_put (ci := 3) (C := RX3) (T := TX3) (N := 4) (v := .int 0) (ws' := (nW t aN (NV.s_wanted (NV.s_mustAgree (NV.s_mustBeZero vN 0) 0) 0) ++ (bW t aB vB))) X hw 0 rfl rfl 2 (by decide) in_X3_read_X3 tyX3 tyX3_ok nmX3 fl_X3_read_18 rfl rfl rfl (Nat.le_of_ble_eq_true rfl) rfl dX3_read_12 (fun H locs hw => ?_)
  refine lv_aload_n hx hb dX3_read_15 rfl (lv_at hl 0 rfl) ?_
  refine lv_iconst (v := 0) hx hb dX3_read_16 (by decide) ?_
  refine r_put (ci := 3) (C := RX3) (T := TX3) (N := 4) (v := .int 0) (ws' := (nW t aN (NV.s_forbiddenZero (NV.s_wanted (NV.s_mustAgree (NV.s_mustBeZero vN 0) 0) 0) 0) ++ (bW t aB vB))) X hw 0 rfl rfl 3 (by decide) in_X3_read_X3 tyX3 tyX3_ok nmX3 fl_X3_read_21 rfl rfl rfl (Nat.le_of_ble_eq_true rfl) rfl dX3_read_17 (fun H locs hw => ?_)
  refine lv_aload_n hx hb dX3_read_20 rfl (lv_at hl 1 rfl) ?_
  refine r_get (ci := 0) (C := RX0) (T := TX0) (N := 8) X hw 1 rfl rfl 2 (by decide) in_X3_read_X0 fl_X3_read_25 (v := .int (BV.rule vB)) rfl dX3_read_21 ?_
  refine r_ci X hw pm_n (wn := fun (u : Unit) => (nW t aN (NV.s_forbiddenZero (NV.s_wanted (NV.s_mustAgree (NV.s_mustBeZero vN 0) 0) 0) 0) ++ (bW t aB vB))) (fun u => (pm_n).symm) (r_runS X hw (c_X3_ruledColors l D t (BV.rule vB) _ h) pm_n (va_cwS 1 X.1.2.2.2.2 gX3_read_X3_ruledColors rfl rfl rfl (by decide +kernel) ⟨Nat.le_of_ble_eq_true rfl, Nat.le_of_ble_eq_true rfl⟩) rfl hl rfl (Nat.le_of_ble_eq_true rfl) dX3_read_24 ⟨Nat.le_of_ble_eq_true rfl, Nat.le_of_ble_eq_true rfl⟩) (fun r_1 u H locs h hw => ?_)
  refine lv_istore_n (lv' := [(3, .int r_1), (0, .ref aN), (1, .ref (BA.o aB)), (2, .int p2)]) hx hb dX3_read_27 rfl hl (by decide) rfl (fun ls hl => ?_)
  refine lv_iconst (v := 0) hx hb dX3_read_28 (by decide) ?_
  refine lv_istore (lv' := [(4, .int 0), (3, .int r_1), (0, .ref aN), (1, .ref (BA.o aB)), (2, .int p2)]) hx hb dX3_read_29 hl (by decide) rfl (fun ls hl => ?_)
  refine k_X3_read_31 X aN aB  _ _ _ _ _ _ _ _ h hw (lv_sub hl [2, 3, 4, 1, 0] rfl)
/-! X3_reasonAgainst -/
theorem in_X3_reasonAgainst_X3 : ∀ w ∈ u_ws RX3 TX3 4, w ∈ wsX3_reasonAgainst := fun w h => (List.mem_cons_of_mem _ (List.mem_append_right _ h))
theorem fl_X3_reasonAgainst_9 : Cond.fieldLink RX3 9 "TwoFacedTiles$Needs" "mustBeZero" "I" ∈ wsX3_reasonAgainst := List.mem_of_getElem? (i := 1) rfl
theorem fl_X3_reasonAgainst_18 : Cond.fieldLink RX3 18 "TwoFacedTiles$Needs" "wanted" "I" ∈ wsX3_reasonAgainst := List.mem_of_getElem? (i := 2) rfl
theorem fl_X3_reasonAgainst_15 : Cond.fieldLink RX3 15 "TwoFacedTiles$Needs" "mustAgree" "I" ∈ wsX3_reasonAgainst := List.mem_of_getElem? (i := 3) rfl
theorem k_X3_reasonAgainst_57 : Cond.constant RX3 57 (65535) ∈ wsX3_reasonAgainst := List.mem_of_getElem? (i := 4) rfl
theorem fl_X3_reasonAgainst_21 : Cond.fieldLink RX3 21 "TwoFacedTiles$Needs" "forbiddenZero" "Z" ∈ wsX3_reasonAgainst := List.mem_of_getElem? (i := 5) rfl
def wp_X3_reasonAgainst (vN : NV) (p1 : Int32) (Q : Int32 → NV → Prop) : Prop := ((p1 &&& (NV.mustBeZero vN)) = 0 → ∀ x2_1 : Int32, x2_1 = ((p1 ^^^ (NV.wanted vN)) &&& (NV.mustAgree vN)) → ((x2_1 &&& 65535) = 0 → (x2_1 = 0 → ((NV.forbiddenZero vN) = 0 → Q 0 vN) ∧ (¬ (NV.forbiddenZero vN) = 0 → Q 6 vN)) ∧ (¬ x2_1 = 0 → Q 5 vN)) ∧ (¬ (x2_1 &&& 65535) = 0 → Q 4 vN)) ∧ (¬ (p1 &&& (NV.mustBeZero vN)) = 0 → Q 3 vN)
set_option maxHeartbeats 4000000 in
set_option maxRecDepth 100000 in
theorem c_X3_reasonAgainst (l : Launch) (D : va_G) (t : T3) (aN : Nat) (vN : NV) (p1 : Int32) (Q : Int32 → NV → Prop) (h : wp_X3_reasonAgainst vN p1 Q) : Ct l yX3_reasonAgainst wsX3_reasonAgainst 0 0 0 0 [.ref aN, .int p1] D t (nW t aN vN) (fun sz => Qi D (nW t aN vN) (fun (u : NV) => (nW t aN u)) (fun (r : Int32) (u : NV) => Q r u) sz) := by
  refine Ct.of (Qf := fun _ A => va_Qi (fun (r : Int32) (u : NV) => Q r u) (B1 D (fun (u : NV) => (nW t aN u)) A) A) cX3_reasonAgainst 3 (some .int) (by decide) rfl (Nat.le_of_ble_eq_true rfl) ?_
  intro p e s m below meth c A ls hAe hin X hw hl
  generalize ([.ref aN, .int p1] : List Value).toArray = args at X ⊢
  have hl : lv_has ls 3 [(0, .ref aN), (1, .int p1)] := hl
  have hx := X.1.1
  have hb := X.1.2.1
  refine lv_iload_n hx hb dX3_reasonAgainst_0 rfl (lv_at hl 1 rfl) ?_
  refine lv_aload_n hx hb dX3_reasonAgainst_1 rfl (lv_at hl 0 rfl) ?_
  refine r_get (ci := 3) (C := RX3) (T := TX3) (N := 4) X hw 0 rfl rfl 0 (by decide) in_X3_reasonAgainst_X3 fl_X3_reasonAgainst_9 (v := .int (NV.mustBeZero vN)) rfl dX3_reasonAgainst_2 ?_
  refine lv_iand hx hb dX3_reasonAgainst_5 ?_
  refine lv_if_eq (tgt := 11) hx hb dX3_reasonAgainst_6 (by decide) (fun c_5 => ?_) (fun c_5 => ?_)
  · replace h := h.1 c_5
    refine lv_iload_n hx hb dX3_reasonAgainst_11 rfl (lv_at hl 1 rfl) ?_
    refine lv_aload_n hx hb dX3_reasonAgainst_12 rfl (lv_at hl 0 rfl) ?_
    refine r_get (ci := 3) (C := RX3) (T := TX3) (N := 4) X hw 0 rfl rfl 2 (by decide) in_X3_reasonAgainst_X3 fl_X3_reasonAgainst_18 (v := .int (NV.wanted vN)) rfl dX3_reasonAgainst_13 ?_
    refine lv_ixor hx hb dX3_reasonAgainst_16 ?_
    refine lv_aload_n hx hb dX3_reasonAgainst_17 rfl (lv_at hl 0 rfl) ?_
    refine r_get (ci := 3) (C := RX3) (T := TX3) (N := 4) X hw 0 rfl rfl 1 (by decide) in_X3_reasonAgainst_X3 fl_X3_reasonAgainst_15 (v := .int (NV.mustAgree vN)) rfl dX3_reasonAgainst_18 ?_
    refine lv_iand hx hb dX3_reasonAgainst_21 ?_
    refine lv_topi (fun x2_1 ex2_1 => ?_)
    replace h := h x2_1 ex2_1
    refine lv_istore_n (lv' := [(2, .int x2_1), (0, .ref aN), (1, .int p1)]) hx hb dX3_reasonAgainst_22 rfl hl (by decide) rfl (fun ls hl => ?_)
    refine lv_iload_n hx hb dX3_reasonAgainst_23 rfl (lv_at hl 0 rfl) ?_
    refine lv_ldc (v := 65535) hx hb X.1.2.2.2.1 (X.1.2.2.2.2 _ k_X3_reasonAgainst_57) dX3_reasonAgainst_24 ?_
    refine lv_iand hx hb dX3_reasonAgainst_26 ?_
    refine lv_if_eq (tgt := 32) hx hb dX3_reasonAgainst_27 (by decide) (fun c_4 => ?_) (fun c_4 => ?_)
    · replace h := h.1 c_4
      refine lv_iload_n hx hb dX3_reasonAgainst_32 rfl (lv_at hl 0 rfl) ?_
      refine lv_if_eq (tgt := 38) hx hb dX3_reasonAgainst_33 (by decide) (fun c_3 => ?_) (fun c_3 => ?_)
      · replace h := h.1 c_3
        refine lv_aload_n hx hb dX3_reasonAgainst_38 rfl (lv_at hl 1 rfl) ?_
        refine r_get (ci := 3) (C := RX3) (T := TX3) (N := 4) X hw 0 rfl rfl 3 (by decide) in_X3_reasonAgainst_X3 fl_X3_reasonAgainst_21 (v := .int (NV.forbiddenZero vN)) rfl dX3_reasonAgainst_39 ?_
        refine lv_if_eq (tgt := 50) hx hb dX3_reasonAgainst_42 (by decide) (fun c_2 => ?_) (fun c_2 => ?_)
        · replace h := h.1 c_2
          refine lv_iconst (v := 0) hx hb dX3_reasonAgainst_50 (by decide) ?_
          exact e_i (w1 := (fun (u : NV) => (nW t aN u))) X (vN) hw h dX3_reasonAgainst_51
        replace h := h.2 c_2
        refine lv_bipush (v := 6) hx hb dX3_reasonAgainst_45 (by decide) ?_
        refine lv_goto (tgt := 51) hx hb dX3_reasonAgainst_47 (by decide) ?_
        exact e_i (w1 := (fun (u : NV) => (nW t aN u))) X (vN) hw h dX3_reasonAgainst_51
      replace h := h.2 c_3
      refine lv_iconst (v := 5) hx hb dX3_reasonAgainst_36 (by decide) ?_
      exact e_i (w1 := (fun (u : NV) => (nW t aN u))) X (vN) hw h dX3_reasonAgainst_37
    replace h := h.2 c_4
    refine lv_iconst (v := 4) hx hb dX3_reasonAgainst_30 (by decide) ?_
    exact e_i (w1 := (fun (u : NV) => (nW t aN u))) X (vN) hw h dX3_reasonAgainst_31
  replace h := h.2 c_5
  refine lv_iconst (v := 3) hx hb dX3_reasonAgainst_9 (by decide) ?_
  exact e_i (w1 := (fun (u : NV) => (nW t aN u))) X (vN) hw h dX3_reasonAgainst_10
/-! X4_tryPlacing -/
theorem in_X4_tryPlacing_X4 : ∀ w ∈ u_ws RX4 TX4 7, w ∈ wsX4_tryPlacing := fun w h => (List.mem_cons_of_mem _ (List.mem_append_left _ (List.mem_append_left _ (List.mem_append_right _ h))))
theorem fl_X4_tryPlacing_31 : Cond.fieldLink RX4 31 "TwoFacedTiles$Search" "steps" "I" ∈ wsX4_tryPlacing := List.mem_of_getElem? (i := 1) rfl
theorem fl_X4_tryPlacing_12 : Cond.fieldLink RX4 12 "TwoFacedTiles$Search" "trial" "LTwoFacedTiles$Board;" ∈ wsX4_tryPlacing := List.mem_of_getElem? (i := 4) rfl
theorem fl_X4_tryPlacing_38 : Cond.fieldLink RX4 38 "TwoFacedTiles$Search" "over" "Z" ∈ wsX4_tryPlacing := List.mem_of_getElem? (i := 3) rfl
theorem fl_X4_tryPlacing_34 : Cond.fieldLink RX4 34 "TwoFacedTiles$Search" "tooManySteps" "Z" ∈ wsX4_tryPlacing := List.mem_of_getElem? (i := 2) rfl
def wp_X4_tryPlacing (F : SV → Int32 → (SV → Prop) → Prop) (vS : SV) (p1 : Int32) (p2 : Int32) (Q : SV → Prop) : Prop := ((SV.steps vS) < 600 → ∀ f_1 : Int32, f_1 = ((SV.steps vS) + 1) → wp_X0_put (SV.trial vS) p1 p2 (fun (vB_2 : BV) => F (SV.s_steps (SV.s_trial vS vB_2) f_1) (p1 + 1) (fun (vS_3 : SV) => (¬ (SV.over vS_3) = 0 → Q vS_3) ∧ ((SV.over vS_3) = 0 → wp_X0_remove (SV.trial vS_3) p1 (fun (vB_4 : BV) => Q (SV.s_trial vS_3 vB_4)))))) ∧ (¬ (SV.steps vS) < 600 → Q (SV.s_over (SV.s_tooManySteps vS 1) 1))
set_option maxHeartbeats 4000000 in
set_option maxRecDepth 100000 in
theorem c_X4_tryPlacing (l : Launch) (D : va_G) (t : T3) (fr lo : Nat) (F : SV → Int32 → (SV → Prop) → Prop) (hF : ∀ (aS : SA) (vS : SV) (p1 : Int32) (Q : SV → Prop), F vS p1 Q → Ct l yX4_fillFrom wsX4_fillFrom fr lo 0 0 [.ref (SA.o aS), .int p1] D t (sW t aS vS) (fun sz => Qv D (sW t aS vS) (fun (u : SV) => (sW t aS u)) (fun (u : SV) => Q u) sz)) (aS : SA) (vS : SV) (p1 : Int32) (p2 : Int32) (Q : SV → Prop) (h : wp_X4_tryPlacing F vS p1 p2 Q) : Ct l yX4_tryPlacing wsX4_tryPlacing (fr + 1) (lo + 26) 0 0 [.ref (SA.o aS), .int p1, .int p2] D t (sW t aS vS) (fun sz => Qv D (sW t aS vS) (fun (u : SV) => (sW t aS u)) (fun (u : SV) => Q u) sz) := by
  refine Ct.of (Qf := fun _ A => va_Qv (fun (u : SV) => Q u) (B1 D (fun (u : SV) => (sW t aS u)) A) A) cX4_tryPlacing 3 none (by decide) rfl (Nat.le_of_ble_eq_true rfl) ?_
  intro p e s m below meth c A ls hAe hin X hw hl
  generalize ([.ref (SA.o aS), .int p1, .int p2] : List Value).toArray = args at X ⊢
  have hl : lv_has ls 3 [(0, .ref (SA.o aS)), (1, .int p1), (2, .int p2)] := hl
  have hx := X.1.1
  have hb := X.1.2.1
  refine lv_aload_n hx hb dX4_tryPlacing_0 rfl (lv_at hl 0 rfl) ?_
  refine r_get (ci := 4) (C := RX4) (T := TX4) (N := 7) X hw 0 rfl rfl 4 (by decide) in_X4_tryPlacing_X4 fl_X4_tryPlacing_31 (v := .int (SV.steps vS)) rfl dX4_tryPlacing_1 ?_
  refine lv_sipush (v := 600) hx hb dX4_tryPlacing_4 (by decide) ?_
  refine lv_icmp_lt (tgt := 21) hx hb dX4_tryPlacing_7 (by decide) (fun c_6 => ?_) (fun c_6 => ?_)
  · replace h := h.1 c_6
    refine lv_aload_n hx hb dX4_tryPlacing_21 rfl (lv_at hl 0 rfl) ?_
    refine lv_dup hx hb dX4_tryPlacing_22 rfl ?_
    refine r_get (ci := 4) (C := RX4) (T := TX4) (N := 7) X hw 0 rfl rfl 4 (by decide) in_X4_tryPlacing_X4 fl_X4_tryPlacing_31 (v := .int (SV.steps vS)) rfl dX4_tryPlacing_23 ?_
    refine lv_iconst (v := 1) hx hb dX4_tryPlacing_26 (by decide) ?_
    refine lv_iadd hx hb dX4_tryPlacing_27 ?_
    refine lv_topi (fun f_1 ef_1 => ?_)
    replace h := h f_1 ef_1
    refine r_put (ci := 4) (C := RX4) (T := TX4) (N := 7) (v := .int f_1) (ws' := (sW t aS (SV.s_steps vS f_1))) X hw 0 rfl rfl 4 (by decide) in_X4_tryPlacing_X4 tyX4 tyX4_ok nmX4 fl_X4_tryPlacing_31 rfl rfl rfl (Nat.le_of_ble_eq_true rfl) rfl dX4_tryPlacing_28 (fun H locs hw => ?_)
    refine lv_aload_n hx hb dX4_tryPlacing_31 rfl (lv_at hl 0 rfl) ?_
    refine r_get (ci := 4) (C := RX4) (T := TX4) (N := 7) X hw 0 rfl rfl 0 (by decide) in_X4_tryPlacing_X4 fl_X4_tryPlacing_12 (v := .ref (BA.o (SA.trial aS))) rfl dX4_tryPlacing_32 ?_
    refine lv_iload_n hx hb dX4_tryPlacing_35 rfl (lv_at hl 1 rfl) ?_
    refine lv_iload_n hx hb dX4_tryPlacing_36 rfl (lv_at hl 2 rfl) ?_
    refine r_cv X hw (pm_r (pm_l pm_0)) (wn := fun (u : BV) => (sW t aS (SV.s_steps (SV.s_trial vS u) f_1))) (fun u => (pm_r (pm_l pm_0)).symm) (r_runV X hw (c_X0_put l D t (SA.trial aS) (SV.trial vS) p1 p2 _ h) (pm_r (pm_l pm_0)) (cwV 2 X.1.2.2.2.2 gX4_tryPlacing_X0_put rfl rfl rfl (by decide +kernel) ⟨by show 0 + 1 ≤ fr + 1; omega, by show 8 + (3 + 11) + 0 ≤ lo + 26; omega⟩) (ci := 0) rfl rfl rfl rfl hl rfl (Nat.le_of_ble_eq_true rfl) dX4_tryPlacing_37 ⟨Nat.le_of_ble_eq_true rfl, Nat.le_of_ble_eq_true rfl⟩) (fun u H locs h hw => ?_)
    obtain ⟨vB_2, rfl⟩ : ∃ z, z = u := ⟨_, rfl⟩
    refine lv_aload_n hx hb dX4_tryPlacing_40 rfl (lv_at hl 0 rfl) ?_
    refine lv_iload_n hx hb dX4_tryPlacing_41 rfl (lv_at hl 1 rfl) ?_
    refine lv_iconst (v := 1) hx hb dX4_tryPlacing_42 (by decide) ?_
    refine lv_iadd hx hb dX4_tryPlacing_43 ?_
    refine r_cv X hw pm_0 (wn := fun (u : SV) => (sW t aS u)) (fun u => pm_0.symm) (r_runV X hw (hF aS (SV.s_steps (SV.s_trial vS vB_2) f_1) (p1 + 1) _ h) pm_0 (cwV 1 X.1.2.2.2.2 gX4_tryPlacing_X4_fillFrom rfl rfl rfl (by decide +kernel) ⟨by show fr + 1 ≤ fr + 1; omega, by show 8 + (7 + 11) + lo ≤ lo + 26; omega⟩) (ci := 4) rfl rfl rfl rfl hl rfl (Nat.le_of_ble_eq_true rfl) dX4_tryPlacing_44 ⟨Nat.le_of_ble_eq_true rfl, Nat.le_of_ble_eq_true rfl⟩) (fun u H locs h hw => ?_)
    obtain ⟨vS_3, rfl⟩ : ∃ z, z = u := ⟨_, rfl⟩
    refine lv_aload_n hx hb dX4_tryPlacing_47 rfl (lv_at hl 0 rfl) ?_
    refine r_get (ci := 4) (C := RX4) (T := TX4) (N := 7) X hw 0 rfl rfl 6 (by decide) in_X4_tryPlacing_X4 fl_X4_tryPlacing_38 (v := .int (SV.over vS_3)) rfl dX4_tryPlacing_48 ?_
    refine lv_if_ne (tgt := 62) hx hb dX4_tryPlacing_51 (by decide) (fun c_5 => ?_) (fun c_5 => ?_)
    · replace h := h.1 c_5
      exact e_v (w1 := (fun (u : SV) => (sW t aS u))) X (vS_3) hw h dX4_tryPlacing_62
    replace h := h.2 c_5
    refine lv_aload_n hx hb dX4_tryPlacing_54 rfl (lv_at hl 0 rfl) ?_
    refine r_get (ci := 4) (C := RX4) (T := TX4) (N := 7) X hw 0 rfl rfl 0 (by decide) in_X4_tryPlacing_X4 fl_X4_tryPlacing_12 (v := .ref (BA.o (SA.trial aS))) rfl dX4_tryPlacing_55 ?_
    refine lv_iload_n hx hb dX4_tryPlacing_58 rfl (lv_at hl 1 rfl) ?_
    refine r_cv X hw (pm_r (pm_l pm_0)) (wn := fun (u : BV) => (sW t aS (SV.s_trial vS_3 u))) (fun u => (pm_r (pm_l pm_0)).symm) (r_runV X hw (c_X0_remove l D t (SA.trial aS) (SV.trial vS_3) p1 _ h) (pm_r (pm_l pm_0)) (cwV 1 X.1.2.2.2.2 gX4_tryPlacing_X0_remove rfl rfl rfl (by decide +kernel) ⟨by show 0 + 1 ≤ fr + 1; omega, by show 8 + (2 + 11) + 0 ≤ lo + 26; omega⟩) (ci := 0) rfl rfl rfl rfl hl rfl (Nat.le_of_ble_eq_true rfl) dX4_tryPlacing_59 ⟨Nat.le_of_ble_eq_true rfl, Nat.le_of_ble_eq_true rfl⟩) (fun u H locs h hw => ?_)
    obtain ⟨vB_4, rfl⟩ : ∃ z, z = u := ⟨_, rfl⟩
    exact e_v (w1 := (fun (u : SV) => (sW t aS u))) X ((SV.s_trial vS_3 vB_4)) hw h dX4_tryPlacing_62
  replace h := h.2 c_6
  refine lv_aload_n hx hb dX4_tryPlacing_10 rfl (lv_at hl 0 rfl) ?_
  refine lv_iconst (v := 1) hx hb dX4_tryPlacing_11 (by decide) ?_
  refine r_put (ci := 4) (C := RX4) (T := TX4) (N := 7) (v := .int 1) (ws' := (sW t aS (SV.s_tooManySteps vS 1))) X hw 0 rfl rfl 5 (by decide) in_X4_tryPlacing_X4 tyX4 tyX4_ok nmX4 fl_X4_tryPlacing_34 rfl rfl rfl (Nat.le_of_ble_eq_true rfl) rfl dX4_tryPlacing_12 (fun H locs hw => ?_)
  refine lv_aload_n hx hb dX4_tryPlacing_15 rfl (lv_at hl 0 rfl) ?_
  refine lv_iconst (v := 1) hx hb dX4_tryPlacing_16 (by decide) ?_
  refine r_put (ci := 4) (C := RX4) (T := TX4) (N := 7) (v := .int 1) (ws' := (sW t aS (SV.s_over (SV.s_tooManySteps vS 1) 1))) X hw 0 rfl rfl 6 (by decide) in_X4_tryPlacing_X4 tyX4 tyX4_ok nmX4 fl_X4_tryPlacing_38 rfl rfl rfl (Nat.le_of_ble_eq_true rfl) rfl dX4_tryPlacing_17 (fun H locs hw => ?_)
  exact e_v (w1 := (fun (u : SV) => (sW t aS u))) X ((SV.s_over (SV.s_tooManySteps vS 1) 1)) hw h dX4_tryPlacing_20
/-! X4_fillFrom -/
theorem in_X4_fillFrom_X4 : ∀ w ∈ u_ws RX4 TX4 7, w ∈ wsX4_fillFrom := fun w h => (List.mem_cons_of_mem _ (List.mem_append_left _ (List.mem_append_left _ (List.mem_append_right _ h))))
theorem fl_X4_fillFrom_12 : Cond.fieldLink RX4 12 "TwoFacedTiles$Search" "trial" "LTwoFacedTiles$Board;" ∈ wsX4_fillFrom := List.mem_of_getElem? (i := 1) rfl
theorem fl_X4_fillFrom_24 : Cond.fieldLink RX4 24 "TwoFacedTiles$Search" "needs" "[LTwoFacedTiles$Needs;" ∈ wsX4_fillFrom := List.mem_of_getElem? (i := 5) rfl
theorem in_X4_fillFrom_X0 : ∀ w ∈ u_ws RX0 TX0 8, w ∈ wsX4_fillFrom := fun w h => (List.mem_cons_of_mem _ (List.mem_append_left _ (List.mem_append_right _ h)))
theorem fl_X4_fillFrom_69 : Cond.fieldLink RX4 69 "TwoFacedTiles$Board" "tiles" "I" ∈ wsX4_fillFrom := List.mem_of_getElem? (i := 6) rfl
theorem fl_X4_fillFrom_38 : Cond.fieldLink RX4 38 "TwoFacedTiles$Search" "over" "Z" ∈ wsX4_fillFrom := List.mem_of_getElem? (i := 4) rfl
theorem fl_X4_fillFrom_75 : Cond.fieldLink RX4 75 "TwoFacedTiles$Board" "looks" "[I" ∈ wsX4_fillFrom := List.mem_of_getElem? (i := 7) rfl
theorem fl_X4_fillFrom_18 : Cond.fieldLink RX4 18 "TwoFacedTiles$Search" "found" "I" ∈ wsX4_fillFrom := List.mem_of_getElem? (i := 2) rfl
theorem fl_X4_fillFrom_28 : Cond.fieldLink RX4 28 "TwoFacedTiles$Search" "most" "I" ∈ wsX4_fillFrom := List.mem_of_getElem? (i := 3) rfl
def bd_X4_fillFrom_2 (F : SV → Int32 → (SV → Prop) → Prop) (Q : SV → Prop) (P : SV → Int32 → Prop) (K30 : SV → Int32 → Prop) (vS : SV) (x2 : Int32) : Prop := wp_X0_cells (SV.trial vS)  (fun (r_2 : Int32) (vB_1 : BV) => (r_2 ≤ x2 → K30 (SV.s_trial vS vB_1) x2) ∧ (¬ r_2 ≤ x2 → wp_X0_isEmpty vB_1 x2 (fun (r_4 : Int32) (vB_3 : BV) => (¬ r_4 = 0 → K30 (SV.s_trial vS vB_3) x2) ∧ (r_4 = 0 → ∀ x2_5 : Int32, x2_5 = x2 + 1 → P (SV.s_trial vS vB_3) x2_5))))
def wp_X4_fillFrom_2 (F : SV → Int32 → (SV → Prop) → Prop) (Q : SV → Prop) (K30 : SV → Int32 → Prop) (vS : SV) (x2 : Int32) : Prop := ∀ P : SV → Int32 → Prop, (∀ (vS : SV) (x2 : Int32), bd_X4_fillFrom_2 F Q P K30 vS x2 → P vS x2) → P vS x2
set_option maxHeartbeats 4000000 in
set_option maxRecDepth 100000 in
theorem kb_X4_fillFrom_2 {p : Program} {l : Launch} {e : Env} {s : State} {m : MethodId} {below : List Frame} {meth : Method} {c : Code} {args : Array Value} {D : va_G} {t : T3} {A : Nat → Prop} {fr lo : Nat} {F : SV → Int32 → (SV → Prop) → Prop} (X : Cx p s m meth c args cX4_fillFrom 7 none RX4 wsX4_fillFrom D t A) (hF : ∀ (aS : SA) (vS : SV) (p1 : Int32) (Q : SV → Prop), F vS p1 Q → Ct l yX4_fillFrom wsX4_fillFrom fr lo 0 0 [.ref (SA.o aS), .int p1] D t (sW t aS vS) (fun sz => Qv D (sW t aS vS) (fun (u : SV) => (sW t aS u)) (fun (u : SV) => Q u) sz)) (aS : SA) {Q : SV → Prop} {P : SV → Int32 → Prop} {K30 : SV → Int32 → Prop} (hP : ∀ (vS : SV) (x2 : Int32) (H : Heap) (locs : List Loc) (ls : Array Slot), P vS x2 → Wd D A s.heap (sW t aS vS) H locs → lv_has ls 7 [(0, .ref (SA.o aS)), (2, .int x2)] → W p l e ({ frames := fr + 6, cells := 0, slots := 0, locals := lo + 120 } : Room) s m args below meth c H locs 0 0 (Ev below args s A D (fun (u : SV) => (sW t aS u)) (fun (u : SV) => Q u) 0 0) (F0 m 2 ls [])) (hK30 : ∀ (vS : SV) (x2 : Int32) (H : Heap) (locs : List Loc) (ls : Array Slot), K30 vS x2 → Wd D A s.heap (sW t aS vS) H locs → lv_has ls 7 [(0, .ref (SA.o aS)), (2, .int x2)] → W p l e ({ frames := fr + 6, cells := 0, slots := 0, locals := lo + 120 } : Room) s m args below meth c H locs 0 0 (Ev below args s A D (fun (u : SV) => (sW t aS u)) (fun (u : SV) => Q u) 0 0) (F0 m 30 ls [])) : ∀ (vS : SV) (x2 : Int32) (H : Heap) (locs : List Loc) (ls : Array Slot), bd_X4_fillFrom_2 F Q P K30 vS x2 → Wd D A s.heap (sW t aS vS) H locs → lv_has ls 7 [(0, .ref (SA.o aS)), (2, .int x2)] → W p l e ({ frames := fr + 6, cells := 0, slots := 0, locals := lo + 120 } : Room) s m args below meth c H locs 0 0 (Ev below args s A D (fun (u : SV) => (sW t aS u)) (fun (u : SV) => Q u) 0 0) (F0 m 2 ls []) := by
  intro vS x2 H locs ls h hw hl
  have hx := X.1.1
  have hb := X.1.2.1
  refine lv_iload_n hx hb dX4_fillFrom_2 rfl (lv_at hl 1 rfl) ?_
  refine lv_aload_n hx hb dX4_fillFrom_3 rfl (lv_at hl 0 rfl) ?_
  refine r_get (ci := 4) (C := RX4) (T := TX4) (N := 7) X hw 0 rfl rfl 0 (by decide) in_X4_fillFrom_X4 fl_X4_fillFrom_12 (v := .ref (BA.o (SA.trial aS))) rfl dX4_fillFrom_4 ?_
  refine r_ci X hw (pm_r (pm_l pm_0)) (wn := fun (u : BV) => (sW t aS (SV.s_trial vS u))) (fun u => (pm_r (pm_l pm_0)).symm) (r_runV X hw (c_X0_cells l D t (SA.trial aS) (SV.trial vS) _ h) (pm_r (pm_l pm_0)) (cwV 0 X.1.2.2.2.2 gX4_fillFrom_X0_cells rfl rfl rfl (by decide +kernel) ⟨by show 0 + 1 ≤ fr + 6; omega, by show 8 + (1 + 11) + 0 ≤ lo + 120; omega⟩) (ci := 0) rfl rfl rfl rfl hl rfl (Nat.le_of_ble_eq_true rfl) dX4_fillFrom_7 ⟨Nat.le_of_ble_eq_true rfl, Nat.le_of_ble_eq_true rfl⟩) (fun r_2 u H locs h hw => ?_)
  obtain ⟨vB_1, rfl⟩ : ∃ z, z = u := ⟨_, rfl⟩
  refine lv_icmp_ge (tgt := 30) hx hb dX4_fillFrom_10 (by decide) (fun c_7 => ?_) (fun c_7 => ?_)
  · replace h := h.1 c_7
    exact hK30 _ _ _ _ _ h hw hl
  replace h := h.2 c_7
  refine lv_aload_n hx hb dX4_fillFrom_13 rfl (lv_at hl 0 rfl) ?_
  refine r_get (ci := 4) (C := RX4) (T := TX4) (N := 7) X hw 0 rfl rfl 0 (by decide) in_X4_fillFrom_X4 fl_X4_fillFrom_12 (v := .ref (BA.o (SA.trial aS))) rfl dX4_fillFrom_14 ?_
  refine lv_iload_n hx hb dX4_fillFrom_17 rfl (lv_at hl 1 rfl) ?_
  refine r_ci X hw (pm_r (pm_l pm_0)) (wn := fun (u : BV) => (sW t aS (SV.s_trial vS u))) (fun u => (pm_r (pm_l pm_0)).symm) (r_runV X hw (c_X0_isEmpty l D t (SA.trial aS) vB_1 x2 _ h) (pm_r (pm_l pm_0)) (cwV 1 X.1.2.2.2.2 gX4_fillFrom_X0_isEmpty rfl rfl rfl (by decide +kernel) ⟨by show 0 + 1 ≤ fr + 6; omega, by show 8 + (2 + 11) + 0 ≤ lo + 120; omega⟩) (ci := 0) rfl rfl rfl rfl hl rfl (Nat.le_of_ble_eq_true rfl) dX4_fillFrom_18 ⟨Nat.le_of_ble_eq_true rfl, Nat.le_of_ble_eq_true rfl⟩) (fun r_4 u H locs h hw => ?_)
  obtain ⟨vB_3, rfl⟩ : ∃ z, z = u := ⟨_, rfl⟩
  refine lv_if_ne (tgt := 30) hx hb dX4_fillFrom_21 (by decide) (fun c_6 => ?_) (fun c_6 => ?_)
  · replace h := h.1 c_6
    exact hK30 _ _ _ _ _ h hw hl
  replace h := h.2 c_6
  obtain ⟨x2_5, ex2_5⟩ : ∃ z : Int32, z = x2 + 1 := ⟨_, rfl⟩
  replace h := h x2_5 ex2_5
  refine lv_iinc (v := x2_5) (lv' := [(2, .int x2_5), (0, .ref (SA.o aS))]) hx hb dX4_fillFrom_24 hl (k := 1) rfl (by rw [ex2_5]; rfl) (by decide) rfl (fun ls hl => ?_)
  refine lv_goto (tgt := 2) hx hb dX4_fillFrom_27 (by decide) ?_
  exact hP _ _ _ _ _ h hw (lv_sub hl [1, 0] rfl)
set_option maxHeartbeats 4000000 in
set_option maxRecDepth 100000 in
theorem k_X4_fillFrom_2 {p : Program} {l : Launch} {e : Env} {s : State} {m : MethodId} {below : List Frame} {meth : Method} {c : Code} {args : Array Value} {D : va_G} {t : T3} {A : Nat → Prop} {fr lo : Nat} {F : SV → Int32 → (SV → Prop) → Prop} (X : Cx p s m meth c args cX4_fillFrom 7 none RX4 wsX4_fillFrom D t A) (hF : ∀ (aS : SA) (vS : SV) (p1 : Int32) (Q : SV → Prop), F vS p1 Q → Ct l yX4_fillFrom wsX4_fillFrom fr lo 0 0 [.ref (SA.o aS), .int p1] D t (sW t aS vS) (fun sz => Qv D (sW t aS vS) (fun (u : SV) => (sW t aS u)) (fun (u : SV) => Q u) sz)) (aS : SA) {Q : SV → Prop} {K30 : SV → Int32 → Prop} (hK30 : ∀ (vS : SV) (x2 : Int32) (H : Heap) (locs : List Loc) (ls : Array Slot), K30 vS x2 → Wd D A s.heap (sW t aS vS) H locs → lv_has ls 7 [(0, .ref (SA.o aS)), (2, .int x2)] → W p l e ({ frames := fr + 6, cells := 0, slots := 0, locals := lo + 120 } : Room) s m args below meth c H locs 0 0 (Ev below args s A D (fun (u : SV) => (sW t aS u)) (fun (u : SV) => Q u) 0 0) (F0 m 30 ls [])) : ∀ (vS : SV) (x2 : Int32) (H : Heap) (locs : List Loc) (ls : Array Slot), wp_X4_fillFrom_2 F Q K30 vS x2 → Wd D A s.heap (sW t aS vS) H locs → lv_has ls 7 [(0, .ref (SA.o aS)), (2, .int x2)] → W p l e ({ frames := fr + 6, cells := 0, slots := 0, locals := lo + 120 } : Room) s m args below meth c H locs 0 0 (Ev below args s A D (fun (u : SV) => (sW t aS u)) (fun (u : SV) => Q u) 0 0) (F0 m 2 ls []) := by
  intro vS x2 H locs ls h hw hl
  have hx := X.1.1
  have hb := X.1.2.1
  refine h (fun (vS : SV) (x2 : Int32) => ∀ (H : Heap) (locs : List Loc) (ls : Array Slot), Wd D A s.heap (sW t aS vS) H locs → lv_has ls 7 [(0, .ref (SA.o aS)), (2, .int x2)] → W p l e ({ frames := fr + 6, cells := 0, slots := 0, locals := lo + 120 } : Room) s m args below meth c H locs 0 0 (Ev below args s A D (fun (u : SV) => (sW t aS u)) (fun (u : SV) => Q u) 0 0) (F0 m 2 ls [])) (fun vS x2 h H locs ls hw hl => ?_) H locs ls hw hl
  exact kb_X4_fillFrom_2 X hF aS (fun vS x2 H locs ls q hw hl => q H locs ls hw hl) hK30 vS x2 _ _ _ h hw hl
def wp_X4_fillFrom_182 (F : SV → Int32 → (SV → Prop) → Prop) (P : SV → Int32 → Int32 → Int32 → Int32 → Prop) (K188 : SV → Int32 → Int32 → Prop) (Q : SV → Prop) (vS : SV) (x2 : Int32) (x3 : Int32) (x5 : Int32) (x6 : Int32) : Prop := ∀ x6_28 : Int32, x6_28 = x6 + 1 → P vS x2 x3 x5 x6_28
set_option maxHeartbeats 4000000 in
set_option maxRecDepth 100000 in
theorem k_X4_fillFrom_182 {p : Program} {l : Launch} {e : Env} {s : State} {m : MethodId} {below : List Frame} {meth : Method} {c : Code} {args : Array Value} {D : va_G} {t : T3} {A : Nat → Prop} {fr lo : Nat} {F : SV → Int32 → (SV → Prop) → Prop} (X : Cx p s m meth c args cX4_fillFrom 7 none RX4 wsX4_fillFrom D t A) (hF : ∀ (aS : SA) (vS : SV) (p1 : Int32) (Q : SV → Prop), F vS p1 Q → Ct l yX4_fillFrom wsX4_fillFrom fr lo 0 0 [.ref (SA.o aS), .int p1] D t (sW t aS vS) (fun sz => Qv D (sW t aS vS) (fun (u : SV) => (sW t aS u)) (fun (u : SV) => Q u) sz)) (aS : SA) {P : SV → Int32 → Int32 → Int32 → Int32 → Prop} {K188 : SV → Int32 → Int32 → Prop} {Q : SV → Prop} (hP : ∀ (vS : SV) (x2 : Int32) (x3 : Int32) (x5 : Int32) (x6 : Int32) (H : Heap) (locs : List Loc) (ls : Array Slot), P vS x2 x3 x5 x6 → Wd D A s.heap (sW t aS vS) H locs → lv_has ls 7 [(0, .ref (SA.o aS)), (2, .int x2), (3, .int x3), (5, .int x5), (6, .int x6)] → W p l e ({ frames := fr + 6, cells := 0, slots := 0, locals := lo + 120 } : Room) s m args below meth c H locs 0 0 (Ev below args s A D (fun (u : SV) => (sW t aS u)) (fun (u : SV) => Q u) 0 0) (F0 m 139 ls [])) (hK188 : ∀ (vS : SV) (x2 : Int32) (x3 : Int32) (H : Heap) (locs : List Loc) (ls : Array Slot), K188 vS x2 x3 → Wd D A s.heap (sW t aS vS) H locs → lv_has ls 7 [(0, .ref (SA.o aS)), (2, .int x2), (3, .int x3)] → W p l e ({ frames := fr + 6, cells := 0, slots := 0, locals := lo + 120 } : Room) s m args below meth c H locs 0 0 (Ev below args s A D (fun (u : SV) => (sW t aS u)) (fun (u : SV) => Q u) 0 0) (F0 m 188 ls [])) : ∀ (vS : SV) (x2 : Int32) (x3 : Int32) (x5 : Int32) (x6 : Int32) (H : Heap) (locs : List Loc) (ls : Array Slot), wp_X4_fillFrom_182 F P K188 Q vS x2 x3 x5 x6 → Wd D A s.heap (sW t aS vS) H locs → lv_has ls 7 [(0, .ref (SA.o aS)), (2, .int x2), (3, .int x3), (5, .int x5), (6, .int x6)] → W p l e ({ frames := fr + 6, cells := 0, slots := 0, locals := lo + 120 } : Room) s m args below meth c H locs 0 0 (Ev below args s A D (fun (u : SV) => (sW t aS u)) (fun (u : SV) => Q u) 0 0) (F0 m 182 ls []) := by
  intro vS x2 x3 x5 x6 H locs ls h hw hl
  have hx := X.1.1
  have hb := X.1.2.1
  obtain ⟨x6_28, ex6_28⟩ : ∃ z : Int32, z = x6 + 1 := ⟨_, rfl⟩
  replace h := h x6_28 ex6_28
  refine lv_iinc (v := x6_28) (lv' := [(6, .int x6_28), (0, .ref (SA.o aS)), (2, .int x2), (3, .int x3), (5, .int x5)]) hx hb dX4_fillFrom_182 hl (k := 4) rfl (by rw [ex6_28]; rfl) (by decide) rfl (fun ls hl => ?_)
  refine lv_goto (tgt := 139) hx hb dX4_fillFrom_185 (by decide) ?_
  exact hP _ _ _ _ _ _ _ _ h hw (lv_sub hl [1, 2, 3, 4, 0] rfl)
def bd_X4_fillFrom_139 (F : SV → Int32 → (SV → Prop) → Prop) (Q : SV → Prop) (P : SV → Int32 → Int32 → Int32 → Int32 → Prop) (K188 : SV → Int32 → Int32 → Prop) (vS : SV) (x2 : Int32) (x3 : Int32) (x5 : Int32) (x6 : Int32) : Prop := (x5 ≤ x6 → K188 vS x2 x3) ∧ (¬ x5 ≤ x6 → (¬ (SV.over vS) = 0 → K188 vS x2 x3) ∧ ((SV.over vS) = 0 → vp_in x2 12 ∧ ∀ j_21 : Nat, j_21 < 12 → x2 = nI j_21 → vp_in x6 96 ∧ wp_X3_reasonAgainst ((SV.needs vS) j_21) ((BV.looks (SV.trial vS)) (Int32.toNatClampNeg x6)) (fun (r_27 : Int32) (vN_26 : NV) => (¬ r_27 = 0 → wp_X4_fillFrom_182 F  P K188 Q (SV.s_needs vS (upE (SV.needs vS) j_21 vN_26)) x2 x3 x5 x6) ∧ (r_27 = 0 → wp_X4_tryPlacing F (SV.s_needs vS (upE (SV.needs vS) j_21 vN_26)) x2 x6 (fun (vS_29 : SV) => wp_X4_fillFrom_182 F  P K188 Q vS_29 x2 x3 x5 x6)))))
def wp_X4_fillFrom_139 (F : SV → Int32 → (SV → Prop) → Prop) (Q : SV → Prop) (K188 : SV → Int32 → Int32 → Prop) (vS : SV) (x2 : Int32) (x3 : Int32) (x5 : Int32) (x6 : Int32) : Prop := ∀ P : SV → Int32 → Int32 → Int32 → Int32 → Prop, (∀ (vS : SV) (x2 : Int32) (x3 : Int32) (x5 : Int32) (x6 : Int32), bd_X4_fillFrom_139 F Q P K188 vS x2 x3 x5 x6 → P vS x2 x3 x5 x6) → P vS x2 x3 x5 x6
set_option maxHeartbeats 4000000 in
set_option maxRecDepth 100000 in
theorem kb_X4_fillFrom_139 {p : Program} {l : Launch} {e : Env} {s : State} {m : MethodId} {below : List Frame} {meth : Method} {c : Code} {args : Array Value} {D : va_G} {t : T3} {A : Nat → Prop} {fr lo : Nat} {F : SV → Int32 → (SV → Prop) → Prop} (X : Cx p s m meth c args cX4_fillFrom 7 none RX4 wsX4_fillFrom D t A) (hF : ∀ (aS : SA) (vS : SV) (p1 : Int32) (Q : SV → Prop), F vS p1 Q → Ct l yX4_fillFrom wsX4_fillFrom fr lo 0 0 [.ref (SA.o aS), .int p1] D t (sW t aS vS) (fun sz => Qv D (sW t aS vS) (fun (u : SV) => (sW t aS u)) (fun (u : SV) => Q u) sz)) (aS : SA) {Q : SV → Prop} {P : SV → Int32 → Int32 → Int32 → Int32 → Prop} {K188 : SV → Int32 → Int32 → Prop} (hP : ∀ (vS : SV) (x2 : Int32) (x3 : Int32) (x5 : Int32) (x6 : Int32) (H : Heap) (locs : List Loc) (ls : Array Slot), P vS x2 x3 x5 x6 → Wd D A s.heap (sW t aS vS) H locs → lv_has ls 7 [(0, .ref (SA.o aS)), (2, .int x2), (3, .int x3), (5, .int x5), (6, .int x6)] → W p l e ({ frames := fr + 6, cells := 0, slots := 0, locals := lo + 120 } : Room) s m args below meth c H locs 0 0 (Ev below args s A D (fun (u : SV) => (sW t aS u)) (fun (u : SV) => Q u) 0 0) (F0 m 139 ls [])) (hK188 : ∀ (vS : SV) (x2 : Int32) (x3 : Int32) (H : Heap) (locs : List Loc) (ls : Array Slot), K188 vS x2 x3 → Wd D A s.heap (sW t aS vS) H locs → lv_has ls 7 [(0, .ref (SA.o aS)), (2, .int x2), (3, .int x3)] → W p l e ({ frames := fr + 6, cells := 0, slots := 0, locals := lo + 120 } : Room) s m args below meth c H locs 0 0 (Ev below args s A D (fun (u : SV) => (sW t aS u)) (fun (u : SV) => Q u) 0 0) (F0 m 188 ls [])) : ∀ (vS : SV) (x2 : Int32) (x3 : Int32) (x5 : Int32) (x6 : Int32) (H : Heap) (locs : List Loc) (ls : Array Slot), bd_X4_fillFrom_139 F Q P K188 vS x2 x3 x5 x6 → Wd D A s.heap (sW t aS vS) H locs → lv_has ls 7 [(0, .ref (SA.o aS)), (2, .int x2), (3, .int x3), (5, .int x5), (6, .int x6)] → W p l e ({ frames := fr + 6, cells := 0, slots := 0, locals := lo + 120 } : Room) s m args below meth c H locs 0 0 (Ev below args s A D (fun (u : SV) => (sW t aS u)) (fun (u : SV) => Q u) 0 0) (F0 m 139 ls []) := by
  intro vS x2 x3 x5 x6 H locs ls h hw hl
  have hx := X.1.1
  have hb := X.1.2.1
  refine lv_iload hx hb dX4_fillFrom_139 (lv_at hl 4 rfl) ?_
  refine lv_iload hx hb dX4_fillFrom_141 (lv_at hl 3 rfl) ?_
  refine lv_icmp_ge (tgt := 188) hx hb dX4_fillFrom_143 (by decide) (fun c_32 => ?_) (fun c_32 => ?_)
  · replace h := h.1 c_32
    exact hK188 _ _ _ _ _ _ h hw (lv_sub hl [0, 1, 2] rfl)
  replace h := h.2 c_32
  refine lv_aload_n hx hb dX4_fillFrom_146 rfl (lv_at hl 0 rfl) ?_
  refine r_get (ci := 4) (C := RX4) (T := TX4) (N := 7) X hw 0 rfl rfl 6 (by decide) in_X4_fillFrom_X4 fl_X4_fillFrom_38 (v := .int (SV.over vS)) rfl dX4_fillFrom_147 ?_
  refine lv_if_ne (tgt := 188) hx hb dX4_fillFrom_150 (by decide) (fun c_31 => ?_) (fun c_31 => ?_)
  · replace h := h.1 c_31
    exact hK188 _ _ _ _ _ _ h hw (lv_sub hl [0, 1, 2] rfl)
  replace h := h.2 c_31
  refine lv_aload_n hx hb dX4_fillFrom_153 rfl (lv_at hl 0 rfl) ?_
  refine r_get (ci := 4) (C := RX4) (T := TX4) (N := 7) X hw 0 rfl rfl 2 (by decide) in_X4_fillFrom_X4 fl_X4_fillFrom_24 (v := .ref (SA.needs aS)) rfl dX4_fillFrom_154 ?_
  refine lv_iload_n hx hb dX4_fillFrom_157 rfl (lv_at hl 1 rfl) ?_
  obtain ⟨hi_24, h⟩ := h
  obtain ⟨j_21, hj_22, ej_23⟩ := idx_of (by decide) hi_24
  replace h := h j_21 hj_22 ej_23
  refine r_aald (C := "TwoFacedTiles$Needs") (b := ((SA.needs_e aS) j_21)) X hw 5 2 rfl rfl hi_24 (by rw [ej_23, nI_clamp (by omega)]) dX4_fillFrom_158 ?_
  refine lv_aload_n hx hb dX4_fillFrom_159 rfl (lv_at hl 0 rfl) ?_
  refine r_get (ci := 4) (C := RX4) (T := TX4) (N := 7) X hw 0 rfl rfl 0 (by decide) in_X4_fillFrom_X4 fl_X4_fillFrom_12 (v := .ref (BA.o (SA.trial aS))) rfl dX4_fillFrom_160 ?_
  refine r_get (ci := 0) (C := RX0) (T := TX0) (N := 8) X hw 1 rfl rfl 7 (by decide) in_X4_fillFrom_X0 fl_X4_fillFrom_75 (v := .ref (BA.looks (SA.trial aS))) rfl dX4_fillFrom_163 ?_
  refine lv_iload hx hb dX4_fillFrom_166 (lv_at hl 4 rfl) ?_
  obtain ⟨hi_25, h⟩ := h
  refine r_iald (v := ((BV.looks (SV.trial vS)) (Int32.toNatClampNeg x6))) X hw 4 rfl hi_25 rfl dX4_fillFrom_168 ?_
  have kk : ∀ (r_27 : Int32) (u : NV) (H : Heap) (locs : List Loc), (fun (r_27 : Int32) (vN_26 : NV) => (¬ r_27 = 0 → wp_X4_fillFrom_182 F  P K188 Q (SV.s_needs vS (upE (SV.needs vS) j_21 vN_26)) x2 x3 x5 x6) ∧ (r_27 = 0 → wp_X4_tryPlacing F (SV.s_needs vS (upE (SV.needs vS) j_21 vN_26)) x2 x6 (fun (vS_29 : SV) => wp_X4_fillFrom_182 F  P K188 Q vS_29 x2 x3 x5 x6))) r_27 u → Wd D A s.heap (sW t aS (SV.s_needs vS (upE (SV.needs vS) j_21 u))) H locs → W p l e ({ frames := fr + 6, cells := 0, slots := 0, locals := lo + 120 } : Room) s m args below meth c H locs 0 0 (Ev below args s A D (fun (u : SV) => (sW t aS u)) (fun (u : SV) => Q u) 0 0) (F0 m 172 ls [.int r_27]) := by
    intro r_27 u H locs h hw
    obtain ⟨vN_26, rfl⟩ : ∃ z, z = u := ⟨_, rfl⟩
    refine lv_if_ne (tgt := 182) hx hb dX4_fillFrom_172 (by decide) (fun c_30 => ?_) (fun c_30 => ?_)
    · replace h := h.1 c_30
      exact k_X4_fillFrom_182 X hF aS hP hK188 _ _ _ _ _ _ _ _ h hw hl
    replace h := h.2 c_30
    refine lv_aload_n hx hb dX4_fillFrom_175 rfl (lv_at hl 0 rfl) ?_
    refine lv_iload_n hx hb dX4_fillFrom_176 rfl (lv_at hl 1 rfl) ?_
    refine lv_iload hx hb dX4_fillFrom_177 (lv_at hl 4 rfl) ?_
    refine r_cv X hw pm_0 (wn := fun (u : SV) => (sW t aS u)) (fun u => pm_0.symm) (r_runV X hw (c_X4_tryPlacing l D t fr lo F hF aS (SV.s_needs vS (upE (SV.needs vS) j_21 vN_26)) x2 x6 _ h) pm_0 (cwV 2 X.1.2.2.2.2 gX4_fillFrom_X4_tryPlacing rfl rfl rfl (by decide +kernel) ⟨by show fr + 1 + 1 ≤ fr + 6; omega, by show 8 + (3 + 11) + (lo + 26) ≤ lo + 120; omega⟩) (ci := 4) rfl rfl rfl rfl hl rfl (Nat.le_of_ble_eq_true rfl) dX4_fillFrom_179 ⟨Nat.le_of_ble_eq_true rfl, Nat.le_of_ble_eq_true rfl⟩) (fun u H locs h hw => ?_)
    obtain ⟨vS_29, rfl⟩ : ∃ z, z = u := ⟨_, rfl⟩
    exact k_X4_fillFrom_182 X hF aS hP hK188 _ _ _ _ _ _ _ _ h hw hl
  rcases cases12 hj_22 with rfl | rfl | rfl | rfl | rfl | rfl | rfl | rfl | rfl | rfl | rfl | rfl
  · exact r_ci X hw (pm_r (pm_r (pm_r (pm_l pm_0)))) (wn := fun (u : NV) => (sW t aS (SV.s_needs vS (upE (SV.needs vS) 0 u)))) (fun u => (pm_r (pm_r (pm_r (pm_l pm_0)))).symm) (r_runV X hw (c_X3_reasonAgainst l D t ((SA.needs_e aS) 0) ((SV.needs vS) 0) ((BV.looks (SV.trial vS)) (Int32.toNatClampNeg x6)) _ h) (pm_r (pm_r (pm_r (pm_l pm_0)))) (cwV 1 X.1.2.2.2.2 gX4_fillFrom_X3_reasonAgainst rfl rfl rfl (by decide +kernel) ⟨by show 0 + 1 ≤ fr + 6; omega, by show 8 + (3 + 11) + 0 ≤ lo + 120; omega⟩) (ci := 3) rfl rfl rfl rfl hl rfl (Nat.le_of_ble_eq_true rfl) dX4_fillFrom_169 ⟨Nat.le_of_ble_eq_true rfl, Nat.le_of_ble_eq_true rfl⟩) kk
  · exact r_ci X hw (pm_r (pm_r (pm_r (pm_r (pm_l pm_0))))) (wn := fun (u : NV) => (sW t aS (SV.s_needs vS (upE (SV.needs vS) 1 u)))) (fun u => (pm_r (pm_r (pm_r (pm_r (pm_l pm_0))))).symm) (r_runV X hw (c_X3_reasonAgainst l D t ((SA.needs_e aS) 1) ((SV.needs vS) 1) ((BV.looks (SV.trial vS)) (Int32.toNatClampNeg x6)) _ h) (pm_r (pm_r (pm_r (pm_r (pm_l pm_0))))) (cwV 1 X.1.2.2.2.2 gX4_fillFrom_X3_reasonAgainst rfl rfl rfl (by decide +kernel) ⟨by show 0 + 1 ≤ fr + 6; omega, by show 8 + (3 + 11) + 0 ≤ lo + 120; omega⟩) (ci := 3) rfl rfl rfl rfl hl rfl (Nat.le_of_ble_eq_true rfl) dX4_fillFrom_169 ⟨Nat.le_of_ble_eq_true rfl, Nat.le_of_ble_eq_true rfl⟩) kk
  · exact r_ci X hw (pm_r (pm_r (pm_r (pm_r (pm_r (pm_l pm_0)))))) (wn := fun (u : NV) => (sW t aS (SV.s_needs vS (upE (SV.needs vS) 2 u)))) (fun u => (pm_r (pm_r (pm_r (pm_r (pm_r (pm_l pm_0)))))).symm) (r_runV X hw (c_X3_reasonAgainst l D t ((SA.needs_e aS) 2) ((SV.needs vS) 2) ((BV.looks (SV.trial vS)) (Int32.toNatClampNeg x6)) _ h) (pm_r (pm_r (pm_r (pm_r (pm_r (pm_l pm_0)))))) (cwV 1 X.1.2.2.2.2 gX4_fillFrom_X3_reasonAgainst rfl rfl rfl (by decide +kernel) ⟨by show 0 + 1 ≤ fr + 6; omega, by show 8 + (3 + 11) + 0 ≤ lo + 120; omega⟩) (ci := 3) rfl rfl rfl rfl hl rfl (Nat.le_of_ble_eq_true rfl) dX4_fillFrom_169 ⟨Nat.le_of_ble_eq_true rfl, Nat.le_of_ble_eq_true rfl⟩) kk
  · exact r_ci X hw (pm_r (pm_r (pm_r (pm_r (pm_r (pm_r (pm_l pm_0))))))) (wn := fun (u : NV) => (sW t aS (SV.s_needs vS (upE (SV.needs vS) 3 u)))) (fun u => (pm_r (pm_r (pm_r (pm_r (pm_r (pm_r (pm_l pm_0))))))).symm) (r_runV X hw (c_X3_reasonAgainst l D t ((SA.needs_e aS) 3) ((SV.needs vS) 3) ((BV.looks (SV.trial vS)) (Int32.toNatClampNeg x6)) _ h) (pm_r (pm_r (pm_r (pm_r (pm_r (pm_r (pm_l pm_0))))))) (cwV 1 X.1.2.2.2.2 gX4_fillFrom_X3_reasonAgainst rfl rfl rfl (by decide +kernel) ⟨by show 0 + 1 ≤ fr + 6; omega, by show 8 + (3 + 11) + 0 ≤ lo + 120; omega⟩) (ci := 3) rfl rfl rfl rfl hl rfl (Nat.le_of_ble_eq_true rfl) dX4_fillFrom_169 ⟨Nat.le_of_ble_eq_true rfl, Nat.le_of_ble_eq_true rfl⟩) kk
  · exact r_ci X hw (pm_r (pm_r (pm_r (pm_r (pm_r (pm_r (pm_r (pm_l pm_0)))))))) (wn := fun (u : NV) => (sW t aS (SV.s_needs vS (upE (SV.needs vS) 4 u)))) (fun u => (pm_r (pm_r (pm_r (pm_r (pm_r (pm_r (pm_r (pm_l pm_0)))))))).symm) (r_runV X hw (c_X3_reasonAgainst l D t ((SA.needs_e aS) 4) ((SV.needs vS) 4) ((BV.looks (SV.trial vS)) (Int32.toNatClampNeg x6)) _ h) (pm_r (pm_r (pm_r (pm_r (pm_r (pm_r (pm_r (pm_l pm_0)))))))) (cwV 1 X.1.2.2.2.2 gX4_fillFrom_X3_reasonAgainst rfl rfl rfl (by decide +kernel) ⟨by show 0 + 1 ≤ fr + 6; omega, by show 8 + (3 + 11) + 0 ≤ lo + 120; omega⟩) (ci := 3) rfl rfl rfl rfl hl rfl (Nat.le_of_ble_eq_true rfl) dX4_fillFrom_169 ⟨Nat.le_of_ble_eq_true rfl, Nat.le_of_ble_eq_true rfl⟩) kk
  · exact r_ci X hw (pm_r (pm_r (pm_r (pm_r (pm_r (pm_r (pm_r (pm_r (pm_l pm_0))))))))) (wn := fun (u : NV) => (sW t aS (SV.s_needs vS (upE (SV.needs vS) 5 u)))) (fun u => (pm_r (pm_r (pm_r (pm_r (pm_r (pm_r (pm_r (pm_r (pm_l pm_0))))))))).symm) (r_runV X hw (c_X3_reasonAgainst l D t ((SA.needs_e aS) 5) ((SV.needs vS) 5) ((BV.looks (SV.trial vS)) (Int32.toNatClampNeg x6)) _ h) (pm_r (pm_r (pm_r (pm_r (pm_r (pm_r (pm_r (pm_r (pm_l pm_0))))))))) (cwV 1 X.1.2.2.2.2 gX4_fillFrom_X3_reasonAgainst rfl rfl rfl (by decide +kernel) ⟨by show 0 + 1 ≤ fr + 6; omega, by show 8 + (3 + 11) + 0 ≤ lo + 120; omega⟩) (ci := 3) rfl rfl rfl rfl hl rfl (Nat.le_of_ble_eq_true rfl) dX4_fillFrom_169 ⟨Nat.le_of_ble_eq_true rfl, Nat.le_of_ble_eq_true rfl⟩) kk
  · exact r_ci X hw (pm_r (pm_r (pm_r (pm_r (pm_r (pm_r (pm_r (pm_r (pm_r (pm_l pm_0)))))))))) (wn := fun (u : NV) => (sW t aS (SV.s_needs vS (upE (SV.needs vS) 6 u)))) (fun u => (pm_r (pm_r (pm_r (pm_r (pm_r (pm_r (pm_r (pm_r (pm_r (pm_l pm_0)))))))))).symm) (r_runV X hw (c_X3_reasonAgainst l D t ((SA.needs_e aS) 6) ((SV.needs vS) 6) ((BV.looks (SV.trial vS)) (Int32.toNatClampNeg x6)) _ h) (pm_r (pm_r (pm_r (pm_r (pm_r (pm_r (pm_r (pm_r (pm_r (pm_l pm_0)))))))))) (cwV 1 X.1.2.2.2.2 gX4_fillFrom_X3_reasonAgainst rfl rfl rfl (by decide +kernel) ⟨by show 0 + 1 ≤ fr + 6; omega, by show 8 + (3 + 11) + 0 ≤ lo + 120; omega⟩) (ci := 3) rfl rfl rfl rfl hl rfl (Nat.le_of_ble_eq_true rfl) dX4_fillFrom_169 ⟨Nat.le_of_ble_eq_true rfl, Nat.le_of_ble_eq_true rfl⟩) kk
  · exact r_ci X hw (pm_r (pm_r (pm_r (pm_r (pm_r (pm_r (pm_r (pm_r (pm_r (pm_r (pm_l pm_0))))))))))) (wn := fun (u : NV) => (sW t aS (SV.s_needs vS (upE (SV.needs vS) 7 u)))) (fun u => (pm_r (pm_r (pm_r (pm_r (pm_r (pm_r (pm_r (pm_r (pm_r (pm_r (pm_l pm_0))))))))))).symm) (r_runV X hw (c_X3_reasonAgainst l D t ((SA.needs_e aS) 7) ((SV.needs vS) 7) ((BV.looks (SV.trial vS)) (Int32.toNatClampNeg x6)) _ h) (pm_r (pm_r (pm_r (pm_r (pm_r (pm_r (pm_r (pm_r (pm_r (pm_r (pm_l pm_0))))))))))) (cwV 1 X.1.2.2.2.2 gX4_fillFrom_X3_reasonAgainst rfl rfl rfl (by decide +kernel) ⟨by show 0 + 1 ≤ fr + 6; omega, by show 8 + (3 + 11) + 0 ≤ lo + 120; omega⟩) (ci := 3) rfl rfl rfl rfl hl rfl (Nat.le_of_ble_eq_true rfl) dX4_fillFrom_169 ⟨Nat.le_of_ble_eq_true rfl, Nat.le_of_ble_eq_true rfl⟩) kk
  · exact r_ci X hw (pm_r (pm_r (pm_r (pm_r (pm_r (pm_r (pm_r (pm_r (pm_r (pm_r (pm_r (pm_l pm_0)))))))))))) (wn := fun (u : NV) => (sW t aS (SV.s_needs vS (upE (SV.needs vS) 8 u)))) (fun u => (pm_r (pm_r (pm_r (pm_r (pm_r (pm_r (pm_r (pm_r (pm_r (pm_r (pm_r (pm_l pm_0)))))))))))).symm) (r_runV X hw (c_X3_reasonAgainst l D t ((SA.needs_e aS) 8) ((SV.needs vS) 8) ((BV.looks (SV.trial vS)) (Int32.toNatClampNeg x6)) _ h) (pm_r (pm_r (pm_r (pm_r (pm_r (pm_r (pm_r (pm_r (pm_r (pm_r (pm_r (pm_l pm_0)))))))))))) (cwV 1 X.1.2.2.2.2 gX4_fillFrom_X3_reasonAgainst rfl rfl rfl (by decide +kernel) ⟨by show 0 + 1 ≤ fr + 6; omega, by show 8 + (3 + 11) + 0 ≤ lo + 120; omega⟩) (ci := 3) rfl rfl rfl rfl hl rfl (Nat.le_of_ble_eq_true rfl) dX4_fillFrom_169 ⟨Nat.le_of_ble_eq_true rfl, Nat.le_of_ble_eq_true rfl⟩) kk
  · exact r_ci X hw (pm_r (pm_r (pm_r (pm_r (pm_r (pm_r (pm_r (pm_r (pm_r (pm_r (pm_r (pm_r (pm_l pm_0))))))))))))) (wn := fun (u : NV) => (sW t aS (SV.s_needs vS (upE (SV.needs vS) 9 u)))) (fun u => (pm_r (pm_r (pm_r (pm_r (pm_r (pm_r (pm_r (pm_r (pm_r (pm_r (pm_r (pm_r (pm_l pm_0))))))))))))).symm) (r_runV X hw (c_X3_reasonAgainst l D t ((SA.needs_e aS) 9) ((SV.needs vS) 9) ((BV.looks (SV.trial vS)) (Int32.toNatClampNeg x6)) _ h) (pm_r (pm_r (pm_r (pm_r (pm_r (pm_r (pm_r (pm_r (pm_r (pm_r (pm_r (pm_r (pm_l pm_0))))))))))))) (cwV 1 X.1.2.2.2.2 gX4_fillFrom_X3_reasonAgainst rfl rfl rfl (by decide +kernel) ⟨by show 0 + 1 ≤ fr + 6; omega, by show 8 + (3 + 11) + 0 ≤ lo + 120; omega⟩) (ci := 3) rfl rfl rfl rfl hl rfl (Nat.le_of_ble_eq_true rfl) dX4_fillFrom_169 ⟨Nat.le_of_ble_eq_true rfl, Nat.le_of_ble_eq_true rfl⟩) kk
  · exact r_ci X hw (pm_r (pm_r (pm_r (pm_r (pm_r (pm_r (pm_r (pm_r (pm_r (pm_r (pm_r (pm_r (pm_r (pm_l pm_0)))))))))))))) (wn := fun (u : NV) => (sW t aS (SV.s_needs vS (upE (SV.needs vS) 10 u)))) (fun u => (pm_r (pm_r (pm_r (pm_r (pm_r (pm_r (pm_r (pm_r (pm_r (pm_r (pm_r (pm_r (pm_r (pm_l pm_0)))))))))))))).symm) (r_runV X hw (c_X3_reasonAgainst l D t ((SA.needs_e aS) 10) ((SV.needs vS) 10) ((BV.looks (SV.trial vS)) (Int32.toNatClampNeg x6)) _ h) (pm_r (pm_r (pm_r (pm_r (pm_r (pm_r (pm_r (pm_r (pm_r (pm_r (pm_r (pm_r (pm_r (pm_l pm_0)))))))))))))) (cwV 1 X.1.2.2.2.2 gX4_fillFrom_X3_reasonAgainst rfl rfl rfl (by decide +kernel) ⟨by show 0 + 1 ≤ fr + 6; omega, by show 8 + (3 + 11) + 0 ≤ lo + 120; omega⟩) (ci := 3) rfl rfl rfl rfl hl rfl (Nat.le_of_ble_eq_true rfl) dX4_fillFrom_169 ⟨Nat.le_of_ble_eq_true rfl, Nat.le_of_ble_eq_true rfl⟩) kk
  · exact r_ci X hw (pm_r (pm_r (pm_r (pm_r (pm_r (pm_r (pm_r (pm_r (pm_r (pm_r (pm_r (pm_r (pm_r (pm_r pm_0)))))))))))))) (wn := fun (u : NV) => (sW t aS (SV.s_needs vS (upE (SV.needs vS) 11 u)))) (fun u => (pm_r (pm_r (pm_r (pm_r (pm_r (pm_r (pm_r (pm_r (pm_r (pm_r (pm_r (pm_r (pm_r (pm_r pm_0)))))))))))))).symm) (r_runV X hw (c_X3_reasonAgainst l D t ((SA.needs_e aS) 11) ((SV.needs vS) 11) ((BV.looks (SV.trial vS)) (Int32.toNatClampNeg x6)) _ h) (pm_r (pm_r (pm_r (pm_r (pm_r (pm_r (pm_r (pm_r (pm_r (pm_r (pm_r (pm_r (pm_r (pm_r pm_0)))))))))))))) (cwV 1 X.1.2.2.2.2 gX4_fillFrom_X3_reasonAgainst rfl rfl rfl (by decide +kernel) ⟨by show 0 + 1 ≤ fr + 6; omega, by show 8 + (3 + 11) + 0 ≤ lo + 120; omega⟩) (ci := 3) rfl rfl rfl rfl hl rfl (Nat.le_of_ble_eq_true rfl) dX4_fillFrom_169 ⟨Nat.le_of_ble_eq_true rfl, Nat.le_of_ble_eq_true rfl⟩) kk
set_option maxHeartbeats 4000000 in
set_option maxRecDepth 100000 in
theorem k_X4_fillFrom_139 {p : Program} {l : Launch} {e : Env} {s : State} {m : MethodId} {below : List Frame} {meth : Method} {c : Code} {args : Array Value} {D : va_G} {t : T3} {A : Nat → Prop} {fr lo : Nat} {F : SV → Int32 → (SV → Prop) → Prop} (X : Cx p s m meth c args cX4_fillFrom 7 none RX4 wsX4_fillFrom D t A) (hF : ∀ (aS : SA) (vS : SV) (p1 : Int32) (Q : SV → Prop), F vS p1 Q → Ct l yX4_fillFrom wsX4_fillFrom fr lo 0 0 [.ref (SA.o aS), .int p1] D t (sW t aS vS) (fun sz => Qv D (sW t aS vS) (fun (u : SV) => (sW t aS u)) (fun (u : SV) => Q u) sz)) (aS : SA) {Q : SV → Prop} {K188 : SV → Int32 → Int32 → Prop} (hK188 : ∀ (vS : SV) (x2 : Int32) (x3 : Int32) (H : Heap) (locs : List Loc) (ls : Array Slot), K188 vS x2 x3 → Wd D A s.heap (sW t aS vS) H locs → lv_has ls 7 [(0, .ref (SA.o aS)), (2, .int x2), (3, .int x3)] → W p l e ({ frames := fr + 6, cells := 0, slots := 0, locals := lo + 120 } : Room) s m args below meth c H locs 0 0 (Ev below args s A D (fun (u : SV) => (sW t aS u)) (fun (u : SV) => Q u) 0 0) (F0 m 188 ls [])) : ∀ (vS : SV) (x2 : Int32) (x3 : Int32) (x5 : Int32) (x6 : Int32) (H : Heap) (locs : List Loc) (ls : Array Slot), wp_X4_fillFrom_139 F Q K188 vS x2 x3 x5 x6 → Wd D A s.heap (sW t aS vS) H locs → lv_has ls 7 [(0, .ref (SA.o aS)), (2, .int x2), (3, .int x3), (5, .int x5), (6, .int x6)] → W p l e ({ frames := fr + 6, cells := 0, slots := 0, locals := lo + 120 } : Room) s m args below meth c H locs 0 0 (Ev below args s A D (fun (u : SV) => (sW t aS u)) (fun (u : SV) => Q u) 0 0) (F0 m 139 ls []) := by
  intro vS x2 x3 x5 x6 H locs ls h hw hl
  have hx := X.1.1
  have hb := X.1.2.1
  refine h (fun (vS : SV) (x2 : Int32) (x3 : Int32) (x5 : Int32) (x6 : Int32) => ∀ (H : Heap) (locs : List Loc) (ls : Array Slot), Wd D A s.heap (sW t aS vS) H locs → lv_has ls 7 [(0, .ref (SA.o aS)), (2, .int x2), (3, .int x3), (5, .int x5), (6, .int x6)] → W p l e ({ frames := fr + 6, cells := 0, slots := 0, locals := lo + 120 } : Room) s m args below meth c H locs 0 0 (Ev below args s A D (fun (u : SV) => (sW t aS u)) (fun (u : SV) => Q u) 0 0) (F0 m 139 ls [])) (fun vS x2 x3 x5 x6 h H locs ls hw hl => ?_) H locs ls hw hl
  exact kb_X4_fillFrom_139 X hF aS (fun vS x2 x3 x5 x6 H locs ls q hw hl => q H locs ls hw hl) hK188 vS x2 x3 x5 x6 _ _ _ h hw hl
def wp_X4_fillFrom_188 (F : SV → Int32 → (SV → Prop) → Prop) (P : SV → Int32 → Int32 → Prop) (Q : SV → Prop) (vS : SV) (x2 : Int32) (x3 : Int32) : Prop := ∀ x3_36 : Int32, x3_36 = x3 + 1 → P vS x2 x3_36
set_option maxHeartbeats 4000000 in
set_option maxRecDepth 100000 in
theorem k_X4_fillFrom_188 {p : Program} {l : Launch} {e : Env} {s : State} {m : MethodId} {below : List Frame} {meth : Method} {c : Code} {args : Array Value} {D : va_G} {t : T3} {A : Nat → Prop} {fr lo : Nat} {F : SV → Int32 → (SV → Prop) → Prop} (X : Cx p s m meth c args cX4_fillFrom 7 none RX4 wsX4_fillFrom D t A) (hF : ∀ (aS : SA) (vS : SV) (p1 : Int32) (Q : SV → Prop), F vS p1 Q → Ct l yX4_fillFrom wsX4_fillFrom fr lo 0 0 [.ref (SA.o aS), .int p1] D t (sW t aS vS) (fun sz => Qv D (sW t aS vS) (fun (u : SV) => (sW t aS u)) (fun (u : SV) => Q u) sz)) (aS : SA) {P : SV → Int32 → Int32 → Prop} {Q : SV → Prop} (hP : ∀ (vS : SV) (x2 : Int32) (x3 : Int32) (H : Heap) (locs : List Loc) (ls : Array Slot), P vS x2 x3 → Wd D A s.heap (sW t aS vS) H locs → lv_has ls 7 [(0, .ref (SA.o aS)), (2, .int x2), (3, .int x3)] → W p l e ({ frames := fr + 6, cells := 0, slots := 0, locals := lo + 120 } : Room) s m args below meth c H locs 0 0 (Ev below args s A D (fun (u : SV) => (sW t aS u)) (fun (u : SV) => Q u) 0 0) (F0 m 88 ls [])) : ∀ (vS : SV) (x2 : Int32) (x3 : Int32) (H : Heap) (locs : List Loc) (ls : Array Slot), wp_X4_fillFrom_188 F P Q vS x2 x3 → Wd D A s.heap (sW t aS vS) H locs → lv_has ls 7 [(0, .ref (SA.o aS)), (2, .int x2), (3, .int x3)] → W p l e ({ frames := fr + 6, cells := 0, slots := 0, locals := lo + 120 } : Room) s m args below meth c H locs 0 0 (Ev below args s A D (fun (u : SV) => (sW t aS u)) (fun (u : SV) => Q u) 0 0) (F0 m 188 ls []) := by
  intro vS x2 x3 H locs ls h hw hl
  have hx := X.1.1
  have hb := X.1.2.1
  obtain ⟨x3_36, ex3_36⟩ : ∃ z : Int32, z = x3 + 1 := ⟨_, rfl⟩
  replace h := h x3_36 ex3_36
  refine lv_iinc (v := x3_36) (lv' := [(3, .int x3_36), (0, .ref (SA.o aS)), (2, .int x2)]) hx hb dX4_fillFrom_188 hl (k := 2) rfl (by rw [ex3_36]; rfl) (by decide) rfl (fun ls hl => ?_)
  refine lv_goto (tgt := 88) hx hb dX4_fillFrom_191 (by decide) ?_
  exact hP _ _ _ _ _ _ h hw (lv_sub hl [1, 2, 0] rfl)
def wp_X4_fillFrom_133 (F : SV → Int32 → (SV → Prop) → Prop) (P : SV → Int32 → Int32 → Prop) (Q : SV → Prop) (vS : SV) (x2 : Int32) (x3 : Int32) (x4 : Int32) (t0 : Int32) : Prop := wp_X4_fillFrom_139 F Q (fun (vS_33 : SV) (x2_34 : Int32) (x3_35 : Int32) => wp_X4_fillFrom_188 F  P Q vS_33 x2_34 x3_35) vS x2 x3 t0 x4
set_option maxHeartbeats 4000000 in
set_option maxRecDepth 100000 in
theorem k_X4_fillFrom_133 {p : Program} {l : Launch} {e : Env} {s : State} {m : MethodId} {below : List Frame} {meth : Method} {c : Code} {args : Array Value} {D : va_G} {t : T3} {A : Nat → Prop} {fr lo : Nat} {F : SV → Int32 → (SV → Prop) → Prop} (X : Cx p s m meth c args cX4_fillFrom 7 none RX4 wsX4_fillFrom D t A) (hF : ∀ (aS : SA) (vS : SV) (p1 : Int32) (Q : SV → Prop), F vS p1 Q → Ct l yX4_fillFrom wsX4_fillFrom fr lo 0 0 [.ref (SA.o aS), .int p1] D t (sW t aS vS) (fun sz => Qv D (sW t aS vS) (fun (u : SV) => (sW t aS u)) (fun (u : SV) => Q u) sz)) (aS : SA) {P : SV → Int32 → Int32 → Prop} {Q : SV → Prop} (hP : ∀ (vS : SV) (x2 : Int32) (x3 : Int32) (H : Heap) (locs : List Loc) (ls : Array Slot), P vS x2 x3 → Wd D A s.heap (sW t aS vS) H locs → lv_has ls 7 [(0, .ref (SA.o aS)), (2, .int x2), (3, .int x3)] → W p l e ({ frames := fr + 6, cells := 0, slots := 0, locals := lo + 120 } : Room) s m args below meth c H locs 0 0 (Ev below args s A D (fun (u : SV) => (sW t aS u)) (fun (u : SV) => Q u) 0 0) (F0 m 88 ls [])) : ∀ (vS : SV) (x2 : Int32) (x3 : Int32) (x4 : Int32) (t0 : Int32) (H : Heap) (locs : List Loc) (ls : Array Slot), wp_X4_fillFrom_133 F P Q vS x2 x3 x4 t0 → Wd D A s.heap (sW t aS vS) H locs → lv_has ls 7 [(0, .ref (SA.o aS)), (2, .int x2), (3, .int x3), (4, .int x4)] → W p l e ({ frames := fr + 6, cells := 0, slots := 0, locals := lo + 120 } : Room) s m args below meth c H locs 0 0 (Ev below args s A D (fun (u : SV) => (sW t aS u)) (fun (u : SV) => Q u) 0 0) (F0 m 133 ls [.int t0]) := by
  intro vS x2 x3 x4 t0 H locs ls h hw hl
  have hx := X.1.1
  have hb := X.1.2.1
  refine lv_istore (lv' := [(5, .int t0), (0, .ref (SA.o aS)), (2, .int x2), (3, .int x3), (4, .int x4)]) hx hb dX4_fillFrom_133 hl (by decide) rfl (fun ls hl => ?_)
  refine lv_iload hx hb dX4_fillFrom_135 (lv_at hl 4 rfl) ?_
  refine lv_istore (lv' := [(6, .int x4), (5, .int t0), (0, .ref (SA.o aS)), (2, .int x2), (3, .int x3), (4, .int x4)]) hx hb dX4_fillFrom_137 hl (by decide) rfl (fun ls hl => ?_)
  refine k_X4_fillFrom_139 X hF aS (fun vS_33 x2_34 x3_35 H locs ls h hw hl => ?_) _ _ _ _ _ _ _ _ h hw (lv_sub hl [2, 3, 4, 1, 0] rfl)
  exact k_X4_fillFrom_188 X hF aS hP _ _ _ _ _ _ h hw hl
def bd_X4_fillFrom_88 (F : SV → Int32 → (SV → Prop) → Prop) (Q : SV → Prop) (P : SV → Int32 → Int32 → Prop) (vS : SV) (x2 : Int32) (x3 : Int32) : Prop := ((BV.tiles (SV.trial vS)) ≤ x3 → Q vS) ∧ (¬ (BV.tiles (SV.trial vS)) ≤ x3 → (¬ (SV.over vS) = 0 → Q vS) ∧ ((SV.over vS) = 0 → ∀ x4_18 : Int32, x4_18 = (8 * x3) → wp_X0_isLaid (SV.trial vS) x3 (fun (r_20 : Int32) (vB_19 : BV) => (r_20 = 0 → wp_X4_fillFrom_133 F  P Q (SV.s_trial vS vB_19) x2 x3 x4_18 (x4_18 + 8)) ∧ (¬ r_20 = 0 → wp_X4_fillFrom_133 F  P Q (SV.s_trial vS vB_19) x2 x3 x4_18 x4_18))))
def wp_X4_fillFrom_88 (F : SV → Int32 → (SV → Prop) → Prop) (Q : SV → Prop)  (vS : SV) (x2 : Int32) (x3 : Int32) : Prop := ∀ P : SV → Int32 → Int32 → Prop, (∀ (vS : SV) (x2 : Int32) (x3 : Int32), bd_X4_fillFrom_88 F Q P  vS x2 x3 → P vS x2 x3) → P vS x2 x3
set_option maxHeartbeats 4000000 in
set_option maxRecDepth 100000 in
theorem kb_X4_fillFrom_88 {p : Program} {l : Launch} {e : Env} {s : State} {m : MethodId} {below : List Frame} {meth : Method} {c : Code} {args : Array Value} {D : va_G} {t : T3} {A : Nat → Prop} {fr lo : Nat} {F : SV → Int32 → (SV → Prop) → Prop} (X : Cx p s m meth c args cX4_fillFrom 7 none RX4 wsX4_fillFrom D t A) (hF : ∀ (aS : SA) (vS : SV) (p1 : Int32) (Q : SV → Prop), F vS p1 Q → Ct l yX4_fillFrom wsX4_fillFrom fr lo 0 0 [.ref (SA.o aS), .int p1] D t (sW t aS vS) (fun sz => Qv D (sW t aS vS) (fun (u : SV) => (sW t aS u)) (fun (u : SV) => Q u) sz)) (aS : SA) {Q : SV → Prop} {P : SV → Int32 → Int32 → Prop} (hP : ∀ (vS : SV) (x2 : Int32) (x3 : Int32) (H : Heap) (locs : List Loc) (ls : Array Slot), P vS x2 x3 → Wd D A s.heap (sW t aS vS) H locs → lv_has ls 7 [(0, .ref (SA.o aS)), (2, .int x2), (3, .int x3)] → W p l e ({ frames := fr + 6, cells := 0, slots := 0, locals := lo + 120 } : Room) s m args below meth c H locs 0 0 (Ev below args s A D (fun (u : SV) => (sW t aS u)) (fun (u : SV) => Q u) 0 0) (F0 m 88 ls [])) : ∀ (vS : SV) (x2 : Int32) (x3 : Int32) (H : Heap) (locs : List Loc) (ls : Array Slot), bd_X4_fillFrom_88 F Q P  vS x2 x3 → Wd D A s.heap (sW t aS vS) H locs → lv_has ls 7 [(0, .ref (SA.o aS)), (2, .int x2), (3, .int x3)] → W p l e ({ frames := fr + 6, cells := 0, slots := 0, locals := lo + 120 } : Room) s m args below meth c H locs 0 0 (Ev below args s A D (fun (u : SV) => (sW t aS u)) (fun (u : SV) => Q u) 0 0) (F0 m 88 ls []) := by
  intro vS x2 x3 H locs ls h hw hl
  have hx := X.1.1
  have hb := X.1.2.1
  refine lv_iload_n hx hb dX4_fillFrom_88 rfl (lv_at hl 2 rfl) ?_
  refine lv_aload_n hx hb dX4_fillFrom_89 rfl (lv_at hl 0 rfl) ?_
  refine r_get (ci := 4) (C := RX4) (T := TX4) (N := 7) X hw 0 rfl rfl 0 (by decide) in_X4_fillFrom_X4 fl_X4_fillFrom_12 (v := .ref (BA.o (SA.trial aS))) rfl dX4_fillFrom_90 ?_
  refine r_get (ci := 0) (C := RX0) (T := TX0) (N := 8) X hw 1 rfl rfl 3 (by decide) in_X4_fillFrom_X0 fl_X4_fillFrom_69 (v := .int (BV.tiles (SV.trial vS))) rfl dX4_fillFrom_93 ?_
  refine lv_icmp_ge (tgt := 194) hx hb dX4_fillFrom_96 (by decide) (fun c_39 => ?_) (fun c_39 => ?_)
  · replace h := h.1 c_39
    exact e_v (w1 := (fun (u : SV) => (sW t aS u))) X (vS) hw h dX4_fillFrom_194
  replace h := h.2 c_39
  refine lv_aload_n hx hb dX4_fillFrom_99 rfl (lv_at hl 0 rfl) ?_
  refine r_get (ci := 4) (C := RX4) (T := TX4) (N := 7) X hw 0 rfl rfl 6 (by decide) in_X4_fillFrom_X4 fl_X4_fillFrom_38 (v := .int (SV.over vS)) rfl dX4_fillFrom_100 ?_
  refine lv_if_ne (tgt := 194) hx hb dX4_fillFrom_103 (by decide) (fun c_38 => ?_) (fun c_38 => ?_)
  · replace h := h.1 c_38
    exact e_v (w1 := (fun (u : SV) => (sW t aS u))) X (vS) hw h dX4_fillFrom_194
  replace h := h.2 c_38
  refine lv_bipush (v := 8) hx hb dX4_fillFrom_106 (by decide) ?_
  refine lv_iload_n hx hb dX4_fillFrom_108 rfl (lv_at hl 2 rfl) ?_
  refine lv_imul hx hb dX4_fillFrom_109 ?_
  refine lv_topi (fun x4_18 ex4_18 => ?_)
  replace h := h x4_18 ex4_18
  refine lv_istore (lv' := [(4, .int x4_18), (0, .ref (SA.o aS)), (2, .int x2), (3, .int x3)]) hx hb dX4_fillFrom_110 hl (by decide) rfl (fun ls hl => ?_)
  refine lv_aload_n hx hb dX4_fillFrom_112 rfl (lv_at hl 1 rfl) ?_
  refine r_get (ci := 4) (C := RX4) (T := TX4) (N := 7) X hw 0 rfl rfl 0 (by decide) in_X4_fillFrom_X4 fl_X4_fillFrom_12 (v := .ref (BA.o (SA.trial aS))) rfl dX4_fillFrom_113 ?_
  refine lv_iload_n hx hb dX4_fillFrom_116 rfl (lv_at hl 3 rfl) ?_
  refine r_ci X hw (pm_r (pm_l pm_0)) (wn := fun (u : BV) => (sW t aS (SV.s_trial vS u))) (fun u => (pm_r (pm_l pm_0)).symm) (r_runV X hw (c_X0_isLaid l D t (SA.trial aS) (SV.trial vS) x3 _ h) (pm_r (pm_l pm_0)) (cwV 1 X.1.2.2.2.2 gX4_fillFrom_X0_isLaid rfl rfl rfl (by decide +kernel) ⟨by show 0 + 1 ≤ fr + 6; omega, by show 8 + (2 + 11) + 0 ≤ lo + 120; omega⟩) (ci := 0) rfl rfl rfl rfl hl rfl (Nat.le_of_ble_eq_true rfl) dX4_fillFrom_117 ⟨Nat.le_of_ble_eq_true rfl, Nat.le_of_ble_eq_true rfl⟩) (fun r_20 u H locs h hw => ?_)
  obtain ⟨vB_19, rfl⟩ : ∃ z, z = u := ⟨_, rfl⟩
  refine lv_if_eq (tgt := 128) hx hb dX4_fillFrom_120 (by decide) (fun c_37 => ?_) (fun c_37 => ?_)
  · replace h := h.1 c_37
    refine lv_iload hx hb dX4_fillFrom_128 (lv_at hl 0 rfl) ?_
    refine lv_bipush (v := 8) hx hb dX4_fillFrom_130 (by decide) ?_
    refine lv_iadd hx hb dX4_fillFrom_132 ?_
    exact k_X4_fillFrom_133 X hF aS hP _ _ _ _ _ _ _ _ h hw (lv_sub hl [1, 2, 3, 0] rfl)
  replace h := h.2 c_37
  refine lv_iload hx hb dX4_fillFrom_123 (lv_at hl 0 rfl) ?_
  refine lv_goto (tgt := 133) hx hb dX4_fillFrom_125 (by decide) ?_
  exact k_X4_fillFrom_133 X hF aS hP _ _ _ _ _ _ _ _ h hw (lv_sub hl [1, 2, 3, 0] rfl)
set_option maxHeartbeats 4000000 in
set_option maxRecDepth 100000 in
theorem k_X4_fillFrom_88 {p : Program} {l : Launch} {e : Env} {s : State} {m : MethodId} {below : List Frame} {meth : Method} {c : Code} {args : Array Value} {D : va_G} {t : T3} {A : Nat → Prop} {fr lo : Nat} {F : SV → Int32 → (SV → Prop) → Prop} (X : Cx p s m meth c args cX4_fillFrom 7 none RX4 wsX4_fillFrom D t A) (hF : ∀ (aS : SA) (vS : SV) (p1 : Int32) (Q : SV → Prop), F vS p1 Q → Ct l yX4_fillFrom wsX4_fillFrom fr lo 0 0 [.ref (SA.o aS), .int p1] D t (sW t aS vS) (fun sz => Qv D (sW t aS vS) (fun (u : SV) => (sW t aS u)) (fun (u : SV) => Q u) sz)) (aS : SA) {Q : SV → Prop}   : ∀ (vS : SV) (x2 : Int32) (x3 : Int32) (H : Heap) (locs : List Loc) (ls : Array Slot), wp_X4_fillFrom_88 F Q  vS x2 x3 → Wd D A s.heap (sW t aS vS) H locs → lv_has ls 7 [(0, .ref (SA.o aS)), (2, .int x2), (3, .int x3)] → W p l e ({ frames := fr + 6, cells := 0, slots := 0, locals := lo + 120 } : Room) s m args below meth c H locs 0 0 (Ev below args s A D (fun (u : SV) => (sW t aS u)) (fun (u : SV) => Q u) 0 0) (F0 m 88 ls []) := by
  intro vS x2 x3 H locs ls h hw hl
  have hx := X.1.1
  have hb := X.1.2.1
  refine h (fun (vS : SV) (x2 : Int32) (x3 : Int32) => ∀ (H : Heap) (locs : List Loc) (ls : Array Slot), Wd D A s.heap (sW t aS vS) H locs → lv_has ls 7 [(0, .ref (SA.o aS)), (2, .int x2), (3, .int x3)] → W p l e ({ frames := fr + 6, cells := 0, slots := 0, locals := lo + 120 } : Room) s m args below meth c H locs 0 0 (Ev below args s A D (fun (u : SV) => (sW t aS u)) (fun (u : SV) => Q u) 0 0) (F0 m 88 ls [])) (fun vS x2 x3 h H locs ls hw hl => ?_) H locs ls hw hl
  exact kb_X4_fillFrom_88 X hF aS (fun vS x2 x3 H locs ls q hw hl => q H locs ls hw hl)  vS x2 x3 _ _ _ h hw hl
def wp_X4_fillFrom_68 (F : SV → Int32 → (SV → Prop) → Prop) (Q : SV → Prop) (vS : SV) (t1 : Int32) : Prop := isB t1 ∧ Q (SV.s_over vS t1)
set_option maxHeartbeats 4000000 in
set_option maxRecDepth 100000 in
theorem k_X4_fillFrom_68 {p : Program} {l : Launch} {e : Env} {s : State} {m : MethodId} {below : List Frame} {meth : Method} {c : Code} {args : Array Value} {D : va_G} {t : T3} {A : Nat → Prop} {fr lo : Nat} {F : SV → Int32 → (SV → Prop) → Prop} (X : Cx p s m meth c args cX4_fillFrom 7 none RX4 wsX4_fillFrom D t A) (hF : ∀ (aS : SA) (vS : SV) (p1 : Int32) (Q : SV → Prop), F vS p1 Q → Ct l yX4_fillFrom wsX4_fillFrom fr lo 0 0 [.ref (SA.o aS), .int p1] D t (sW t aS vS) (fun sz => Qv D (sW t aS vS) (fun (u : SV) => (sW t aS u)) (fun (u : SV) => Q u) sz)) (aS : SA) {Q : SV → Prop}  : ∀ (vS : SV) (t1 : Int32) (H : Heap) (locs : List Loc) (ls : Array Slot), wp_X4_fillFrom_68 F Q vS t1 → Wd D A s.heap (sW t aS vS) H locs → lv_has ls 7 [] → W p l e ({ frames := fr + 6, cells := 0, slots := 0, locals := lo + 120 } : Room) s m args below meth c H locs 0 0 (Ev below args s A D (fun (u : SV) => (sW t aS u)) (fun (u : SV) => Q u) 0 0) (F0 m 68 ls [.int t1, .ref (SA.o aS)]) := by
  intro vS t1 H locs ls h hw hl
  have hx := X.1.1
  have hb := X.1.2.1
  obtain ⟨hb_41, h⟩ := h
  refine r_put (ci := 4) (C := RX4) (T := TX4) (N := 7) (v := .int t1) (ws' := (sW t aS (SV.s_over vS t1))) X hw 0 rfl rfl 6 (by decide) in_X4_fillFrom_X4 tyX4 tyX4_ok nmX4 fl_X4_fillFrom_38 rfl hb_41.nar hb_41.fit (Nat.le_of_ble_eq_true rfl) rfl dX4_fillFrom_68 (fun H locs hw => ?_)
  exact e_v (w1 := (fun (u : SV) => (sW t aS u))) X ((SV.s_over vS t1)) hw h dX4_fillFrom_71
def wp_X4_fillFrom_30 (F : SV → Int32 → (SV → Prop) → Prop) (Q : SV → Prop) (vS : SV) (x2 : Int32) : Prop := wp_X0_cells (SV.trial vS)  (fun (r_11 : Int32) (vB_10 : BV) => (x2 < r_11 → vp_in x2 12 ∧ ∀ j_12 : Nat, j_12 < 12 → x2 = nI j_12 → wp_X3_read ((SV.needs vS) j_12) vB_10 x2 (fun (vN_16 : NV) (vB_17 : BV) => wp_X4_fillFrom_88 F Q  (SV.s_needs (SV.s_trial vS vB_17) (upE (SV.needs vS) j_12 vN_16)) x2 0)) ∧ (¬ x2 < r_11 → ∀ f_40 : Int32, f_40 = ((SV.found vS) + 1) → (f_40 < (SV.most vS) → wp_X4_fillFrom_68 F  Q (SV.s_found (SV.s_trial vS vB_10) f_40) 0) ∧ (¬ f_40 < (SV.most vS) → wp_X4_fillFrom_68 F  Q (SV.s_found (SV.s_trial vS vB_10) f_40) 1)))
set_option maxHeartbeats 4000000 in
set_option maxRecDepth 100000 in
theorem k_X4_fillFrom_30 {p : Program} {l : Launch} {e : Env} {s : State} {m : MethodId} {below : List Frame} {meth : Method} {c : Code} {args : Array Value} {D : va_G} {t : T3} {A : Nat → Prop} {fr lo : Nat} {F : SV → Int32 → (SV → Prop) → Prop} (X : Cx p s m meth c args cX4_fillFrom 7 none RX4 wsX4_fillFrom D t A) (hF : ∀ (aS : SA) (vS : SV) (p1 : Int32) (Q : SV → Prop), F vS p1 Q → Ct l yX4_fillFrom wsX4_fillFrom fr lo 0 0 [.ref (SA.o aS), .int p1] D t (sW t aS vS) (fun sz => Qv D (sW t aS vS) (fun (u : SV) => (sW t aS u)) (fun (u : SV) => Q u) sz)) (aS : SA) {Q : SV → Prop}  : ∀ (vS : SV) (x2 : Int32) (H : Heap) (locs : List Loc) (ls : Array Slot), wp_X4_fillFrom_30 F Q vS x2 → Wd D A s.heap (sW t aS vS) H locs → lv_has ls 7 [(0, .ref (SA.o aS)), (2, .int x2)] → W p l e ({ frames := fr + 6, cells := 0, slots := 0, locals := lo + 120 } : Room) s m args below meth c H locs 0 0 (Ev below args s A D (fun (u : SV) => (sW t aS u)) (fun (u : SV) => Q u) 0 0) (F0 m 30 ls []) := by
  intro vS x2 H locs ls h hw hl
  have hx := X.1.1
  have hb := X.1.2.1
  refine lv_iload_n hx hb dX4_fillFrom_30 rfl (lv_at hl 1 rfl) ?_
  refine lv_aload_n hx hb dX4_fillFrom_31 rfl (lv_at hl 0 rfl) ?_
  refine r_get (ci := 4) (C := RX4) (T := TX4) (N := 7) X hw 0 rfl rfl 0 (by decide) in_X4_fillFrom_X4 fl_X4_fillFrom_12 (v := .ref (BA.o (SA.trial aS))) rfl dX4_fillFrom_32 ?_
  refine r_ci X hw (pm_r (pm_l pm_0)) (wn := fun (u : BV) => (sW t aS (SV.s_trial vS u))) (fun u => (pm_r (pm_l pm_0)).symm) (r_runV X hw (c_X0_cells l D t (SA.trial aS) (SV.trial vS) _ h) (pm_r (pm_l pm_0)) (cwV 0 X.1.2.2.2.2 gX4_fillFrom_X0_cells rfl rfl rfl (by decide +kernel) ⟨by show 0 + 1 ≤ fr + 6; omega, by show 8 + (1 + 11) + 0 ≤ lo + 120; omega⟩) (ci := 0) rfl rfl rfl rfl hl rfl (Nat.le_of_ble_eq_true rfl) dX4_fillFrom_35 ⟨Nat.le_of_ble_eq_true rfl, Nat.le_of_ble_eq_true rfl⟩) (fun r_11 u H locs h hw => ?_)
  obtain ⟨vB_10, rfl⟩ : ∃ z, z = u := ⟨_, rfl⟩
  refine lv_icmp_lt (tgt := 72) hx hb dX4_fillFrom_38 (by decide) (fun c_43 => ?_) (fun c_43 => ?_)
  · replace h := h.1 c_43
    refine lv_aload_n hx hb dX4_fillFrom_72 rfl (lv_at hl 0 rfl) ?_
    refine r_get (ci := 4) (C := RX4) (T := TX4) (N := 7) X hw 0 rfl rfl 2 (by decide) in_X4_fillFrom_X4 fl_X4_fillFrom_24 (v := .ref (SA.needs aS)) rfl dX4_fillFrom_73 ?_
    refine lv_iload_n hx hb dX4_fillFrom_76 rfl (lv_at hl 1 rfl) ?_
    obtain ⟨hi_15, h⟩ := h
    obtain ⟨j_12, hj_13, ej_14⟩ := idx_of (by decide) hi_15
    replace h := h j_12 hj_13 ej_14
    refine r_aald (C := "TwoFacedTiles$Needs") (b := ((SA.needs_e aS) j_12)) X hw 5 2 rfl rfl hi_15 (by rw [ej_14, nI_clamp (by omega)]) dX4_fillFrom_77 ?_
    refine lv_aload_n hx hb dX4_fillFrom_78 rfl (lv_at hl 0 rfl) ?_
    refine r_get (ci := 4) (C := RX4) (T := TX4) (N := 7) X hw 0 rfl rfl 0 (by decide) in_X4_fillFrom_X4 fl_X4_fillFrom_12 (v := .ref (BA.o (SA.trial aS))) rfl dX4_fillFrom_79 ?_
    refine lv_iload_n hx hb dX4_fillFrom_82 rfl (lv_at hl 1 rfl) ?_
    have kk : ∀ (u : NV × BV) (H : Heap) (locs : List Loc), (fun (vN_16 : NV) (vB_17 : BV) => wp_X4_fillFrom_88 F Q  (SV.s_needs (SV.s_trial vS vB_17) (upE (SV.needs vS) j_12 vN_16)) x2 0) u.1 u.2 → Wd D A s.heap (sW t aS (SV.s_needs (SV.s_trial vS u.2) (upE (SV.needs vS) j_12 u.1))) H locs → W p l e ({ frames := fr + 6, cells := 0, slots := 0, locals := lo + 120 } : Room) s m args below meth c H locs 0 0 (Ev below args s A D (fun (u : SV) => (sW t aS u)) (fun (u : SV) => Q u) 0 0) (F0 m 86 ls []) := by
      intro u H locs h hw
      obtain ⟨vN_16, vB_17⟩ := u
      refine lv_iconst (v := 0) hx hb dX4_fillFrom_86 (by decide) ?_
      refine lv_istore_n (lv' := [(3, .int 0), (0, .ref (SA.o aS)), (2, .int x2)]) hx hb dX4_fillFrom_87 rfl hl (by decide) rfl (fun ls hl => ?_)
      refine k_X4_fillFrom_88 X hF aS  _ _ _ _ _ _ h hw (lv_sub hl [1, 2, 0] rfl)
    rcases cases12 hj_13 with rfl | rfl | rfl | rfl | rfl | rfl | rfl | rfl | rfl | rfl | rfl | rfl
    · exact r_cv X hw (pm_2 (pm_r (pm_r (pm_r (pm_l pm_0)))) (pm_r (pm_l pm_0))) (wn := fun (u : NV × BV) => (sW t aS (SV.s_needs (SV.s_trial vS u.2) (upE (SV.needs vS) 0 u.1)))) (fun u => (pm_2 (pm_r (pm_r (pm_r (pm_l pm_0)))) (pm_r (pm_l pm_0))).symm) (r_runV X hw (c_X3_read l D t ((SA.needs_e aS) 0) (SA.trial aS) ((SV.needs vS) 0) vB_10 x2 _ h) (pm_2 (pm_r (pm_r (pm_r (pm_l pm_0)))) (pm_r (pm_l pm_0))) (cwV 2 X.1.2.2.2.2 gX4_fillFrom_X3_read rfl rfl rfl (by decide +kernel) ⟨by show 2 + 1 ≤ fr + 6; omega, by show 8 + (6 + 11) + 43 ≤ lo + 120; omega⟩) (ci := 3) rfl rfl rfl rfl hl rfl (Nat.le_of_ble_eq_true rfl) dX4_fillFrom_83 ⟨Nat.le_of_ble_eq_true rfl, Nat.le_of_ble_eq_true rfl⟩) kk
    · exact r_cv X hw (pm_2 (pm_r (pm_r (pm_r (pm_r (pm_l pm_0))))) (pm_r (pm_l pm_0))) (wn := fun (u : NV × BV) => (sW t aS (SV.s_needs (SV.s_trial vS u.2) (upE (SV.needs vS) 1 u.1)))) (fun u => (pm_2 (pm_r (pm_r (pm_r (pm_r (pm_l pm_0))))) (pm_r (pm_l pm_0))).symm) (r_runV X hw (c_X3_read l D t ((SA.needs_e aS) 1) (SA.trial aS) ((SV.needs vS) 1) vB_10 x2 _ h) (pm_2 (pm_r (pm_r (pm_r (pm_r (pm_l pm_0))))) (pm_r (pm_l pm_0))) (cwV 2 X.1.2.2.2.2 gX4_fillFrom_X3_read rfl rfl rfl (by decide +kernel) ⟨by show 2 + 1 ≤ fr + 6; omega, by show 8 + (6 + 11) + 43 ≤ lo + 120; omega⟩) (ci := 3) rfl rfl rfl rfl hl rfl (Nat.le_of_ble_eq_true rfl) dX4_fillFrom_83 ⟨Nat.le_of_ble_eq_true rfl, Nat.le_of_ble_eq_true rfl⟩) kk
    · exact r_cv X hw (pm_2 (pm_r (pm_r (pm_r (pm_r (pm_r (pm_l pm_0)))))) (pm_r (pm_l pm_0))) (wn := fun (u : NV × BV) => (sW t aS (SV.s_needs (SV.s_trial vS u.2) (upE (SV.needs vS) 2 u.1)))) (fun u => (pm_2 (pm_r (pm_r (pm_r (pm_r (pm_r (pm_l pm_0)))))) (pm_r (pm_l pm_0))).symm) (r_runV X hw (c_X3_read l D t ((SA.needs_e aS) 2) (SA.trial aS) ((SV.needs vS) 2) vB_10 x2 _ h) (pm_2 (pm_r (pm_r (pm_r (pm_r (pm_r (pm_l pm_0)))))) (pm_r (pm_l pm_0))) (cwV 2 X.1.2.2.2.2 gX4_fillFrom_X3_read rfl rfl rfl (by decide +kernel) ⟨by show 2 + 1 ≤ fr + 6; omega, by show 8 + (6 + 11) + 43 ≤ lo + 120; omega⟩) (ci := 3) rfl rfl rfl rfl hl rfl (Nat.le_of_ble_eq_true rfl) dX4_fillFrom_83 ⟨Nat.le_of_ble_eq_true rfl, Nat.le_of_ble_eq_true rfl⟩) kk
    · exact r_cv X hw (pm_2 (pm_r (pm_r (pm_r (pm_r (pm_r (pm_r (pm_l pm_0))))))) (pm_r (pm_l pm_0))) (wn := fun (u : NV × BV) => (sW t aS (SV.s_needs (SV.s_trial vS u.2) (upE (SV.needs vS) 3 u.1)))) (fun u => (pm_2 (pm_r (pm_r (pm_r (pm_r (pm_r (pm_r (pm_l pm_0))))))) (pm_r (pm_l pm_0))).symm) (r_runV X hw (c_X3_read l D t ((SA.needs_e aS) 3) (SA.trial aS) ((SV.needs vS) 3) vB_10 x2 _ h) (pm_2 (pm_r (pm_r (pm_r (pm_r (pm_r (pm_r (pm_l pm_0))))))) (pm_r (pm_l pm_0))) (cwV 2 X.1.2.2.2.2 gX4_fillFrom_X3_read rfl rfl rfl (by decide +kernel) ⟨by show 2 + 1 ≤ fr + 6; omega, by show 8 + (6 + 11) + 43 ≤ lo + 120; omega⟩) (ci := 3) rfl rfl rfl rfl hl rfl (Nat.le_of_ble_eq_true rfl) dX4_fillFrom_83 ⟨Nat.le_of_ble_eq_true rfl, Nat.le_of_ble_eq_true rfl⟩) kk
    · exact r_cv X hw (pm_2 (pm_r (pm_r (pm_r (pm_r (pm_r (pm_r (pm_r (pm_l pm_0)))))))) (pm_r (pm_l pm_0))) (wn := fun (u : NV × BV) => (sW t aS (SV.s_needs (SV.s_trial vS u.2) (upE (SV.needs vS) 4 u.1)))) (fun u => (pm_2 (pm_r (pm_r (pm_r (pm_r (pm_r (pm_r (pm_r (pm_l pm_0)))))))) (pm_r (pm_l pm_0))).symm) (r_runV X hw (c_X3_read l D t ((SA.needs_e aS) 4) (SA.trial aS) ((SV.needs vS) 4) vB_10 x2 _ h) (pm_2 (pm_r (pm_r (pm_r (pm_r (pm_r (pm_r (pm_r (pm_l pm_0)))))))) (pm_r (pm_l pm_0))) (cwV 2 X.1.2.2.2.2 gX4_fillFrom_X3_read rfl rfl rfl (by decide +kernel) ⟨by show 2 + 1 ≤ fr + 6; omega, by show 8 + (6 + 11) + 43 ≤ lo + 120; omega⟩) (ci := 3) rfl rfl rfl rfl hl rfl (Nat.le_of_ble_eq_true rfl) dX4_fillFrom_83 ⟨Nat.le_of_ble_eq_true rfl, Nat.le_of_ble_eq_true rfl⟩) kk
    · exact r_cv X hw (pm_2 (pm_r (pm_r (pm_r (pm_r (pm_r (pm_r (pm_r (pm_r (pm_l pm_0))))))))) (pm_r (pm_l pm_0))) (wn := fun (u : NV × BV) => (sW t aS (SV.s_needs (SV.s_trial vS u.2) (upE (SV.needs vS) 5 u.1)))) (fun u => (pm_2 (pm_r (pm_r (pm_r (pm_r (pm_r (pm_r (pm_r (pm_r (pm_l pm_0))))))))) (pm_r (pm_l pm_0))).symm) (r_runV X hw (c_X3_read l D t ((SA.needs_e aS) 5) (SA.trial aS) ((SV.needs vS) 5) vB_10 x2 _ h) (pm_2 (pm_r (pm_r (pm_r (pm_r (pm_r (pm_r (pm_r (pm_r (pm_l pm_0))))))))) (pm_r (pm_l pm_0))) (cwV 2 X.1.2.2.2.2 gX4_fillFrom_X3_read rfl rfl rfl (by decide +kernel) ⟨by show 2 + 1 ≤ fr + 6; omega, by show 8 + (6 + 11) + 43 ≤ lo + 120; omega⟩) (ci := 3) rfl rfl rfl rfl hl rfl (Nat.le_of_ble_eq_true rfl) dX4_fillFrom_83 ⟨Nat.le_of_ble_eq_true rfl, Nat.le_of_ble_eq_true rfl⟩) kk
    · exact r_cv X hw (pm_2 (pm_r (pm_r (pm_r (pm_r (pm_r (pm_r (pm_r (pm_r (pm_r (pm_l pm_0)))))))))) (pm_r (pm_l pm_0))) (wn := fun (u : NV × BV) => (sW t aS (SV.s_needs (SV.s_trial vS u.2) (upE (SV.needs vS) 6 u.1)))) (fun u => (pm_2 (pm_r (pm_r (pm_r (pm_r (pm_r (pm_r (pm_r (pm_r (pm_r (pm_l pm_0)))))))))) (pm_r (pm_l pm_0))).symm) (r_runV X hw (c_X3_read l D t ((SA.needs_e aS) 6) (SA.trial aS) ((SV.needs vS) 6) vB_10 x2 _ h) (pm_2 (pm_r (pm_r (pm_r (pm_r (pm_r (pm_r (pm_r (pm_r (pm_r (pm_l pm_0)))))))))) (pm_r (pm_l pm_0))) (cwV 2 X.1.2.2.2.2 gX4_fillFrom_X3_read rfl rfl rfl (by decide +kernel) ⟨by show 2 + 1 ≤ fr + 6; omega, by show 8 + (6 + 11) + 43 ≤ lo + 120; omega⟩) (ci := 3) rfl rfl rfl rfl hl rfl (Nat.le_of_ble_eq_true rfl) dX4_fillFrom_83 ⟨Nat.le_of_ble_eq_true rfl, Nat.le_of_ble_eq_true rfl⟩) kk
    · exact r_cv X hw (pm_2 (pm_r (pm_r (pm_r (pm_r (pm_r (pm_r (pm_r (pm_r (pm_r (pm_r (pm_l pm_0))))))))))) (pm_r (pm_l pm_0))) (wn := fun (u : NV × BV) => (sW t aS (SV.s_needs (SV.s_trial vS u.2) (upE (SV.needs vS) 7 u.1)))) (fun u => (pm_2 (pm_r (pm_r (pm_r (pm_r (pm_r (pm_r (pm_r (pm_r (pm_r (pm_r (pm_l pm_0))))))))))) (pm_r (pm_l pm_0))).symm) (r_runV X hw (c_X3_read l D t ((SA.needs_e aS) 7) (SA.trial aS) ((SV.needs vS) 7) vB_10 x2 _ h) (pm_2 (pm_r (pm_r (pm_r (pm_r (pm_r (pm_r (pm_r (pm_r (pm_r (pm_r (pm_l pm_0))))))))))) (pm_r (pm_l pm_0))) (cwV 2 X.1.2.2.2.2 gX4_fillFrom_X3_read rfl rfl rfl (by decide +kernel) ⟨by show 2 + 1 ≤ fr + 6; omega, by show 8 + (6 + 11) + 43 ≤ lo + 120; omega⟩) (ci := 3) rfl rfl rfl rfl hl rfl (Nat.le_of_ble_eq_true rfl) dX4_fillFrom_83 ⟨Nat.le_of_ble_eq_true rfl, Nat.le_of_ble_eq_true rfl⟩) kk
    · exact r_cv X hw (pm_2 (pm_r (pm_r (pm_r (pm_r (pm_r (pm_r (pm_r (pm_r (pm_r (pm_r (pm_r (pm_l pm_0)))))))))))) (pm_r (pm_l pm_0))) (wn := fun (u : NV × BV) => (sW t aS (SV.s_needs (SV.s_trial vS u.2) (upE (SV.needs vS) 8 u.1)))) (fun u => (pm_2 (pm_r (pm_r (pm_r (pm_r (pm_r (pm_r (pm_r (pm_r (pm_r (pm_r (pm_r (pm_l pm_0)))))))))))) (pm_r (pm_l pm_0))).symm) (r_runV X hw (c_X3_read l D t ((SA.needs_e aS) 8) (SA.trial aS) ((SV.needs vS) 8) vB_10 x2 _ h) (pm_2 (pm_r (pm_r (pm_r (pm_r (pm_r (pm_r (pm_r (pm_r (pm_r (pm_r (pm_r (pm_l pm_0)))))))))))) (pm_r (pm_l pm_0))) (cwV 2 X.1.2.2.2.2 gX4_fillFrom_X3_read rfl rfl rfl (by decide +kernel) ⟨by show 2 + 1 ≤ fr + 6; omega, by show 8 + (6 + 11) + 43 ≤ lo + 120; omega⟩) (ci := 3) rfl rfl rfl rfl hl rfl (Nat.le_of_ble_eq_true rfl) dX4_fillFrom_83 ⟨Nat.le_of_ble_eq_true rfl, Nat.le_of_ble_eq_true rfl⟩) kk
    · exact r_cv X hw (pm_2 (pm_r (pm_r (pm_r (pm_r (pm_r (pm_r (pm_r (pm_r (pm_r (pm_r (pm_r (pm_r (pm_l pm_0))))))))))))) (pm_r (pm_l pm_0))) (wn := fun (u : NV × BV) => (sW t aS (SV.s_needs (SV.s_trial vS u.2) (upE (SV.needs vS) 9 u.1)))) (fun u => (pm_2 (pm_r (pm_r (pm_r (pm_r (pm_r (pm_r (pm_r (pm_r (pm_r (pm_r (pm_r (pm_r (pm_l pm_0))))))))))))) (pm_r (pm_l pm_0))).symm) (r_runV X hw (c_X3_read l D t ((SA.needs_e aS) 9) (SA.trial aS) ((SV.needs vS) 9) vB_10 x2 _ h) (pm_2 (pm_r (pm_r (pm_r (pm_r (pm_r (pm_r (pm_r (pm_r (pm_r (pm_r (pm_r (pm_r (pm_l pm_0))))))))))))) (pm_r (pm_l pm_0))) (cwV 2 X.1.2.2.2.2 gX4_fillFrom_X3_read rfl rfl rfl (by decide +kernel) ⟨by show 2 + 1 ≤ fr + 6; omega, by show 8 + (6 + 11) + 43 ≤ lo + 120; omega⟩) (ci := 3) rfl rfl rfl rfl hl rfl (Nat.le_of_ble_eq_true rfl) dX4_fillFrom_83 ⟨Nat.le_of_ble_eq_true rfl, Nat.le_of_ble_eq_true rfl⟩) kk
    · exact r_cv X hw (pm_2 (pm_r (pm_r (pm_r (pm_r (pm_r (pm_r (pm_r (pm_r (pm_r (pm_r (pm_r (pm_r (pm_r (pm_l pm_0)))))))))))))) (pm_r (pm_l pm_0))) (wn := fun (u : NV × BV) => (sW t aS (SV.s_needs (SV.s_trial vS u.2) (upE (SV.needs vS) 10 u.1)))) (fun u => (pm_2 (pm_r (pm_r (pm_r (pm_r (pm_r (pm_r (pm_r (pm_r (pm_r (pm_r (pm_r (pm_r (pm_r (pm_l pm_0)))))))))))))) (pm_r (pm_l pm_0))).symm) (r_runV X hw (c_X3_read l D t ((SA.needs_e aS) 10) (SA.trial aS) ((SV.needs vS) 10) vB_10 x2 _ h) (pm_2 (pm_r (pm_r (pm_r (pm_r (pm_r (pm_r (pm_r (pm_r (pm_r (pm_r (pm_r (pm_r (pm_r (pm_l pm_0)))))))))))))) (pm_r (pm_l pm_0))) (cwV 2 X.1.2.2.2.2 gX4_fillFrom_X3_read rfl rfl rfl (by decide +kernel) ⟨by show 2 + 1 ≤ fr + 6; omega, by show 8 + (6 + 11) + 43 ≤ lo + 120; omega⟩) (ci := 3) rfl rfl rfl rfl hl rfl (Nat.le_of_ble_eq_true rfl) dX4_fillFrom_83 ⟨Nat.le_of_ble_eq_true rfl, Nat.le_of_ble_eq_true rfl⟩) kk
    · exact r_cv X hw (pm_2 (pm_r (pm_r (pm_r (pm_r (pm_r (pm_r (pm_r (pm_r (pm_r (pm_r (pm_r (pm_r (pm_r (pm_r pm_0)))))))))))))) (pm_r (pm_l pm_0))) (wn := fun (u : NV × BV) => (sW t aS (SV.s_needs (SV.s_trial vS u.2) (upE (SV.needs vS) 11 u.1)))) (fun u => (pm_2 (pm_r (pm_r (pm_r (pm_r (pm_r (pm_r (pm_r (pm_r (pm_r (pm_r (pm_r (pm_r (pm_r (pm_r pm_0)))))))))))))) (pm_r (pm_l pm_0))).symm) (r_runV X hw (c_X3_read l D t ((SA.needs_e aS) 11) (SA.trial aS) ((SV.needs vS) 11) vB_10 x2 _ h) (pm_2 (pm_r (pm_r (pm_r (pm_r (pm_r (pm_r (pm_r (pm_r (pm_r (pm_r (pm_r (pm_r (pm_r (pm_r pm_0)))))))))))))) (pm_r (pm_l pm_0))) (cwV 2 X.1.2.2.2.2 gX4_fillFrom_X3_read rfl rfl rfl (by decide +kernel) ⟨by show 2 + 1 ≤ fr + 6; omega, by show 8 + (6 + 11) + 43 ≤ lo + 120; omega⟩) (ci := 3) rfl rfl rfl rfl hl rfl (Nat.le_of_ble_eq_true rfl) dX4_fillFrom_83 ⟨Nat.le_of_ble_eq_true rfl, Nat.le_of_ble_eq_true rfl⟩) kk
  replace h := h.2 c_43
  refine lv_aload_n hx hb dX4_fillFrom_41 rfl (lv_at hl 0 rfl) ?_
  refine lv_dup hx hb dX4_fillFrom_42 rfl ?_
  refine r_get (ci := 4) (C := RX4) (T := TX4) (N := 7) X hw 0 rfl rfl 1 (by decide) in_X4_fillFrom_X4 fl_X4_fillFrom_18 (v := .int (SV.found vS)) rfl dX4_fillFrom_43 ?_
  refine lv_iconst (v := 1) hx hb dX4_fillFrom_46 (by decide) ?_
  refine lv_iadd hx hb dX4_fillFrom_47 ?_
  refine lv_topi (fun f_40 ef_40 => ?_)
  replace h := h f_40 ef_40
  refine r_put (ci := 4) (C := RX4) (T := TX4) (N := 7) (v := .int f_40) (ws' := (sW t aS (SV.s_found (SV.s_trial vS vB_10) f_40))) X hw 0 rfl rfl 1 (by decide) in_X4_fillFrom_X4 tyX4 tyX4_ok nmX4 fl_X4_fillFrom_18 rfl rfl rfl (Nat.le_of_ble_eq_true rfl) rfl dX4_fillFrom_48 (fun H locs hw => ?_)
  refine lv_aload_n hx hb dX4_fillFrom_51 rfl (lv_at hl 0 rfl) ?_
  refine lv_aload_n hx hb dX4_fillFrom_52 rfl (lv_at hl 0 rfl) ?_
  refine r_get (ci := 4) (C := RX4) (T := TX4) (N := 7) X hw 0 rfl rfl 1 (by decide) in_X4_fillFrom_X4 fl_X4_fillFrom_18 (v := .int f_40) rfl dX4_fillFrom_53 ?_
  refine lv_aload_n hx hb dX4_fillFrom_56 rfl (lv_at hl 0 rfl) ?_
  refine r_get (ci := 4) (C := RX4) (T := TX4) (N := 7) X hw 0 rfl rfl 3 (by decide) in_X4_fillFrom_X4 fl_X4_fillFrom_28 (v := .int (SV.most vS)) rfl dX4_fillFrom_57 ?_
  refine lv_icmp_lt (tgt := 67) hx hb dX4_fillFrom_60 (by decide) (fun c_42 => ?_) (fun c_42 => ?_)
  · replace h := h.1 c_42
    refine lv_iconst (v := 0) hx hb dX4_fillFrom_67 (by decide) ?_
    exact k_X4_fillFrom_68 X hF aS _ _ _ _ _ h hw (lv_sub hl [] rfl)
  replace h := h.2 c_42
  refine lv_iconst (v := 1) hx hb dX4_fillFrom_63 (by decide) ?_
  refine lv_goto (tgt := 68) hx hb dX4_fillFrom_64 (by decide) ?_
  exact k_X4_fillFrom_68 X hF aS _ _ _ _ _ h hw (lv_sub hl [] rfl)
def wp_X4_fillFromF (F : SV → Int32 → (SV → Prop) → Prop) (vS : SV) (p1 : Int32) (Q : SV → Prop) : Prop := wp_X4_fillFrom_2 F Q (fun (vS_8 : SV) (x2_9 : Int32) => wp_X4_fillFrom_30 F  Q vS_8 x2_9) vS p1
set_option maxHeartbeats 4000000 in
set_option maxRecDepth 100000 in
theorem c_X4_fillFromF (l : Launch) (D : va_G) (t : T3) (fr lo : Nat) (F : SV → Int32 → (SV → Prop) → Prop) (hF : ∀ (aS : SA) (vS : SV) (p1 : Int32) (Q : SV → Prop), F vS p1 Q → Ct l yX4_fillFrom wsX4_fillFrom fr lo 0 0 [.ref (SA.o aS), .int p1] D t (sW t aS vS) (fun sz => Qv D (sW t aS vS) (fun (u : SV) => (sW t aS u)) (fun (u : SV) => Q u) sz)) (aS : SA) (vS : SV) (p1 : Int32) (Q : SV → Prop) (h : wp_X4_fillFromF F vS p1 Q) : Ct l yX4_fillFrom wsX4_fillFrom (fr + 6) (lo + 120) 0 0 [.ref (SA.o aS), .int p1] D t (sW t aS vS) (fun sz => Qv D (sW t aS vS) (fun (u : SV) => (sW t aS u)) (fun (u : SV) => Q u) sz) := by
  refine Ct.of (Qf := fun _ A => va_Qv (fun (u : SV) => Q u) (B1 D (fun (u : SV) => (sW t aS u)) A) A) cX4_fillFrom 7 none (by decide) rfl (Nat.le_of_ble_eq_true rfl) ?_
  intro p e s m below meth c A ls hAe hin X hw hl
  generalize ([.ref (SA.o aS), .int p1] : List Value).toArray = args at X ⊢
  have hl : lv_has ls 7 [(0, .ref (SA.o aS)), (1, .int p1)] := hl
  have hx := X.1.1
  have hb := X.1.2.1
  refine lv_iload_n hx hb dX4_fillFrom_0 rfl (lv_at hl 1 rfl) ?_
  refine lv_istore_n (lv' := [(2, .int p1), (0, .ref (SA.o aS)), (1, .int p1)]) hx hb dX4_fillFrom_1 rfl hl (by decide) rfl (fun ls hl => ?_)
  refine k_X4_fillFrom_2 X hF aS (fun vS_8 x2_9 H locs ls h hw hl => ?_) _ _ _ _ _ h hw (lv_sub hl [1, 0] rfl)
  exact k_X4_fillFrom_30 X hF aS _ _ _ _ _ h hw hl
def wp_X4_fillFrom : Nat → SV → Int32 → (SV → Prop) → Prop
  | 0 => fun _ _ _ => False
  | d + 1 => fun S p1 Q => wp_X4_fillFromF (wp_X4_fillFrom d) S p1 Q
theorem c_X4_fillFrom (l : Launch) (D : va_G) (t : T3) : ∀ (d : Nat) (aS : SA) (S : SV) (p1 : Int32) (Q : SV → Prop), wp_X4_fillFrom d S p1 Q → Ct l yX4_fillFrom wsX4_fillFrom (6 * d) (120 * d) 0 0 [.ref (SA.o aS), .int p1] D t (sW t aS S) (fun sz => Qv D (sW t aS S) (fun (u : SV) => (sW t aS u)) (fun (u : SV) => Q u) sz) := by
  intro d
  induction d with
  | zero => intro aS S p1 Q h; exact absurd h id
  | succ d ih => intro aS S p1 Q h; exact c_X4_fillFromF l D t (6 * d) (120 * d) _ ih aS S p1 Q h
/-! X4_runTrial -/
theorem in_X4_runTrial_X4 : ∀ w ∈ u_ws RX4 TX4 7, w ∈ wsX4_runTrial := fun w h => (List.mem_cons_of_mem _ (List.mem_append_left _ (List.mem_append_left _ (List.mem_append_right _ h))))
theorem fl_X4_runTrial_28 : Cond.fieldLink RX4 28 "TwoFacedTiles$Search" "most" "I" ∈ wsX4_runTrial := List.mem_of_getElem? (i := 1) rfl
theorem fl_X4_runTrial_18 : Cond.fieldLink RX4 18 "TwoFacedTiles$Search" "found" "I" ∈ wsX4_runTrial := List.mem_of_getElem? (i := 2) rfl
theorem fl_X4_runTrial_31 : Cond.fieldLink RX4 31 "TwoFacedTiles$Search" "steps" "I" ∈ wsX4_runTrial := List.mem_of_getElem? (i := 3) rfl
theorem fl_X4_runTrial_34 : Cond.fieldLink RX4 34 "TwoFacedTiles$Search" "tooManySteps" "Z" ∈ wsX4_runTrial := List.mem_of_getElem? (i := 4) rfl
theorem fl_X4_runTrial_38 : Cond.fieldLink RX4 38 "TwoFacedTiles$Search" "over" "Z" ∈ wsX4_runTrial := List.mem_of_getElem? (i := 5) rfl
def wp_X4_runTrial (vS : SV) (p1 : Int32) (Q : SV → Prop) : Prop := wp_X4_fillFrom 13 (SV.s_over (SV.s_tooManySteps (SV.s_steps (SV.s_most (SV.s_found vS 0) p1) 0) 0) 0) 0 (fun (vS_1 : SV) => Q vS_1)
set_option maxHeartbeats 4000000 in
set_option maxRecDepth 100000 in
theorem c_X4_runTrial (l : Launch) (D : va_G) (t : T3) (aS : SA) (vS : SV) (p1 : Int32) (Q : SV → Prop) (h : wp_X4_runTrial vS p1 Q) : Ct l yX4_runTrial wsX4_runTrial 79 1586 0 0 [.ref (SA.o aS), .int p1] D t (sW t aS vS) (fun sz => Qv D (sW t aS vS) (fun (u : SV) => (sW t aS u)) (fun (u : SV) => Q u) sz) := by
  refine Ct.of (Qf := fun _ A => va_Qv (fun (u : SV) => Q u) (B1 D (fun (u : SV) => (sW t aS u)) A) A) cX4_runTrial 2 none (by decide) rfl (Nat.le_of_ble_eq_true rfl) ?_
  intro p e s m below meth c A ls hAe hin X hw hl
  generalize ([.ref (SA.o aS), .int p1] : List Value).toArray = args at X ⊢
  have hl : lv_has ls 2 [(0, .ref (SA.o aS)), (1, .int p1)] := hl
  have hx := X.1.1
  have hb := X.1.2.1
  refine lv_aload_n hx hb dX4_runTrial_0 rfl (lv_at hl 0 rfl) ?_
  refine lv_iload_n hx hb dX4_runTrial_1 rfl (lv_at hl 1 rfl) ?_
  refine r_put (ci := 4) (C := RX4) (T := TX4) (N := 7) (v := .int p1) (ws' := (sW t aS (SV.s_most vS p1))) X hw 0 rfl rfl 3 (by decide) in_X4_runTrial_X4 tyX4 tyX4_ok nmX4 fl_X4_runTrial_28 rfl rfl rfl (Nat.le_of_ble_eq_true rfl) rfl dX4_runTrial_2 (fun H locs hw => ?_)
  refine lv_aload_n hx hb dX4_runTrial_5 rfl (lv_at hl 0 rfl) ?_
  refine lv_iconst (v := 0) hx hb dX4_runTrial_6 (by decide) ?_
  refine r_put (ci := 4) (C := RX4) (T := TX4) (N := 7) (v := .int 0) (ws' := (sW t aS (SV.s_most (SV.s_found vS 0) p1))) X hw 0 rfl rfl 1 (by decide) in_X4_runTrial_X4 tyX4 tyX4_ok nmX4 fl_X4_runTrial_18 rfl rfl rfl (Nat.le_of_ble_eq_true rfl) rfl dX4_runTrial_7 (fun H locs hw => ?_)
  refine lv_aload_n hx hb dX4_runTrial_10 rfl (lv_at hl 0 rfl) ?_
  refine lv_iconst (v := 0) hx hb dX4_runTrial_11 (by decide) ?_
  refine r_put (ci := 4) (C := RX4) (T := TX4) (N := 7) (v := .int 0) (ws' := (sW t aS (SV.s_steps (SV.s_most (SV.s_found vS 0) p1) 0))) X hw 0 rfl rfl 4 (by decide) in_X4_runTrial_X4 tyX4 tyX4_ok nmX4 fl_X4_runTrial_31 rfl rfl rfl (Nat.le_of_ble_eq_true rfl) rfl dX4_runTrial_12 (fun H locs hw => ?_)
  refine lv_aload_n hx hb dX4_runTrial_15 rfl (lv_at hl 0 rfl) ?_
  refine lv_iconst (v := 0) hx hb dX4_runTrial_16 (by decide) ?_
  refine r_put (ci := 4) (C := RX4) (T := TX4) (N := 7) (v := .int 0) (ws' := (sW t aS (SV.s_tooManySteps (SV.s_steps (SV.s_most (SV.s_found vS 0) p1) 0) 0))) X hw 0 rfl rfl 5 (by decide) in_X4_runTrial_X4 tyX4 tyX4_ok nmX4 fl_X4_runTrial_34 rfl rfl rfl (Nat.le_of_ble_eq_true rfl) rfl dX4_runTrial_17 (fun H locs hw => ?_)
  refine lv_aload_n hx hb dX4_runTrial_20 rfl (lv_at hl 0 rfl) ?_
  refine lv_iconst (v := 0) hx hb dX4_runTrial_21 (by decide) ?_
  refine r_put (ci := 4) (C := RX4) (T := TX4) (N := 7) (v := .int 0) (ws' := (sW t aS (SV.s_over (SV.s_tooManySteps (SV.s_steps (SV.s_most (SV.s_found vS 0) p1) 0) 0) 0))) X hw 0 rfl rfl 6 (by decide) in_X4_runTrial_X4 tyX4 tyX4_ok nmX4 fl_X4_runTrial_38 rfl rfl rfl (Nat.le_of_ble_eq_true rfl) rfl dX4_runTrial_22 (fun H locs hw => ?_)
  refine lv_aload_n hx hb dX4_runTrial_25 rfl (lv_at hl 0 rfl) ?_
  refine lv_iconst (v := 0) hx hb dX4_runTrial_26 (by decide) ?_
  refine r_cv X hw pm_0 (wn := fun (u : SV) => (sW t aS u)) (fun u => pm_0.symm) (r_runV X hw (c_X4_fillFrom l D t 13 aS (SV.s_over (SV.s_tooManySteps (SV.s_steps (SV.s_most (SV.s_found vS 0) p1) 0) 0) 0) 0 _ h) pm_0 (cwV 1 X.1.2.2.2.2 gX4_runTrial_X4_fillFrom rfl rfl rfl (by decide +kernel) ⟨Nat.le_of_ble_eq_true rfl, Nat.le_of_ble_eq_true rfl⟩) (ci := 4) rfl rfl rfl rfl hl rfl (Nat.le_of_ble_eq_true rfl) dX4_runTrial_27 ⟨Nat.le_of_ble_eq_true rfl, Nat.le_of_ble_eq_true rfl⟩) (fun u H locs h hw => ?_)
  obtain ⟨vS_1, rfl⟩ : ∃ z, z = u := ⟨_, rfl⟩
  exact e_v (w1 := (fun (u : SV) => (sW t aS u))) X (vS_1) hw h dX4_runTrial_30
/-! X4_run -/
theorem in_X4_run_X4 : ∀ w ∈ u_ws RX4 TX4 7, w ∈ wsX4_run := fun w h => (List.mem_cons_of_mem _ (List.mem_append_left _ (List.mem_append_left _ (List.mem_append_right _ h))))
theorem fl_X4_run_12 : Cond.fieldLink RX4 12 "TwoFacedTiles$Search" "trial" "LTwoFacedTiles$Board;" ∈ wsX4_run := List.mem_of_getElem? (i := 1) rfl
def wp_X4_run (vS : SV) (vB : BV) (p2 : Int32) (Q : SV → BV → Prop) : Prop := wp_X0_copyFrom (SV.trial vS) vB  (fun (vB_1 : BV) (vB_2 : BV) => wp_X4_runTrial (SV.s_trial vS vB_1) p2 (fun (vS_3 : SV) => Q vS_3 vB_2))
set_option maxHeartbeats 4000000 in
set_option maxRecDepth 100000 in
theorem c_X4_run (l : Launch) (D : va_G) (t : T3) (aS : SA) (aB : BA) (vS : SV) (vB : BV) (p2 : Int32) (Q : SV → BV → Prop) (h : wp_X4_run vS vB p2 Q) : Ct l yX4_run wsX4_run 80 1607 0 0 [.ref (SA.o aS), .ref (BA.o aB), .int p2] D t (sW t aS vS ++ (bW t aB vB)) (fun sz => Qv D (sW t aS vS ++ (bW t aB vB)) (fun (u : SV × BV) => (sW t aS u.1 ++ (bW t aB u.2))) (fun (u : SV × BV) => Q u.1 u.2) sz) := by
  refine Ct.of (Qf := fun _ A => va_Qv (fun (u : SV × BV) => Q u.1 u.2) (B1 D (fun (u : SV × BV) => (sW t aS u.1 ++ (bW t aB u.2))) A) A) cX4_run 3 none (by decide) rfl (Nat.le_of_ble_eq_true rfl) ?_
  intro p e s m below meth c A ls hAe hin X hw hl
  generalize ([.ref (SA.o aS), .ref (BA.o aB), .int p2] : List Value).toArray = args at X ⊢
  have hl : lv_has ls 3 [(0, .ref (SA.o aS)), (1, .ref (BA.o aB)), (2, .int p2)] := hl
  have hx := X.1.1
  have hb := X.1.2.1
  refine lv_aload_n hx hb dX4_run_0 rfl (lv_at hl 0 rfl) ?_
  refine r_get (ci := 4) (C := RX4) (T := TX4) (N := 7) X hw 0 rfl rfl 0 (by decide) in_X4_run_X4 fl_X4_run_12 (v := .ref (BA.o (SA.trial aS))) rfl dX4_run_1 ?_
  refine lv_aload_n hx hb dX4_run_4 rfl (lv_at hl 1 rfl) ?_
  refine r_cv X hw (pm_2 (pm_l (pm_r (pm_l pm_0))) (pm_r pm_0)) (wn := fun (u : BV × BV) => (sW t aS (SV.s_trial vS u.1) ++ (bW t aB u.2))) (fun u => (pm_2 (pm_l (pm_r (pm_l pm_0))) (pm_r pm_0)).symm) (r_runV X hw (c_X0_copyFrom l D t (SA.trial aS) aB (SV.trial vS) vB _ h) (pm_2 (pm_l (pm_r (pm_l pm_0))) (pm_r pm_0)) (cwV 1 X.1.2.2.2.2 gX4_run_X0_copyFrom rfl rfl rfl (by decide +kernel) ⟨Nat.le_of_ble_eq_true rfl, Nat.le_of_ble_eq_true rfl⟩) (ci := 0) rfl rfl rfl rfl hl rfl (Nat.le_of_ble_eq_true rfl) dX4_run_5 ⟨Nat.le_of_ble_eq_true rfl, Nat.le_of_ble_eq_true rfl⟩) (fun u H locs h hw => ?_)
  obtain ⟨vB_1, vB_2⟩ := u
  refine lv_aload_n hx hb dX4_run_8 rfl (lv_at hl 0 rfl) ?_
  refine lv_iload_n hx hb dX4_run_9 rfl (lv_at hl 2 rfl) ?_
  refine r_cv X hw (pm_l pm_0) (wn := fun (u : SV) => (sW t aS u ++ (bW t aB vB_2))) (fun u => (pm_l pm_0).symm) (r_runV X hw (c_X4_runTrial l D t aS (SV.s_trial vS vB_1) p2 _ h) (pm_l pm_0) (cwV 1 X.1.2.2.2.2 gX4_run_X4_runTrial rfl rfl rfl (by decide +kernel) ⟨Nat.le_of_ble_eq_true rfl, Nat.le_of_ble_eq_true rfl⟩) (ci := 4) rfl rfl rfl rfl hl rfl (Nat.le_of_ble_eq_true rfl) dX4_run_10 ⟨Nat.le_of_ble_eq_true rfl, Nat.le_of_ble_eq_true rfl⟩) (fun u H locs h hw => ?_)
  obtain ⟨vS_3, rfl⟩ : ∃ z, z = u := ⟨_, rfl⟩
  exact e_v (w1 := (fun (u : SV × BV) => (sW t aS u.1 ++ (bW t aB u.2)))) X (vS_3, vB_2) hw h dX4_run_13
/-! X4_result -/
theorem in_X4_result_X4 : ∀ w ∈ u_ws RX4 TX4 7, w ∈ wsX4_result := fun w h => (List.mem_cons_of_mem _ (List.mem_append_right _ h))
theorem fl_X4_result_18 : Cond.fieldLink RX4 18 "TwoFacedTiles$Search" "found" "I" ∈ wsX4_result := List.mem_of_getElem? (i := 1) rfl
theorem fl_X4_result_31 : Cond.fieldLink RX4 31 "TwoFacedTiles$Search" "steps" "I" ∈ wsX4_result := List.mem_of_getElem? (i := 2) rfl
theorem fl_X4_result_34 : Cond.fieldLink RX4 34 "TwoFacedTiles$Search" "tooManySteps" "Z" ∈ wsX4_result := List.mem_of_getElem? (i := 3) rfl
def wp_X4_result (vS : SV) (p1 : Int32) (Q : Int32 → SV → Prop) : Prop := (p1 = 0 → Q (SV.found vS) vS) ∧ (p1 = 1 → Q (SV.steps vS) vS) ∧ (¬ p1 = 0 → ¬ p1 = 1 → ((SV.tooManySteps vS) = 0 → Q 0 vS) ∧ (¬ (SV.tooManySteps vS) = 0 → Q 1 vS))
set_option maxHeartbeats 4000000 in
set_option maxRecDepth 100000 in
theorem c_X4_result (l : Launch) (D : va_G) (t : T3) (aS : SA) (vS : SV) (p1 : Int32) (Q : Int32 → SV → Prop) (h : wp_X4_result vS p1 Q) : Ct l yX4_result wsX4_result 0 0 0 0 [.ref (SA.o aS), .int p1] D t (sW t aS vS) (fun sz => Qi D (sW t aS vS) (fun (u : SV) => (sW t aS u)) (fun (r : Int32) (u : SV) => Q r u) sz) := by
  refine Ct.of (Qf := fun _ A => va_Qi (fun (r : Int32) (u : SV) => Q r u) (B1 D (fun (u : SV) => (sW t aS u)) A) A) cX4_result 2 (some .int) (by decide) rfl (Nat.le_of_ble_eq_true rfl) ?_
  intro p e s m below meth c A ls hAe hin X hw hl
  generalize ([.ref (SA.o aS), .int p1] : List Value).toArray = args at X ⊢
  have hl : lv_has ls 2 [(0, .ref (SA.o aS)), (1, .int p1)] := hl
  have hx := X.1.1
  have hb := X.1.2.1
  refine lv_iload_n hx hb dX4_result_0 rfl (lv_at hl 1 rfl) ?_
  by_cases c_1 : p1 = 0
  · replace h := h.1 c_1
    refine lv_lookup (off := 27) (tgt := 28) hx hb dX4_result_1 (by decide) (by rw [c_1]; rfl) (by decide) ?_
    refine lv_aload_n hx hb dX4_result_28 rfl (lv_at hl 0 rfl) ?_
    refine r_get (ci := 4) (C := RX4) (T := TX4) (N := 7) X hw 0 rfl rfl 1 (by decide) in_X4_result_X4 fl_X4_result_18 (v := .int (SV.found vS)) rfl dX4_result_29 ?_
    exact e_i (w1 := (fun (u : SV) => (sW t aS u))) X (vS) hw h dX4_result_32
  by_cases c_2 : p1 = 1
  · replace h := h.2.1 c_2
    refine lv_lookup (off := 32) (tgt := 33) hx hb dX4_result_1 (by decide) (by rw [c_2]; rfl) (by decide) ?_
    refine lv_aload_n hx hb dX4_result_33 rfl (lv_at hl 0 rfl) ?_
    refine r_get (ci := 4) (C := RX4) (T := TX4) (N := 7) X hw 0 rfl rfl 4 (by decide) in_X4_result_X4 fl_X4_result_31 (v := .int (SV.steps vS)) rfl dX4_result_34 ?_
    exact e_i (w1 := (fun (u : SV) => (sW t aS u))) X (vS) hw h dX4_result_37
  replace h := h.2.2 c_1 c_2
  refine lv_lookup (off := 37) (tgt := 38) hx hb dX4_result_1 (by decide) (look_out2 (i32_ne c_1 rfl) (i32_ne c_2 rfl)) (by decide) ?_
  refine lv_aload_n hx hb dX4_result_38 rfl (lv_at hl 0 rfl) ?_
  refine r_get (ci := 4) (C := RX4) (T := TX4) (N := 7) X hw 0 rfl rfl 5 (by decide) in_X4_result_X4 fl_X4_result_34 (v := .int (SV.tooManySteps vS)) rfl dX4_result_39 ?_
  refine lv_if_eq (tgt := 49) hx hb dX4_result_42 (by decide) (fun c_3 => ?_) (fun c_3 => ?_)
  · replace h := h.1 c_3
    refine lv_iconst (v := 0) hx hb dX4_result_49 (by decide) ?_
    exact e_i (w1 := (fun (u : SV) => (sW t aS u))) X (vS) hw h dX4_result_50
  replace h := h.2 c_3
  refine lv_iconst (v := 1) hx hb dX4_result_45 (by decide) ?_
  refine lv_goto (tgt := 50) hx hb dX4_result_46 (by decide) ?_
  exact e_i (w1 := (fun (u : SV) => (sW t aS u))) X (vS) hw h dX4_result_50
