/-! X0_copyFrom -/
theorem in_X0_copyFrom_X0 : ∀ w ∈ u_ws RX0 TX0 8, w ∈ wsX0_copyFrom := fun w h => (List.mem_cons_of_mem _ (List.mem_append_right _ h))
theorem fl_X0_copyFrom_9 : Cond.fieldLink RX0 9 "TwoFacedTiles$Board" "rows" "I" ∈ wsX0_copyFrom := List.mem_of_getElem? (i := 1) rfl
theorem fl_X0_copyFrom_15 : Cond.fieldLink RX0 15 "TwoFacedTiles$Board" "columns" "I" ∈ wsX0_copyFrom := List.mem_of_getElem? (i := 2) rfl
theorem fl_X0_copyFrom_18 : Cond.fieldLink RX0 18 "TwoFacedTiles$Board" "rule" "I" ∈ wsX0_copyFrom := List.mem_of_getElem? (i := 3) rfl
theorem fl_X0_copyFrom_21 : Cond.fieldLink RX0 21 "TwoFacedTiles$Board" "tiles" "I" ∈ wsX0_copyFrom := List.mem_of_getElem? (i := 4) rfl
theorem fl_X0_copyFrom_24 : Cond.fieldLink RX0 24 "TwoFacedTiles$Board" "fixed" "I" ∈ wsX0_copyFrom := List.mem_of_getElem? (i := 5) rfl
theorem fl_X0_copyFrom_27 : Cond.fieldLink RX0 27 "TwoFacedTiles$Board" "placings" "[I" ∈ wsX0_copyFrom := List.mem_of_getElem? (i := 6) rfl
theorem sy1_X0_copyFrom : Cond.methodLink RX0 37 arraycopyName ∈ wsX0_copyFrom := List.mem_of_getElem? (i := 7) rfl
theorem sy2_X0_copyFrom : Cond.native arraycopyName ∈ wsX0_copyFrom := List.mem_of_getElem? (i := 8) rfl
theorem sy3_X0_copyFrom : Cond.static arraycopyName ∈ wsX0_copyFrom := List.mem_of_getElem? (i := 9) rfl
theorem sy4_X0_copyFrom : Cond.initialized "java/lang/System" ∈ wsX0_copyFrom := List.mem_of_getElem? (i := 10) rfl
theorem fl_X0_copyFrom_31 : Cond.fieldLink RX0 31 "TwoFacedTiles$Board" "places" "[I" ∈ wsX0_copyFrom := List.mem_of_getElem? (i := 11) rfl
theorem fl_X0_copyFrom_34 : Cond.fieldLink RX0 34 "TwoFacedTiles$Board" "looks" "[I" ∈ wsX0_copyFrom := List.mem_of_getElem? (i := 12) rfl
def wp_X0_copyFrom (vB : BV) (vB2 : BV) (Q : BV → BV → Prop) : Prop := ∀ f_1 : Int32, f_1 = (BV.rows vB2) → ∀ f_2 : Int32, f_2 = (BV.columns vB2) → ∀ f_3 : Int32, f_3 = (BV.rule vB2) → ∀ f_4 : Int32, f_4 = (BV.tiles vB2) → ∀ f_5 : Int32, f_5 = (BV.fixed vB2) → ∀ p_6 : Nat → Int32, p_6 = va_cpy (BV.placings vB2) (BV.placings vB) 0 0 12 → ∀ p_7 : Nat → Int32, p_7 = va_cpy (BV.places vB2) (BV.places vB) 0 0 12 → ∀ l_8 : Nat → Int32, l_8 = va_cpy (BV.looks vB2) (BV.looks vB) 0 0 96 → Q (BV.s_looks (BV.s_places (BV.s_placings (BV.s_fixed (BV.s_tiles (BV.s_rule (BV.s_columns (BV.s_rows vB f_1) f_2) f_3) f_4) f_5) p_6) p_7) l_8) vB2
set_option maxHeartbeats 4000000 in
set_option maxRecDepth 100000 in
theorem c_X0_copyFrom (l : Launch) (D : va_G) (t : T3) (aB : BA) (aB2 : BA) (vB : BV) (vB2 : BV) (Q : BV → BV → Prop) (h : wp_X0_copyFrom vB vB2 Q) : Ct l yX0_copyFrom wsX0_copyFrom 1 60 0 0 [.ref (BA.o aB), .ref (BA.o aB2)] D t (bW t aB vB ++ (bW t aB2 vB2)) (fun sz => Qv D (bW t aB vB ++ (bW t aB2 vB2)) (fun (u : BV × BV) => (bW t aB u.1 ++ (bW t aB2 u.2))) (fun (u : BV × BV) => Q u.1 u.2) sz) := by
  refine Ct.of (Qf := fun _ A => va_Qv (fun (u : BV × BV) => Q u.1 u.2) (B1 D (fun (u : BV × BV) => (bW t aB u.1 ++ (bW t aB2 u.2))) A) A) cX0_copyFrom 2 none (by decide) rfl (Nat.le_of_ble_eq_true rfl) ?_
  intro p e s m below meth c A ls hAe hin X hw hl
  generalize ([.ref (BA.o aB), .ref (BA.o aB2)] : List Value).toArray = args at X ⊢
  have hl : lv_has ls 2 [(0, .ref (BA.o aB)), (1, .ref (BA.o aB2))] := hl
  have hx := X.1.1
  have hb := X.1.2.1
  refine lv_aload_n hx hb dX0_copyFrom_0 rfl (lv_at hl 0 rfl) ?_
  refine lv_aload_n hx hb dX0_copyFrom_1 rfl (lv_at hl 1 rfl) ?_
  refine r_get (ci := 0) (C := RX0) (T := TX0) (N := 8) X hw 4 rfl rfl 0 (by decide) in_X0_copyFrom_X0 fl_X0_copyFrom_9 (v := .int (BV.rows vB2)) rfl dX0_copyFrom_2 ?_
  refine lv_topi (fun f_1 ef_1 => ?_)
  replace h := h f_1 ef_1
  refine r_put (ci := 0) (C := RX0) (T := TX0) (N := 8) (v := .int f_1) (ws' := (bW t aB (BV.s_rows vB f_1) ++ (bW t aB2 vB2))) X hw 0 rfl rfl 0 (by decide) in_X0_copyFrom_X0 tyX0 tyX0_ok nmX0 fl_X0_copyFrom_9 rfl rfl rfl (Nat.le_of_ble_eq_true rfl) rfl dX0_copyFrom_5 (fun H locs hw => ?_)
  refine lv_aload_n hx hb dX0_copyFrom_8 rfl (lv_at hl 0 rfl) ?_
  refine lv_aload_n hx hb dX0_copyFrom_9 rfl (lv_at hl 1 rfl) ?_
  refine r_get (ci := 0) (C := RX0) (T := TX0) (N := 8) X hw 4 rfl rfl 1 (by decide) in_X0_copyFrom_X0 fl_X0_copyFrom_15 (v := .int (BV.columns vB2)) rfl dX0_copyFrom_10 ?_
  refine lv_topi (fun f_2 ef_2 => ?_)
  replace h := h f_2 ef_2
  refine r_put (ci := 0) (C := RX0) (T := TX0) (N := 8) (v := .int f_2) (ws' := (bW t aB (BV.s_columns (BV.s_rows vB f_1) f_2) ++ (bW t aB2 vB2))) X hw 0 rfl rfl 1 (by decide) in_X0_copyFrom_X0 tyX0 tyX0_ok nmX0 fl_X0_copyFrom_15 rfl rfl rfl (Nat.le_of_ble_eq_true rfl) rfl dX0_copyFrom_13 (fun H locs hw => ?_)
  refine lv_aload_n hx hb dX0_copyFrom_16 rfl (lv_at hl 0 rfl) ?_
  refine lv_aload_n hx hb dX0_copyFrom_17 rfl (lv_at hl 1 rfl) ?_
  refine r_get (ci := 0) (C := RX0) (T := TX0) (N := 8) X hw 4 rfl rfl 2 (by decide) in_X0_copyFrom_X0 fl_X0_copyFrom_18 (v := .int (BV.rule vB2)) rfl dX0_copyFrom_18 ?_
  refine lv_topi (fun f_3 ef_3 => ?_)
  replace h := h f_3 ef_3
  refine r_put (ci := 0) (C := RX0) (T := TX0) (N := 8) (v := .int f_3) (ws' := (bW t aB (BV.s_rule (BV.s_columns (BV.s_rows vB f_1) f_2) f_3) ++ (bW t aB2 vB2))) X hw 0 rfl rfl 2 (by decide) in_X0_copyFrom_X0 tyX0 tyX0_ok nmX0 fl_X0_copyFrom_18 rfl rfl rfl (Nat.le_of_ble_eq_true rfl) rfl dX0_copyFrom_21 (fun H locs hw => ?_)
  refine lv_aload_n hx hb dX0_copyFrom_24 rfl (lv_at hl 0 rfl) ?_
  refine lv_aload_n hx hb dX0_copyFrom_25 rfl (lv_at hl 1 rfl) ?_
  refine r_get (ci := 0) (C := RX0) (T := TX0) (N := 8) X hw 4 rfl rfl 3 (by decide) in_X0_copyFrom_X0 fl_X0_copyFrom_21 (v := .int (BV.tiles vB2)) rfl dX0_copyFrom_26 ?_
  refine lv_topi (fun f_4 ef_4 => ?_)
  replace h := h f_4 ef_4
  refine r_put (ci := 0) (C := RX0) (T := TX0) (N := 8) (v := .int f_4) (ws' := (bW t aB (BV.s_tiles (BV.s_rule (BV.s_columns (BV.s_rows vB f_1) f_2) f_3) f_4) ++ (bW t aB2 vB2))) X hw 0 rfl rfl 3 (by decide) in_X0_copyFrom_X0 tyX0 tyX0_ok nmX0 fl_X0_copyFrom_21 rfl rfl rfl (Nat.le_of_ble_eq_true rfl) rfl dX0_copyFrom_29 (fun H locs hw => ?_)
  refine lv_aload_n hx hb dX0_copyFrom_32 rfl (lv_at hl 0 rfl) ?_
  refine lv_aload_n hx hb dX0_copyFrom_33 rfl (lv_at hl 1 rfl) ?_
  refine r_get (ci := 0) (C := RX0) (T := TX0) (N := 8) X hw 4 rfl rfl 4 (by decide) in_X0_copyFrom_X0 fl_X0_copyFrom_24 (v := .int (BV.fixed vB2)) rfl dX0_copyFrom_34 ?_
  refine lv_topi (fun f_5 ef_5 => ?_)
  replace h := h f_5 ef_5
  refine r_put (ci := 0) (C := RX0) (T := TX0) (N := 8) (v := .int f_5) (ws' := (bW t aB (BV.s_fixed (BV.s_tiles (BV.s_rule (BV.s_columns (BV.s_rows vB f_1) f_2) f_3) f_4) f_5) ++ (bW t aB2 vB2))) X hw 0 rfl rfl 4 (by decide) in_X0_copyFrom_X0 tyX0 tyX0_ok nmX0 fl_X0_copyFrom_24 rfl rfl rfl (Nat.le_of_ble_eq_true rfl) rfl dX0_copyFrom_37 (fun H locs hw => ?_)
  refine lv_aload_n hx hb dX0_copyFrom_40 rfl (lv_at hl 1 rfl) ?_
  refine r_get (ci := 0) (C := RX0) (T := TX0) (N := 8) X hw 4 rfl rfl 5 (by decide) in_X0_copyFrom_X0 fl_X0_copyFrom_27 (v := .ref (BA.placings aB2)) rfl dX0_copyFrom_41 ?_
  refine lv_iconst (v := 0) hx hb dX0_copyFrom_44 (by decide) ?_
  refine lv_aload_n hx hb dX0_copyFrom_45 rfl (lv_at hl 0 rfl) ?_
  refine r_get (ci := 0) (C := RX0) (T := TX0) (N := 8) X hw 0 rfl rfl 5 (by decide) in_X0_copyFrom_X0 fl_X0_copyFrom_27 (v := .ref (BA.placings aB)) rfl dX0_copyFrom_46 ?_
  refine lv_iconst (v := 0) hx hb dX0_copyFrom_49 (by decide) ?_
  refine lv_bipush (v := 12) hx hb dX0_copyFrom_50 (by decide) ?_
  obtain ⟨p_6, ep_6⟩ : ∃ z : Nat → Int32, z = va_cpy (BV.placings vB2) (BV.placings vB) 0 0 12 := ⟨_, rfl⟩
  replace h := h p_6 ep_6
  refine r_copy (ws' := (bW t aB (BV.s_placings (BV.s_fixed (BV.s_tiles (BV.s_rule (BV.s_columns (BV.s_rows vB f_1) f_2) f_3) f_4) f_5) p_6) ++ (bW t aB2 vB2))) X hl hw 5 1 rfl rfl sy1_X0_copyFrom sy2_X0_copyFrom sy3_X0_copyFrom sy4_X0_copyFrom (by decide) (by decide) (by decide) (by decide) (by decide) (by decide) (by decide) (by subst ep_6; rfl) dX0_copyFrom_52 (fun H locs hw => ?_)
  refine lv_aload_n hx hb dX0_copyFrom_55 rfl (lv_at hl 1 rfl) ?_
  refine r_get (ci := 0) (C := RX0) (T := TX0) (N := 8) X hw 4 rfl rfl 6 (by decide) in_X0_copyFrom_X0 fl_X0_copyFrom_31 (v := .ref (BA.places aB2)) rfl dX0_copyFrom_56 ?_
  refine lv_iconst (v := 0) hx hb dX0_copyFrom_59 (by decide) ?_
  refine lv_aload_n hx hb dX0_copyFrom_60 rfl (lv_at hl 0 rfl) ?_
  refine r_get (ci := 0) (C := RX0) (T := TX0) (N := 8) X hw 0 rfl rfl 6 (by decide) in_X0_copyFrom_X0 fl_X0_copyFrom_31 (v := .ref (BA.places aB)) rfl dX0_copyFrom_61 ?_
  refine lv_iconst (v := 0) hx hb dX0_copyFrom_64 (by decide) ?_
  refine lv_bipush (v := 12) hx hb dX0_copyFrom_65 (by decide) ?_
  obtain ⟨p_7, ep_7⟩ : ∃ z : Nat → Int32, z = va_cpy (BV.places vB2) (BV.places vB) 0 0 12 := ⟨_, rfl⟩
  replace h := h p_7 ep_7
  refine r_copy (ws' := (bW t aB (BV.s_places (BV.s_placings (BV.s_fixed (BV.s_tiles (BV.s_rule (BV.s_columns (BV.s_rows vB f_1) f_2) f_3) f_4) f_5) p_6) p_7) ++ (bW t aB2 vB2))) X hl hw 6 2 rfl rfl sy1_X0_copyFrom sy2_X0_copyFrom sy3_X0_copyFrom sy4_X0_copyFrom (by decide) (by decide) (by decide) (by decide) (by decide) (by decide) (by decide) (by subst ep_7; rfl) dX0_copyFrom_67 (fun H locs hw => ?_)
  refine lv_aload_n hx hb dX0_copyFrom_70 rfl (lv_at hl 1 rfl) ?_
  refine r_get (ci := 0) (C := RX0) (T := TX0) (N := 8) X hw 4 rfl rfl 7 (by decide) in_X0_copyFrom_X0 fl_X0_copyFrom_34 (v := .ref (BA.looks aB2)) rfl dX0_copyFrom_71 ?_
  refine lv_iconst (v := 0) hx hb dX0_copyFrom_74 (by decide) ?_
  refine lv_aload_n hx hb dX0_copyFrom_75 rfl (lv_at hl 0 rfl) ?_
  refine r_get (ci := 0) (C := RX0) (T := TX0) (N := 8) X hw 0 rfl rfl 7 (by decide) in_X0_copyFrom_X0 fl_X0_copyFrom_34 (v := .ref (BA.looks aB)) rfl dX0_copyFrom_76 ?_
  refine lv_iconst (v := 0) hx hb dX0_copyFrom_79 (by decide) ?_
  refine lv_bipush (v := 96) hx hb dX0_copyFrom_80 (by decide) ?_
  obtain ⟨l_8, el_8⟩ : ∃ z : Nat → Int32, z = va_cpy (BV.looks vB2) (BV.looks vB) 0 0 96 := ⟨_, rfl⟩
  replace h := h l_8 el_8
  refine r_copy (ws' := (bW t aB (BV.s_looks (BV.s_places (BV.s_placings (BV.s_fixed (BV.s_tiles (BV.s_rule (BV.s_columns (BV.s_rows vB f_1) f_2) f_3) f_4) f_5) p_6) p_7) l_8) ++ (bW t aB2 vB2))) X hl hw 7 3 rfl rfl sy1_X0_copyFrom sy2_X0_copyFrom sy3_X0_copyFrom sy4_X0_copyFrom (by decide) (by decide) (by decide) (by decide) (by decide) (by decide) (by decide) (by subst el_8; rfl) dX0_copyFrom_82 (fun H locs hw => ?_)
  exact e_v (w1 := (fun (u : BV × BV) => (bW t aB u.1 ++ (bW t aB2 u.2)))) X ((BV.s_looks (BV.s_places (BV.s_placings (BV.s_fixed (BV.s_tiles (BV.s_rule (BV.s_columns (BV.s_rows vB f_1) f_2) f_3) f_4) f_5) p_6) p_7) l_8), vB2) hw h dX0_copyFrom_85
/-! X0_makeEmpty -/
theorem in_X0_makeEmpty_X0 : ∀ w ∈ u_ws RX0 TX0 8, w ∈ wsX0_makeEmpty := fun w h => (List.mem_cons_of_mem _ (List.mem_append_right _ h))
theorem fl_X0_makeEmpty_9 : Cond.fieldLink RX0 9 "TwoFacedTiles$Board" "rows" "I" ∈ wsX0_makeEmpty := List.mem_of_getElem? (i := 1) rfl
theorem fl_X0_makeEmpty_15 : Cond.fieldLink RX0 15 "TwoFacedTiles$Board" "columns" "I" ∈ wsX0_makeEmpty := List.mem_of_getElem? (i := 2) rfl
theorem fl_X0_makeEmpty_24 : Cond.fieldLink RX0 24 "TwoFacedTiles$Board" "fixed" "I" ∈ wsX0_makeEmpty := List.mem_of_getElem? (i := 3) rfl
theorem fl_X0_makeEmpty_27 : Cond.fieldLink RX0 27 "TwoFacedTiles$Board" "placings" "[I" ∈ wsX0_makeEmpty := List.mem_of_getElem? (i := 4) rfl
theorem fl_X0_makeEmpty_31 : Cond.fieldLink RX0 31 "TwoFacedTiles$Board" "places" "[I" ∈ wsX0_makeEmpty := List.mem_of_getElem? (i := 5) rfl
def bd_X0_makeEmpty_17 (Q : BV → Prop) (P : BV → Int32 → Prop) (K36 : BV → Prop) (vB : BV) (x3 : Int32) : Prop := (12 ≤ x3 → K36 vB) ∧ (¬ 12 ≤ x3 → vp_in x3 12 ∧ ∀ p_2 : Nat → Int32, p_2 = upd (BV.placings vB) (Int32.toNatClampNeg x3) (-1) → ∀ x3_3 : Int32, x3_3 = x3 + 1 → P (BV.s_placings vB p_2) x3_3)
def wp_X0_makeEmpty_17 (Q : BV → Prop) (K36 : BV → Prop) (vB : BV) (x3 : Int32) : Prop := ∀ P : BV → Int32 → Prop, (∀ (vB : BV) (x3 : Int32), bd_X0_makeEmpty_17 Q P K36 vB x3 → P vB x3) → P vB x3
set_option maxHeartbeats 4000000 in
set_option maxRecDepth 100000 in
theorem kb_X0_makeEmpty_17 {p : Program} {l : Launch} {e : Env} {s : State} {m : MethodId} {below : List Frame} {meth : Method} {c : Code} {args : Array Value} {D : va_G} {t : T3} {A : Nat → Prop} (X : Cx p s m meth c args cX0_makeEmpty 4 none RX0 wsX0_makeEmpty D t A) (aB : BA) {Q : BV → Prop} {P : BV → Int32 → Prop} {K36 : BV → Prop} (hP : ∀ (vB : BV) (x3 : Int32) (H : Heap) (locs : List Loc) (ls : Array Slot), P vB x3 → Wd D A s.heap (bW t aB vB) H locs → lv_has ls 4 [(0, .ref (BA.o aB)), (3, .int x3)] → W p l e ({ frames := 0, cells := 0, slots := 0, locals := 0 } : Room) s m args below meth c H locs 0 0 (Ev below args s A D (fun (u : BV) => (bW t aB u)) (fun (u : BV) => Q u) 0 0) (F0 m 17 ls [])) (hK36 : ∀ (vB : BV) (H : Heap) (locs : List Loc) (ls : Array Slot), K36 vB → Wd D A s.heap (bW t aB vB) H locs → lv_has ls 4 [(0, .ref (BA.o aB))] → W p l e ({ frames := 0, cells := 0, slots := 0, locals := 0 } : Room) s m args below meth c H locs 0 0 (Ev below args s A D (fun (u : BV) => (bW t aB u)) (fun (u : BV) => Q u) 0 0) (F0 m 36 ls [])) : ∀ (vB : BV) (x3 : Int32) (H : Heap) (locs : List Loc) (ls : Array Slot), bd_X0_makeEmpty_17 Q P K36 vB x3 → Wd D A s.heap (bW t aB vB) H locs → lv_has ls 4 [(0, .ref (BA.o aB)), (3, .int x3)] → W p l e ({ frames := 0, cells := 0, slots := 0, locals := 0 } : Room) s m args below meth c H locs 0 0 (Ev below args s A D (fun (u : BV) => (bW t aB u)) (fun (u : BV) => Q u) 0 0) (F0 m 17 ls []) := by
  intro vB x3 H locs ls h hw hl
  have hx := X.1.1
  have hb := X.1.2.1
  refine lv_iload_n hx hb dX0_makeEmpty_17 rfl (lv_at hl 1 rfl) ?_
  refine lv_bipush (v := 12) hx hb dX0_makeEmpty_18 (by decide) ?_
  refine lv_icmp_ge (tgt := 36) hx hb dX0_makeEmpty_20 (by decide) (fun c_4 => ?_) (fun c_4 => ?_)
  · replace h := h.1 c_4
    exact hK36 _ _ _ _ h hw (lv_sub hl [0] rfl)
  replace h := h.2 c_4
  refine lv_aload_n hx hb dX0_makeEmpty_23 rfl (lv_at hl 0 rfl) ?_
  refine r_get (ci := 0) (C := RX0) (T := TX0) (N := 8) X hw 0 rfl rfl 5 (by decide) in_X0_makeEmpty_X0 fl_X0_makeEmpty_27 (v := .ref (BA.placings aB)) rfl dX0_makeEmpty_24 ?_
  refine lv_iload_n hx hb dX0_makeEmpty_27 rfl (lv_at hl 1 rfl) ?_
  refine lv_iconst (v := (-1)) hx hb dX0_makeEmpty_28 (by decide) ?_
  obtain ⟨hi_1, h⟩ := h
  obtain ⟨p_2, ep_2⟩ : ∃ z : Nat → Int32, z = upd (BV.placings vB) (Int32.toNatClampNeg x3) (-1) := ⟨_, rfl⟩
  replace h := h p_2 ep_2
  refine r_iast (ws' := (bW t aB (BV.s_placings vB p_2))) X hw 1 rfl hi_1 (by subst ep_2; rfl) dX0_makeEmpty_29 (fun H locs hw => ?_)
  obtain ⟨x3_3, ex3_3⟩ : ∃ z : Int32, z = x3 + 1 := ⟨_, rfl⟩
  replace h := h x3_3 ex3_3
  refine lv_iinc (v := x3_3) (lv' := [(3, .int x3_3), (0, .ref (BA.o aB))]) hx hb dX0_makeEmpty_30 hl (k := 1) rfl (by rw [ex3_3]; rfl) (by decide) rfl (fun ls hl => ?_)
  refine lv_goto (tgt := 17) hx hb dX0_makeEmpty_33 (by decide) ?_
  exact hP _ _ _ _ _ h hw (lv_sub hl [1, 0] rfl)
set_option maxHeartbeats 4000000 in
set_option maxRecDepth 100000 in
theorem k_X0_makeEmpty_17 {p : Program} {l : Launch} {e : Env} {s : State} {m : MethodId} {below : List Frame} {meth : Method} {c : Code} {args : Array Value} {D : va_G} {t : T3} {A : Nat → Prop} (X : Cx p s m meth c args cX0_makeEmpty 4 none RX0 wsX0_makeEmpty D t A) (aB : BA) {Q : BV → Prop} {K36 : BV → Prop} (hK36 : ∀ (vB : BV) (H : Heap) (locs : List Loc) (ls : Array Slot), K36 vB → Wd D A s.heap (bW t aB vB) H locs → lv_has ls 4 [(0, .ref (BA.o aB))] → W p l e ({ frames := 0, cells := 0, slots := 0, locals := 0 } : Room) s m args below meth c H locs 0 0 (Ev below args s A D (fun (u : BV) => (bW t aB u)) (fun (u : BV) => Q u) 0 0) (F0 m 36 ls [])) : ∀ (vB : BV) (x3 : Int32) (H : Heap) (locs : List Loc) (ls : Array Slot), wp_X0_makeEmpty_17 Q K36 vB x3 → Wd D A s.heap (bW t aB vB) H locs → lv_has ls 4 [(0, .ref (BA.o aB)), (3, .int x3)] → W p l e ({ frames := 0, cells := 0, slots := 0, locals := 0 } : Room) s m args below meth c H locs 0 0 (Ev below args s A D (fun (u : BV) => (bW t aB u)) (fun (u : BV) => Q u) 0 0) (F0 m 17 ls []) := by
  intro vB x3 H locs ls h hw hl
  have hx := X.1.1
  have hb := X.1.2.1
  refine h (fun (vB : BV) (x3 : Int32) => ∀ (H : Heap) (locs : List Loc) (ls : Array Slot), Wd D A s.heap (bW t aB vB) H locs → lv_has ls 4 [(0, .ref (BA.o aB)), (3, .int x3)] → W p l e ({ frames := 0, cells := 0, slots := 0, locals := 0 } : Room) s m args below meth c H locs 0 0 (Ev below args s A D (fun (u : BV) => (bW t aB u)) (fun (u : BV) => Q u) 0 0) (F0 m 17 ls [])) (fun vB x3 h H locs ls hw hl => ?_) H locs ls hw hl
  exact kb_X0_makeEmpty_17 X aB (fun vB x3 H locs ls q hw hl => q H locs ls hw hl) hK36 vB x3 _ _ _ h hw hl
def bd_X0_makeEmpty_38 (Q : BV → Prop) (P : BV → Int32 → Prop) (vB : BV) (x3 : Int32) : Prop := (12 ≤ x3 → Q vB) ∧ (¬ 12 ≤ x3 → vp_in x3 12 ∧ ∀ p_7 : Nat → Int32, p_7 = upd (BV.places vB) (Int32.toNatClampNeg x3) (-1) → ∀ x3_8 : Int32, x3_8 = x3 + 1 → P (BV.s_places vB p_7) x3_8)
def wp_X0_makeEmpty_38 (Q : BV → Prop)  (vB : BV) (x3 : Int32) : Prop := ∀ P : BV → Int32 → Prop, (∀ (vB : BV) (x3 : Int32), bd_X0_makeEmpty_38 Q P  vB x3 → P vB x3) → P vB x3
set_option maxHeartbeats 4000000 in
set_option maxRecDepth 100000 in
theorem kb_X0_makeEmpty_38 {p : Program} {l : Launch} {e : Env} {s : State} {m : MethodId} {below : List Frame} {meth : Method} {c : Code} {args : Array Value} {D : va_G} {t : T3} {A : Nat → Prop} (X : Cx p s m meth c args cX0_makeEmpty 4 none RX0 wsX0_makeEmpty D t A) (aB : BA) {Q : BV → Prop} {P : BV → Int32 → Prop} (hP : ∀ (vB : BV) (x3 : Int32) (H : Heap) (locs : List Loc) (ls : Array Slot), P vB x3 → Wd D A s.heap (bW t aB vB) H locs → lv_has ls 4 [(0, .ref (BA.o aB)), (3, .int x3)] → W p l e ({ frames := 0, cells := 0, slots := 0, locals := 0 } : Room) s m args below meth c H locs 0 0 (Ev below args s A D (fun (u : BV) => (bW t aB u)) (fun (u : BV) => Q u) 0 0) (F0 m 38 ls [])) : ∀ (vB : BV) (x3 : Int32) (H : Heap) (locs : List Loc) (ls : Array Slot), bd_X0_makeEmpty_38 Q P  vB x3 → Wd D A s.heap (bW t aB vB) H locs → lv_has ls 4 [(0, .ref (BA.o aB)), (3, .int x3)] → W p l e ({ frames := 0, cells := 0, slots := 0, locals := 0 } : Room) s m args below meth c H locs 0 0 (Ev below args s A D (fun (u : BV) => (bW t aB u)) (fun (u : BV) => Q u) 0 0) (F0 m 38 ls []) := by
  intro vB x3 H locs ls h hw hl
  have hx := X.1.1
  have hb := X.1.2.1
  refine lv_iload_n hx hb dX0_makeEmpty_38 rfl (lv_at hl 1 rfl) ?_
  refine lv_bipush (v := 12) hx hb dX0_makeEmpty_39 (by decide) ?_
  refine lv_icmp_ge (tgt := 57) hx hb dX0_makeEmpty_41 (by decide) (fun c_9 => ?_) (fun c_9 => ?_)
  · replace h := h.1 c_9
    exact e_v (w1 := (fun (u : BV) => (bW t aB u))) X (vB) hw h dX0_makeEmpty_57
  replace h := h.2 c_9
  refine lv_aload_n hx hb dX0_makeEmpty_44 rfl (lv_at hl 0 rfl) ?_
  refine r_get (ci := 0) (C := RX0) (T := TX0) (N := 8) X hw 0 rfl rfl 6 (by decide) in_X0_makeEmpty_X0 fl_X0_makeEmpty_31 (v := .ref (BA.places aB)) rfl dX0_makeEmpty_45 ?_
  refine lv_iload_n hx hb dX0_makeEmpty_48 rfl (lv_at hl 1 rfl) ?_
  refine lv_iconst (v := (-1)) hx hb dX0_makeEmpty_49 (by decide) ?_
  obtain ⟨hi_6, h⟩ := h
  obtain ⟨p_7, ep_7⟩ : ∃ z : Nat → Int32, z = upd (BV.places vB) (Int32.toNatClampNeg x3) (-1) := ⟨_, rfl⟩
  replace h := h p_7 ep_7
  refine r_iast (ws' := (bW t aB (BV.s_places vB p_7))) X hw 2 rfl hi_6 (by subst ep_7; rfl) dX0_makeEmpty_50 (fun H locs hw => ?_)
  obtain ⟨x3_8, ex3_8⟩ : ∃ z : Int32, z = x3 + 1 := ⟨_, rfl⟩
  replace h := h x3_8 ex3_8
  refine lv_iinc (v := x3_8) (lv' := [(3, .int x3_8), (0, .ref (BA.o aB))]) hx hb dX0_makeEmpty_51 hl (k := 1) rfl (by rw [ex3_8]; rfl) (by decide) rfl (fun ls hl => ?_)
  refine lv_goto (tgt := 38) hx hb dX0_makeEmpty_54 (by decide) ?_
  exact hP _ _ _ _ _ h hw (lv_sub hl [1, 0] rfl)
set_option maxHeartbeats 4000000 in
set_option maxRecDepth 100000 in
theorem k_X0_makeEmpty_38 {p : Program} {l : Launch} {e : Env} {s : State} {m : MethodId} {below : List Frame} {meth : Method} {c : Code} {args : Array Value} {D : va_G} {t : T3} {A : Nat → Prop} (X : Cx p s m meth c args cX0_makeEmpty 4 none RX0 wsX0_makeEmpty D t A) (aB : BA) {Q : BV → Prop}   : ∀ (vB : BV) (x3 : Int32) (H : Heap) (locs : List Loc) (ls : Array Slot), wp_X0_makeEmpty_38 Q  vB x3 → Wd D A s.heap (bW t aB vB) H locs → lv_has ls 4 [(0, .ref (BA.o aB)), (3, .int x3)] → W p l e ({ frames := 0, cells := 0, slots := 0, locals := 0 } : Room) s m args below meth c H locs 0 0 (Ev below args s A D (fun (u : BV) => (bW t aB u)) (fun (u : BV) => Q u) 0 0) (F0 m 38 ls []) := by
  intro vB x3 H locs ls h hw hl
  have hx := X.1.1
  have hb := X.1.2.1
  refine h (fun (vB : BV) (x3 : Int32) => ∀ (H : Heap) (locs : List Loc) (ls : Array Slot), Wd D A s.heap (bW t aB vB) H locs → lv_has ls 4 [(0, .ref (BA.o aB)), (3, .int x3)] → W p l e ({ frames := 0, cells := 0, slots := 0, locals := 0 } : Room) s m args below meth c H locs 0 0 (Ev below args s A D (fun (u : BV) => (bW t aB u)) (fun (u : BV) => Q u) 0 0) (F0 m 38 ls [])) (fun vB x3 h H locs ls hw hl => ?_) H locs ls hw hl
  exact kb_X0_makeEmpty_38 X aB (fun vB x3 H locs ls q hw hl => q H locs ls hw hl)  vB x3 _ _ _ h hw hl
def wp_X0_makeEmpty (vB : BV) (p1 : Int32) (p2 : Int32) (Q : BV → Prop) : Prop := wp_X0_makeEmpty_17 Q (fun (vB_5 : BV) => wp_X0_makeEmpty_38 Q  vB_5 0) (BV.s_fixed (BV.s_columns (BV.s_rows vB p1) p2) 0) 0
set_option maxHeartbeats 4000000 in
set_option maxRecDepth 100000 in
theorem c_X0_makeEmpty (l : Launch) (D : va_G) (t : T3) (aB : BA) (vB : BV) (p1 : Int32) (p2 : Int32) (Q : BV → Prop) (h : wp_X0_makeEmpty vB p1 p2 Q) : Ct l yX0_makeEmpty wsX0_makeEmpty 0 0 0 0 [.ref (BA.o aB), .int p1, .int p2] D t (bW t aB vB) (fun sz => Qv D (bW t aB vB) (fun (u : BV) => (bW t aB u)) (fun (u : BV) => Q u) sz) := by
  refine Ct.of (Qf := fun _ A => va_Qv (fun (u : BV) => Q u) (B1 D (fun (u : BV) => (bW t aB u)) A) A) cX0_makeEmpty 4 none (by decide) rfl (Nat.le_of_ble_eq_true rfl) ?_
  intro p e s m below meth c A ls hAe hin X hw hl
  generalize ([.ref (BA.o aB), .int p1, .int p2] : List Value).toArray = args at X ⊢
  have hl : lv_has ls 4 [(0, .ref (BA.o aB)), (1, .int p1), (2, .int p2)] := hl
  have hx := X.1.1
  have hb := X.1.2.1
  refine lv_aload_n hx hb dX0_makeEmpty_0 rfl (lv_at hl 0 rfl) ?_
  refine lv_iload_n hx hb dX0_makeEmpty_1 rfl (lv_at hl 1 rfl) ?_
  refine r_put (ci := 0) (C := RX0) (T := TX0) (N := 8) (v := .int p1) (ws' := (bW t aB (BV.s_rows vB p1))) X hw 0 rfl rfl 0 (by decide) in_X0_makeEmpty_X0 tyX0 tyX0_ok nmX0 fl_X0_makeEmpty_9 rfl rfl rfl (Nat.le_of_ble_eq_true rfl) rfl dX0_makeEmpty_2 (fun H locs hw => ?_)
  refine lv_aload_n hx hb dX0_makeEmpty_5 rfl (lv_at hl 0 rfl) ?_
  refine lv_iload_n hx hb dX0_makeEmpty_6 rfl (lv_at hl 2 rfl) ?_
  refine r_put (ci := 0) (C := RX0) (T := TX0) (N := 8) (v := .int p2) (ws' := (bW t aB (BV.s_columns (BV.s_rows vB p1) p2))) X hw 0 rfl rfl 1 (by decide) in_X0_makeEmpty_X0 tyX0 tyX0_ok nmX0 fl_X0_makeEmpty_15 rfl rfl rfl (Nat.le_of_ble_eq_true rfl) rfl dX0_makeEmpty_7 (fun H locs hw => ?_)
  refine lv_aload_n hx hb dX0_makeEmpty_10 rfl (lv_at hl 0 rfl) ?_
  refine lv_iconst (v := 0) hx hb dX0_makeEmpty_11 (by decide) ?_
  refine r_put (ci := 0) (C := RX0) (T := TX0) (N := 8) (v := .int 0) (ws' := (bW t aB (BV.s_fixed (BV.s_columns (BV.s_rows vB p1) p2) 0))) X hw 0 rfl rfl 4 (by decide) in_X0_makeEmpty_X0 tyX0 tyX0_ok nmX0 fl_X0_makeEmpty_24 rfl rfl rfl (Nat.le_of_ble_eq_true rfl) rfl dX0_makeEmpty_12 (fun H locs hw => ?_)
  refine lv_iconst (v := 0) hx hb dX0_makeEmpty_15 (by decide) ?_
  refine lv_istore_n (lv' := [(3, .int 0), (0, .ref (BA.o aB)), (1, .int p1), (2, .int p2)]) hx hb dX0_makeEmpty_16 rfl hl (by decide) rfl (fun ls hl => ?_)
  refine k_X0_makeEmpty_17 X aB (fun vB_5 H locs ls h hw hl => ?_) _ _ _ _ _ h hw (lv_sub hl [1, 0] rfl)
  refine lv_iconst (v := 0) hx hb dX0_makeEmpty_36 (by decide) ?_
  refine lv_istore_n (lv' := [(3, .int 0), (0, .ref (BA.o aB))]) hx hb dX0_makeEmpty_37 rfl hl (by decide) rfl (fun ls hl => ?_)
  refine k_X0_makeEmpty_38 X aB  _ _ _ _ _ h hw (lv_sub hl [1, 0] rfl)
/-! X0_cells -/
theorem in_X0_cells_X0 : ∀ w ∈ u_ws RX0 TX0 8, w ∈ wsX0_cells := fun w h => (List.mem_cons_of_mem _ (List.mem_append_right _ h))
theorem fl_X0_cells_9 : Cond.fieldLink RX0 9 "TwoFacedTiles$Board" "rows" "I" ∈ wsX0_cells := List.mem_of_getElem? (i := 1) rfl
theorem fl_X0_cells_15 : Cond.fieldLink RX0 15 "TwoFacedTiles$Board" "columns" "I" ∈ wsX0_cells := List.mem_of_getElem? (i := 2) rfl
def wp_X0_cells (vB : BV) (Q : Int32 → BV → Prop) : Prop := Q ((BV.rows vB) * (BV.columns vB)) vB
set_option maxHeartbeats 4000000 in
set_option maxRecDepth 100000 in
theorem c_X0_cells (l : Launch) (D : va_G) (t : T3) (aB : BA) (vB : BV) (Q : Int32 → BV → Prop) (h : wp_X0_cells vB Q) : Ct l yX0_cells wsX0_cells 0 0 0 0 [.ref (BA.o aB)] D t (bW t aB vB) (fun sz => Qi D (bW t aB vB) (fun (u : BV) => (bW t aB u)) (fun (r : Int32) (u : BV) => Q r u) sz) := by
  refine Ct.of (Qf := fun _ A => va_Qi (fun (r : Int32) (u : BV) => Q r u) (B1 D (fun (u : BV) => (bW t aB u)) A) A) cX0_cells 1 (some .int) (by decide) rfl (Nat.le_of_ble_eq_true rfl) ?_
  intro p e s m below meth c A ls hAe hin X hw hl
  generalize ([.ref (BA.o aB)] : List Value).toArray = args at X ⊢
  have hl : lv_has ls 1 [(0, .ref (BA.o aB))] := hl
  have hx := X.1.1
  have hb := X.1.2.1
  refine lv_aload_n hx hb dX0_cells_0 rfl (lv_at hl 0 rfl) ?_
  refine r_get (ci := 0) (C := RX0) (T := TX0) (N := 8) X hw 0 rfl rfl 0 (by decide) in_X0_cells_X0 fl_X0_cells_9 (v := .int (BV.rows vB)) rfl dX0_cells_1 ?_
  refine lv_aload_n hx hb dX0_cells_4 rfl (lv_at hl 0 rfl) ?_
  refine r_get (ci := 0) (C := RX0) (T := TX0) (N := 8) X hw 0 rfl rfl 1 (by decide) in_X0_cells_X0 fl_X0_cells_15 (v := .int (BV.columns vB)) rfl dX0_cells_5 ?_
  refine lv_imul hx hb dX0_cells_8 ?_
  exact e_i (w1 := (fun (u : BV) => (bW t aB u))) X (vB) hw h dX0_cells_9
/-! X0_hasCell -/
def wp_X0_hasCell (vB : BV) (p1 : Int32) (Q : Int32 → BV → Prop) : Prop := (p1 < 0 → Q 0 vB) ∧ (¬ p1 < 0 → wp_X0_cells vB  (fun (r_2 : Int32) (vB_1 : BV) => (r_2 ≤ p1 → Q 0 vB_1) ∧ (¬ r_2 ≤ p1 → Q 1 vB_1)))
set_option maxHeartbeats 4000000 in
set_option maxRecDepth 100000 in
theorem c_X0_hasCell (l : Launch) (D : va_G) (t : T3) (aB : BA) (vB : BV) (p1 : Int32) (Q : Int32 → BV → Prop) (h : wp_X0_hasCell vB p1 Q) : Ct l yX0_hasCell wsX0_hasCell 1 20 0 0 [.ref (BA.o aB), .int p1] D t (bW t aB vB) (fun sz => Qi D (bW t aB vB) (fun (u : BV) => (bW t aB u)) (fun (r : Int32) (u : BV) => Q r u) sz) := by
  refine Ct.of (Qf := fun _ A => va_Qi (fun (r : Int32) (u : BV) => Q r u) (B1 D (fun (u : BV) => (bW t aB u)) A) A) cX0_hasCell 2 (some .boolean) (by decide) rfl (Nat.le_of_ble_eq_true rfl) ?_
  intro p e s m below meth c A ls hAe hin X hw hl
  generalize ([.ref (BA.o aB), .int p1] : List Value).toArray = args at X ⊢
  have hl : lv_has ls 2 [(0, .ref (BA.o aB)), (1, .int p1)] := hl
  have hx := X.1.1
  have hb := X.1.2.1
  refine lv_iload_n hx hb dX0_hasCell_0 rfl (lv_at hl 1 rfl) ?_
  refine lv_if_lt (tgt := 16) hx hb dX0_hasCell_1 (by decide) (fun c_4 => ?_) (fun c_4 => ?_)
  · replace h := h.1 c_4
    refine lv_iconst (v := 0) hx hb dX0_hasCell_16 (by decide) ?_
    exact e_z (w1 := (fun (u : BV) => (bW t aB u))) X isB_0 (vB) hw h dX0_hasCell_17
  replace h := h.2 c_4
  refine lv_iload_n hx hb dX0_hasCell_4 rfl (lv_at hl 1 rfl) ?_
  refine lv_aload_n hx hb dX0_hasCell_5 rfl (lv_at hl 0 rfl) ?_
  refine r_ci X hw pm_0 (wn := fun (u : BV) => (bW t aB u)) (fun u => pm_0.symm) (r_runV X hw (c_X0_cells l D t aB vB _ h) pm_0 (cwV 0 X.1.2.2.2.2 gX0_hasCell_X0_cells rfl rfl rfl (by decide +kernel) ⟨Nat.le_of_ble_eq_true rfl, Nat.le_of_ble_eq_true rfl⟩) (ci := 0) rfl rfl rfl rfl hl rfl (Nat.le_of_ble_eq_true rfl) dX0_hasCell_6 ⟨Nat.le_of_ble_eq_true rfl, Nat.le_of_ble_eq_true rfl⟩) (fun r_2 u H locs h hw => ?_)
  obtain ⟨vB_1, rfl⟩ : ∃ z, z = u := ⟨_, rfl⟩
  refine lv_icmp_ge (tgt := 16) hx hb dX0_hasCell_9 (by decide) (fun c_3 => ?_) (fun c_3 => ?_)
  · replace h := h.1 c_3
    refine lv_iconst (v := 0) hx hb dX0_hasCell_16 (by decide) ?_
    exact e_z (w1 := (fun (u : BV) => (bW t aB u))) X isB_0 (vB_1) hw h dX0_hasCell_17
  replace h := h.2 c_3
  refine lv_iconst (v := 1) hx hb dX0_hasCell_12 (by decide) ?_
  refine lv_goto (tgt := 17) hx hb dX0_hasCell_13 (by decide) ?_
  exact e_z (w1 := (fun (u : BV) => (bW t aB u))) X isB_1 (vB_1) hw h dX0_hasCell_17
/-! X0_hasPlacing -/
theorem in_X0_hasPlacing_X0 : ∀ w ∈ u_ws RX0 TX0 8, w ∈ wsX0_hasPlacing := fun w h => (List.mem_cons_of_mem _ (List.mem_append_right _ h))
theorem fl_X0_hasPlacing_21 : Cond.fieldLink RX0 21 "TwoFacedTiles$Board" "tiles" "I" ∈ wsX0_hasPlacing := List.mem_of_getElem? (i := 1) rfl
def wp_X0_hasPlacing (vB : BV) (p1 : Int32) (Q : Int32 → BV → Prop) : Prop := (p1 < 0 → Q 0 vB) ∧ (¬ p1 < 0 → ((8 * (BV.tiles vB)) ≤ p1 → Q 0 vB) ∧ (¬ (8 * (BV.tiles vB)) ≤ p1 → Q 1 vB))
set_option maxHeartbeats 4000000 in
set_option maxRecDepth 100000 in
theorem c_X0_hasPlacing (l : Launch) (D : va_G) (t : T3) (aB : BA) (vB : BV) (p1 : Int32) (Q : Int32 → BV → Prop) (h : wp_X0_hasPlacing vB p1 Q) : Ct l yX0_hasPlacing wsX0_hasPlacing 0 0 0 0 [.ref (BA.o aB), .int p1] D t (bW t aB vB) (fun sz => Qi D (bW t aB vB) (fun (u : BV) => (bW t aB u)) (fun (r : Int32) (u : BV) => Q r u) sz) := by
  refine Ct.of (Qf := fun _ A => va_Qi (fun (r : Int32) (u : BV) => Q r u) (B1 D (fun (u : BV) => (bW t aB u)) A) A) cX0_hasPlacing 2 (some .boolean) (by decide) rfl (Nat.le_of_ble_eq_true rfl) ?_
  intro p e s m below meth c A ls hAe hin X hw hl
  generalize ([.ref (BA.o aB), .int p1] : List Value).toArray = args at X ⊢
  have hl : lv_has ls 2 [(0, .ref (BA.o aB)), (1, .int p1)] := hl
  have hx := X.1.1
  have hb := X.1.2.1
  refine lv_iload_n hx hb dX0_hasPlacing_0 rfl (lv_at hl 1 rfl) ?_
  refine lv_if_lt (tgt := 19) hx hb dX0_hasPlacing_1 (by decide) (fun c_2 => ?_) (fun c_2 => ?_)
  · replace h := h.1 c_2
    refine lv_iconst (v := 0) hx hb dX0_hasPlacing_19 (by decide) ?_
    exact e_z (w1 := (fun (u : BV) => (bW t aB u))) X isB_0 (vB) hw h dX0_hasPlacing_20
  replace h := h.2 c_2
  refine lv_iload_n hx hb dX0_hasPlacing_4 rfl (lv_at hl 1 rfl) ?_
  refine lv_bipush (v := 8) hx hb dX0_hasPlacing_5 (by decide) ?_
  refine lv_aload_n hx hb dX0_hasPlacing_7 rfl (lv_at hl 0 rfl) ?_
  refine r_get (ci := 0) (C := RX0) (T := TX0) (N := 8) X hw 0 rfl rfl 3 (by decide) in_X0_hasPlacing_X0 fl_X0_hasPlacing_21 (v := .int (BV.tiles vB)) rfl dX0_hasPlacing_8 ?_
  refine lv_imul hx hb dX0_hasPlacing_11 ?_
  refine lv_icmp_ge (tgt := 19) hx hb dX0_hasPlacing_12 (by decide) (fun c_1 => ?_) (fun c_1 => ?_)
  · replace h := h.1 c_1
    refine lv_iconst (v := 0) hx hb dX0_hasPlacing_19 (by decide) ?_
    exact e_z (w1 := (fun (u : BV) => (bW t aB u))) X isB_0 (vB) hw h dX0_hasPlacing_20
  replace h := h.2 c_1
  refine lv_iconst (v := 1) hx hb dX0_hasPlacing_15 (by decide) ?_
  refine lv_goto (tgt := 20) hx hb dX0_hasPlacing_16 (by decide) ?_
  exact e_z (w1 := (fun (u : BV) => (bW t aB u))) X isB_1 (vB) hw h dX0_hasPlacing_20
/-! X0_isEmpty -/
theorem in_X0_isEmpty_X0 : ∀ w ∈ u_ws RX0 TX0 8, w ∈ wsX0_isEmpty := fun w h => (List.mem_cons_of_mem _ (List.mem_append_right _ h))
theorem fl_X0_isEmpty_27 : Cond.fieldLink RX0 27 "TwoFacedTiles$Board" "placings" "[I" ∈ wsX0_isEmpty := List.mem_of_getElem? (i := 1) rfl
def wp_X0_isEmpty (vB : BV) (p1 : Int32) (Q : Int32 → BV → Prop) : Prop := vp_in p1 12 ∧ (¬ ((BV.placings vB) (Int32.toNatClampNeg p1)) = (-1) → Q 0 vB) ∧ (((BV.placings vB) (Int32.toNatClampNeg p1)) = (-1) → Q 1 vB)
set_option maxHeartbeats 4000000 in
set_option maxRecDepth 100000 in
theorem c_X0_isEmpty (l : Launch) (D : va_G) (t : T3) (aB : BA) (vB : BV) (p1 : Int32) (Q : Int32 → BV → Prop) (h : wp_X0_isEmpty vB p1 Q) : Ct l yX0_isEmpty wsX0_isEmpty 0 0 0 0 [.ref (BA.o aB), .int p1] D t (bW t aB vB) (fun sz => Qi D (bW t aB vB) (fun (u : BV) => (bW t aB u)) (fun (r : Int32) (u : BV) => Q r u) sz) := by
  refine Ct.of (Qf := fun _ A => va_Qi (fun (r : Int32) (u : BV) => Q r u) (B1 D (fun (u : BV) => (bW t aB u)) A) A) cX0_isEmpty 2 (some .boolean) (by decide) rfl (Nat.le_of_ble_eq_true rfl) ?_
  intro p e s m below meth c A ls hAe hin X hw hl
  generalize ([.ref (BA.o aB), .int p1] : List Value).toArray = args at X ⊢
  have hl : lv_has ls 2 [(0, .ref (BA.o aB)), (1, .int p1)] := hl
  have hx := X.1.1
  have hb := X.1.2.1
  refine lv_aload_n hx hb dX0_isEmpty_0 rfl (lv_at hl 0 rfl) ?_
  refine r_get (ci := 0) (C := RX0) (T := TX0) (N := 8) X hw 0 rfl rfl 5 (by decide) in_X0_isEmpty_X0 fl_X0_isEmpty_27 (v := .ref (BA.placings aB)) rfl dX0_isEmpty_1 ?_
  refine lv_iload_n hx hb dX0_isEmpty_4 rfl (lv_at hl 1 rfl) ?_
  obtain ⟨hi_1, h⟩ := h
  refine r_iald (v := ((BV.placings vB) (Int32.toNatClampNeg p1))) X hw 1 rfl hi_1 rfl dX0_isEmpty_5 ?_
  refine lv_iconst (v := (-1)) hx hb dX0_isEmpty_6 (by decide) ?_
  refine lv_icmp_ne (tgt := 14) hx hb dX0_isEmpty_7 (by decide) (fun c_2 => ?_) (fun c_2 => ?_)
  · replace h := h.1 c_2
    refine lv_iconst (v := 0) hx hb dX0_isEmpty_14 (by decide) ?_
    exact e_z (w1 := (fun (u : BV) => (bW t aB u))) X isB_0 (vB) hw h dX0_isEmpty_15
  replace h := h.2 c_2
  refine lv_iconst (v := 1) hx hb dX0_isEmpty_10 (by decide) ?_
  refine lv_goto (tgt := 15) hx hb dX0_isEmpty_11 (by decide) ?_
  exact e_z (w1 := (fun (u : BV) => (bW t aB u))) X isB_1 (vB) hw h dX0_isEmpty_15
/-! X0_isFixed -/
theorem in_X0_isFixed_X0 : ∀ w ∈ u_ws RX0 TX0 8, w ∈ wsX0_isFixed := fun w h => (List.mem_cons_of_mem _ (List.mem_append_right _ h))
theorem fl_X0_isFixed_24 : Cond.fieldLink RX0 24 "TwoFacedTiles$Board" "fixed" "I" ∈ wsX0_isFixed := List.mem_of_getElem? (i := 1) rfl
def wp_X0_isFixed (vB : BV) (p1 : Int32) (Q : Int32 → BV → Prop) : Prop := (¬ ((jshr (BV.fixed vB) p1) &&& 1) = 1 → Q 0 vB) ∧ (((jshr (BV.fixed vB) p1) &&& 1) = 1 → Q 1 vB)
set_option maxHeartbeats 4000000 in
set_option maxRecDepth 100000 in
theorem c_X0_isFixed (l : Launch) (D : va_G) (t : T3) (aB : BA) (vB : BV) (p1 : Int32) (Q : Int32 → BV → Prop) (h : wp_X0_isFixed vB p1 Q) : Ct l yX0_isFixed wsX0_isFixed 0 0 0 0 [.ref (BA.o aB), .int p1] D t (bW t aB vB) (fun sz => Qi D (bW t aB vB) (fun (u : BV) => (bW t aB u)) (fun (r : Int32) (u : BV) => Q r u) sz) := by
  refine Ct.of (Qf := fun _ A => va_Qi (fun (r : Int32) (u : BV) => Q r u) (B1 D (fun (u : BV) => (bW t aB u)) A) A) cX0_isFixed 2 (some .boolean) (by decide) rfl (Nat.le_of_ble_eq_true rfl) ?_
  intro p e s m below meth c A ls hAe hin X hw hl
  generalize ([.ref (BA.o aB), .int p1] : List Value).toArray = args at X ⊢
  have hl : lv_has ls 2 [(0, .ref (BA.o aB)), (1, .int p1)] := hl
  have hx := X.1.1
  have hb := X.1.2.1
  refine lv_aload_n hx hb dX0_isFixed_0 rfl (lv_at hl 0 rfl) ?_
  refine r_get (ci := 0) (C := RX0) (T := TX0) (N := 8) X hw 0 rfl rfl 4 (by decide) in_X0_isFixed_X0 fl_X0_isFixed_24 (v := .int (BV.fixed vB)) rfl dX0_isFixed_1 ?_
  refine lv_iload_n hx hb dX0_isFixed_4 rfl (lv_at hl 1 rfl) ?_
  refine r_ishr hx hb dX0_isFixed_5 ?_
  refine lv_iconst (v := 1) hx hb dX0_isFixed_6 (by decide) ?_
  refine lv_iand hx hb dX0_isFixed_7 ?_
  refine lv_iconst (v := 1) hx hb dX0_isFixed_8 (by decide) ?_
  refine lv_icmp_ne (tgt := 16) hx hb dX0_isFixed_9 (by decide) (fun c_1 => ?_) (fun c_1 => ?_)
  · replace h := h.1 c_1
    refine lv_iconst (v := 0) hx hb dX0_isFixed_16 (by decide) ?_
    exact e_z (w1 := (fun (u : BV) => (bW t aB u))) X isB_0 (vB) hw h dX0_isFixed_17
  replace h := h.2 c_1
  refine lv_iconst (v := 1) hx hb dX0_isFixed_12 (by decide) ?_
  refine lv_goto (tgt := 17) hx hb dX0_isFixed_13 (by decide) ?_
  exact e_z (w1 := (fun (u : BV) => (bW t aB u))) X isB_1 (vB) hw h dX0_isFixed_17
/-! X0_isLaid -/
theorem in_X0_isLaid_X0 : ∀ w ∈ u_ws RX0 TX0 8, w ∈ wsX0_isLaid := fun w h => (List.mem_cons_of_mem _ (List.mem_append_right _ h))
theorem fl_X0_isLaid_31 : Cond.fieldLink RX0 31 "TwoFacedTiles$Board" "places" "[I" ∈ wsX0_isLaid := List.mem_of_getElem? (i := 1) rfl
def wp_X0_isLaid (vB : BV) (p1 : Int32) (Q : Int32 → BV → Prop) : Prop := vp_in p1 12 ∧ (((BV.places vB) (Int32.toNatClampNeg p1)) = (-1) → Q 0 vB) ∧ (¬ ((BV.places vB) (Int32.toNatClampNeg p1)) = (-1) → Q 1 vB)
set_option maxHeartbeats 4000000 in
set_option maxRecDepth 100000 in
theorem c_X0_isLaid (l : Launch) (D : va_G) (t : T3) (aB : BA) (vB : BV) (p1 : Int32) (Q : Int32 → BV → Prop) (h : wp_X0_isLaid vB p1 Q) : Ct l yX0_isLaid wsX0_isLaid 0 0 0 0 [.ref (BA.o aB), .int p1] D t (bW t aB vB) (fun sz => Qi D (bW t aB vB) (fun (u : BV) => (bW t aB u)) (fun (r : Int32) (u : BV) => Q r u) sz) := by
  refine Ct.of (Qf := fun _ A => va_Qi (fun (r : Int32) (u : BV) => Q r u) (B1 D (fun (u : BV) => (bW t aB u)) A) A) cX0_isLaid 2 (some .boolean) (by decide) rfl (Nat.le_of_ble_eq_true rfl) ?_
  intro p e s m below meth c A ls hAe hin X hw hl
  generalize ([.ref (BA.o aB), .int p1] : List Value).toArray = args at X ⊢
  have hl : lv_has ls 2 [(0, .ref (BA.o aB)), (1, .int p1)] := hl
  have hx := X.1.1
  have hb := X.1.2.1
  refine lv_aload_n hx hb dX0_isLaid_0 rfl (lv_at hl 0 rfl) ?_
  refine r_get (ci := 0) (C := RX0) (T := TX0) (N := 8) X hw 0 rfl rfl 6 (by decide) in_X0_isLaid_X0 fl_X0_isLaid_31 (v := .ref (BA.places aB)) rfl dX0_isLaid_1 ?_
  refine lv_iload_n hx hb dX0_isLaid_4 rfl (lv_at hl 1 rfl) ?_
  obtain ⟨hi_1, h⟩ := h
  refine r_iald (v := ((BV.places vB) (Int32.toNatClampNeg p1))) X hw 2 rfl hi_1 rfl dX0_isLaid_5 ?_
  refine lv_iconst (v := (-1)) hx hb dX0_isLaid_6 (by decide) ?_
  refine lv_icmp_eq (tgt := 14) hx hb dX0_isLaid_7 (by decide) (fun c_2 => ?_) (fun c_2 => ?_)
  · replace h := h.1 c_2
    refine lv_iconst (v := 0) hx hb dX0_isLaid_14 (by decide) ?_
    exact e_z (w1 := (fun (u : BV) => (bW t aB u))) X isB_0 (vB) hw h dX0_isLaid_15
  replace h := h.2 c_2
  refine lv_iconst (v := 1) hx hb dX0_isLaid_10 (by decide) ?_
  refine lv_goto (tgt := 15) hx hb dX0_isLaid_11 (by decide) ?_
  exact e_z (w1 := (fun (u : BV) => (bW t aB u))) X isB_1 (vB) hw h dX0_isLaid_15
/-! X0_lookIn -/
theorem in_X0_lookIn_X0 : ∀ w ∈ u_ws RX0 TX0 8, w ∈ wsX0_lookIn := fun w h => (List.mem_cons_of_mem _ (List.mem_append_right _ h))
theorem fl_X0_lookIn_34 : Cond.fieldLink RX0 34 "TwoFacedTiles$Board" "looks" "[I" ∈ wsX0_lookIn := List.mem_of_getElem? (i := 1) rfl
theorem fl_X0_lookIn_27 : Cond.fieldLink RX0 27 "TwoFacedTiles$Board" "placings" "[I" ∈ wsX0_lookIn := List.mem_of_getElem? (i := 2) rfl
def wp_X0_lookIn (vB : BV) (p1 : Int32) (Q : Int32 → BV → Prop) : Prop := vp_in p1 12 ∧ vp_in ((BV.placings vB) (Int32.toNatClampNeg p1)) 96 ∧ Q ((BV.looks vB) (Int32.toNatClampNeg ((BV.placings vB) (Int32.toNatClampNeg p1)))) vB
set_option maxHeartbeats 4000000 in
set_option maxRecDepth 100000 in
theorem c_X0_lookIn (l : Launch) (D : va_G) (t : T3) (aB : BA) (vB : BV) (p1 : Int32) (Q : Int32 → BV → Prop) (h : wp_X0_lookIn vB p1 Q) : Ct l yX0_lookIn wsX0_lookIn 0 0 0 0 [.ref (BA.o aB), .int p1] D t (bW t aB vB) (fun sz => Qi D (bW t aB vB) (fun (u : BV) => (bW t aB u)) (fun (r : Int32) (u : BV) => Q r u) sz) := by
  refine Ct.of (Qf := fun _ A => va_Qi (fun (r : Int32) (u : BV) => Q r u) (B1 D (fun (u : BV) => (bW t aB u)) A) A) cX0_lookIn 2 (some .int) (by decide) rfl (Nat.le_of_ble_eq_true rfl) ?_
  intro p e s m below meth c A ls hAe hin X hw hl
  generalize ([.ref (BA.o aB), .int p1] : List Value).toArray = args at X ⊢
  have hl : lv_has ls 2 [(0, .ref (BA.o aB)), (1, .int p1)] := hl
  have hx := X.1.1
  have hb := X.1.2.1
  refine lv_aload_n hx hb dX0_lookIn_0 rfl (lv_at hl 0 rfl) ?_
  refine r_get (ci := 0) (C := RX0) (T := TX0) (N := 8) X hw 0 rfl rfl 7 (by decide) in_X0_lookIn_X0 fl_X0_lookIn_34 (v := .ref (BA.looks aB)) rfl dX0_lookIn_1 ?_
  refine lv_aload_n hx hb dX0_lookIn_4 rfl (lv_at hl 0 rfl) ?_
  refine r_get (ci := 0) (C := RX0) (T := TX0) (N := 8) X hw 0 rfl rfl 5 (by decide) in_X0_lookIn_X0 fl_X0_lookIn_27 (v := .ref (BA.placings aB)) rfl dX0_lookIn_5 ?_
  refine lv_iload_n hx hb dX0_lookIn_8 rfl (lv_at hl 1 rfl) ?_
  obtain ⟨hi_1, h⟩ := h
  refine r_iald (v := ((BV.placings vB) (Int32.toNatClampNeg p1))) X hw 1 rfl hi_1 rfl dX0_lookIn_9 ?_
  obtain ⟨hi_2, h⟩ := h
  refine r_iald (v := ((BV.looks vB) (Int32.toNatClampNeg ((BV.placings vB) (Int32.toNatClampNeg p1))))) X hw 3 rfl hi_2 rfl dX0_lookIn_10 ?_
  exact e_i (w1 := (fun (u : BV) => (bW t aB u))) X (vB) hw h dX0_lookIn_11
/-! X0_emptyCells -/
def wp_X0_emptyCells_23 (P : BV → Int32 → Int32 → Prop) (Q : Int32 → BV → Prop) (vB : BV) (x1 : Int32) (x2 : Int32) : Prop := ∀ x2_5 : Int32, x2_5 = x2 + 1 → P vB x1 x2_5
set_option maxHeartbeats 4000000 in
set_option maxRecDepth 100000 in
theorem k_X0_emptyCells_23 {p : Program} {l : Launch} {e : Env} {s : State} {m : MethodId} {below : List Frame} {meth : Method} {c : Code} {args : Array Value} {D : va_G} {t : T3} {A : Nat → Prop} (X : Cx p s m meth c args cX0_emptyCells 3 (some .int) RX0 wsX0_emptyCells D t A) (aB : BA) {P : BV → Int32 → Int32 → Prop} {Q : Int32 → BV → Prop} (hP : ∀ (vB : BV) (x1 : Int32) (x2 : Int32) (H : Heap) (locs : List Loc) (ls : Array Slot), P vB x1 x2 → Wd D A s.heap (bW t aB vB) H locs → lv_has ls 3 [(0, .ref (BA.o aB)), (1, .int x1), (2, .int x2)] → W p l e ({ frames := 1, cells := 0, slots := 0, locals := 21 } : Room) s m args below meth c H locs 0 0 (Ei below args s A D (fun (u : BV) => (bW t aB u)) (fun (r : Int32) (u : BV) => Q r u) 0 0) (F0 m 4 ls [])) : ∀ (vB : BV) (x1 : Int32) (x2 : Int32) (H : Heap) (locs : List Loc) (ls : Array Slot), wp_X0_emptyCells_23 P Q vB x1 x2 → Wd D A s.heap (bW t aB vB) H locs → lv_has ls 3 [(0, .ref (BA.o aB)), (1, .int x1), (2, .int x2)] → W p l e ({ frames := 1, cells := 0, slots := 0, locals := 21 } : Room) s m args below meth c H locs 0 0 (Ei below args s A D (fun (u : BV) => (bW t aB u)) (fun (r : Int32) (u : BV) => Q r u) 0 0) (F0 m 23 ls []) := by
  intro vB x1 x2 H locs ls h hw hl
  have hx := X.1.1
  have hb := X.1.2.1
  obtain ⟨x2_5, ex2_5⟩ : ∃ z : Int32, z = x2 + 1 := ⟨_, rfl⟩
  replace h := h x2_5 ex2_5
  refine lv_iinc (v := x2_5) (lv' := [(2, .int x2_5), (0, .ref (BA.o aB)), (1, .int x1)]) hx hb dX0_emptyCells_23 hl (k := 2) rfl (by rw [ex2_5]; rfl) (by decide) rfl (fun ls hl => ?_)
  refine lv_goto (tgt := 4) hx hb dX0_emptyCells_26 (by decide) ?_
  exact hP _ _ _ _ _ _ h hw (lv_sub hl [1, 2, 0] rfl)
def bd_X0_emptyCells_4 (Q : Int32 → BV → Prop) (P : BV → Int32 → Int32 → Prop) (vB : BV) (x1 : Int32) (x2 : Int32) : Prop := wp_X0_cells vB  (fun (r_2 : Int32) (vB_1 : BV) => (r_2 ≤ x2 → Q x1 vB_1) ∧ (¬ r_2 ≤ x2 → wp_X0_isEmpty vB_1 x2 (fun (r_4 : Int32) (vB_3 : BV) => (r_4 = 0 → wp_X0_emptyCells_23  P Q vB_3 x1 x2) ∧ (¬ r_4 = 0 → ∀ x1_6 : Int32, x1_6 = x1 + 1 → wp_X0_emptyCells_23  P Q vB_3 x1_6 x2))))
def wp_X0_emptyCells_4 (Q : Int32 → BV → Prop)  (vB : BV) (x1 : Int32) (x2 : Int32) : Prop := ∀ P : BV → Int32 → Int32 → Prop, (∀ (vB : BV) (x1 : Int32) (x2 : Int32), bd_X0_emptyCells_4 Q P  vB x1 x2 → P vB x1 x2) → P vB x1 x2
set_option maxHeartbeats 4000000 in
set_option maxRecDepth 100000 in
theorem kb_X0_emptyCells_4 {p : Program} {l : Launch} {e : Env} {s : State} {m : MethodId} {below : List Frame} {meth : Method} {c : Code} {args : Array Value} {D : va_G} {t : T3} {A : Nat → Prop} (X : Cx p s m meth c args cX0_emptyCells 3 (some .int) RX0 wsX0_emptyCells D t A) (aB : BA) {Q : Int32 → BV → Prop} {P : BV → Int32 → Int32 → Prop} (hP : ∀ (vB : BV) (x1 : Int32) (x2 : Int32) (H : Heap) (locs : List Loc) (ls : Array Slot), P vB x1 x2 → Wd D A s.heap (bW t aB vB) H locs → lv_has ls 3 [(0, .ref (BA.o aB)), (1, .int x1), (2, .int x2)] → W p l e ({ frames := 1, cells := 0, slots := 0, locals := 21 } : Room) s m args below meth c H locs 0 0 (Ei below args s A D (fun (u : BV) => (bW t aB u)) (fun (r : Int32) (u : BV) => Q r u) 0 0) (F0 m 4 ls [])) : ∀ (vB : BV) (x1 : Int32) (x2 : Int32) (H : Heap) (locs : List Loc) (ls : Array Slot), bd_X0_emptyCells_4 Q P  vB x1 x2 → Wd D A s.heap (bW t aB vB) H locs → lv_has ls 3 [(0, .ref (BA.o aB)), (1, .int x1), (2, .int x2)] → W p l e ({ frames := 1, cells := 0, slots := 0, locals := 21 } : Room) s m args below meth c H locs 0 0 (Ei below args s A D (fun (u : BV) => (bW t aB u)) (fun (r : Int32) (u : BV) => Q r u) 0 0) (F0 m 4 ls []) := by
  intro vB x1 x2 H locs ls h hw hl
  have hx := X.1.1
  have hb := X.1.2.1
  refine lv_iload_n hx hb dX0_emptyCells_4 rfl (lv_at hl 2 rfl) ?_
  refine lv_aload_n hx hb dX0_emptyCells_5 rfl (lv_at hl 0 rfl) ?_
  refine r_ci X hw pm_0 (wn := fun (u : BV) => (bW t aB u)) (fun u => pm_0.symm) (r_runV X hw (c_X0_cells l D t aB vB _ h) pm_0 (cwV 0 X.1.2.2.2.2 gX0_emptyCells_X0_cells rfl rfl rfl (by decide +kernel) ⟨Nat.le_of_ble_eq_true rfl, Nat.le_of_ble_eq_true rfl⟩) (ci := 0) rfl rfl rfl rfl hl rfl (Nat.le_of_ble_eq_true rfl) dX0_emptyCells_6 ⟨Nat.le_of_ble_eq_true rfl, Nat.le_of_ble_eq_true rfl⟩) (fun r_2 u H locs h hw => ?_)
  obtain ⟨vB_1, rfl⟩ : ∃ z, z = u := ⟨_, rfl⟩
  refine lv_icmp_ge (tgt := 29) hx hb dX0_emptyCells_9 (by decide) (fun c_8 => ?_) (fun c_8 => ?_)
  · replace h := h.1 c_8
    refine lv_iload_n hx hb dX0_emptyCells_29 rfl (lv_at hl 1 rfl) ?_
    exact e_i (w1 := (fun (u : BV) => (bW t aB u))) X (vB_1) hw h dX0_emptyCells_30
  replace h := h.2 c_8
  refine lv_aload_n hx hb dX0_emptyCells_12 rfl (lv_at hl 0 rfl) ?_
  refine lv_iload_n hx hb dX0_emptyCells_13 rfl (lv_at hl 2 rfl) ?_
  refine r_ci X hw pm_0 (wn := fun (u : BV) => (bW t aB u)) (fun u => pm_0.symm) (r_runV X hw (c_X0_isEmpty l D t aB vB_1 x2 _ h) pm_0 (cwV 1 X.1.2.2.2.2 gX0_emptyCells_X0_isEmpty rfl rfl rfl (by decide +kernel) ⟨Nat.le_of_ble_eq_true rfl, Nat.le_of_ble_eq_true rfl⟩) (ci := 0) rfl rfl rfl rfl hl rfl (Nat.le_of_ble_eq_true rfl) dX0_emptyCells_14 ⟨Nat.le_of_ble_eq_true rfl, Nat.le_of_ble_eq_true rfl⟩) (fun r_4 u H locs h hw => ?_)
  obtain ⟨vB_3, rfl⟩ : ∃ z, z = u := ⟨_, rfl⟩
  refine lv_if_eq (tgt := 23) hx hb dX0_emptyCells_17 (by decide) (fun c_7 => ?_) (fun c_7 => ?_)
  · replace h := h.1 c_7
    exact k_X0_emptyCells_23 X aB hP _ _ _ _ _ _ h hw hl
  replace h := h.2 c_7
  obtain ⟨x1_6, ex1_6⟩ : ∃ z : Int32, z = x1 + 1 := ⟨_, rfl⟩
  replace h := h x1_6 ex1_6
  refine lv_iinc (v := x1_6) (lv' := [(1, .int x1_6), (0, .ref (BA.o aB)), (2, .int x2)]) hx hb dX0_emptyCells_20 hl (k := 1) rfl (by rw [ex1_6]; rfl) (by decide) rfl (fun ls hl => ?_)
  exact k_X0_emptyCells_23 X aB hP _ _ _ _ _ _ h hw (lv_sub hl [1, 0, 2] rfl)
set_option maxHeartbeats 4000000 in
set_option maxRecDepth 100000 in
theorem k_X0_emptyCells_4 {p : Program} {l : Launch} {e : Env} {s : State} {m : MethodId} {below : List Frame} {meth : Method} {c : Code} {args : Array Value} {D : va_G} {t : T3} {A : Nat → Prop} (X : Cx p s m meth c args cX0_emptyCells 3 (some .int) RX0 wsX0_emptyCells D t A) (aB : BA) {Q : Int32 → BV → Prop}   : ∀ (vB : BV) (x1 : Int32) (x2 : Int32) (H : Heap) (locs : List Loc) (ls : Array Slot), wp_X0_emptyCells_4 Q  vB x1 x2 → Wd D A s.heap (bW t aB vB) H locs → lv_has ls 3 [(0, .ref (BA.o aB)), (1, .int x1), (2, .int x2)] → W p l e ({ frames := 1, cells := 0, slots := 0, locals := 21 } : Room) s m args below meth c H locs 0 0 (Ei below args s A D (fun (u : BV) => (bW t aB u)) (fun (r : Int32) (u : BV) => Q r u) 0 0) (F0 m 4 ls []) := by
  intro vB x1 x2 H locs ls h hw hl
  have hx := X.1.1
  have hb := X.1.2.1
  refine h (fun (vB : BV) (x1 : Int32) (x2 : Int32) => ∀ (H : Heap) (locs : List Loc) (ls : Array Slot), Wd D A s.heap (bW t aB vB) H locs → lv_has ls 3 [(0, .ref (BA.o aB)), (1, .int x1), (2, .int x2)] → W p l e ({ frames := 1, cells := 0, slots := 0, locals := 21 } : Room) s m args below meth c H locs 0 0 (Ei below args s A D (fun (u : BV) => (bW t aB u)) (fun (r : Int32) (u : BV) => Q r u) 0 0) (F0 m 4 ls [])) (fun vB x1 x2 h H locs ls hw hl => ?_) H locs ls hw hl
  exact kb_X0_emptyCells_4 X aB (fun vB x1 x2 H locs ls q hw hl => q H locs ls hw hl)  vB x1 x2 _ _ _ h hw hl
def wp_X0_emptyCells (vB : BV) (Q : Int32 → BV → Prop) : Prop := wp_X0_emptyCells_4 Q  vB 0 0
set_option maxHeartbeats 4000000 in
set_option maxRecDepth 100000 in
theorem c_X0_emptyCells (l : Launch) (D : va_G) (t : T3) (aB : BA) (vB : BV) (Q : Int32 → BV → Prop) (h : wp_X0_emptyCells vB Q) : Ct l yX0_emptyCells wsX0_emptyCells 1 21 0 0 [.ref (BA.o aB)] D t (bW t aB vB) (fun sz => Qi D (bW t aB vB) (fun (u : BV) => (bW t aB u)) (fun (r : Int32) (u : BV) => Q r u) sz) := by
  refine Ct.of (Qf := fun _ A => va_Qi (fun (r : Int32) (u : BV) => Q r u) (B1 D (fun (u : BV) => (bW t aB u)) A) A) cX0_emptyCells 3 (some .int) (by decide) rfl (Nat.le_of_ble_eq_true rfl) ?_
  intro p e s m below meth c A ls hAe hin X hw hl
  generalize ([.ref (BA.o aB)] : List Value).toArray = args at X ⊢
  have hl : lv_has ls 3 [(0, .ref (BA.o aB))] := hl
  have hx := X.1.1
  have hb := X.1.2.1
  refine lv_iconst (v := 0) hx hb dX0_emptyCells_0 (by decide) ?_
  refine lv_istore_n (lv' := [(1, .int 0), (0, .ref (BA.o aB))]) hx hb dX0_emptyCells_1 rfl hl (by decide) rfl (fun ls hl => ?_)
  refine lv_iconst (v := 0) hx hb dX0_emptyCells_2 (by decide) ?_
  refine lv_istore_n (lv' := [(2, .int 0), (1, .int 0), (0, .ref (BA.o aB))]) hx hb dX0_emptyCells_3 rfl hl (by decide) rfl (fun ls hl => ?_)
  refine k_X0_emptyCells_4 X aB  _ _ _ _ _ _ h hw (lv_sub hl [2, 1, 0] rfl)
/-! X0_neighbor -/
theorem in_X0_neighbor_X0 : ∀ w ∈ u_ws RX0 TX0 8, w ∈ wsX0_neighbor := fun w h => (List.mem_cons_of_mem _ (List.mem_append_right _ h))
theorem fl_X0_neighbor_15 : Cond.fieldLink RX0 15 "TwoFacedTiles$Board" "columns" "I" ∈ wsX0_neighbor := List.mem_of_getElem? (i := 1) rfl
def wp_X0_neighbor_18 (Q : Int32 → BV → Prop) (vB : BV) (x1 : Int32) (x2 : Int32) (t0 : Int32) : Prop := (x2 = 0 → (x1 < (BV.columns vB) → Q (-1) vB) ∧ (¬ x1 < (BV.columns vB) → Q (x1 - (BV.columns vB)) vB)) ∧ (x2 = 1 → ((BV.columns vB) ≤ (t0 + 1) → Q (-1) vB) ∧ (¬ (BV.columns vB) ≤ (t0 + 1) → Q (x1 + 1) vB)) ∧ (x2 = 2 → wp_X0_cells vB  (fun (r_7 : Int32) (vB_6 : BV) => (r_7 ≤ (x1 + (BV.columns vB)) → Q (-1) vB_6) ∧ (¬ r_7 ≤ (x1 + (BV.columns vB)) → Q (x1 + (BV.columns vB_6)) vB_6))) ∧ (¬ x2 = 0 → ¬ x2 = 1 → ¬ x2 = 2 → (t0 ≤ 0 → Q (-1) vB) ∧ (¬ t0 ≤ 0 → Q (x1 - 1) vB))
set_option maxHeartbeats 4000000 in
set_option maxRecDepth 100000 in
theorem k_X0_neighbor_18 {p : Program} {l : Launch} {e : Env} {s : State} {m : MethodId} {below : List Frame} {meth : Method} {c : Code} {args : Array Value} {D : va_G} {t : T3} {A : Nat → Prop} (X : Cx p s m meth c args cX0_neighbor 4 (some .int) RX0 wsX0_neighbor D t A) (aB : BA) {Q : Int32 → BV → Prop}  : ∀ (vB : BV) (x1 : Int32) (x2 : Int32) (t0 : Int32) (H : Heap) (locs : List Loc) (ls : Array Slot), wp_X0_neighbor_18 Q vB x1 x2 t0 → Wd D A s.heap (bW t aB vB) H locs → lv_has ls 4 [(0, .ref (BA.o aB)), (1, .int x1), (2, .int x2)] → W p l e ({ frames := 1, cells := 0, slots := 0, locals := 20 } : Room) s m args below meth c H locs 0 0 (Ei below args s A D (fun (u : BV) => (bW t aB u)) (fun (r : Int32) (u : BV) => Q r u) 0 0) (F0 m 18 ls [.int t0]) := by
  intro vB x1 x2 t0 H locs ls h hw hl
  have hx := X.1.1
  have hb := X.1.2.1
  refine lv_istore_n (lv' := [(3, .int t0), (0, .ref (BA.o aB)), (1, .int x1), (2, .int x2)]) hx hb dX0_neighbor_18 rfl hl (by decide) rfl (fun ls hl => ?_)
  refine lv_iload_n hx hb dX0_neighbor_19 rfl (lv_at hl 3 rfl) ?_
  by_cases c_3 : x2 = 0
  · replace h := h.1 c_3
    refine lv_tableIn (off := 28) (tgt := 48) hx hb dX0_neighbor_20 (by rw [c_3]; decide) (by rw [c_3]; decide) (by rw [c_3]; rfl) (by decide) ?_
    refine lv_iload_n hx hb dX0_neighbor_48 rfl (lv_at hl 2 rfl) ?_
    refine lv_aload_n hx hb dX0_neighbor_49 rfl (lv_at hl 1 rfl) ?_
    refine r_get (ci := 0) (C := RX0) (T := TX0) (N := 8) X hw 0 rfl rfl 1 (by decide) in_X0_neighbor_X0 fl_X0_neighbor_15 (v := .int (BV.columns vB)) rfl dX0_neighbor_50 ?_
    refine lv_icmp_lt (tgt := 65) hx hb dX0_neighbor_53 (by decide) (fun c_2 => ?_) (fun c_2 => ?_)
    · replace h := h.1 c_2
      refine lv_iconst (v := (-1)) hx hb dX0_neighbor_65 (by decide) ?_
      exact e_i (w1 := (fun (u : BV) => (bW t aB u))) X (vB) hw h dX0_neighbor_66
    replace h := h.2 c_2
    refine lv_iload_n hx hb dX0_neighbor_56 rfl (lv_at hl 2 rfl) ?_
    refine lv_aload_n hx hb dX0_neighbor_57 rfl (lv_at hl 1 rfl) ?_
    refine r_get (ci := 0) (C := RX0) (T := TX0) (N := 8) X hw 0 rfl rfl 1 (by decide) in_X0_neighbor_X0 fl_X0_neighbor_15 (v := .int (BV.columns vB)) rfl dX0_neighbor_58 ?_
    refine lv_isub hx hb dX0_neighbor_61 ?_
    refine lv_goto (tgt := 66) hx hb dX0_neighbor_62 (by decide) ?_
    exact e_i (w1 := (fun (u : BV) => (bW t aB u))) X (vB) hw h dX0_neighbor_66
  by_cases c_5 : x2 = 1
  · replace h := h.2.1 c_5
    refine lv_tableIn (off := 47) (tgt := 67) hx hb dX0_neighbor_20 (by rw [c_5]; decide) (by rw [c_5]; decide) (by rw [c_5]; rfl) (by decide) ?_
    refine lv_iload_n hx hb dX0_neighbor_67 rfl (lv_at hl 0 rfl) ?_
    refine lv_iconst (v := 1) hx hb dX0_neighbor_68 (by decide) ?_
    refine lv_iadd hx hb dX0_neighbor_69 ?_
    refine lv_aload_n hx hb dX0_neighbor_70 rfl (lv_at hl 1 rfl) ?_
    refine r_get (ci := 0) (C := RX0) (T := TX0) (N := 8) X hw 0 rfl rfl 1 (by decide) in_X0_neighbor_X0 fl_X0_neighbor_15 (v := .int (BV.columns vB)) rfl dX0_neighbor_71 ?_
    refine lv_icmp_ge (tgt := 83) hx hb dX0_neighbor_74 (by decide) (fun c_4 => ?_) (fun c_4 => ?_)
    · replace h := h.1 c_4
      refine lv_iconst (v := (-1)) hx hb dX0_neighbor_83 (by decide) ?_
      exact e_i (w1 := (fun (u : BV) => (bW t aB u))) X (vB) hw h dX0_neighbor_84
    replace h := h.2 c_4
    refine lv_iload_n hx hb dX0_neighbor_77 rfl (lv_at hl 2 rfl) ?_
    refine lv_iconst (v := 1) hx hb dX0_neighbor_78 (by decide) ?_
    refine lv_iadd hx hb dX0_neighbor_79 ?_
    refine lv_goto (tgt := 84) hx hb dX0_neighbor_80 (by decide) ?_
    exact e_i (w1 := (fun (u : BV) => (bW t aB u))) X (vB) hw h dX0_neighbor_84
  by_cases c_9 : x2 = 2
  · replace h := h.2.2.1 c_9
    refine lv_tableIn (off := 65) (tgt := 85) hx hb dX0_neighbor_20 (by rw [c_9]; decide) (by rw [c_9]; decide) (by rw [c_9]; rfl) (by decide) ?_
    refine lv_iload_n hx hb dX0_neighbor_85 rfl (lv_at hl 2 rfl) ?_
    refine lv_aload_n hx hb dX0_neighbor_86 rfl (lv_at hl 1 rfl) ?_
    refine r_get (ci := 0) (C := RX0) (T := TX0) (N := 8) X hw 0 rfl rfl 1 (by decide) in_X0_neighbor_X0 fl_X0_neighbor_15 (v := .int (BV.columns vB)) rfl dX0_neighbor_87 ?_
    refine lv_iadd hx hb dX0_neighbor_90 ?_
    refine lv_aload_n hx hb dX0_neighbor_91 rfl (lv_at hl 1 rfl) ?_
    refine r_ci X hw pm_0 (wn := fun (u : BV) => (bW t aB u)) (fun u => pm_0.symm) (r_runV X hw (c_X0_cells l D t aB vB _ h) pm_0 (cwV 0 X.1.2.2.2.2 gX0_neighbor_X0_cells rfl rfl rfl (by decide +kernel) ⟨Nat.le_of_ble_eq_true rfl, Nat.le_of_ble_eq_true rfl⟩) (ci := 0) rfl rfl rfl rfl hl rfl (Nat.le_of_ble_eq_true rfl) dX0_neighbor_92 ⟨Nat.le_of_ble_eq_true rfl, Nat.le_of_ble_eq_true rfl⟩) (fun r_7 u H locs h hw => ?_)
    obtain ⟨vB_6, rfl⟩ : ∃ z, z = u := ⟨_, rfl⟩
    refine lv_icmp_ge (tgt := 107) hx hb dX0_neighbor_95 (by decide) (fun c_8 => ?_) (fun c_8 => ?_)
    · replace h := h.1 c_8
      refine lv_iconst (v := (-1)) hx hb dX0_neighbor_107 (by decide) ?_
      exact e_i (w1 := (fun (u : BV) => (bW t aB u))) X (vB_6) hw h dX0_neighbor_108
    replace h := h.2 c_8
    refine lv_iload_n hx hb dX0_neighbor_98 rfl (lv_at hl 2 rfl) ?_
    refine lv_aload_n hx hb dX0_neighbor_99 rfl (lv_at hl 1 rfl) ?_
    refine r_get (ci := 0) (C := RX0) (T := TX0) (N := 8) X hw 0 rfl rfl 1 (by decide) in_X0_neighbor_X0 fl_X0_neighbor_15 (v := .int (BV.columns vB_6)) rfl dX0_neighbor_100 ?_
    refine lv_iadd hx hb dX0_neighbor_103 ?_
    refine lv_goto (tgt := 108) hx hb dX0_neighbor_104 (by decide) ?_
    exact e_i (w1 := (fun (u : BV) => (bW t aB u))) X (vB_6) hw h dX0_neighbor_108
  replace h := h.2.2.2 c_3 c_5 c_9
  refine lv_tableOut (tgt := 109) hx hb dX0_neighbor_20 (tab_outL 2 (fun k hk => match k, hk with | 0, _ => c_3 | 1, _ => c_5 | 2, _ => c_9 | (z + 3), hk => absurd hk (by omega))) (by decide) ?_
  refine lv_iload_n hx hb dX0_neighbor_109 rfl (lv_at hl 0 rfl) ?_
  refine lv_if_le (tgt := 119) hx hb dX0_neighbor_110 (by decide) (fun c_10 => ?_) (fun c_10 => ?_)
  · replace h := h.1 c_10
    refine lv_iconst (v := (-1)) hx hb dX0_neighbor_119 (by decide) ?_
    exact e_i (w1 := (fun (u : BV) => (bW t aB u))) X (vB) hw h dX0_neighbor_120
  replace h := h.2 c_10
  refine lv_iload_n hx hb dX0_neighbor_113 rfl (lv_at hl 2 rfl) ?_
  refine lv_iconst (v := 1) hx hb dX0_neighbor_114 (by decide) ?_
  refine lv_isub hx hb dX0_neighbor_115 ?_
  refine lv_goto (tgt := 120) hx hb dX0_neighbor_116 (by decide) ?_
  exact e_i (w1 := (fun (u : BV) => (bW t aB u))) X (vB) hw h dX0_neighbor_120
def wp_X0_neighbor (vB : BV) (p1 : Int32) (p2 : Int32) (Q : Int32 → BV → Prop) : Prop := (1 ≤ (BV.columns vB) → ¬ (BV.columns vB) = 0 ∧ wp_X0_neighbor_18  Q vB p1 p2 (jrem p1 (BV.columns vB))) ∧ (¬ 1 ≤ (BV.columns vB) → wp_X0_neighbor_18  Q vB p1 p2 0)
set_option maxHeartbeats 4000000 in
set_option maxRecDepth 100000 in
theorem c_X0_neighbor (l : Launch) (D : va_G) (t : T3) (aB : BA) (vB : BV) (p1 : Int32) (p2 : Int32) (Q : Int32 → BV → Prop) (h : wp_X0_neighbor vB p1 p2 Q) : Ct l yX0_neighbor wsX0_neighbor 1 20 0 0 [.ref (BA.o aB), .int p1, .int p2] D t (bW t aB vB) (fun sz => Qi D (bW t aB vB) (fun (u : BV) => (bW t aB u)) (fun (r : Int32) (u : BV) => Q r u) sz) := by
  refine Ct.of (Qf := fun _ A => va_Qi (fun (r : Int32) (u : BV) => Q r u) (B1 D (fun (u : BV) => (bW t aB u)) A) A) cX0_neighbor 4 (some .int) (by decide) rfl (Nat.le_of_ble_eq_true rfl) ?_
  intro p e s m below meth c A ls hAe hin X hw hl
  generalize ([.ref (BA.o aB), .int p1, .int p2] : List Value).toArray = args at X ⊢
  have hl : lv_has ls 4 [(0, .ref (BA.o aB)), (1, .int p1), (2, .int p2)] := hl
  have hx := X.1.1
  have hb := X.1.2.1
  refine lv_aload_n hx hb dX0_neighbor_0 rfl (lv_at hl 0 rfl) ?_
  refine r_get (ci := 0) (C := RX0) (T := TX0) (N := 8) X hw 0 rfl rfl 1 (by decide) in_X0_neighbor_X0 fl_X0_neighbor_15 (v := .int (BV.columns vB)) rfl dX0_neighbor_1 ?_
  refine lv_iconst (v := 1) hx hb dX0_neighbor_4 (by decide) ?_
  refine lv_icmp_ge (tgt := 12) hx hb dX0_neighbor_5 (by decide) (fun c_11 => ?_) (fun c_11 => ?_)
  · replace h := h.1 c_11
    refine lv_iload_n hx hb dX0_neighbor_12 rfl (lv_at hl 1 rfl) ?_
    refine lv_aload_n hx hb dX0_neighbor_13 rfl (lv_at hl 0 rfl) ?_
    refine r_get (ci := 0) (C := RX0) (T := TX0) (N := 8) X hw 0 rfl rfl 1 (by decide) in_X0_neighbor_X0 fl_X0_neighbor_15 (v := .int (BV.columns vB)) rfl dX0_neighbor_14 ?_
    obtain ⟨hn_1, h⟩ := h
    refine r_irem hx hb dX0_neighbor_17 hn_1 ?_
    exact k_X0_neighbor_18 X aB _ _ _ _ _ _ _ h hw hl
  replace h := h.2 c_11
  refine lv_iconst (v := 0) hx hb dX0_neighbor_8 (by decide) ?_
  refine lv_goto (tgt := 18) hx hb dX0_neighbor_9 (by decide) ?_
  exact k_X0_neighbor_18 X aB _ _ _ _ _ _ _ h hw hl
/-! X0_put -/
theorem in_X0_put_X0 : ∀ w ∈ u_ws RX0 TX0 8, w ∈ wsX0_put := fun w h => (List.mem_cons_of_mem _ (List.mem_append_right _ h))
theorem fl_X0_put_27 : Cond.fieldLink RX0 27 "TwoFacedTiles$Board" "placings" "[I" ∈ wsX0_put := List.mem_of_getElem? (i := 1) rfl
theorem fl_X0_put_31 : Cond.fieldLink RX0 31 "TwoFacedTiles$Board" "places" "[I" ∈ wsX0_put := List.mem_of_getElem? (i := 2) rfl
def wp_X0_put (vB : BV) (p1 : Int32) (p2 : Int32) (Q : BV → Prop) : Prop := vp_in p1 12 ∧ ∀ p_2 : Nat → Int32, p_2 = upd (BV.placings vB) (Int32.toNatClampNeg p1) p2 → vp_in (p2 / 8) 12 ∧ ∀ p_4 : Nat → Int32, p_4 = upd (BV.places vB) (Int32.toNatClampNeg (p2 / 8)) p1 → Q (BV.s_places (BV.s_placings vB p_2) p_4)
set_option maxHeartbeats 4000000 in
set_option maxRecDepth 100000 in
theorem c_X0_put (l : Launch) (D : va_G) (t : T3) (aB : BA) (vB : BV) (p1 : Int32) (p2 : Int32) (Q : BV → Prop) (h : wp_X0_put vB p1 p2 Q) : Ct l yX0_put wsX0_put 0 0 0 0 [.ref (BA.o aB), .int p1, .int p2] D t (bW t aB vB) (fun sz => Qv D (bW t aB vB) (fun (u : BV) => (bW t aB u)) (fun (u : BV) => Q u) sz) := by
  refine Ct.of (Qf := fun _ A => va_Qv (fun (u : BV) => Q u) (B1 D (fun (u : BV) => (bW t aB u)) A) A) cX0_put 3 none (by decide) rfl (Nat.le_of_ble_eq_true rfl) ?_
  intro p e s m below meth c A ls hAe hin X hw hl
  generalize ([.ref (BA.o aB), .int p1, .int p2] : List Value).toArray = args at X ⊢
  have hl : lv_has ls 3 [(0, .ref (BA.o aB)), (1, .int p1), (2, .int p2)] := hl
  have hx := X.1.1
  have hb := X.1.2.1
  refine lv_aload_n hx hb dX0_put_0 rfl (lv_at hl 0 rfl) ?_
  refine r_get (ci := 0) (C := RX0) (T := TX0) (N := 8) X hw 0 rfl rfl 5 (by decide) in_X0_put_X0 fl_X0_put_27 (v := .ref (BA.placings aB)) rfl dX0_put_1 ?_
  refine lv_iload_n hx hb dX0_put_4 rfl (lv_at hl 1 rfl) ?_
  refine lv_iload_n hx hb dX0_put_5 rfl (lv_at hl 2 rfl) ?_
  obtain ⟨hi_1, h⟩ := h
  obtain ⟨p_2, ep_2⟩ : ∃ z : Nat → Int32, z = upd (BV.placings vB) (Int32.toNatClampNeg p1) p2 := ⟨_, rfl⟩
  replace h := h p_2 ep_2
  refine r_iast (ws' := (bW t aB (BV.s_placings vB p_2))) X hw 1 rfl hi_1 (by subst ep_2; rfl) dX0_put_6 (fun H locs hw => ?_)
  refine lv_aload_n hx hb dX0_put_7 rfl (lv_at hl 0 rfl) ?_
  refine r_get (ci := 0) (C := RX0) (T := TX0) (N := 8) X hw 0 rfl rfl 6 (by decide) in_X0_put_X0 fl_X0_put_31 (v := .ref (BA.places aB)) rfl dX0_put_8 ?_
  refine lv_iload_n hx hb dX0_put_11 rfl (lv_at hl 2 rfl) ?_
  refine lv_bipush (v := 8) hx hb dX0_put_12 (by decide) ?_
  refine lv_idiv hx hb dX0_put_14 (by decide) ?_
  refine lv_iload_n hx hb dX0_put_15 rfl (lv_at hl 1 rfl) ?_
  obtain ⟨hi_3, h⟩ := h
  obtain ⟨p_4, ep_4⟩ : ∃ z : Nat → Int32, z = upd (BV.places vB) (Int32.toNatClampNeg (p2 / 8)) p1 := ⟨_, rfl⟩
  replace h := h p_4 ep_4
  refine r_iast (ws' := (bW t aB (BV.s_places (BV.s_placings vB p_2) p_4))) X hw 2 rfl hi_3 (by subst ep_4; rfl) dX0_put_16 (fun H locs hw => ?_)
  exact e_v (w1 := (fun (u : BV) => (bW t aB u))) X ((BV.s_places (BV.s_placings vB p_2) p_4)) hw h dX0_put_17
/-! X0_remove -/
theorem in_X0_remove_X0 : ∀ w ∈ u_ws RX0 TX0 8, w ∈ wsX0_remove := fun w h => (List.mem_cons_of_mem _ (List.mem_append_right _ h))
theorem fl_X0_remove_31 : Cond.fieldLink RX0 31 "TwoFacedTiles$Board" "places" "[I" ∈ wsX0_remove := List.mem_of_getElem? (i := 1) rfl
theorem fl_X0_remove_27 : Cond.fieldLink RX0 27 "TwoFacedTiles$Board" "placings" "[I" ∈ wsX0_remove := List.mem_of_getElem? (i := 2) rfl
def wp_X0_remove (vB : BV) (p1 : Int32) (Q : BV → Prop) : Prop := vp_in p1 12 ∧ vp_in (((BV.placings vB) (Int32.toNatClampNeg p1)) / 8) 12 ∧ ∀ p_3 : Nat → Int32, p_3 = upd (BV.places vB) (Int32.toNatClampNeg (((BV.placings vB) (Int32.toNatClampNeg p1)) / 8)) (-1) → vp_in p1 12 ∧ ∀ p_5 : Nat → Int32, p_5 = upd (BV.placings vB) (Int32.toNatClampNeg p1) (-1) → Q (BV.s_places (BV.s_placings vB p_5) p_3)
set_option maxHeartbeats 4000000 in
set_option maxRecDepth 100000 in
theorem c_X0_remove (l : Launch) (D : va_G) (t : T3) (aB : BA) (vB : BV) (p1 : Int32) (Q : BV → Prop) (h : wp_X0_remove vB p1 Q) : Ct l yX0_remove wsX0_remove 0 0 0 0 [.ref (BA.o aB), .int p1] D t (bW t aB vB) (fun sz => Qv D (bW t aB vB) (fun (u : BV) => (bW t aB u)) (fun (u : BV) => Q u) sz) := by
  refine Ct.of (Qf := fun _ A => va_Qv (fun (u : BV) => Q u) (B1 D (fun (u : BV) => (bW t aB u)) A) A) cX0_remove 2 none (by decide) rfl (Nat.le_of_ble_eq_true rfl) ?_
  intro p e s m below meth c A ls hAe hin X hw hl
  generalize ([.ref (BA.o aB), .int p1] : List Value).toArray = args at X ⊢
  have hl : lv_has ls 2 [(0, .ref (BA.o aB)), (1, .int p1)] := hl
  have hx := X.1.1
  have hb := X.1.2.1
  refine lv_aload_n hx hb dX0_remove_0 rfl (lv_at hl 0 rfl) ?_
  refine r_get (ci := 0) (C := RX0) (T := TX0) (N := 8) X hw 0 rfl rfl 6 (by decide) in_X0_remove_X0 fl_X0_remove_31 (v := .ref (BA.places aB)) rfl dX0_remove_1 ?_
  refine lv_aload_n hx hb dX0_remove_4 rfl (lv_at hl 0 rfl) ?_
  refine r_get (ci := 0) (C := RX0) (T := TX0) (N := 8) X hw 0 rfl rfl 5 (by decide) in_X0_remove_X0 fl_X0_remove_27 (v := .ref (BA.placings aB)) rfl dX0_remove_5 ?_
  refine lv_iload_n hx hb dX0_remove_8 rfl (lv_at hl 1 rfl) ?_
  obtain ⟨hi_1, h⟩ := h
  refine r_iald (v := ((BV.placings vB) (Int32.toNatClampNeg p1))) X hw 1 rfl hi_1 rfl dX0_remove_9 ?_
  refine lv_bipush (v := 8) hx hb dX0_remove_10 (by decide) ?_
  refine lv_idiv hx hb dX0_remove_12 (by decide) ?_
  refine lv_iconst (v := (-1)) hx hb dX0_remove_13 (by decide) ?_
  obtain ⟨hi_2, h⟩ := h
  obtain ⟨p_3, ep_3⟩ : ∃ z : Nat → Int32, z = upd (BV.places vB) (Int32.toNatClampNeg (((BV.placings vB) (Int32.toNatClampNeg p1)) / 8)) (-1) := ⟨_, rfl⟩
  replace h := h p_3 ep_3
  refine r_iast (ws' := (bW t aB (BV.s_places vB p_3))) X hw 2 rfl hi_2 (by subst ep_3; rfl) dX0_remove_14 (fun H locs hw => ?_)
  refine lv_aload_n hx hb dX0_remove_15 rfl (lv_at hl 0 rfl) ?_
  refine r_get (ci := 0) (C := RX0) (T := TX0) (N := 8) X hw 0 rfl rfl 5 (by decide) in_X0_remove_X0 fl_X0_remove_27 (v := .ref (BA.placings aB)) rfl dX0_remove_16 ?_
  refine lv_iload_n hx hb dX0_remove_19 rfl (lv_at hl 1 rfl) ?_
  refine lv_iconst (v := (-1)) hx hb dX0_remove_20 (by decide) ?_
  obtain ⟨hi_4, h⟩ := h
  obtain ⟨p_5, ep_5⟩ : ∃ z : Nat → Int32, z = upd (BV.placings vB) (Int32.toNatClampNeg p1) (-1) := ⟨_, rfl⟩
  replace h := h p_5 ep_5
  refine r_iast (ws' := (bW t aB (BV.s_places (BV.s_placings vB p_5) p_3))) X hw 1 rfl hi_4 (by subst ep_5; rfl) dX0_remove_21 (fun H locs hw => ?_)
  exact e_v (w1 := (fun (u : BV) => (bW t aB u))) X ((BV.s_places (BV.s_placings vB p_5) p_3)) hw h dX0_remove_22
/-! X0_removeAllBut -/
def wp_X0_removeAllBut_36 (P : BV → Int32 → Int32 → Int32 → Prop) (Q : Int32 → BV → Prop) (vB : BV) (x1 : Int32) (x2 : Int32) (x3 : Int32) : Prop := ∀ x3_5 : Int32, x3_5 = x3 + 1 → P vB x1 x2 x3_5
set_option maxHeartbeats 4000000 in
set_option maxRecDepth 100000 in
theorem k_X0_removeAllBut_36 {p : Program} {l : Launch} {e : Env} {s : State} {m : MethodId} {below : List Frame} {meth : Method} {c : Code} {args : Array Value} {D : va_G} {t : T3} {A : Nat → Prop} (X : Cx p s m meth c args cX0_removeAllBut 4 (some .int) RX0 wsX0_removeAllBut D t A) (aB : BA) {P : BV → Int32 → Int32 → Int32 → Prop} {Q : Int32 → BV → Prop} (hP : ∀ (vB : BV) (x1 : Int32) (x2 : Int32) (x3 : Int32) (H : Heap) (locs : List Loc) (ls : Array Slot), P vB x1 x2 x3 → Wd D A s.heap (bW t aB vB) H locs → lv_has ls 4 [(0, .ref (BA.o aB)), (1, .int x1), (2, .int x2), (3, .int x3)] → W p l e ({ frames := 1, cells := 0, slots := 0, locals := 21 } : Room) s m args below meth c H locs 0 0 (Ei below args s A D (fun (u : BV) => (bW t aB u)) (fun (r : Int32) (u : BV) => Q r u) 0 0) (F0 m 4 ls [])) : ∀ (vB : BV) (x1 : Int32) (x2 : Int32) (x3 : Int32) (H : Heap) (locs : List Loc) (ls : Array Slot), wp_X0_removeAllBut_36 P Q vB x1 x2 x3 → Wd D A s.heap (bW t aB vB) H locs → lv_has ls 4 [(0, .ref (BA.o aB)), (1, .int x1), (2, .int x2), (3, .int x3)] → W p l e ({ frames := 1, cells := 0, slots := 0, locals := 21 } : Room) s m args below meth c H locs 0 0 (Ei below args s A D (fun (u : BV) => (bW t aB u)) (fun (r : Int32) (u : BV) => Q r u) 0 0) (F0 m 36 ls []) := by
  intro vB x1 x2 x3 H locs ls h hw hl
  have hx := X.1.1
  have hb := X.1.2.1
  obtain ⟨x3_5, ex3_5⟩ : ∃ z : Int32, z = x3 + 1 := ⟨_, rfl⟩
  replace h := h x3_5 ex3_5
  refine lv_iinc (v := x3_5) (lv' := [(3, .int x3_5), (0, .ref (BA.o aB)), (1, .int x1), (2, .int x2)]) hx hb dX0_removeAllBut_36 hl (k := 3) rfl (by rw [ex3_5]; rfl) (by decide) rfl (fun ls hl => ?_)
  refine lv_goto (tgt := 4) hx hb dX0_removeAllBut_39 (by decide) ?_
  exact hP _ _ _ _ _ _ _ h hw (lv_sub hl [1, 2, 3, 0] rfl)
def bd_X0_removeAllBut_4 (Q : Int32 → BV → Prop) (P : BV → Int32 → Int32 → Int32 → Prop) (vB : BV) (x1 : Int32) (x2 : Int32) (x3 : Int32) : Prop := wp_X0_cells vB  (fun (r_2 : Int32) (vB_1 : BV) => (r_2 ≤ x3 → Q x2 vB_1) ∧ (¬ r_2 ≤ x3 → wp_X0_isEmpty vB_1 x3 (fun (r_4 : Int32) (vB_3 : BV) => (¬ r_4 = 0 → wp_X0_removeAllBut_36  P Q vB_3 x1 x2 x3) ∧ (r_4 = 0 → (¬ ((jshr x1 x3) &&& 1) = 0 → wp_X0_removeAllBut_36  P Q vB_3 x1 x2 x3) ∧ (((jshr x1 x3) &&& 1) = 0 → wp_X0_remove vB_3 x3 (fun (vB_6 : BV) => ∀ x2_7 : Int32, x2_7 = x2 + 1 → wp_X0_removeAllBut_36  P Q vB_6 x1 x2_7 x3))))))
def wp_X0_removeAllBut_4 (Q : Int32 → BV → Prop)  (vB : BV) (x1 : Int32) (x2 : Int32) (x3 : Int32) : Prop := ∀ P : BV → Int32 → Int32 → Int32 → Prop, (∀ (vB : BV) (x1 : Int32) (x2 : Int32) (x3 : Int32), bd_X0_removeAllBut_4 Q P  vB x1 x2 x3 → P vB x1 x2 x3) → P vB x1 x2 x3
set_option maxHeartbeats 4000000 in
set_option maxRecDepth 100000 in
theorem kb_X0_removeAllBut_4 {p : Program} {l : Launch} {e : Env} {s : State} {m : MethodId} {below : List Frame} {meth : Method} {c : Code} {args : Array Value} {D : va_G} {t : T3} {A : Nat → Prop} (X : Cx p s m meth c args cX0_removeAllBut 4 (some .int) RX0 wsX0_removeAllBut D t A) (aB : BA) {Q : Int32 → BV → Prop} {P : BV → Int32 → Int32 → Int32 → Prop} (hP : ∀ (vB : BV) (x1 : Int32) (x2 : Int32) (x3 : Int32) (H : Heap) (locs : List Loc) (ls : Array Slot), P vB x1 x2 x3 → Wd D A s.heap (bW t aB vB) H locs → lv_has ls 4 [(0, .ref (BA.o aB)), (1, .int x1), (2, .int x2), (3, .int x3)] → W p l e ({ frames := 1, cells := 0, slots := 0, locals := 21 } : Room) s m args below meth c H locs 0 0 (Ei below args s A D (fun (u : BV) => (bW t aB u)) (fun (r : Int32) (u : BV) => Q r u) 0 0) (F0 m 4 ls [])) : ∀ (vB : BV) (x1 : Int32) (x2 : Int32) (x3 : Int32) (H : Heap) (locs : List Loc) (ls : Array Slot), bd_X0_removeAllBut_4 Q P  vB x1 x2 x3 → Wd D A s.heap (bW t aB vB) H locs → lv_has ls 4 [(0, .ref (BA.o aB)), (1, .int x1), (2, .int x2), (3, .int x3)] → W p l e ({ frames := 1, cells := 0, slots := 0, locals := 21 } : Room) s m args below meth c H locs 0 0 (Ei below args s A D (fun (u : BV) => (bW t aB u)) (fun (r : Int32) (u : BV) => Q r u) 0 0) (F0 m 4 ls []) := by
  intro vB x1 x2 x3 H locs ls h hw hl
  have hx := X.1.1
  have hb := X.1.2.1
  refine lv_iload_n hx hb dX0_removeAllBut_4 rfl (lv_at hl 3 rfl) ?_
  refine lv_aload_n hx hb dX0_removeAllBut_5 rfl (lv_at hl 0 rfl) ?_
  refine r_ci X hw pm_0 (wn := fun (u : BV) => (bW t aB u)) (fun u => pm_0.symm) (r_runV X hw (c_X0_cells l D t aB vB _ h) pm_0 (cwV 0 X.1.2.2.2.2 gX0_removeAllBut_X0_cells rfl rfl rfl (by decide +kernel) ⟨Nat.le_of_ble_eq_true rfl, Nat.le_of_ble_eq_true rfl⟩) (ci := 0) rfl rfl rfl rfl hl rfl (Nat.le_of_ble_eq_true rfl) dX0_removeAllBut_6 ⟨Nat.le_of_ble_eq_true rfl, Nat.le_of_ble_eq_true rfl⟩) (fun r_2 u H locs h hw => ?_)
  obtain ⟨vB_1, rfl⟩ : ∃ z, z = u := ⟨_, rfl⟩
  refine lv_icmp_ge (tgt := 42) hx hb dX0_removeAllBut_9 (by decide) (fun c_10 => ?_) (fun c_10 => ?_)
  · replace h := h.1 c_10
    refine lv_iload_n hx hb dX0_removeAllBut_42 rfl (lv_at hl 2 rfl) ?_
    exact e_i (w1 := (fun (u : BV) => (bW t aB u))) X (vB_1) hw h dX0_removeAllBut_43
  replace h := h.2 c_10
  refine lv_aload_n hx hb dX0_removeAllBut_12 rfl (lv_at hl 0 rfl) ?_
  refine lv_iload_n hx hb dX0_removeAllBut_13 rfl (lv_at hl 3 rfl) ?_
  refine r_ci X hw pm_0 (wn := fun (u : BV) => (bW t aB u)) (fun u => pm_0.symm) (r_runV X hw (c_X0_isEmpty l D t aB vB_1 x3 _ h) pm_0 (cwV 1 X.1.2.2.2.2 gX0_removeAllBut_X0_isEmpty rfl rfl rfl (by decide +kernel) ⟨Nat.le_of_ble_eq_true rfl, Nat.le_of_ble_eq_true rfl⟩) (ci := 0) rfl rfl rfl rfl hl rfl (Nat.le_of_ble_eq_true rfl) dX0_removeAllBut_14 ⟨Nat.le_of_ble_eq_true rfl, Nat.le_of_ble_eq_true rfl⟩) (fun r_4 u H locs h hw => ?_)
  obtain ⟨vB_3, rfl⟩ : ∃ z, z = u := ⟨_, rfl⟩
  refine lv_if_ne (tgt := 36) hx hb dX0_removeAllBut_17 (by decide) (fun c_9 => ?_) (fun c_9 => ?_)
  · replace h := h.1 c_9
    exact k_X0_removeAllBut_36 X aB hP _ _ _ _ _ _ _ h hw hl
  replace h := h.2 c_9
  refine lv_iload_n hx hb dX0_removeAllBut_20 rfl (lv_at hl 1 rfl) ?_
  refine lv_iload_n hx hb dX0_removeAllBut_21 rfl (lv_at hl 3 rfl) ?_
  refine r_ishr hx hb dX0_removeAllBut_22 ?_
  refine lv_iconst (v := 1) hx hb dX0_removeAllBut_23 (by decide) ?_
  refine lv_iand hx hb dX0_removeAllBut_24 ?_
  refine lv_if_ne (tgt := 36) hx hb dX0_removeAllBut_25 (by decide) (fun c_8 => ?_) (fun c_8 => ?_)
  · replace h := h.1 c_8
    exact k_X0_removeAllBut_36 X aB hP _ _ _ _ _ _ _ h hw hl
  replace h := h.2 c_8
  refine lv_aload_n hx hb dX0_removeAllBut_28 rfl (lv_at hl 0 rfl) ?_
  refine lv_iload_n hx hb dX0_removeAllBut_29 rfl (lv_at hl 3 rfl) ?_
  refine r_cv X hw pm_0 (wn := fun (u : BV) => (bW t aB u)) (fun u => pm_0.symm) (r_runV X hw (c_X0_remove l D t aB vB_3 x3 _ h) pm_0 (cwV 1 X.1.2.2.2.2 gX0_removeAllBut_X0_remove rfl rfl rfl (by decide +kernel) ⟨Nat.le_of_ble_eq_true rfl, Nat.le_of_ble_eq_true rfl⟩) (ci := 0) rfl rfl rfl rfl hl rfl (Nat.le_of_ble_eq_true rfl) dX0_removeAllBut_30 ⟨Nat.le_of_ble_eq_true rfl, Nat.le_of_ble_eq_true rfl⟩) (fun u H locs h hw => ?_)
  obtain ⟨vB_6, rfl⟩ : ∃ z, z = u := ⟨_, rfl⟩
  obtain ⟨x2_7, ex2_7⟩ : ∃ z : Int32, z = x2 + 1 := ⟨_, rfl⟩
  replace h := h x2_7 ex2_7
  refine lv_iinc (v := x2_7) (lv' := [(2, .int x2_7), (0, .ref (BA.o aB)), (1, .int x1), (3, .int x3)]) hx hb dX0_removeAllBut_33 hl (k := 2) rfl (by rw [ex2_7]; rfl) (by decide) rfl (fun ls hl => ?_)
  exact k_X0_removeAllBut_36 X aB hP _ _ _ _ _ _ _ h hw (lv_sub hl [1, 2, 0, 3] rfl)
set_option maxHeartbeats 4000000 in
set_option maxRecDepth 100000 in
theorem k_X0_removeAllBut_4 {p : Program} {l : Launch} {e : Env} {s : State} {m : MethodId} {below : List Frame} {meth : Method} {c : Code} {args : Array Value} {D : va_G} {t : T3} {A : Nat → Prop} (X : Cx p s m meth c args cX0_removeAllBut 4 (some .int) RX0 wsX0_removeAllBut D t A) (aB : BA) {Q : Int32 → BV → Prop}   : ∀ (vB : BV) (x1 : Int32) (x2 : Int32) (x3 : Int32) (H : Heap) (locs : List Loc) (ls : Array Slot), wp_X0_removeAllBut_4 Q  vB x1 x2 x3 → Wd D A s.heap (bW t aB vB) H locs → lv_has ls 4 [(0, .ref (BA.o aB)), (1, .int x1), (2, .int x2), (3, .int x3)] → W p l e ({ frames := 1, cells := 0, slots := 0, locals := 21 } : Room) s m args below meth c H locs 0 0 (Ei below args s A D (fun (u : BV) => (bW t aB u)) (fun (r : Int32) (u : BV) => Q r u) 0 0) (F0 m 4 ls []) := by
  intro vB x1 x2 x3 H locs ls h hw hl
  have hx := X.1.1
  have hb := X.1.2.1
  refine h (fun (vB : BV) (x1 : Int32) (x2 : Int32) (x3 : Int32) => ∀ (H : Heap) (locs : List Loc) (ls : Array Slot), Wd D A s.heap (bW t aB vB) H locs → lv_has ls 4 [(0, .ref (BA.o aB)), (1, .int x1), (2, .int x2), (3, .int x3)] → W p l e ({ frames := 1, cells := 0, slots := 0, locals := 21 } : Room) s m args below meth c H locs 0 0 (Ei below args s A D (fun (u : BV) => (bW t aB u)) (fun (r : Int32) (u : BV) => Q r u) 0 0) (F0 m 4 ls [])) (fun vB x1 x2 x3 h H locs ls hw hl => ?_) H locs ls hw hl
  exact kb_X0_removeAllBut_4 X aB (fun vB x1 x2 x3 H locs ls q hw hl => q H locs ls hw hl)  vB x1 x2 x3 _ _ _ h hw hl
def wp_X0_removeAllBut (vB : BV) (p1 : Int32) (Q : Int32 → BV → Prop) : Prop := wp_X0_removeAllBut_4 Q  vB p1 0 0
set_option maxHeartbeats 4000000 in
set_option maxRecDepth 100000 in
theorem c_X0_removeAllBut (l : Launch) (D : va_G) (t : T3) (aB : BA) (vB : BV) (p1 : Int32) (Q : Int32 → BV → Prop) (h : wp_X0_removeAllBut vB p1 Q) : Ct l yX0_removeAllBut wsX0_removeAllBut 1 21 0 0 [.ref (BA.o aB), .int p1] D t (bW t aB vB) (fun sz => Qi D (bW t aB vB) (fun (u : BV) => (bW t aB u)) (fun (r : Int32) (u : BV) => Q r u) sz) := by
  refine Ct.of (Qf := fun _ A => va_Qi (fun (r : Int32) (u : BV) => Q r u) (B1 D (fun (u : BV) => (bW t aB u)) A) A) cX0_removeAllBut 4 (some .int) (by decide) rfl (Nat.le_of_ble_eq_true rfl) ?_
  intro p e s m below meth c A ls hAe hin X hw hl
  generalize ([.ref (BA.o aB), .int p1] : List Value).toArray = args at X ⊢
  have hl : lv_has ls 4 [(0, .ref (BA.o aB)), (1, .int p1)] := hl
  have hx := X.1.1
  have hb := X.1.2.1
  refine lv_iconst (v := 0) hx hb dX0_removeAllBut_0 (by decide) ?_
  refine lv_istore_n (lv' := [(2, .int 0), (0, .ref (BA.o aB)), (1, .int p1)]) hx hb dX0_removeAllBut_1 rfl hl (by decide) rfl (fun ls hl => ?_)
  refine lv_iconst (v := 0) hx hb dX0_removeAllBut_2 (by decide) ?_
  refine lv_istore_n (lv' := [(3, .int 0), (2, .int 0), (0, .ref (BA.o aB)), (1, .int p1)]) hx hb dX0_removeAllBut_3 rfl hl (by decide) rfl (fun ls hl => ?_)
  refine k_X0_removeAllBut_4 X aB  _ _ _ _ _ _ _ h hw (lv_sub hl [2, 3, 1, 0] rfl)
/-! X0_swapTurnedOver -/
theorem in_X0_swapTurnedOver_X0 : ∀ w ∈ u_ws RX0 TX0 8, w ∈ wsX0_swapTurnedOver := fun w h => (List.mem_cons_of_mem _ (List.mem_append_right _ h))
theorem fl_X0_swapTurnedOver_27 : Cond.fieldLink RX0 27 "TwoFacedTiles$Board" "placings" "[I" ∈ wsX0_swapTurnedOver := List.mem_of_getElem? (i := 1) rfl
theorem ii_X0_swapTurnedOver_X6 : Cond.initialized RX6 ∈ wsX0_swapTurnedOver := List.mem_of_getElem? (i := 3) rfl
theorem is_X0_swapTurnedOver_X6_placingTurnedOver : Cond.static yX6_placingTurnedOver ∈ wsX0_swapTurnedOver := List.mem_of_getElem? (i := 2) rfl
def wp_X0_swapTurnedOver (vB : BV) (p1 : Int32) (p2 : Int32) (Q : BV → Prop) : Prop := vp_in p1 12 ∧ ∀ x3_2 : Int32, x3_2 = ((BV.placings vB) (Int32.toNatClampNeg p1)) → vp_in p2 12 ∧ wp_X6_placingTurnedOver  ((BV.placings vB) (Int32.toNatClampNeg p2)) (fun (r_4 : Int32) => vp_in p1 12 ∧ ∀ p_6 : Nat → Int32, p_6 = upd (BV.placings vB) (Int32.toNatClampNeg p1) r_4 → wp_X6_placingTurnedOver  x3_2 (fun (r_7 : Int32) => vp_in p2 12 ∧ ∀ p_9 : Nat → Int32, p_9 = upd p_6 (Int32.toNatClampNeg p2) r_7 → Q (BV.s_placings vB p_9)))
set_option maxHeartbeats 4000000 in
set_option maxRecDepth 100000 in
theorem c_X0_swapTurnedOver (l : Launch) (D : va_G) (t : T3) (aB : BA) (vB : BV) (p1 : Int32) (p2 : Int32) (Q : BV → Prop) (h : wp_X0_swapTurnedOver vB p1 p2 Q) : Ct l yX0_swapTurnedOver wsX0_swapTurnedOver 1 23 0 0 [.ref (BA.o aB), .int p1, .int p2] D t (bW t aB vB) (fun sz => Qv D (bW t aB vB) (fun (u : BV) => (bW t aB u)) (fun (u : BV) => Q u) sz) := by
  refine Ct.of (Qf := fun _ A => va_Qv (fun (u : BV) => Q u) (B1 D (fun (u : BV) => (bW t aB u)) A) A) cX0_swapTurnedOver 4 none (by decide) rfl (Nat.le_of_ble_eq_true rfl) ?_
  intro p e s m below meth c A ls hAe hin X hw hl
  generalize ([.ref (BA.o aB), .int p1, .int p2] : List Value).toArray = args at X ⊢
  have hl : lv_has ls 4 [(0, .ref (BA.o aB)), (1, .int p1), (2, .int p2)] := hl
  have hx := X.1.1
  have hb := X.1.2.1
  refine lv_aload_n hx hb dX0_swapTurnedOver_0 rfl (lv_at hl 0 rfl) ?_
  refine r_get (ci := 0) (C := RX0) (T := TX0) (N := 8) X hw 0 rfl rfl 5 (by decide) in_X0_swapTurnedOver_X0 fl_X0_swapTurnedOver_27 (v := .ref (BA.placings aB)) rfl dX0_swapTurnedOver_1 ?_
  refine lv_iload_n hx hb dX0_swapTurnedOver_4 rfl (lv_at hl 1 rfl) ?_
  obtain ⟨hi_1, h⟩ := h
  refine r_iald (v := ((BV.placings vB) (Int32.toNatClampNeg p1))) X hw 1 rfl hi_1 rfl dX0_swapTurnedOver_5 ?_
  refine lv_topi (fun x3_2 ex3_2 => ?_)
  replace h := h x3_2 ex3_2
  refine lv_istore_n (lv' := [(3, .int x3_2), (0, .ref (BA.o aB)), (1, .int p1), (2, .int p2)]) hx hb dX0_swapTurnedOver_6 rfl hl (by decide) rfl (fun ls hl => ?_)
  refine lv_aload_n hx hb dX0_swapTurnedOver_7 rfl (lv_at hl 1 rfl) ?_
  refine r_get (ci := 0) (C := RX0) (T := TX0) (N := 8) X hw 0 rfl rfl 5 (by decide) in_X0_swapTurnedOver_X0 fl_X0_swapTurnedOver_27 (v := .ref (BA.placings aB)) rfl dX0_swapTurnedOver_8 ?_
  refine lv_iload_n hx hb dX0_swapTurnedOver_11 rfl (lv_at hl 2 rfl) ?_
  refine lv_aload_n hx hb dX0_swapTurnedOver_12 rfl (lv_at hl 1 rfl) ?_
  refine r_get (ci := 0) (C := RX0) (T := TX0) (N := 8) X hw 0 rfl rfl 5 (by decide) in_X0_swapTurnedOver_X0 fl_X0_swapTurnedOver_27 (v := .ref (BA.placings aB)) rfl dX0_swapTurnedOver_13 ?_
  refine lv_iload_n hx hb dX0_swapTurnedOver_16 rfl (lv_at hl 3 rfl) ?_
  obtain ⟨hi_3, h⟩ := h
  refine r_iald (v := ((BV.placings vB) (Int32.toNatClampNeg p2))) X hw 1 rfl hi_3 rfl dX0_swapTurnedOver_17 ?_
  refine r_ci X hw pm_n (wn := fun (u : Unit) => (bW t aB vB)) (fun u => (pm_n).symm) (r_runSN X hw (c_X6_placingTurnedOver l D t ((BV.placings vB) (Int32.toNatClampNeg p2)) _ h) pm_n (va_cnB 1 X.1.2.2.2.2 gX0_swapTurnedOver_X6_placingTurnedOver_n59 rfl rfl rfl (X.2.2.2.1.2.1 (RX0, 59, yX6_placingTurnedOver, RX6) (by decide +kernel)) (X.1.2.2.2.2 _ (ii_X0_swapTurnedOver_X6)) (by decide +kernel) ⟨Nat.le_of_ble_eq_true rfl, Nat.le_of_ble_eq_true rfl⟩) (X.1.2.2.2.2 _ (is_X0_swapTurnedOver_X6_placingTurnedOver)) rfl hl rfl (Nat.le_of_ble_eq_true rfl) dX0_swapTurnedOver_18 ⟨Nat.le_of_ble_eq_true rfl, Nat.le_of_ble_eq_true rfl⟩) (fun r_4 u H locs h hw => ?_)
  obtain ⟨hi_5, h⟩ := h
  obtain ⟨p_6, ep_6⟩ : ∃ z : Nat → Int32, z = upd (BV.placings vB) (Int32.toNatClampNeg p1) r_4 := ⟨_, rfl⟩
  replace h := h p_6 ep_6
  refine r_iast (ws' := (bW t aB (BV.s_placings vB p_6))) X hw 1 rfl hi_5 (by subst ep_6; rfl) dX0_swapTurnedOver_21 (fun H locs hw => ?_)
  refine lv_aload_n hx hb dX0_swapTurnedOver_22 rfl (lv_at hl 1 rfl) ?_
  refine r_get (ci := 0) (C := RX0) (T := TX0) (N := 8) X hw 0 rfl rfl 5 (by decide) in_X0_swapTurnedOver_X0 fl_X0_swapTurnedOver_27 (v := .ref (BA.placings aB)) rfl dX0_swapTurnedOver_23 ?_
  refine lv_iload_n hx hb dX0_swapTurnedOver_26 rfl (lv_at hl 3 rfl) ?_
  refine lv_iload_n hx hb dX0_swapTurnedOver_27 rfl (lv_at hl 0 rfl) ?_
  refine r_ci X hw pm_n (wn := fun (u : Unit) => (bW t aB (BV.s_placings vB p_6))) (fun u => (pm_n).symm) (r_runSN X hw (c_X6_placingTurnedOver l D t x3_2 _ h) pm_n (va_cnB 1 X.1.2.2.2.2 gX0_swapTurnedOver_X6_placingTurnedOver_n59 rfl rfl rfl (X.2.2.2.1.2.1 (RX0, 59, yX6_placingTurnedOver, RX6) (by decide +kernel)) (X.1.2.2.2.2 _ (ii_X0_swapTurnedOver_X6)) (by decide +kernel) ⟨Nat.le_of_ble_eq_true rfl, Nat.le_of_ble_eq_true rfl⟩) (X.1.2.2.2.2 _ (is_X0_swapTurnedOver_X6_placingTurnedOver)) rfl hl rfl (Nat.le_of_ble_eq_true rfl) dX0_swapTurnedOver_28 ⟨Nat.le_of_ble_eq_true rfl, Nat.le_of_ble_eq_true rfl⟩) (fun r_7 u H locs h hw => ?_)
  obtain ⟨hi_8, h⟩ := h
  obtain ⟨p_9, ep_9⟩ : ∃ z : Nat → Int32, z = upd p_6 (Int32.toNatClampNeg p2) r_7 := ⟨_, rfl⟩
  replace h := h p_9 ep_9
  refine r_iast (ws' := (bW t aB (BV.s_placings vB p_9))) X hw 1 rfl hi_8 (by subst ep_9; rfl) dX0_swapTurnedOver_31 (fun H locs hw => ?_)
  exact e_v (w1 := (fun (u : BV) => (bW t aB u))) X ((BV.s_placings vB p_9)) hw h dX0_swapTurnedOver_32
/-! X0_mirror -/
theorem in_X0_mirror_X0 : ∀ w ∈ u_ws RX0 TX0 8, w ∈ wsX0_mirror := fun w h => (List.mem_cons_of_mem _ (List.mem_append_right _ h))
theorem fl_X0_mirror_24 : Cond.fieldLink RX0 24 "TwoFacedTiles$Board" "fixed" "I" ∈ wsX0_mirror := List.mem_of_getElem? (i := 1) rfl
theorem fl_X0_mirror_9 : Cond.fieldLink RX0 9 "TwoFacedTiles$Board" "rows" "I" ∈ wsX0_mirror := List.mem_of_getElem? (i := 2) rfl
theorem fl_X0_mirror_15 : Cond.fieldLink RX0 15 "TwoFacedTiles$Board" "columns" "I" ∈ wsX0_mirror := List.mem_of_getElem? (i := 3) rfl
theorem fl_X0_mirror_31 : Cond.fieldLink RX0 31 "TwoFacedTiles$Board" "places" "[I" ∈ wsX0_mirror := List.mem_of_getElem? (i := 4) rfl
theorem fl_X0_mirror_27 : Cond.fieldLink RX0 27 "TwoFacedTiles$Board" "placings" "[I" ∈ wsX0_mirror := List.mem_of_getElem? (i := 5) rfl
def wp_X0_mirror_90 (P : BV → Int32 → Int32 → Int32 → Prop) (K96 : BV → Int32 → Int32 → Prop) (Q : BV → Prop) (vB : BV) (x1 : Int32) (x2 : Int32) (x3 : Int32) : Prop := ∀ x3_5 : Int32, x3_5 = x3 + 1 → P vB x1 x2 x3_5
set_option maxHeartbeats 4000000 in
set_option maxRecDepth 100000 in
theorem k_X0_mirror_90 {p : Program} {l : Launch} {e : Env} {s : State} {m : MethodId} {below : List Frame} {meth : Method} {c : Code} {args : Array Value} {D : va_G} {t : T3} {A : Nat → Prop} (X : Cx p s m meth c args cX0_mirror 6 none RX0 wsX0_mirror D t A) (aB : BA) {P : BV → Int32 → Int32 → Int32 → Prop} {K96 : BV → Int32 → Int32 → Prop} {Q : BV → Prop} (hP : ∀ (vB : BV) (x1 : Int32) (x2 : Int32) (x3 : Int32) (H : Heap) (locs : List Loc) (ls : Array Slot), P vB x1 x2 x3 → Wd D A s.heap (bW t aB vB) H locs → lv_has ls 6 [(0, .ref (BA.o aB)), (1, .int x1), (2, .int x2), (3, .int x3)] → W p l e ({ frames := 2, cells := 0, slots := 0, locals := 46 } : Room) s m args below meth c H locs 0 0 (Ev below args s A D (fun (u : BV) => (bW t aB u)) (fun (u : BV) => Q u) 0 0) (F0 m 22 ls [])) (hK96 : ∀ (vB : BV) (x1 : Int32) (x2 : Int32) (H : Heap) (locs : List Loc) (ls : Array Slot), K96 vB x1 x2 → Wd D A s.heap (bW t aB vB) H locs → lv_has ls 6 [(0, .ref (BA.o aB)), (1, .int x1), (2, .int x2)] → W p l e ({ frames := 2, cells := 0, slots := 0, locals := 46 } : Room) s m args below meth c H locs 0 0 (Ev below args s A D (fun (u : BV) => (bW t aB u)) (fun (u : BV) => Q u) 0 0) (F0 m 96 ls [])) : ∀ (vB : BV) (x1 : Int32) (x2 : Int32) (x3 : Int32) (H : Heap) (locs : List Loc) (ls : Array Slot), wp_X0_mirror_90 P K96 Q vB x1 x2 x3 → Wd D A s.heap (bW t aB vB) H locs → lv_has ls 6 [(0, .ref (BA.o aB)), (1, .int x1), (2, .int x2), (3, .int x3)] → W p l e ({ frames := 2, cells := 0, slots := 0, locals := 46 } : Room) s m args below meth c H locs 0 0 (Ev below args s A D (fun (u : BV) => (bW t aB u)) (fun (u : BV) => Q u) 0 0) (F0 m 90 ls []) := by
  intro vB x1 x2 x3 H locs ls h hw hl
  have hx := X.1.1
  have hb := X.1.2.1
  obtain ⟨x3_5, ex3_5⟩ : ∃ z : Int32, z = x3 + 1 := ⟨_, rfl⟩
  replace h := h x3_5 ex3_5
  refine lv_iinc (v := x3_5) (lv' := [(3, .int x3_5), (0, .ref (BA.o aB)), (1, .int x1), (2, .int x2)]) hx hb dX0_mirror_90 hl (k := 3) rfl (by rw [ex3_5]; rfl) (by decide) rfl (fun ls hl => ?_)
  refine lv_goto (tgt := 22) hx hb dX0_mirror_93 (by decide) ?_
  exact hP _ _ _ _ _ _ _ h hw (lv_sub hl [1, 2, 3, 0] rfl)
def bd_X0_mirror_22 (Q : BV → Prop) (P : BV → Int32 → Int32 → Int32 → Prop) (K96 : BV → Int32 → Int32 → Prop) (vB : BV) (x1 : Int32) (x2 : Int32) (x3 : Int32) : Prop := ((BV.columns vB) ≤ x3 → K96 vB x1 x2) ∧ (¬ (BV.columns vB) ≤ x3 → ∀ x4_2 : Int32, x4_2 = ((x2 * (BV.columns vB)) + x3) → ∀ x5_3 : Int32, x5_3 = ((((x2 * (BV.columns vB)) + (BV.columns vB)) - 1) - x3) → ∀ f_4 : Int32, f_4 = ((BV.fixed vB) ||| (jshl ((jshr x1 x5_3) &&& 1) x4_2)) → (x5_3 < x4_2 → wp_X0_mirror_90  P K96 Q (BV.s_fixed vB f_4) x1 x2 x3) ∧ (¬ x5_3 < x4_2 → wp_X0_swapTurnedOver (BV.s_fixed vB f_4) x4_2 x5_3 (fun (vB_6 : BV) => wp_X0_mirror_90  P K96 Q vB_6 x1 x2 x3)))
def wp_X0_mirror_22 (Q : BV → Prop) (K96 : BV → Int32 → Int32 → Prop) (vB : BV) (x1 : Int32) (x2 : Int32) (x3 : Int32) : Prop := ∀ P : BV → Int32 → Int32 → Int32 → Prop, (∀ (vB : BV) (x1 : Int32) (x2 : Int32) (x3 : Int32), bd_X0_mirror_22 Q P K96 vB x1 x2 x3 → P vB x1 x2 x3) → P vB x1 x2 x3
set_option maxHeartbeats 4000000 in
set_option maxRecDepth 100000 in
theorem kb_X0_mirror_22 {p : Program} {l : Launch} {e : Env} {s : State} {m : MethodId} {below : List Frame} {meth : Method} {c : Code} {args : Array Value} {D : va_G} {t : T3} {A : Nat → Prop} (X : Cx p s m meth c args cX0_mirror 6 none RX0 wsX0_mirror D t A) (aB : BA) {Q : BV → Prop} {P : BV → Int32 → Int32 → Int32 → Prop} {K96 : BV → Int32 → Int32 → Prop} (hP : ∀ (vB : BV) (x1 : Int32) (x2 : Int32) (x3 : Int32) (H : Heap) (locs : List Loc) (ls : Array Slot), P vB x1 x2 x3 → Wd D A s.heap (bW t aB vB) H locs → lv_has ls 6 [(0, .ref (BA.o aB)), (1, .int x1), (2, .int x2), (3, .int x3)] → W p l e ({ frames := 2, cells := 0, slots := 0, locals := 46 } : Room) s m args below meth c H locs 0 0 (Ev below args s A D (fun (u : BV) => (bW t aB u)) (fun (u : BV) => Q u) 0 0) (F0 m 22 ls [])) (hK96 : ∀ (vB : BV) (x1 : Int32) (x2 : Int32) (H : Heap) (locs : List Loc) (ls : Array Slot), K96 vB x1 x2 → Wd D A s.heap (bW t aB vB) H locs → lv_has ls 6 [(0, .ref (BA.o aB)), (1, .int x1), (2, .int x2)] → W p l e ({ frames := 2, cells := 0, slots := 0, locals := 46 } : Room) s m args below meth c H locs 0 0 (Ev below args s A D (fun (u : BV) => (bW t aB u)) (fun (u : BV) => Q u) 0 0) (F0 m 96 ls [])) : ∀ (vB : BV) (x1 : Int32) (x2 : Int32) (x3 : Int32) (H : Heap) (locs : List Loc) (ls : Array Slot), bd_X0_mirror_22 Q P K96 vB x1 x2 x3 → Wd D A s.heap (bW t aB vB) H locs → lv_has ls 6 [(0, .ref (BA.o aB)), (1, .int x1), (2, .int x2), (3, .int x3)] → W p l e ({ frames := 2, cells := 0, slots := 0, locals := 46 } : Room) s m args below meth c H locs 0 0 (Ev below args s A D (fun (u : BV) => (bW t aB u)) (fun (u : BV) => Q u) 0 0) (F0 m 22 ls []) := by
  intro vB x1 x2 x3 H locs ls h hw hl
  have hx := X.1.1
  have hb := X.1.2.1
  refine lv_iload_n hx hb dX0_mirror_22 rfl (lv_at hl 3 rfl) ?_
  refine lv_aload_n hx hb dX0_mirror_23 rfl (lv_at hl 0 rfl) ?_
  refine r_get (ci := 0) (C := RX0) (T := TX0) (N := 8) X hw 0 rfl rfl 1 (by decide) in_X0_mirror_X0 fl_X0_mirror_15 (v := .int (BV.columns vB)) rfl dX0_mirror_24 ?_
  refine lv_icmp_ge (tgt := 96) hx hb dX0_mirror_27 (by decide) (fun c_8 => ?_) (fun c_8 => ?_)
  · replace h := h.1 c_8
    exact hK96 _ _ _ _ _ _ h hw (lv_sub hl [0, 1, 2] rfl)
  replace h := h.2 c_8
  refine lv_iload_n hx hb dX0_mirror_30 rfl (lv_at hl 2 rfl) ?_
  refine lv_aload_n hx hb dX0_mirror_31 rfl (lv_at hl 0 rfl) ?_
  refine r_get (ci := 0) (C := RX0) (T := TX0) (N := 8) X hw 0 rfl rfl 1 (by decide) in_X0_mirror_X0 fl_X0_mirror_15 (v := .int (BV.columns vB)) rfl dX0_mirror_32 ?_
  refine lv_imul hx hb dX0_mirror_35 ?_
  refine lv_iload_n hx hb dX0_mirror_36 rfl (lv_at hl 3 rfl) ?_
  refine lv_iadd hx hb dX0_mirror_37 ?_
  refine lv_topi (fun x4_2 ex4_2 => ?_)
  replace h := h x4_2 ex4_2
  refine lv_istore (lv' := [(4, .int x4_2), (0, .ref (BA.o aB)), (1, .int x1), (2, .int x2), (3, .int x3)]) hx hb dX0_mirror_38 hl (by decide) rfl (fun ls hl => ?_)
  refine lv_iload_n hx hb dX0_mirror_40 rfl (lv_at hl 3 rfl) ?_
  refine lv_aload_n hx hb dX0_mirror_41 rfl (lv_at hl 1 rfl) ?_
  refine r_get (ci := 0) (C := RX0) (T := TX0) (N := 8) X hw 0 rfl rfl 1 (by decide) in_X0_mirror_X0 fl_X0_mirror_15 (v := .int (BV.columns vB)) rfl dX0_mirror_42 ?_
  refine lv_imul hx hb dX0_mirror_45 ?_
  refine lv_aload_n hx hb dX0_mirror_46 rfl (lv_at hl 1 rfl) ?_
  refine r_get (ci := 0) (C := RX0) (T := TX0) (N := 8) X hw 0 rfl rfl 1 (by decide) in_X0_mirror_X0 fl_X0_mirror_15 (v := .int (BV.columns vB)) rfl dX0_mirror_47 ?_
  refine lv_iadd hx hb dX0_mirror_50 ?_
  refine lv_iconst (v := 1) hx hb dX0_mirror_51 (by decide) ?_
  refine lv_isub hx hb dX0_mirror_52 ?_
  refine lv_iload_n hx hb dX0_mirror_53 rfl (lv_at hl 4 rfl) ?_
  refine lv_isub hx hb dX0_mirror_54 ?_
  refine lv_topi (fun x5_3 ex5_3 => ?_)
  replace h := h x5_3 ex5_3
  refine lv_istore (lv' := [(5, .int x5_3), (4, .int x4_2), (0, .ref (BA.o aB)), (1, .int x1), (2, .int x2), (3, .int x3)]) hx hb dX0_mirror_55 hl (by decide) rfl (fun ls hl => ?_)
  refine lv_aload_n hx hb dX0_mirror_57 rfl (lv_at hl 2 rfl) ?_
  refine lv_dup hx hb dX0_mirror_58 rfl ?_
  refine r_get (ci := 0) (C := RX0) (T := TX0) (N := 8) X hw 0 rfl rfl 4 (by decide) in_X0_mirror_X0 fl_X0_mirror_24 (v := .int (BV.fixed vB)) rfl dX0_mirror_59 ?_
  refine lv_iload_n hx hb dX0_mirror_62 rfl (lv_at hl 3 rfl) ?_
  refine lv_iload hx hb dX0_mirror_63 (lv_at hl 0 rfl) ?_
  refine r_ishr hx hb dX0_mirror_65 ?_
  refine lv_iconst (v := 1) hx hb dX0_mirror_66 (by decide) ?_
  refine lv_iand hx hb dX0_mirror_67 ?_
  refine lv_iload hx hb dX0_mirror_68 (lv_at hl 1 rfl) ?_
  refine r_ishl hx hb dX0_mirror_70 ?_
  refine lv_ior hx hb dX0_mirror_71 ?_
  refine lv_topi (fun f_4 ef_4 => ?_)
  replace h := h f_4 ef_4
  refine r_put (ci := 0) (C := RX0) (T := TX0) (N := 8) (v := .int f_4) (ws' := (bW t aB (BV.s_fixed vB f_4))) X hw 0 rfl rfl 4 (by decide) in_X0_mirror_X0 tyX0 tyX0_ok nmX0 fl_X0_mirror_24 rfl rfl rfl (Nat.le_of_ble_eq_true rfl) rfl dX0_mirror_72 (fun H locs hw => ?_)
  refine lv_iload hx hb dX0_mirror_75 (lv_at hl 1 rfl) ?_
  refine lv_iload hx hb dX0_mirror_77 (lv_at hl 0 rfl) ?_
  refine lv_icmp_gt (tgt := 90) hx hb dX0_mirror_79 (by decide) (fun c_7 => ?_) (fun c_7 => ?_)
  · replace h := h.1 c_7
    exact k_X0_mirror_90 X aB hP hK96 _ _ _ _ _ _ _ h hw (lv_sub hl [2, 3, 4, 5] rfl)
  replace h := h.2 c_7
  refine lv_aload_n hx hb dX0_mirror_82 rfl (lv_at hl 2 rfl) ?_
  refine lv_iload hx hb dX0_mirror_83 (lv_at hl 1 rfl) ?_
  refine lv_iload hx hb dX0_mirror_85 (lv_at hl 0 rfl) ?_
  refine r_cv X hw pm_0 (wn := fun (u : BV) => (bW t aB u)) (fun u => pm_0.symm) (r_runV X hw (c_X0_swapTurnedOver l D t aB (BV.s_fixed vB f_4) x4_2 x5_3 _ h) pm_0 (cwV 2 X.1.2.2.2.2 gX0_mirror_X0_swapTurnedOver rfl rfl rfl (by decide +kernel) ⟨Nat.le_of_ble_eq_true rfl, Nat.le_of_ble_eq_true rfl⟩) (ci := 0) rfl rfl rfl rfl hl rfl (Nat.le_of_ble_eq_true rfl) dX0_mirror_87 ⟨Nat.le_of_ble_eq_true rfl, Nat.le_of_ble_eq_true rfl⟩) (fun u H locs h hw => ?_)
  obtain ⟨vB_6, rfl⟩ : ∃ z, z = u := ⟨_, rfl⟩
  exact k_X0_mirror_90 X aB hP hK96 _ _ _ _ _ _ _ h hw (lv_sub hl [2, 3, 4, 5] rfl)
set_option maxHeartbeats 4000000 in
set_option maxRecDepth 100000 in
theorem k_X0_mirror_22 {p : Program} {l : Launch} {e : Env} {s : State} {m : MethodId} {below : List Frame} {meth : Method} {c : Code} {args : Array Value} {D : va_G} {t : T3} {A : Nat → Prop} (X : Cx p s m meth c args cX0_mirror 6 none RX0 wsX0_mirror D t A) (aB : BA) {Q : BV → Prop} {K96 : BV → Int32 → Int32 → Prop} (hK96 : ∀ (vB : BV) (x1 : Int32) (x2 : Int32) (H : Heap) (locs : List Loc) (ls : Array Slot), K96 vB x1 x2 → Wd D A s.heap (bW t aB vB) H locs → lv_has ls 6 [(0, .ref (BA.o aB)), (1, .int x1), (2, .int x2)] → W p l e ({ frames := 2, cells := 0, slots := 0, locals := 46 } : Room) s m args below meth c H locs 0 0 (Ev below args s A D (fun (u : BV) => (bW t aB u)) (fun (u : BV) => Q u) 0 0) (F0 m 96 ls [])) : ∀ (vB : BV) (x1 : Int32) (x2 : Int32) (x3 : Int32) (H : Heap) (locs : List Loc) (ls : Array Slot), wp_X0_mirror_22 Q K96 vB x1 x2 x3 → Wd D A s.heap (bW t aB vB) H locs → lv_has ls 6 [(0, .ref (BA.o aB)), (1, .int x1), (2, .int x2), (3, .int x3)] → W p l e ({ frames := 2, cells := 0, slots := 0, locals := 46 } : Room) s m args below meth c H locs 0 0 (Ev below args s A D (fun (u : BV) => (bW t aB u)) (fun (u : BV) => Q u) 0 0) (F0 m 22 ls []) := by
  intro vB x1 x2 x3 H locs ls h hw hl
  have hx := X.1.1
  have hb := X.1.2.1
  refine h (fun (vB : BV) (x1 : Int32) (x2 : Int32) (x3 : Int32) => ∀ (H : Heap) (locs : List Loc) (ls : Array Slot), Wd D A s.heap (bW t aB vB) H locs → lv_has ls 6 [(0, .ref (BA.o aB)), (1, .int x1), (2, .int x2), (3, .int x3)] → W p l e ({ frames := 2, cells := 0, slots := 0, locals := 46 } : Room) s m args below meth c H locs 0 0 (Ev below args s A D (fun (u : BV) => (bW t aB u)) (fun (u : BV) => Q u) 0 0) (F0 m 22 ls [])) (fun vB x1 x2 x3 h H locs ls hw hl => ?_) H locs ls hw hl
  exact kb_X0_mirror_22 X aB (fun vB x1 x2 x3 H locs ls q hw hl => q H locs ls hw hl) hK96 vB x1 x2 x3 _ _ _ h hw hl
def bd_X0_mirror_12 (Q : BV → Prop) (P : BV → Int32 → Int32 → Prop) (K102 : BV → Prop) (vB : BV) (x1 : Int32) (x2 : Int32) : Prop := ((BV.rows vB) ≤ x2 → K102 vB) ∧ (¬ (BV.rows vB) ≤ x2 → wp_X0_mirror_22 Q (fun (vB_9 : BV) (x1_10 : Int32) (x2_11 : Int32) => ∀ x2_12 : Int32, x2_12 = x2_11 + 1 → P vB_9 x1_10 x2_12) vB x1 x2 0)
def wp_X0_mirror_12 (Q : BV → Prop) (K102 : BV → Prop) (vB : BV) (x1 : Int32) (x2 : Int32) : Prop := ∀ P : BV → Int32 → Int32 → Prop, (∀ (vB : BV) (x1 : Int32) (x2 : Int32), bd_X0_mirror_12 Q P K102 vB x1 x2 → P vB x1 x2) → P vB x1 x2
set_option maxHeartbeats 4000000 in
set_option maxRecDepth 100000 in
theorem kb_X0_mirror_12 {p : Program} {l : Launch} {e : Env} {s : State} {m : MethodId} {below : List Frame} {meth : Method} {c : Code} {args : Array Value} {D : va_G} {t : T3} {A : Nat → Prop} (X : Cx p s m meth c args cX0_mirror 6 none RX0 wsX0_mirror D t A) (aB : BA) {Q : BV → Prop} {P : BV → Int32 → Int32 → Prop} {K102 : BV → Prop} (hP : ∀ (vB : BV) (x1 : Int32) (x2 : Int32) (H : Heap) (locs : List Loc) (ls : Array Slot), P vB x1 x2 → Wd D A s.heap (bW t aB vB) H locs → lv_has ls 6 [(0, .ref (BA.o aB)), (1, .int x1), (2, .int x2)] → W p l e ({ frames := 2, cells := 0, slots := 0, locals := 46 } : Room) s m args below meth c H locs 0 0 (Ev below args s A D (fun (u : BV) => (bW t aB u)) (fun (u : BV) => Q u) 0 0) (F0 m 12 ls [])) (hK102 : ∀ (vB : BV) (H : Heap) (locs : List Loc) (ls : Array Slot), K102 vB → Wd D A s.heap (bW t aB vB) H locs → lv_has ls 6 [(0, .ref (BA.o aB))] → W p l e ({ frames := 2, cells := 0, slots := 0, locals := 46 } : Room) s m args below meth c H locs 0 0 (Ev below args s A D (fun (u : BV) => (bW t aB u)) (fun (u : BV) => Q u) 0 0) (F0 m 102 ls [])) : ∀ (vB : BV) (x1 : Int32) (x2 : Int32) (H : Heap) (locs : List Loc) (ls : Array Slot), bd_X0_mirror_12 Q P K102 vB x1 x2 → Wd D A s.heap (bW t aB vB) H locs → lv_has ls 6 [(0, .ref (BA.o aB)), (1, .int x1), (2, .int x2)] → W p l e ({ frames := 2, cells := 0, slots := 0, locals := 46 } : Room) s m args below meth c H locs 0 0 (Ev below args s A D (fun (u : BV) => (bW t aB u)) (fun (u : BV) => Q u) 0 0) (F0 m 12 ls []) := by
  intro vB x1 x2 H locs ls h hw hl
  have hx := X.1.1
  have hb := X.1.2.1
  refine lv_iload_n hx hb dX0_mirror_12 rfl (lv_at hl 2 rfl) ?_
  refine lv_aload_n hx hb dX0_mirror_13 rfl (lv_at hl 0 rfl) ?_
  refine r_get (ci := 0) (C := RX0) (T := TX0) (N := 8) X hw 0 rfl rfl 0 (by decide) in_X0_mirror_X0 fl_X0_mirror_9 (v := .int (BV.rows vB)) rfl dX0_mirror_14 ?_
  refine lv_icmp_ge (tgt := 102) hx hb dX0_mirror_17 (by decide) (fun c_13 => ?_) (fun c_13 => ?_)
  · replace h := h.1 c_13
    exact hK102 _ _ _ _ h hw (lv_sub hl [0] rfl)
  replace h := h.2 c_13
  refine lv_iconst (v := 0) hx hb dX0_mirror_20 (by decide) ?_
  refine lv_istore_n (lv' := [(3, .int 0), (0, .ref (BA.o aB)), (1, .int x1), (2, .int x2)]) hx hb dX0_mirror_21 rfl hl (by decide) rfl (fun ls hl => ?_)
  refine k_X0_mirror_22 X aB (fun vB_9 x1_10 x2_11 H locs ls h hw hl => ?_) _ _ _ _ _ _ _ h hw (lv_sub hl [1, 2, 3, 0] rfl)
  obtain ⟨x2_12, ex2_12⟩ : ∃ z : Int32, z = x2_11 + 1 := ⟨_, rfl⟩
  replace h := h x2_12 ex2_12
  refine lv_iinc (v := x2_12) (lv' := [(2, .int x2_12), (0, .ref (BA.o aB)), (1, .int x1_10)]) hx hb dX0_mirror_96 hl (k := 2) rfl (by rw [ex2_12]; rfl) (by decide) rfl (fun ls hl => ?_)
  refine lv_goto (tgt := 12) hx hb dX0_mirror_99 (by decide) ?_
  exact hP _ _ _ _ _ _ h hw (lv_sub hl [1, 2, 0] rfl)
set_option maxHeartbeats 4000000 in
set_option maxRecDepth 100000 in
theorem k_X0_mirror_12 {p : Program} {l : Launch} {e : Env} {s : State} {m : MethodId} {below : List Frame} {meth : Method} {c : Code} {args : Array Value} {D : va_G} {t : T3} {A : Nat → Prop} (X : Cx p s m meth c args cX0_mirror 6 none RX0 wsX0_mirror D t A) (aB : BA) {Q : BV → Prop} {K102 : BV → Prop} (hK102 : ∀ (vB : BV) (H : Heap) (locs : List Loc) (ls : Array Slot), K102 vB → Wd D A s.heap (bW t aB vB) H locs → lv_has ls 6 [(0, .ref (BA.o aB))] → W p l e ({ frames := 2, cells := 0, slots := 0, locals := 46 } : Room) s m args below meth c H locs 0 0 (Ev below args s A D (fun (u : BV) => (bW t aB u)) (fun (u : BV) => Q u) 0 0) (F0 m 102 ls [])) : ∀ (vB : BV) (x1 : Int32) (x2 : Int32) (H : Heap) (locs : List Loc) (ls : Array Slot), wp_X0_mirror_12 Q K102 vB x1 x2 → Wd D A s.heap (bW t aB vB) H locs → lv_has ls 6 [(0, .ref (BA.o aB)), (1, .int x1), (2, .int x2)] → W p l e ({ frames := 2, cells := 0, slots := 0, locals := 46 } : Room) s m args below meth c H locs 0 0 (Ev below args s A D (fun (u : BV) => (bW t aB u)) (fun (u : BV) => Q u) 0 0) (F0 m 12 ls []) := by
  intro vB x1 x2 H locs ls h hw hl
  have hx := X.1.1
  have hb := X.1.2.1
  refine h (fun (vB : BV) (x1 : Int32) (x2 : Int32) => ∀ (H : Heap) (locs : List Loc) (ls : Array Slot), Wd D A s.heap (bW t aB vB) H locs → lv_has ls 6 [(0, .ref (BA.o aB)), (1, .int x1), (2, .int x2)] → W p l e ({ frames := 2, cells := 0, slots := 0, locals := 46 } : Room) s m args below meth c H locs 0 0 (Ev below args s A D (fun (u : BV) => (bW t aB u)) (fun (u : BV) => Q u) 0 0) (F0 m 12 ls [])) (fun vB x1 x2 h H locs ls hw hl => ?_) H locs ls hw hl
  exact kb_X0_mirror_12 X aB (fun vB x1 x2 H locs ls q hw hl => q H locs ls hw hl) hK102 vB x1 x2 _ _ _ h hw hl
def wp_X0_mirror_135 (P : BV → Int32 → Prop) (Q : BV → Prop) (vB : BV) (x2 : Int32) : Prop := ∀ x2_19 : Int32, x2_19 = x2 + 1 → P vB x2_19
set_option maxHeartbeats 4000000 in
set_option maxRecDepth 100000 in
theorem k_X0_mirror_135 {p : Program} {l : Launch} {e : Env} {s : State} {m : MethodId} {below : List Frame} {meth : Method} {c : Code} {args : Array Value} {D : va_G} {t : T3} {A : Nat → Prop} (X : Cx p s m meth c args cX0_mirror 6 none RX0 wsX0_mirror D t A) (aB : BA) {P : BV → Int32 → Prop} {Q : BV → Prop} (hP : ∀ (vB : BV) (x2 : Int32) (H : Heap) (locs : List Loc) (ls : Array Slot), P vB x2 → Wd D A s.heap (bW t aB vB) H locs → lv_has ls 6 [(0, .ref (BA.o aB)), (2, .int x2)] → W p l e ({ frames := 2, cells := 0, slots := 0, locals := 46 } : Room) s m args below meth c H locs 0 0 (Ev below args s A D (fun (u : BV) => (bW t aB u)) (fun (u : BV) => Q u) 0 0) (F0 m 104 ls [])) : ∀ (vB : BV) (x2 : Int32) (H : Heap) (locs : List Loc) (ls : Array Slot), wp_X0_mirror_135 P Q vB x2 → Wd D A s.heap (bW t aB vB) H locs → lv_has ls 6 [(0, .ref (BA.o aB)), (2, .int x2)] → W p l e ({ frames := 2, cells := 0, slots := 0, locals := 46 } : Room) s m args below meth c H locs 0 0 (Ev below args s A D (fun (u : BV) => (bW t aB u)) (fun (u : BV) => Q u) 0 0) (F0 m 135 ls []) := by
  intro vB x2 H locs ls h hw hl
  have hx := X.1.1
  have hb := X.1.2.1
  obtain ⟨x2_19, ex2_19⟩ : ∃ z : Int32, z = x2 + 1 := ⟨_, rfl⟩
  replace h := h x2_19 ex2_19
  refine lv_iinc (v := x2_19) (lv' := [(2, .int x2_19), (0, .ref (BA.o aB))]) hx hb dX0_mirror_135 hl (k := 1) rfl (by rw [ex2_19]; rfl) (by decide) rfl (fun ls hl => ?_)
  refine lv_goto (tgt := 104) hx hb dX0_mirror_138 (by decide) ?_
  exact hP _ _ _ _ _ h hw (lv_sub hl [1, 0] rfl)
def bd_X0_mirror_104 (Q : BV → Prop) (P : BV → Int32 → Prop) (vB : BV) (x2 : Int32) : Prop := wp_X0_cells vB  (fun (r_16 : Int32) (vB_15 : BV) => (r_16 ≤ x2 → Q vB_15) ∧ (¬ r_16 ≤ x2 → wp_X0_isEmpty vB_15 x2 (fun (r_18 : Int32) (vB_17 : BV) => (¬ r_18 = 0 → wp_X0_mirror_135  P Q vB_17 x2) ∧ (r_18 = 0 → vp_in x2 12 ∧ vp_in (((BV.placings vB_17) (Int32.toNatClampNeg x2)) / 8) 12 ∧ ∀ p_22 : Nat → Int32, p_22 = upd (BV.places vB_17) (Int32.toNatClampNeg (((BV.placings vB_17) (Int32.toNatClampNeg x2)) / 8)) x2 → wp_X0_mirror_135  P Q (BV.s_places vB_17 p_22) x2))))
def wp_X0_mirror_104 (Q : BV → Prop)  (vB : BV) (x2 : Int32) : Prop := ∀ P : BV → Int32 → Prop, (∀ (vB : BV) (x2 : Int32), bd_X0_mirror_104 Q P  vB x2 → P vB x2) → P vB x2
set_option maxHeartbeats 4000000 in
set_option maxRecDepth 100000 in
theorem kb_X0_mirror_104 {p : Program} {l : Launch} {e : Env} {s : State} {m : MethodId} {below : List Frame} {meth : Method} {c : Code} {args : Array Value} {D : va_G} {t : T3} {A : Nat → Prop} (X : Cx p s m meth c args cX0_mirror 6 none RX0 wsX0_mirror D t A) (aB : BA) {Q : BV → Prop} {P : BV → Int32 → Prop} (hP : ∀ (vB : BV) (x2 : Int32) (H : Heap) (locs : List Loc) (ls : Array Slot), P vB x2 → Wd D A s.heap (bW t aB vB) H locs → lv_has ls 6 [(0, .ref (BA.o aB)), (2, .int x2)] → W p l e ({ frames := 2, cells := 0, slots := 0, locals := 46 } : Room) s m args below meth c H locs 0 0 (Ev below args s A D (fun (u : BV) => (bW t aB u)) (fun (u : BV) => Q u) 0 0) (F0 m 104 ls [])) : ∀ (vB : BV) (x2 : Int32) (H : Heap) (locs : List Loc) (ls : Array Slot), bd_X0_mirror_104 Q P  vB x2 → Wd D A s.heap (bW t aB vB) H locs → lv_has ls 6 [(0, .ref (BA.o aB)), (2, .int x2)] → W p l e ({ frames := 2, cells := 0, slots := 0, locals := 46 } : Room) s m args below meth c H locs 0 0 (Ev below args s A D (fun (u : BV) => (bW t aB u)) (fun (u : BV) => Q u) 0 0) (F0 m 104 ls []) := by
  intro vB x2 H locs ls h hw hl
  have hx := X.1.1
  have hb := X.1.2.1
  refine lv_iload_n hx hb dX0_mirror_104 rfl (lv_at hl 1 rfl) ?_
  refine lv_aload_n hx hb dX0_mirror_105 rfl (lv_at hl 0 rfl) ?_
  refine r_ci X hw pm_0 (wn := fun (u : BV) => (bW t aB u)) (fun u => pm_0.symm) (r_runV X hw (c_X0_cells l D t aB vB _ h) pm_0 (cwV 0 X.1.2.2.2.2 gX0_mirror_X0_cells rfl rfl rfl (by decide +kernel) ⟨Nat.le_of_ble_eq_true rfl, Nat.le_of_ble_eq_true rfl⟩) (ci := 0) rfl rfl rfl rfl hl rfl (Nat.le_of_ble_eq_true rfl) dX0_mirror_106 ⟨Nat.le_of_ble_eq_true rfl, Nat.le_of_ble_eq_true rfl⟩) (fun r_16 u H locs h hw => ?_)
  obtain ⟨vB_15, rfl⟩ : ∃ z, z = u := ⟨_, rfl⟩
  refine lv_icmp_ge (tgt := 141) hx hb dX0_mirror_109 (by decide) (fun c_24 => ?_) (fun c_24 => ?_)
  · replace h := h.1 c_24
    exact e_v (w1 := (fun (u : BV) => (bW t aB u))) X (vB_15) hw h dX0_mirror_141
  replace h := h.2 c_24
  refine lv_aload_n hx hb dX0_mirror_112 rfl (lv_at hl 0 rfl) ?_
  refine lv_iload_n hx hb dX0_mirror_113 rfl (lv_at hl 1 rfl) ?_
  refine r_ci X hw pm_0 (wn := fun (u : BV) => (bW t aB u)) (fun u => pm_0.symm) (r_runV X hw (c_X0_isEmpty l D t aB vB_15 x2 _ h) pm_0 (cwV 1 X.1.2.2.2.2 gX0_mirror_X0_isEmpty rfl rfl rfl (by decide +kernel) ⟨Nat.le_of_ble_eq_true rfl, Nat.le_of_ble_eq_true rfl⟩) (ci := 0) rfl rfl rfl rfl hl rfl (Nat.le_of_ble_eq_true rfl) dX0_mirror_114 ⟨Nat.le_of_ble_eq_true rfl, Nat.le_of_ble_eq_true rfl⟩) (fun r_18 u H locs h hw => ?_)
  obtain ⟨vB_17, rfl⟩ : ∃ z, z = u := ⟨_, rfl⟩
  refine lv_if_ne (tgt := 135) hx hb dX0_mirror_117 (by decide) (fun c_23 => ?_) (fun c_23 => ?_)
  · replace h := h.1 c_23
    exact k_X0_mirror_135 X aB hP _ _ _ _ _ h hw hl
  replace h := h.2 c_23
  refine lv_aload_n hx hb dX0_mirror_120 rfl (lv_at hl 0 rfl) ?_
  refine r_get (ci := 0) (C := RX0) (T := TX0) (N := 8) X hw 0 rfl rfl 6 (by decide) in_X0_mirror_X0 fl_X0_mirror_31 (v := .ref (BA.places aB)) rfl dX0_mirror_121 ?_
  refine lv_aload_n hx hb dX0_mirror_124 rfl (lv_at hl 0 rfl) ?_
  refine r_get (ci := 0) (C := RX0) (T := TX0) (N := 8) X hw 0 rfl rfl 5 (by decide) in_X0_mirror_X0 fl_X0_mirror_27 (v := .ref (BA.placings aB)) rfl dX0_mirror_125 ?_
  refine lv_iload_n hx hb dX0_mirror_128 rfl (lv_at hl 1 rfl) ?_
  obtain ⟨hi_20, h⟩ := h
  refine r_iald (v := ((BV.placings vB_17) (Int32.toNatClampNeg x2))) X hw 1 rfl hi_20 rfl dX0_mirror_129 ?_
  refine lv_bipush (v := 8) hx hb dX0_mirror_130 (by decide) ?_
  refine lv_idiv hx hb dX0_mirror_132 (by decide) ?_
  refine lv_iload_n hx hb dX0_mirror_133 rfl (lv_at hl 1 rfl) ?_
  obtain ⟨hi_21, h⟩ := h
  obtain ⟨p_22, ep_22⟩ : ∃ z : Nat → Int32, z = upd (BV.places vB_17) (Int32.toNatClampNeg (((BV.placings vB_17) (Int32.toNatClampNeg x2)) / 8)) x2 := ⟨_, rfl⟩
  replace h := h p_22 ep_22
  refine r_iast (ws' := (bW t aB (BV.s_places vB_17 p_22))) X hw 2 rfl hi_21 (by subst ep_22; rfl) dX0_mirror_134 (fun H locs hw => ?_)
  exact k_X0_mirror_135 X aB hP _ _ _ _ _ h hw hl
set_option maxHeartbeats 4000000 in
set_option maxRecDepth 100000 in
theorem k_X0_mirror_104 {p : Program} {l : Launch} {e : Env} {s : State} {m : MethodId} {below : List Frame} {meth : Method} {c : Code} {args : Array Value} {D : va_G} {t : T3} {A : Nat → Prop} (X : Cx p s m meth c args cX0_mirror 6 none RX0 wsX0_mirror D t A) (aB : BA) {Q : BV → Prop}   : ∀ (vB : BV) (x2 : Int32) (H : Heap) (locs : List Loc) (ls : Array Slot), wp_X0_mirror_104 Q  vB x2 → Wd D A s.heap (bW t aB vB) H locs → lv_has ls 6 [(0, .ref (BA.o aB)), (2, .int x2)] → W p l e ({ frames := 2, cells := 0, slots := 0, locals := 46 } : Room) s m args below meth c H locs 0 0 (Ev below args s A D (fun (u : BV) => (bW t aB u)) (fun (u : BV) => Q u) 0 0) (F0 m 104 ls []) := by
  intro vB x2 H locs ls h hw hl
  have hx := X.1.1
  have hb := X.1.2.1
  refine h (fun (vB : BV) (x2 : Int32) => ∀ (H : Heap) (locs : List Loc) (ls : Array Slot), Wd D A s.heap (bW t aB vB) H locs → lv_has ls 6 [(0, .ref (BA.o aB)), (2, .int x2)] → W p l e ({ frames := 2, cells := 0, slots := 0, locals := 46 } : Room) s m args below meth c H locs 0 0 (Ev below args s A D (fun (u : BV) => (bW t aB u)) (fun (u : BV) => Q u) 0 0) (F0 m 104 ls [])) (fun vB x2 h H locs ls hw hl => ?_) H locs ls hw hl
  exact kb_X0_mirror_104 X aB (fun vB x2 H locs ls q hw hl => q H locs ls hw hl)  vB x2 _ _ _ h hw hl
def wp_X0_mirror (vB : BV) (Q : BV → Prop) : Prop := ∀ x1_1 : Int32, x1_1 = (BV.fixed vB) → wp_X0_mirror_12 Q (fun (vB_14 : BV) => wp_X0_mirror_104 Q  vB_14 0) (BV.s_fixed vB 0) x1_1 0
set_option maxHeartbeats 4000000 in
set_option maxRecDepth 100000 in
theorem c_X0_mirror (l : Launch) (D : va_G) (t : T3) (aB : BA) (vB : BV) (Q : BV → Prop) (h : wp_X0_mirror vB Q) : Ct l yX0_mirror wsX0_mirror 2 46 0 0 [.ref (BA.o aB)] D t (bW t aB vB) (fun sz => Qv D (bW t aB vB) (fun (u : BV) => (bW t aB u)) (fun (u : BV) => Q u) sz) := by
  refine Ct.of (Qf := fun _ A => va_Qv (fun (u : BV) => Q u) (B1 D (fun (u : BV) => (bW t aB u)) A) A) cX0_mirror 6 none (by decide) rfl (Nat.le_of_ble_eq_true rfl) ?_
  intro p e s m below meth c A ls hAe hin X hw hl
  generalize ([.ref (BA.o aB)] : List Value).toArray = args at X ⊢
  have hl : lv_has ls 6 [(0, .ref (BA.o aB))] := hl
  have hx := X.1.1
  have hb := X.1.2.1
  refine lv_aload_n hx hb dX0_mirror_0 rfl (lv_at hl 0 rfl) ?_
  refine r_get (ci := 0) (C := RX0) (T := TX0) (N := 8) X hw 0 rfl rfl 4 (by decide) in_X0_mirror_X0 fl_X0_mirror_24 (v := .int (BV.fixed vB)) rfl dX0_mirror_1 ?_
  refine lv_topi (fun x1_1 ex1_1 => ?_)
  replace h := h x1_1 ex1_1
  refine lv_istore_n (lv' := [(1, .int x1_1), (0, .ref (BA.o aB))]) hx hb dX0_mirror_4 rfl hl (by decide) rfl (fun ls hl => ?_)
  refine lv_aload_n hx hb dX0_mirror_5 rfl (lv_at hl 1 rfl) ?_
  refine lv_iconst (v := 0) hx hb dX0_mirror_6 (by decide) ?_
  refine r_put (ci := 0) (C := RX0) (T := TX0) (N := 8) (v := .int 0) (ws' := (bW t aB (BV.s_fixed vB 0))) X hw 0 rfl rfl 4 (by decide) in_X0_mirror_X0 tyX0 tyX0_ok nmX0 fl_X0_mirror_24 rfl rfl rfl (Nat.le_of_ble_eq_true rfl) rfl dX0_mirror_7 (fun H locs hw => ?_)
  refine lv_iconst (v := 0) hx hb dX0_mirror_10 (by decide) ?_
  refine lv_istore_n (lv' := [(2, .int 0), (1, .int x1_1), (0, .ref (BA.o aB))]) hx hb dX0_mirror_11 rfl hl (by decide) rfl (fun ls hl => ?_)
  refine k_X0_mirror_12 X aB (fun vB_14 H locs ls h hw hl => ?_) _ _ _ _ _ _ h hw (lv_sub hl [2, 1, 0] rfl)
  refine lv_iconst (v := 0) hx hb dX0_mirror_102 (by decide) ?_
  refine lv_istore_n (lv' := [(2, .int 0), (0, .ref (BA.o aB))]) hx hb dX0_mirror_103 rfl hl (by decide) rfl (fun ls hl => ?_)
  refine k_X0_mirror_104 X aB  _ _ _ _ _ h hw (lv_sub hl [1, 0] rfl)
/-! X0_makeWays -/
theorem in_X0_makeWays_X0 : ∀ w ∈ u_ws RX0 TX0 8, w ∈ wsX0_makeWays := fun w h => (List.mem_cons_of_mem _ (List.mem_append_right _ h))
theorem fl_X0_makeWays_34 : Cond.fieldLink RX0 34 "TwoFacedTiles$Board" "looks" "[I" ∈ wsX0_makeWays := List.mem_of_getElem? (i := 1) rfl
theorem ii_X0_makeWays_X6 : Cond.initialized RX6 ∈ wsX0_makeWays := List.mem_of_getElem? (i := 3) rfl
theorem is_X0_makeWays_X6_turned : Cond.static yX6_turned ∈ wsX0_makeWays := List.mem_of_getElem? (i := 12) rfl
theorem is_X0_makeWays_X6_turnedOver : Cond.static yX6_turnedOver ∈ wsX0_makeWays := List.mem_of_getElem? (i := 2) rfl
def bd_X0_makeWays_24 (Q : BV → Prop) (P : BV → Int32 → Int32 → Prop) (vB : BV) (x2 : Int32) (x3 : Int32) : Prop := (4 ≤ x3 → Q vB) ∧ (¬ 4 ≤ x3 → vp_in ((x2 + x3) - 1) 96 ∧ wp_X6_turned  ((BV.looks vB) (Int32.toNatClampNeg ((x2 + x3) - 1))) (fun (r_7 : Int32) => vp_in (x2 + x3) 96 ∧ ∀ l_9 : Nat → Int32, l_9 = upd (BV.looks vB) (Int32.toNatClampNeg (x2 + x3)) r_7 → vp_in (((x2 + 4) + x3) - 1) 96 ∧ wp_X6_turned  (l_9 (Int32.toNatClampNeg (((x2 + 4) + x3) - 1))) (fun (r_11 : Int32) => vp_in ((x2 + 4) + x3) 96 ∧ ∀ l_13 : Nat → Int32, l_13 = upd l_9 (Int32.toNatClampNeg ((x2 + 4) + x3)) r_11 → ∀ x3_14 : Int32, x3_14 = x3 + 1 → P (BV.s_looks vB l_13) x2 x3_14)))
def wp_X0_makeWays_24 (Q : BV → Prop)  (vB : BV) (x2 : Int32) (x3 : Int32) : Prop := ∀ P : BV → Int32 → Int32 → Prop, (∀ (vB : BV) (x2 : Int32) (x3 : Int32), bd_X0_makeWays_24 Q P  vB x2 x3 → P vB x2 x3) → P vB x2 x3
set_option maxHeartbeats 4000000 in
set_option maxRecDepth 100000 in
theorem kb_X0_makeWays_24 {p : Program} {l : Launch} {e : Env} {s : State} {m : MethodId} {below : List Frame} {meth : Method} {c : Code} {args : Array Value} {D : va_G} {t : T3} {A : Nat → Prop} (X : Cx p s m meth c args cX0_makeWays 4 none RX0 wsX0_makeWays D t A) (aB : BA) {Q : BV → Prop} {P : BV → Int32 → Int32 → Prop} (hP : ∀ (vB : BV) (x2 : Int32) (x3 : Int32) (H : Heap) (locs : List Loc) (ls : Array Slot), P vB x2 x3 → Wd D A s.heap (bW t aB vB) H locs → lv_has ls 4 [(0, .ref (BA.o aB)), (2, .int x2), (3, .int x3)] → W p l e ({ frames := 2, cells := 0, slots := 0, locals := 45 } : Room) s m args below meth c H locs 0 0 (Ev below args s A D (fun (u : BV) => (bW t aB u)) (fun (u : BV) => Q u) 0 0) (F0 m 24 ls [])) : ∀ (vB : BV) (x2 : Int32) (x3 : Int32) (H : Heap) (locs : List Loc) (ls : Array Slot), bd_X0_makeWays_24 Q P  vB x2 x3 → Wd D A s.heap (bW t aB vB) H locs → lv_has ls 4 [(0, .ref (BA.o aB)), (2, .int x2), (3, .int x3)] → W p l e ({ frames := 2, cells := 0, slots := 0, locals := 45 } : Room) s m args below meth c H locs 0 0 (Ev below args s A D (fun (u : BV) => (bW t aB u)) (fun (u : BV) => Q u) 0 0) (F0 m 24 ls []) := by
  intro vB x2 x3 H locs ls h hw hl
  have hx := X.1.1
  have hb := X.1.2.1
  refine lv_iload_n hx hb dX0_makeWays_24 rfl (lv_at hl 2 rfl) ?_
  refine lv_iconst (v := 4) hx hb dX0_makeWays_25 (by decide) ?_
  refine lv_icmp_ge (tgt := 81) hx hb dX0_makeWays_26 (by decide) (fun c_15 => ?_) (fun c_15 => ?_)
  · replace h := h.1 c_15
    exact e_v (w1 := (fun (u : BV) => (bW t aB u))) X (vB) hw h dX0_makeWays_81
  replace h := h.2 c_15
  refine lv_aload_n hx hb dX0_makeWays_29 rfl (lv_at hl 0 rfl) ?_
  refine r_get (ci := 0) (C := RX0) (T := TX0) (N := 8) X hw 0 rfl rfl 7 (by decide) in_X0_makeWays_X0 fl_X0_makeWays_34 (v := .ref (BA.looks aB)) rfl dX0_makeWays_30 ?_
  refine lv_iload_n hx hb dX0_makeWays_33 rfl (lv_at hl 1 rfl) ?_
  refine lv_iload_n hx hb dX0_makeWays_34 rfl (lv_at hl 2 rfl) ?_
  refine lv_iadd hx hb dX0_makeWays_35 ?_
  refine lv_aload_n hx hb dX0_makeWays_36 rfl (lv_at hl 0 rfl) ?_
  refine r_get (ci := 0) (C := RX0) (T := TX0) (N := 8) X hw 0 rfl rfl 7 (by decide) in_X0_makeWays_X0 fl_X0_makeWays_34 (v := .ref (BA.looks aB)) rfl dX0_makeWays_37 ?_
  refine lv_iload_n hx hb dX0_makeWays_40 rfl (lv_at hl 1 rfl) ?_
  refine lv_iload_n hx hb dX0_makeWays_41 rfl (lv_at hl 2 rfl) ?_
  refine lv_iadd hx hb dX0_makeWays_42 ?_
  refine lv_iconst (v := 1) hx hb dX0_makeWays_43 (by decide) ?_
  refine lv_isub hx hb dX0_makeWays_44 ?_
  obtain ⟨hi_6, h⟩ := h
  refine r_iald (v := ((BV.looks vB) (Int32.toNatClampNeg ((x2 + x3) - 1)))) X hw 3 rfl hi_6 rfl dX0_makeWays_45 ?_
  refine r_ci X hw pm_n (wn := fun (u : Unit) => (bW t aB vB)) (fun u => (pm_n).symm) (r_runSN X hw (c_X6_turned l D t ((BV.looks vB) (Int32.toNatClampNeg ((x2 + x3) - 1))) _ h) pm_n (va_cnB 1 X.1.2.2.2.2 gX0_makeWays_X6_turned_n73 rfl rfl rfl (X.2.2.2.1.2.1 (RX0, 73, yX6_turned, RX6) (by decide +kernel)) (X.1.2.2.2.2 _ (ii_X0_makeWays_X6)) (by decide +kernel) ⟨Nat.le_of_ble_eq_true rfl, Nat.le_of_ble_eq_true rfl⟩) (X.1.2.2.2.2 _ (is_X0_makeWays_X6_turned)) rfl hl rfl (Nat.le_of_ble_eq_true rfl) dX0_makeWays_46 ⟨Nat.le_of_ble_eq_true rfl, Nat.le_of_ble_eq_true rfl⟩) (fun r_7 u H locs h hw => ?_)
  obtain ⟨hi_8, h⟩ := h
  obtain ⟨l_9, el_9⟩ : ∃ z : Nat → Int32, z = upd (BV.looks vB) (Int32.toNatClampNeg (x2 + x3)) r_7 := ⟨_, rfl⟩
  replace h := h l_9 el_9
  refine r_iast (ws' := (bW t aB (BV.s_looks vB l_9))) X hw 3 rfl hi_8 (by subst el_9; rfl) dX0_makeWays_49 (fun H locs hw => ?_)
  refine lv_aload_n hx hb dX0_makeWays_50 rfl (lv_at hl 0 rfl) ?_
  refine r_get (ci := 0) (C := RX0) (T := TX0) (N := 8) X hw 0 rfl rfl 7 (by decide) in_X0_makeWays_X0 fl_X0_makeWays_34 (v := .ref (BA.looks aB)) rfl dX0_makeWays_51 ?_
  refine lv_iload_n hx hb dX0_makeWays_54 rfl (lv_at hl 1 rfl) ?_
  refine lv_iconst (v := 4) hx hb dX0_makeWays_55 (by decide) ?_
  refine lv_iadd hx hb dX0_makeWays_56 ?_
  refine lv_iload_n hx hb dX0_makeWays_57 rfl (lv_at hl 2 rfl) ?_
  refine lv_iadd hx hb dX0_makeWays_58 ?_
  refine lv_aload_n hx hb dX0_makeWays_59 rfl (lv_at hl 0 rfl) ?_
  refine r_get (ci := 0) (C := RX0) (T := TX0) (N := 8) X hw 0 rfl rfl 7 (by decide) in_X0_makeWays_X0 fl_X0_makeWays_34 (v := .ref (BA.looks aB)) rfl dX0_makeWays_60 ?_
  refine lv_iload_n hx hb dX0_makeWays_63 rfl (lv_at hl 1 rfl) ?_
  refine lv_iconst (v := 4) hx hb dX0_makeWays_64 (by decide) ?_
  refine lv_iadd hx hb dX0_makeWays_65 ?_
  refine lv_iload_n hx hb dX0_makeWays_66 rfl (lv_at hl 2 rfl) ?_
  refine lv_iadd hx hb dX0_makeWays_67 ?_
  refine lv_iconst (v := 1) hx hb dX0_makeWays_68 (by decide) ?_
  refine lv_isub hx hb dX0_makeWays_69 ?_
  obtain ⟨hi_10, h⟩ := h
  refine r_iald (v := (l_9 (Int32.toNatClampNeg (((x2 + 4) + x3) - 1)))) X hw 3 rfl hi_10 rfl dX0_makeWays_70 ?_
  refine r_ci X hw pm_n (wn := fun (u : Unit) => (bW t aB (BV.s_looks vB l_9))) (fun u => (pm_n).symm) (r_runSN X hw (c_X6_turned l D t (l_9 (Int32.toNatClampNeg (((x2 + 4) + x3) - 1))) _ h) pm_n (va_cnB 1 X.1.2.2.2.2 gX0_makeWays_X6_turned_n73 rfl rfl rfl (X.2.2.2.1.2.1 (RX0, 73, yX6_turned, RX6) (by decide +kernel)) (X.1.2.2.2.2 _ (ii_X0_makeWays_X6)) (by decide +kernel) ⟨Nat.le_of_ble_eq_true rfl, Nat.le_of_ble_eq_true rfl⟩) (X.1.2.2.2.2 _ (is_X0_makeWays_X6_turned)) rfl hl rfl (Nat.le_of_ble_eq_true rfl) dX0_makeWays_71 ⟨Nat.le_of_ble_eq_true rfl, Nat.le_of_ble_eq_true rfl⟩) (fun r_11 u H locs h hw => ?_)
  obtain ⟨hi_12, h⟩ := h
  obtain ⟨l_13, el_13⟩ : ∃ z : Nat → Int32, z = upd l_9 (Int32.toNatClampNeg ((x2 + 4) + x3)) r_11 := ⟨_, rfl⟩
  replace h := h l_13 el_13
  refine r_iast (ws' := (bW t aB (BV.s_looks vB l_13))) X hw 3 rfl hi_12 (by subst el_13; rfl) dX0_makeWays_74 (fun H locs hw => ?_)
  obtain ⟨x3_14, ex3_14⟩ : ∃ z : Int32, z = x3 + 1 := ⟨_, rfl⟩
  replace h := h x3_14 ex3_14
  refine lv_iinc (v := x3_14) (lv' := [(3, .int x3_14), (0, .ref (BA.o aB)), (2, .int x2)]) hx hb dX0_makeWays_75 hl (k := 2) rfl (by rw [ex3_14]; rfl) (by decide) rfl (fun ls hl => ?_)
  refine lv_goto (tgt := 24) hx hb dX0_makeWays_78 (by decide) ?_
  exact hP _ _ _ _ _ _ h hw (lv_sub hl [1, 2, 0] rfl)
set_option maxHeartbeats 4000000 in
set_option maxRecDepth 100000 in
theorem k_X0_makeWays_24 {p : Program} {l : Launch} {e : Env} {s : State} {m : MethodId} {below : List Frame} {meth : Method} {c : Code} {args : Array Value} {D : va_G} {t : T3} {A : Nat → Prop} (X : Cx p s m meth c args cX0_makeWays 4 none RX0 wsX0_makeWays D t A) (aB : BA) {Q : BV → Prop}   : ∀ (vB : BV) (x2 : Int32) (x3 : Int32) (H : Heap) (locs : List Loc) (ls : Array Slot), wp_X0_makeWays_24 Q  vB x2 x3 → Wd D A s.heap (bW t aB vB) H locs → lv_has ls 4 [(0, .ref (BA.o aB)), (2, .int x2), (3, .int x3)] → W p l e ({ frames := 2, cells := 0, slots := 0, locals := 45 } : Room) s m args below meth c H locs 0 0 (Ev below args s A D (fun (u : BV) => (bW t aB u)) (fun (u : BV) => Q u) 0 0) (F0 m 24 ls []) := by
  intro vB x2 x3 H locs ls h hw hl
  have hx := X.1.1
  have hb := X.1.2.1
  refine h (fun (vB : BV) (x2 : Int32) (x3 : Int32) => ∀ (H : Heap) (locs : List Loc) (ls : Array Slot), Wd D A s.heap (bW t aB vB) H locs → lv_has ls 4 [(0, .ref (BA.o aB)), (2, .int x2), (3, .int x3)] → W p l e ({ frames := 2, cells := 0, slots := 0, locals := 45 } : Room) s m args below meth c H locs 0 0 (Ev below args s A D (fun (u : BV) => (bW t aB u)) (fun (u : BV) => Q u) 0 0) (F0 m 24 ls [])) (fun vB x2 x3 h H locs ls hw hl => ?_) H locs ls hw hl
  exact kb_X0_makeWays_24 X aB (fun vB x2 x3 H locs ls q hw hl => q H locs ls hw hl)  vB x2 x3 _ _ _ h hw hl
def wp_X0_makeWays (vB : BV) (p1 : Int32) (Q : BV → Prop) : Prop := ∀ x2_1 : Int32, x2_1 = (8 * p1) → vp_in x2_1 96 ∧ wp_X6_turnedOver  ((BV.looks vB) (Int32.toNatClampNeg x2_1)) (fun (r_3 : Int32) => vp_in (x2_1 + 4) 96 ∧ ∀ l_5 : Nat → Int32, l_5 = upd (BV.looks vB) (Int32.toNatClampNeg (x2_1 + 4)) r_3 → wp_X0_makeWays_24 Q  (BV.s_looks vB l_5) x2_1 1)
set_option maxHeartbeats 4000000 in
set_option maxRecDepth 100000 in
theorem c_X0_makeWays (l : Launch) (D : va_G) (t : T3) (aB : BA) (vB : BV) (p1 : Int32) (Q : BV → Prop) (h : wp_X0_makeWays vB p1 Q) : Ct l yX0_makeWays wsX0_makeWays 2 45 0 0 [.ref (BA.o aB), .int p1] D t (bW t aB vB) (fun sz => Qv D (bW t aB vB) (fun (u : BV) => (bW t aB u)) (fun (u : BV) => Q u) sz) := by
  refine Ct.of (Qf := fun _ A => va_Qv (fun (u : BV) => Q u) (B1 D (fun (u : BV) => (bW t aB u)) A) A) cX0_makeWays 4 none (by decide) rfl (Nat.le_of_ble_eq_true rfl) ?_
  intro p e s m below meth c A ls hAe hin X hw hl
  generalize ([.ref (BA.o aB), .int p1] : List Value).toArray = args at X ⊢
  have hl : lv_has ls 4 [(0, .ref (BA.o aB)), (1, .int p1)] := hl
  have hx := X.1.1
  have hb := X.1.2.1
  refine lv_bipush (v := 8) hx hb dX0_makeWays_0 (by decide) ?_
  refine lv_iload_n hx hb dX0_makeWays_2 rfl (lv_at hl 1 rfl) ?_
  refine lv_imul hx hb dX0_makeWays_3 ?_
  refine lv_topi (fun x2_1 ex2_1 => ?_)
  replace h := h x2_1 ex2_1
  refine lv_istore_n (lv' := [(2, .int x2_1), (0, .ref (BA.o aB)), (1, .int p1)]) hx hb dX0_makeWays_4 rfl hl (by decide) rfl (fun ls hl => ?_)
  refine lv_aload_n hx hb dX0_makeWays_5 rfl (lv_at hl 1 rfl) ?_
  refine r_get (ci := 0) (C := RX0) (T := TX0) (N := 8) X hw 0 rfl rfl 7 (by decide) in_X0_makeWays_X0 fl_X0_makeWays_34 (v := .ref (BA.looks aB)) rfl dX0_makeWays_6 ?_
  refine lv_iload_n hx hb dX0_makeWays_9 rfl (lv_at hl 0 rfl) ?_
  refine lv_iconst (v := 4) hx hb dX0_makeWays_10 (by decide) ?_
  refine lv_iadd hx hb dX0_makeWays_11 ?_
  refine lv_aload_n hx hb dX0_makeWays_12 rfl (lv_at hl 1 rfl) ?_
  refine r_get (ci := 0) (C := RX0) (T := TX0) (N := 8) X hw 0 rfl rfl 7 (by decide) in_X0_makeWays_X0 fl_X0_makeWays_34 (v := .ref (BA.looks aB)) rfl dX0_makeWays_13 ?_
  refine lv_iload_n hx hb dX0_makeWays_16 rfl (lv_at hl 0 rfl) ?_
  obtain ⟨hi_2, h⟩ := h
  refine r_iald (v := ((BV.looks vB) (Int32.toNatClampNeg x2_1))) X hw 3 rfl hi_2 rfl dX0_makeWays_17 ?_
  refine r_ci X hw pm_n (wn := fun (u : Unit) => (bW t aB vB)) (fun u => (pm_n).symm) (r_runSN X hw (c_X6_turnedOver l D t ((BV.looks vB) (Int32.toNatClampNeg x2_1)) _ h) pm_n (va_cnB 1 X.1.2.2.2.2 gX0_makeWays_X6_turnedOver_n70 rfl rfl rfl (X.2.2.2.1.2.1 (RX0, 70, yX6_turnedOver, RX6) (by decide +kernel)) (X.1.2.2.2.2 _ (ii_X0_makeWays_X6)) (by decide +kernel) ⟨Nat.le_of_ble_eq_true rfl, Nat.le_of_ble_eq_true rfl⟩) (X.1.2.2.2.2 _ (is_X0_makeWays_X6_turnedOver)) rfl hl rfl (Nat.le_of_ble_eq_true rfl) dX0_makeWays_18 ⟨Nat.le_of_ble_eq_true rfl, Nat.le_of_ble_eq_true rfl⟩) (fun r_3 u H locs h hw => ?_)
  obtain ⟨hi_4, h⟩ := h
  obtain ⟨l_5, el_5⟩ : ∃ z : Nat → Int32, z = upd (BV.looks vB) (Int32.toNatClampNeg (x2_1 + 4)) r_3 := ⟨_, rfl⟩
  replace h := h l_5 el_5
  refine r_iast (ws' := (bW t aB (BV.s_looks vB l_5))) X hw 3 rfl hi_4 (by subst el_5; rfl) dX0_makeWays_21 (fun H locs hw => ?_)
  refine lv_iconst (v := 1) hx hb dX0_makeWays_22 (by decide) ?_
  refine lv_istore_n (lv' := [(3, .int 1), (2, .int x2_1), (0, .ref (BA.o aB)), (1, .int p1)]) hx hb dX0_makeWays_23 rfl hl (by decide) rfl (fun ls hl => ?_)
  refine k_X0_makeWays_24 X aB  _ _ _ _ _ _ h hw (lv_sub hl [2, 1, 0] rfl)
/-! X0_addFaces -/
theorem in_X0_addFaces_X0 : ∀ w ∈ u_ws RX0 TX0 8, w ∈ wsX0_addFaces := fun w h => (List.mem_cons_of_mem _ (List.mem_append_right _ h))
theorem fl_X0_addFaces_34 : Cond.fieldLink RX0 34 "TwoFacedTiles$Board" "looks" "[I" ∈ wsX0_addFaces := List.mem_of_getElem? (i := 1) rfl
theorem fl_X0_addFaces_21 : Cond.fieldLink RX0 21 "TwoFacedTiles$Board" "tiles" "I" ∈ wsX0_addFaces := List.mem_of_getElem? (i := 2) rfl
theorem ii_X0_addFaces_X6 : Cond.initialized RX6 ∈ wsX0_addFaces := List.mem_of_getElem? (i := 4) rfl
theorem is_X0_addFaces_X6_lookOfFaces : Cond.static yX6_lookOfFaces ∈ wsX0_addFaces := List.mem_of_getElem? (i := 3) rfl
def wp_X0_addFaces (vB : BV) (p1 : Int32) (p2 : Int32) (Q : BV → Prop) : Prop := wp_X6_lookOfFaces  p1 p2 (fun (r_1 : Int32) => vp_in (8 * (BV.tiles vB)) 96 ∧ ∀ l_3 : Nat → Int32, l_3 = upd (BV.looks vB) (Int32.toNatClampNeg (8 * (BV.tiles vB))) r_1 → wp_X0_makeWays (BV.s_looks vB l_3) (BV.tiles vB) (fun (vB_4 : BV) => ∀ f_5 : Int32, f_5 = ((BV.tiles vB_4) + 1) → Q (BV.s_tiles vB_4 f_5)))
set_option maxHeartbeats 4000000 in
set_option maxRecDepth 100000 in
theorem c_X0_addFaces (l : Launch) (D : va_G) (t : T3) (aB : BA) (vB : BV) (p1 : Int32) (p2 : Int32) (Q : BV → Prop) (h : wp_X0_addFaces vB p1 p2 Q) : Ct l yX0_addFaces wsX0_addFaces 3 68 0 0 [.ref (BA.o aB), .int p1, .int p2] D t (bW t aB vB) (fun sz => Qv D (bW t aB vB) (fun (u : BV) => (bW t aB u)) (fun (u : BV) => Q u) sz) := by
  refine Ct.of (Qf := fun _ A => va_Qv (fun (u : BV) => Q u) (B1 D (fun (u : BV) => (bW t aB u)) A) A) cX0_addFaces 3 none (by decide) rfl (Nat.le_of_ble_eq_true rfl) ?_
  intro p e s m below meth c A ls hAe hin X hw hl
  generalize ([.ref (BA.o aB), .int p1, .int p2] : List Value).toArray = args at X ⊢
  have hl : lv_has ls 3 [(0, .ref (BA.o aB)), (1, .int p1), (2, .int p2)] := hl
  have hx := X.1.1
  have hb := X.1.2.1
  refine lv_aload_n hx hb dX0_addFaces_0 rfl (lv_at hl 0 rfl) ?_
  refine r_get (ci := 0) (C := RX0) (T := TX0) (N := 8) X hw 0 rfl rfl 7 (by decide) in_X0_addFaces_X0 fl_X0_addFaces_34 (v := .ref (BA.looks aB)) rfl dX0_addFaces_1 ?_
  refine lv_bipush (v := 8) hx hb dX0_addFaces_4 (by decide) ?_
  refine lv_aload_n hx hb dX0_addFaces_6 rfl (lv_at hl 0 rfl) ?_
  refine r_get (ci := 0) (C := RX0) (T := TX0) (N := 8) X hw 0 rfl rfl 3 (by decide) in_X0_addFaces_X0 fl_X0_addFaces_21 (v := .int (BV.tiles vB)) rfl dX0_addFaces_7 ?_
  refine lv_imul hx hb dX0_addFaces_10 ?_
  refine lv_iload_n hx hb dX0_addFaces_11 rfl (lv_at hl 1 rfl) ?_
  refine lv_iload_n hx hb dX0_addFaces_12 rfl (lv_at hl 2 rfl) ?_
  refine r_ci X hw pm_n (wn := fun (u : Unit) => (bW t aB vB)) (fun u => (pm_n).symm) (r_runSN X hw (c_X6_lookOfFaces l D t p1 p2 _ h) pm_n (va_cnB 2 X.1.2.2.2.2 gX0_addFaces_X6_lookOfFaces_n63 rfl rfl rfl (X.2.2.2.1.2.1 (RX0, 63, yX6_lookOfFaces, RX6) (by decide +kernel)) (X.1.2.2.2.2 _ (ii_X0_addFaces_X6)) (by decide +kernel) ⟨Nat.le_of_ble_eq_true rfl, Nat.le_of_ble_eq_true rfl⟩) (X.1.2.2.2.2 _ (is_X0_addFaces_X6_lookOfFaces)) rfl hl rfl (Nat.le_of_ble_eq_true rfl) dX0_addFaces_13 ⟨Nat.le_of_ble_eq_true rfl, Nat.le_of_ble_eq_true rfl⟩) (fun r_1 u H locs h hw => ?_)
  obtain ⟨hi_2, h⟩ := h
  obtain ⟨l_3, el_3⟩ : ∃ z : Nat → Int32, z = upd (BV.looks vB) (Int32.toNatClampNeg (8 * (BV.tiles vB))) r_1 := ⟨_, rfl⟩
  replace h := h l_3 el_3
  refine r_iast (ws' := (bW t aB (BV.s_looks vB l_3))) X hw 3 rfl hi_2 (by subst el_3; rfl) dX0_addFaces_16 (fun H locs hw => ?_)
  refine lv_aload_n hx hb dX0_addFaces_17 rfl (lv_at hl 0 rfl) ?_
  refine lv_aload_n hx hb dX0_addFaces_18 rfl (lv_at hl 0 rfl) ?_
  refine r_get (ci := 0) (C := RX0) (T := TX0) (N := 8) X hw 0 rfl rfl 3 (by decide) in_X0_addFaces_X0 fl_X0_addFaces_21 (v := .int (BV.tiles vB)) rfl dX0_addFaces_19 ?_
  refine r_cv X hw pm_0 (wn := fun (u : BV) => (bW t aB u)) (fun u => pm_0.symm) (r_runV X hw (c_X0_makeWays l D t aB (BV.s_looks vB l_3) (BV.tiles vB) _ h) pm_0 (cwV 1 X.1.2.2.2.2 gX0_addFaces_X0_makeWays rfl rfl rfl (by decide +kernel) ⟨Nat.le_of_ble_eq_true rfl, Nat.le_of_ble_eq_true rfl⟩) (ci := 0) rfl rfl rfl rfl hl rfl (Nat.le_of_ble_eq_true rfl) dX0_addFaces_22 ⟨Nat.le_of_ble_eq_true rfl, Nat.le_of_ble_eq_true rfl⟩) (fun u H locs h hw => ?_)
  obtain ⟨vB_4, rfl⟩ : ∃ z, z = u := ⟨_, rfl⟩
  refine lv_aload_n hx hb dX0_addFaces_25 rfl (lv_at hl 0 rfl) ?_
  refine lv_dup hx hb dX0_addFaces_26 rfl ?_
  refine r_get (ci := 0) (C := RX0) (T := TX0) (N := 8) X hw 0 rfl rfl 3 (by decide) in_X0_addFaces_X0 fl_X0_addFaces_21 (v := .int (BV.tiles vB_4)) rfl dX0_addFaces_27 ?_
  refine lv_iconst (v := 1) hx hb dX0_addFaces_30 (by decide) ?_
  refine lv_iadd hx hb dX0_addFaces_31 ?_
  refine lv_topi (fun f_5 ef_5 => ?_)
  replace h := h f_5 ef_5
  refine r_put (ci := 0) (C := RX0) (T := TX0) (N := 8) (v := .int f_5) (ws' := (bW t aB (BV.s_tiles vB_4 f_5))) X hw 0 rfl rfl 3 (by decide) in_X0_addFaces_X0 tyX0 tyX0_ok nmX0 fl_X0_addFaces_21 rfl rfl rfl (Nat.le_of_ble_eq_true rfl) rfl dX0_addFaces_32 (fun H locs hw => ?_)
  exact e_v (w1 := (fun (u : BV) => (bW t aB u))) X ((BV.s_tiles vB_4 f_5)) hw h dX0_addFaces_35
/-! X0_cutSide -/
theorem in_X0_cutSide_X0 : ∀ w ∈ u_ws RX0 TX0 8, w ∈ wsX0_cutSide := fun w h => (List.mem_cons_of_mem _ (List.mem_append_left _ (List.mem_append_right _ h)))
theorem fl_X0_cutSide_34 : Cond.fieldLink RX0 34 "TwoFacedTiles$Board" "looks" "[I" ∈ wsX0_cutSide := List.mem_of_getElem? (i := 1) rfl
theorem ii_X0_cutSide_X6 : Cond.initialized RX6 ∈ wsX0_cutSide := List.mem_of_getElem? (i := 22) rfl
theorem is_X0_cutSide_X6_opposite : Cond.static yX6_opposite ∈ wsX0_cutSide := List.mem_of_getElem? (i := 21) rfl
def wp_X0_cutSide (vB : BV) (vD : DV) (p1 : Int32) (p2 : Int32) (Q : BV → DV → Prop) : Prop := wp_X0_neighbor vB p1 p2 (fun (r_2 : Int32) (vB_1 : BV) => (¬ r_2 = (-1) → wp_X1_next vD  (fun (r_4 : Int32) (vD_3 : DV) => wp_X1_next vD_3  (fun (r_6 : Int32) (vD_5 : DV) => ∀ x7_7 : Int32, x7_7 = (r_4 ||| (jshl r_6 16)) → vp_in (8 * p1) 96 ∧ ∀ f_9 : Int32, f_9 = (((BV.looks vB_1) (Int32.toNatClampNeg (8 * p1))) ||| (jshl x7_7 (4 * p2))) → vp_in (8 * p1) 96 ∧ ∀ l_11 : Nat → Int32, l_11 = upd (BV.looks vB_1) (Int32.toNatClampNeg (8 * p1)) f_9 → vp_in (8 * r_2) 96 ∧ wp_X6_opposite  p2 (fun (r_13 : Int32) => ∀ f_14 : Int32, f_14 = ((l_11 (Int32.toNatClampNeg (8 * r_2))) ||| (jshl x7_7 (4 * r_13))) → vp_in (8 * r_2) 96 ∧ ∀ l_16 : Nat → Int32, l_16 = upd l_11 (Int32.toNatClampNeg (8 * r_2)) f_14 → Q (BV.s_looks vB_1 l_16) vD_5)))) ∧ (r_2 = (-1) → Q vB_1 vD))
set_option maxHeartbeats 4000000 in
set_option maxRecDepth 100000 in
theorem c_X0_cutSide (l : Launch) (D : va_G) (t : T3) (aB : BA) (aD : Nat) (vB : BV) (vD : DV) (p1 : Int32) (p2 : Int32) (Q : BV → DV → Prop) (h : wp_X0_cutSide vB vD p1 p2 Q) : Ct l yX0_cutSide wsX0_cutSide 2 43 0 0 [.ref (BA.o aB), .int p1, .int p2, .ref aD] D t (bW t aB vB ++ (dW t aD vD)) (fun sz => Qv D (bW t aB vB ++ (dW t aD vD)) (fun (u : BV × DV) => (bW t aB u.1 ++ (dW t aD u.2))) (fun (u : BV × DV) => Q u.1 u.2) sz) := by
  refine Ct.of (Qf := fun _ A => va_Qv (fun (u : BV × DV) => Q u.1 u.2) (B1 D (fun (u : BV × DV) => (bW t aB u.1 ++ (dW t aD u.2))) A) A) cX0_cutSide 8 none (by decide) rfl (Nat.le_of_ble_eq_true rfl) ?_
  intro p e s m below meth c A ls hAe hin X hw hl
  generalize ([.ref (BA.o aB), .int p1, .int p2, .ref aD] : List Value).toArray = args at X ⊢
  have hl : lv_has ls 8 [(0, .ref (BA.o aB)), (1, .int p1), (2, .int p2), (3, .ref aD)] := hl
  have hx := X.1.1
  have hb := X.1.2.1
  refine lv_aload_n hx hb dX0_cutSide_0 rfl (lv_at hl 0 rfl) ?_
  refine lv_iload_n hx hb dX0_cutSide_1 rfl (lv_at hl 1 rfl) ?_
  refine lv_iload_n hx hb dX0_cutSide_2 rfl (lv_at hl 2 rfl) ?_
  refine r_ci X hw (pm_l pm_0) (wn := fun (u : BV) => (bW t aB u ++ (dW t aD vD))) (fun u => (pm_l pm_0).symm) (r_runV X hw (c_X0_neighbor l D t aB vB p1 p2 _ h) (pm_l pm_0) (cwV 2 X.1.2.2.2.2 gX0_cutSide_X0_neighbor rfl rfl rfl (by decide +kernel) ⟨Nat.le_of_ble_eq_true rfl, Nat.le_of_ble_eq_true rfl⟩) (ci := 0) rfl rfl rfl rfl hl rfl (Nat.le_of_ble_eq_true rfl) dX0_cutSide_3 ⟨Nat.le_of_ble_eq_true rfl, Nat.le_of_ble_eq_true rfl⟩) (fun r_2 u H locs h hw => ?_)
  obtain ⟨vB_1, rfl⟩ : ∃ z, z = u := ⟨_, rfl⟩
  refine lv_istore (lv' := [(4, .int r_2), (0, .ref (BA.o aB)), (1, .int p1), (2, .int p2), (3, .ref aD)]) hx hb dX0_cutSide_6 hl (by decide) rfl (fun ls hl => ?_)
  refine lv_iload hx hb dX0_cutSide_8 (lv_at hl 0 rfl) ?_
  refine lv_iconst (v := (-1)) hx hb dX0_cutSide_10 (by decide) ?_
  refine lv_icmp_ne (tgt := 15) hx hb dX0_cutSide_11 (by decide) (fun c_17 => ?_) (fun c_17 => ?_)
  · replace h := h.1 c_17
    refine lv_aload_n hx hb dX0_cutSide_15 rfl (lv_at hl 4 rfl) ?_
    refine r_ci X hw (pm_r pm_0) (wn := fun (u : DV) => (bW t aB vB_1 ++ (dW t aD u))) (fun u => (pm_r pm_0).symm) (r_runV X hw (c_X1_next l D t aD vD _ h) (pm_r pm_0) (cwV 0 X.1.2.2.2.2 gX0_cutSide_X1_next rfl rfl rfl (by decide +kernel) ⟨Nat.le_of_ble_eq_true rfl, Nat.le_of_ble_eq_true rfl⟩) (ci := 1) rfl rfl rfl rfl hl rfl (Nat.le_of_ble_eq_true rfl) dX0_cutSide_16 ⟨Nat.le_of_ble_eq_true rfl, Nat.le_of_ble_eq_true rfl⟩) (fun r_4 u H locs h hw => ?_)
    obtain ⟨vD_3, rfl⟩ : ∃ z, z = u := ⟨_, rfl⟩
    refine lv_istore (lv' := [(5, .int r_4), (4, .int r_2), (0, .ref (BA.o aB)), (1, .int p1), (2, .int p2), (3, .ref aD)]) hx hb dX0_cutSide_19 hl (by decide) rfl (fun ls hl => ?_)
    refine lv_aload_n hx hb dX0_cutSide_21 rfl (lv_at hl 5 rfl) ?_
    refine r_ci X hw (pm_r pm_0) (wn := fun (u : DV) => (bW t aB vB_1 ++ (dW t aD u))) (fun u => (pm_r pm_0).symm) (r_runV X hw (c_X1_next l D t aD vD_3 _ h) (pm_r pm_0) (cwV 0 X.1.2.2.2.2 gX0_cutSide_X1_next rfl rfl rfl (by decide +kernel) ⟨Nat.le_of_ble_eq_true rfl, Nat.le_of_ble_eq_true rfl⟩) (ci := 1) rfl rfl rfl rfl hl rfl (Nat.le_of_ble_eq_true rfl) dX0_cutSide_22 ⟨Nat.le_of_ble_eq_true rfl, Nat.le_of_ble_eq_true rfl⟩) (fun r_6 u H locs h hw => ?_)
    obtain ⟨vD_5, rfl⟩ : ∃ z, z = u := ⟨_, rfl⟩
    refine lv_istore (lv' := [(6, .int r_6), (5, .int r_4), (4, .int r_2), (0, .ref (BA.o aB)), (1, .int p1), (2, .int p2), (3, .ref aD)]) hx hb dX0_cutSide_25 hl (by decide) rfl (fun ls hl => ?_)
    refine lv_iload hx hb dX0_cutSide_27 (lv_at hl 1 rfl) ?_
    refine lv_iload hx hb dX0_cutSide_29 (lv_at hl 0 rfl) ?_
    refine lv_bipush (v := 16) hx hb dX0_cutSide_31 (by decide) ?_
    refine r_ishl hx hb dX0_cutSide_33 ?_
    refine lv_ior hx hb dX0_cutSide_34 ?_
    refine lv_topi (fun x7_7 ex7_7 => ?_)
    replace h := h x7_7 ex7_7
    refine lv_istore (lv' := [(7, .int x7_7), (6, .int r_6), (5, .int r_4), (4, .int r_2), (0, .ref (BA.o aB)), (1, .int p1), (2, .int p2), (3, .ref aD)]) hx hb dX0_cutSide_35 hl (by decide) rfl (fun ls hl => ?_)
    refine lv_aload_n hx hb dX0_cutSide_37 rfl (lv_at hl 4 rfl) ?_
    refine r_get (ci := 0) (C := RX0) (T := TX0) (N := 8) X hw 0 rfl rfl 7 (by decide) in_X0_cutSide_X0 fl_X0_cutSide_34 (v := .ref (BA.looks aB)) rfl dX0_cutSide_38 ?_
    refine lv_bipush (v := 8) hx hb dX0_cutSide_41 (by decide) ?_
    refine lv_iload_n hx hb dX0_cutSide_43 rfl (lv_at hl 5 rfl) ?_
    refine lv_imul hx hb dX0_cutSide_44 ?_
    refine lv_dup2_11 hx hb dX0_cutSide_45 rfl rfl ?_
    obtain ⟨hi_8, h⟩ := h
    refine r_iald (v := ((BV.looks vB_1) (Int32.toNatClampNeg (8 * p1)))) X hw 3 rfl hi_8 rfl dX0_cutSide_46 ?_
    refine lv_iload hx hb dX0_cutSide_47 (lv_at hl 0 rfl) ?_
    refine lv_iconst (v := 4) hx hb dX0_cutSide_49 (by decide) ?_
    refine lv_iload_n hx hb dX0_cutSide_50 rfl (lv_at hl 6 rfl) ?_
    refine lv_imul hx hb dX0_cutSide_51 ?_
    refine r_ishl hx hb dX0_cutSide_52 ?_
    refine lv_ior hx hb dX0_cutSide_53 ?_
    refine lv_topi (fun f_9 ef_9 => ?_)
    replace h := h f_9 ef_9
    obtain ⟨hi_10, h⟩ := h
    obtain ⟨l_11, el_11⟩ : ∃ z : Nat → Int32, z = upd (BV.looks vB_1) (Int32.toNatClampNeg (8 * p1)) f_9 := ⟨_, rfl⟩
    replace h := h l_11 el_11
    refine r_iast (ws' := (bW t aB (BV.s_looks vB_1 l_11) ++ (dW t aD vD_5))) X hw 3 rfl hi_10 (by subst el_11; rfl) dX0_cutSide_54 (fun H locs hw => ?_)
    refine lv_aload_n hx hb dX0_cutSide_55 rfl (lv_at hl 4 rfl) ?_
    refine r_get (ci := 0) (C := RX0) (T := TX0) (N := 8) X hw 0 rfl rfl 7 (by decide) in_X0_cutSide_X0 fl_X0_cutSide_34 (v := .ref (BA.looks aB)) rfl dX0_cutSide_56 ?_
    refine lv_bipush (v := 8) hx hb dX0_cutSide_59 (by decide) ?_
    refine lv_iload hx hb dX0_cutSide_61 (lv_at hl 3 rfl) ?_
    refine lv_imul hx hb dX0_cutSide_63 ?_
    refine lv_dup2_11 hx hb dX0_cutSide_64 rfl rfl ?_
    obtain ⟨hi_12, h⟩ := h
    refine r_iald (v := (l_11 (Int32.toNatClampNeg (8 * r_2)))) X hw 3 rfl hi_12 rfl dX0_cutSide_65 ?_
    refine lv_iload hx hb dX0_cutSide_66 (lv_at hl 0 rfl) ?_
    refine lv_iconst (v := 4) hx hb dX0_cutSide_68 (by decide) ?_
    refine lv_iload_n hx hb dX0_cutSide_69 rfl (lv_at hl 6 rfl) ?_
    refine r_ci X hw pm_n (wn := fun (u : Unit) => (bW t aB (BV.s_looks vB_1 l_11) ++ (dW t aD vD_5))) (fun u => (pm_n).symm) (r_runSN X hw (c_X6_opposite l D t p2 _ h) pm_n (va_cnB 1 X.1.2.2.2.2 gX0_cutSide_X6_opposite_n88 rfl rfl rfl (X.2.2.2.1.2.1 (RX0, 88, yX6_opposite, RX6) (by decide +kernel)) (X.1.2.2.2.2 _ (ii_X0_cutSide_X6)) (by decide +kernel) ⟨Nat.le_of_ble_eq_true rfl, Nat.le_of_ble_eq_true rfl⟩) (X.1.2.2.2.2 _ (is_X0_cutSide_X6_opposite)) rfl hl rfl (Nat.le_of_ble_eq_true rfl) dX0_cutSide_70 ⟨Nat.le_of_ble_eq_true rfl, Nat.le_of_ble_eq_true rfl⟩) (fun r_13 u H locs h hw => ?_)
    refine lv_imul hx hb dX0_cutSide_73 ?_
    refine r_ishl hx hb dX0_cutSide_74 ?_
    refine lv_ior hx hb dX0_cutSide_75 ?_
    refine lv_topi (fun f_14 ef_14 => ?_)
    replace h := h f_14 ef_14
    obtain ⟨hi_15, h⟩ := h
    obtain ⟨l_16, el_16⟩ : ∃ z : Nat → Int32, z = upd l_11 (Int32.toNatClampNeg (8 * r_2)) f_14 := ⟨_, rfl⟩
    replace h := h l_16 el_16
    refine r_iast (ws' := (bW t aB (BV.s_looks vB_1 l_16) ++ (dW t aD vD_5))) X hw 3 rfl hi_15 (by subst el_16; rfl) dX0_cutSide_76 (fun H locs hw => ?_)
    exact e_v (w1 := (fun (u : BV × DV) => (bW t aB u.1 ++ (dW t aD u.2)))) X ((BV.s_looks vB_1 l_16), vD_5) hw h dX0_cutSide_77
  replace h := h.2 c_17
  exact e_v (w1 := (fun (u : BV × DV) => (bW t aB u.1 ++ (dW t aD u.2)))) X (vB_1, vD) hw h dX0_cutSide_14
/-! X0_cutTiles -/
theorem in_X0_cutTiles_X0 : ∀ w ∈ u_ws RX0 TX0 8, w ∈ wsX0_cutTiles := fun w h => (List.mem_cons_of_mem _ (List.mem_append_left _ (List.mem_append_right _ h)))
theorem fl_X0_cutTiles_21 : Cond.fieldLink RX0 21 "TwoFacedTiles$Board" "tiles" "I" ∈ wsX0_cutTiles := List.mem_of_getElem? (i := 1) rfl
theorem fl_X0_cutTiles_34 : Cond.fieldLink RX0 34 "TwoFacedTiles$Board" "looks" "[I" ∈ wsX0_cutTiles := List.mem_of_getElem? (i := 2) rfl
def bd_X0_cutTiles_10 (Q : BV → DV → Prop) (P : BV → DV → Int32 → Prop) (K34 : BV → DV → Prop) (vB : BV) (vD : DV) (x2 : Int32) : Prop := ((BV.tiles vB) ≤ x2 → K34 vB vD) ∧ (¬ (BV.tiles vB) ≤ x2 → vp_in (8 * x2) 96 ∧ ∀ l_4 : Nat → Int32, l_4 = upd (BV.looks vB) (Int32.toNatClampNeg (8 * x2)) 0 → ∀ x2_5 : Int32, x2_5 = x2 + 1 → P (BV.s_looks vB l_4) vD x2_5)
def wp_X0_cutTiles_10 (Q : BV → DV → Prop) (K34 : BV → DV → Prop) (vB : BV) (vD : DV) (x2 : Int32) : Prop := ∀ P : BV → DV → Int32 → Prop, (∀ (vB : BV) (vD : DV) (x2 : Int32), bd_X0_cutTiles_10 Q P K34 vB vD x2 → P vB vD x2) → P vB vD x2
set_option maxHeartbeats 4000000 in
set_option maxRecDepth 100000 in
theorem kb_X0_cutTiles_10 {p : Program} {l : Launch} {e : Env} {s : State} {m : MethodId} {below : List Frame} {meth : Method} {c : Code} {args : Array Value} {D : va_G} {t : T3} {A : Nat → Prop} (X : Cx p s m meth c args cX0_cutTiles 3 none RX0 wsX0_cutTiles D t A) (aB : BA) (aD : Nat) {Q : BV → DV → Prop} {P : BV → DV → Int32 → Prop} {K34 : BV → DV → Prop} (hP : ∀ (vB : BV) (vD : DV) (x2 : Int32) (H : Heap) (locs : List Loc) (ls : Array Slot), P vB vD x2 → Wd D A s.heap (bW t aB vB ++ (dW t aD vD)) H locs → lv_has ls 3 [(0, .ref (BA.o aB)), (1, .ref aD), (2, .int x2)] → W p l e ({ frames := 3, cells := 0, slots := 0, locals := 70 } : Room) s m args below meth c H locs 0 0 (Ev below args s A D (fun (u : BV × DV) => (bW t aB u.1 ++ (dW t aD u.2))) (fun (u : BV × DV) => Q u.1 u.2) 0 0) (F0 m 10 ls [])) (hK34 : ∀ (vB : BV) (vD : DV) (H : Heap) (locs : List Loc) (ls : Array Slot), K34 vB vD → Wd D A s.heap (bW t aB vB ++ (dW t aD vD)) H locs → lv_has ls 3 [(0, .ref (BA.o aB)), (1, .ref aD)] → W p l e ({ frames := 3, cells := 0, slots := 0, locals := 70 } : Room) s m args below meth c H locs 0 0 (Ev below args s A D (fun (u : BV × DV) => (bW t aB u.1 ++ (dW t aD u.2))) (fun (u : BV × DV) => Q u.1 u.2) 0 0) (F0 m 34 ls [])) : ∀ (vB : BV) (vD : DV) (x2 : Int32) (H : Heap) (locs : List Loc) (ls : Array Slot), bd_X0_cutTiles_10 Q P K34 vB vD x2 → Wd D A s.heap (bW t aB vB ++ (dW t aD vD)) H locs → lv_has ls 3 [(0, .ref (BA.o aB)), (1, .ref aD), (2, .int x2)] → W p l e ({ frames := 3, cells := 0, slots := 0, locals := 70 } : Room) s m args below meth c H locs 0 0 (Ev below args s A D (fun (u : BV × DV) => (bW t aB u.1 ++ (dW t aD u.2))) (fun (u : BV × DV) => Q u.1 u.2) 0 0) (F0 m 10 ls []) := by
  intro vB vD x2 H locs ls h hw hl
  have hx := X.1.1
  have hb := X.1.2.1
  refine lv_iload_n hx hb dX0_cutTiles_10 rfl (lv_at hl 2 rfl) ?_
  refine lv_aload_n hx hb dX0_cutTiles_11 rfl (lv_at hl 0 rfl) ?_
  refine r_get (ci := 0) (C := RX0) (T := TX0) (N := 8) X hw 0 rfl rfl 3 (by decide) in_X0_cutTiles_X0 fl_X0_cutTiles_21 (v := .int (BV.tiles vB)) rfl dX0_cutTiles_12 ?_
  refine lv_icmp_ge (tgt := 34) hx hb dX0_cutTiles_15 (by decide) (fun c_6 => ?_) (fun c_6 => ?_)
  · replace h := h.1 c_6
    exact hK34 _ _ _ _ _ h hw (lv_sub hl [0, 1] rfl)
  replace h := h.2 c_6
  refine lv_aload_n hx hb dX0_cutTiles_18 rfl (lv_at hl 0 rfl) ?_
  refine r_get (ci := 0) (C := RX0) (T := TX0) (N := 8) X hw 0 rfl rfl 7 (by decide) in_X0_cutTiles_X0 fl_X0_cutTiles_34 (v := .ref (BA.looks aB)) rfl dX0_cutTiles_19 ?_
  refine lv_bipush (v := 8) hx hb dX0_cutTiles_22 (by decide) ?_
  refine lv_iload_n hx hb dX0_cutTiles_24 rfl (lv_at hl 2 rfl) ?_
  refine lv_imul hx hb dX0_cutTiles_25 ?_
  refine lv_iconst (v := 0) hx hb dX0_cutTiles_26 (by decide) ?_
  obtain ⟨hi_3, h⟩ := h
  obtain ⟨l_4, el_4⟩ : ∃ z : Nat → Int32, z = upd (BV.looks vB) (Int32.toNatClampNeg (8 * x2)) 0 := ⟨_, rfl⟩
  replace h := h l_4 el_4
  refine r_iast (ws' := (bW t aB (BV.s_looks vB l_4) ++ (dW t aD vD))) X hw 3 rfl hi_3 (by subst el_4; rfl) dX0_cutTiles_27 (fun H locs hw => ?_)
  obtain ⟨x2_5, ex2_5⟩ : ∃ z : Int32, z = x2 + 1 := ⟨_, rfl⟩
  replace h := h x2_5 ex2_5
  refine lv_iinc (v := x2_5) (lv' := [(2, .int x2_5), (0, .ref (BA.o aB)), (1, .ref aD)]) hx hb dX0_cutTiles_28 hl (k := 2) rfl (by rw [ex2_5]; rfl) (by decide) rfl (fun ls hl => ?_)
  refine lv_goto (tgt := 10) hx hb dX0_cutTiles_31 (by decide) ?_
  exact hP _ _ _ _ _ _ h hw (lv_sub hl [1, 2, 0] rfl)
set_option maxHeartbeats 4000000 in
set_option maxRecDepth 100000 in
theorem k_X0_cutTiles_10 {p : Program} {l : Launch} {e : Env} {s : State} {m : MethodId} {below : List Frame} {meth : Method} {c : Code} {args : Array Value} {D : va_G} {t : T3} {A : Nat → Prop} (X : Cx p s m meth c args cX0_cutTiles 3 none RX0 wsX0_cutTiles D t A) (aB : BA) (aD : Nat) {Q : BV → DV → Prop} {K34 : BV → DV → Prop} (hK34 : ∀ (vB : BV) (vD : DV) (H : Heap) (locs : List Loc) (ls : Array Slot), K34 vB vD → Wd D A s.heap (bW t aB vB ++ (dW t aD vD)) H locs → lv_has ls 3 [(0, .ref (BA.o aB)), (1, .ref aD)] → W p l e ({ frames := 3, cells := 0, slots := 0, locals := 70 } : Room) s m args below meth c H locs 0 0 (Ev below args s A D (fun (u : BV × DV) => (bW t aB u.1 ++ (dW t aD u.2))) (fun (u : BV × DV) => Q u.1 u.2) 0 0) (F0 m 34 ls [])) : ∀ (vB : BV) (vD : DV) (x2 : Int32) (H : Heap) (locs : List Loc) (ls : Array Slot), wp_X0_cutTiles_10 Q K34 vB vD x2 → Wd D A s.heap (bW t aB vB ++ (dW t aD vD)) H locs → lv_has ls 3 [(0, .ref (BA.o aB)), (1, .ref aD), (2, .int x2)] → W p l e ({ frames := 3, cells := 0, slots := 0, locals := 70 } : Room) s m args below meth c H locs 0 0 (Ev below args s A D (fun (u : BV × DV) => (bW t aB u.1 ++ (dW t aD u.2))) (fun (u : BV × DV) => Q u.1 u.2) 0 0) (F0 m 10 ls []) := by
  intro vB vD x2 H locs ls h hw hl
  have hx := X.1.1
  have hb := X.1.2.1
  refine h (fun (vB : BV) (vD : DV) (x2 : Int32) => ∀ (H : Heap) (locs : List Loc) (ls : Array Slot), Wd D A s.heap (bW t aB vB ++ (dW t aD vD)) H locs → lv_has ls 3 [(0, .ref (BA.o aB)), (1, .ref aD), (2, .int x2)] → W p l e ({ frames := 3, cells := 0, slots := 0, locals := 70 } : Room) s m args below meth c H locs 0 0 (Ev below args s A D (fun (u : BV × DV) => (bW t aB u.1 ++ (dW t aD u.2))) (fun (u : BV × DV) => Q u.1 u.2) 0 0) (F0 m 10 ls [])) (fun vB vD x2 h H locs ls hw hl => ?_) H locs ls hw hl
  exact kb_X0_cutTiles_10 X aB aD (fun vB vD x2 H locs ls q hw hl => q H locs ls hw hl) hK34 vB vD x2 _ _ _ h hw hl
def bd_X0_cutTiles_36 (Q : BV → DV → Prop) (P : BV → DV → Int32 → Prop) (K64 : BV → DV → Prop) (vB : BV) (vD : DV) (x2 : Int32) : Prop := ((BV.tiles vB) ≤ x2 → K64 vB vD) ∧ (¬ (BV.tiles vB) ≤ x2 → wp_X0_cutSide vB vD x2 1 (fun (vB_9 : BV) (vD_10 : DV) => wp_X0_cutSide vB_9 vD_10 x2 2 (fun (vB_11 : BV) (vD_12 : DV) => ∀ x2_13 : Int32, x2_13 = x2 + 1 → P vB_11 vD_12 x2_13)))
def wp_X0_cutTiles_36 (Q : BV → DV → Prop) (K64 : BV → DV → Prop) (vB : BV) (vD : DV) (x2 : Int32) : Prop := ∀ P : BV → DV → Int32 → Prop, (∀ (vB : BV) (vD : DV) (x2 : Int32), bd_X0_cutTiles_36 Q P K64 vB vD x2 → P vB vD x2) → P vB vD x2
set_option maxHeartbeats 4000000 in
set_option maxRecDepth 100000 in
theorem kb_X0_cutTiles_36 {p : Program} {l : Launch} {e : Env} {s : State} {m : MethodId} {below : List Frame} {meth : Method} {c : Code} {args : Array Value} {D : va_G} {t : T3} {A : Nat → Prop} (X : Cx p s m meth c args cX0_cutTiles 3 none RX0 wsX0_cutTiles D t A) (aB : BA) (aD : Nat) {Q : BV → DV → Prop} {P : BV → DV → Int32 → Prop} {K64 : BV → DV → Prop} (hP : ∀ (vB : BV) (vD : DV) (x2 : Int32) (H : Heap) (locs : List Loc) (ls : Array Slot), P vB vD x2 → Wd D A s.heap (bW t aB vB ++ (dW t aD vD)) H locs → lv_has ls 3 [(0, .ref (BA.o aB)), (1, .ref aD), (2, .int x2)] → W p l e ({ frames := 3, cells := 0, slots := 0, locals := 70 } : Room) s m args below meth c H locs 0 0 (Ev below args s A D (fun (u : BV × DV) => (bW t aB u.1 ++ (dW t aD u.2))) (fun (u : BV × DV) => Q u.1 u.2) 0 0) (F0 m 36 ls [])) (hK64 : ∀ (vB : BV) (vD : DV) (H : Heap) (locs : List Loc) (ls : Array Slot), K64 vB vD → Wd D A s.heap (bW t aB vB ++ (dW t aD vD)) H locs → lv_has ls 3 [(0, .ref (BA.o aB))] → W p l e ({ frames := 3, cells := 0, slots := 0, locals := 70 } : Room) s m args below meth c H locs 0 0 (Ev below args s A D (fun (u : BV × DV) => (bW t aB u.1 ++ (dW t aD u.2))) (fun (u : BV × DV) => Q u.1 u.2) 0 0) (F0 m 64 ls [])) : ∀ (vB : BV) (vD : DV) (x2 : Int32) (H : Heap) (locs : List Loc) (ls : Array Slot), bd_X0_cutTiles_36 Q P K64 vB vD x2 → Wd D A s.heap (bW t aB vB ++ (dW t aD vD)) H locs → lv_has ls 3 [(0, .ref (BA.o aB)), (1, .ref aD), (2, .int x2)] → W p l e ({ frames := 3, cells := 0, slots := 0, locals := 70 } : Room) s m args below meth c H locs 0 0 (Ev below args s A D (fun (u : BV × DV) => (bW t aB u.1 ++ (dW t aD u.2))) (fun (u : BV × DV) => Q u.1 u.2) 0 0) (F0 m 36 ls []) := by
  intro vB vD x2 H locs ls h hw hl
  have hx := X.1.1
  have hb := X.1.2.1
  refine lv_iload_n hx hb dX0_cutTiles_36 rfl (lv_at hl 2 rfl) ?_
  refine lv_aload_n hx hb dX0_cutTiles_37 rfl (lv_at hl 0 rfl) ?_
  refine r_get (ci := 0) (C := RX0) (T := TX0) (N := 8) X hw 0 rfl rfl 3 (by decide) in_X0_cutTiles_X0 fl_X0_cutTiles_21 (v := .int (BV.tiles vB)) rfl dX0_cutTiles_38 ?_
  refine lv_icmp_ge (tgt := 64) hx hb dX0_cutTiles_41 (by decide) (fun c_14 => ?_) (fun c_14 => ?_)
  · replace h := h.1 c_14
    exact hK64 _ _ _ _ _ h hw (lv_sub hl [0] rfl)
  replace h := h.2 c_14
  refine lv_aload_n hx hb dX0_cutTiles_44 rfl (lv_at hl 0 rfl) ?_
  refine lv_iload_n hx hb dX0_cutTiles_45 rfl (lv_at hl 2 rfl) ?_
  refine lv_iconst (v := 1) hx hb dX0_cutTiles_46 (by decide) ?_
  refine lv_aload_n hx hb dX0_cutTiles_47 rfl (lv_at hl 1 rfl) ?_
  refine r_cv X hw (pm_2 (pm_l pm_0) (pm_r pm_0)) (wn := fun (u : BV × DV) => (bW t aB u.1 ++ (dW t aD u.2))) (fun u => (pm_2 (pm_l pm_0) (pm_r pm_0)).symm) (r_runV X hw (c_X0_cutSide l D t aB aD vB vD x2 1 _ h) (pm_2 (pm_l pm_0) (pm_r pm_0)) (cwV 3 X.1.2.2.2.2 gX0_cutTiles_X0_cutSide rfl rfl rfl (by decide +kernel) ⟨Nat.le_of_ble_eq_true rfl, Nat.le_of_ble_eq_true rfl⟩) (ci := 0) rfl rfl rfl rfl hl rfl (Nat.le_of_ble_eq_true rfl) dX0_cutTiles_48 ⟨Nat.le_of_ble_eq_true rfl, Nat.le_of_ble_eq_true rfl⟩) (fun u H locs h hw => ?_)
  obtain ⟨vB_9, vD_10⟩ := u
  refine lv_aload_n hx hb dX0_cutTiles_51 rfl (lv_at hl 0 rfl) ?_
  refine lv_iload_n hx hb dX0_cutTiles_52 rfl (lv_at hl 2 rfl) ?_
  refine lv_iconst (v := 2) hx hb dX0_cutTiles_53 (by decide) ?_
  refine lv_aload_n hx hb dX0_cutTiles_54 rfl (lv_at hl 1 rfl) ?_
  refine r_cv X hw (pm_2 (pm_l pm_0) (pm_r pm_0)) (wn := fun (u : BV × DV) => (bW t aB u.1 ++ (dW t aD u.2))) (fun u => (pm_2 (pm_l pm_0) (pm_r pm_0)).symm) (r_runV X hw (c_X0_cutSide l D t aB aD vB_9 vD_10 x2 2 _ h) (pm_2 (pm_l pm_0) (pm_r pm_0)) (cwV 3 X.1.2.2.2.2 gX0_cutTiles_X0_cutSide rfl rfl rfl (by decide +kernel) ⟨Nat.le_of_ble_eq_true rfl, Nat.le_of_ble_eq_true rfl⟩) (ci := 0) rfl rfl rfl rfl hl rfl (Nat.le_of_ble_eq_true rfl) dX0_cutTiles_55 ⟨Nat.le_of_ble_eq_true rfl, Nat.le_of_ble_eq_true rfl⟩) (fun u H locs h hw => ?_)
  obtain ⟨vB_11, vD_12⟩ := u
  obtain ⟨x2_13, ex2_13⟩ : ∃ z : Int32, z = x2 + 1 := ⟨_, rfl⟩
  replace h := h x2_13 ex2_13
  refine lv_iinc (v := x2_13) (lv' := [(2, .int x2_13), (0, .ref (BA.o aB)), (1, .ref aD)]) hx hb dX0_cutTiles_58 hl (k := 2) rfl (by rw [ex2_13]; rfl) (by decide) rfl (fun ls hl => ?_)
  refine lv_goto (tgt := 36) hx hb dX0_cutTiles_61 (by decide) ?_
  exact hP _ _ _ _ _ _ h hw (lv_sub hl [1, 2, 0] rfl)
set_option maxHeartbeats 4000000 in
set_option maxRecDepth 100000 in
theorem k_X0_cutTiles_36 {p : Program} {l : Launch} {e : Env} {s : State} {m : MethodId} {below : List Frame} {meth : Method} {c : Code} {args : Array Value} {D : va_G} {t : T3} {A : Nat → Prop} (X : Cx p s m meth c args cX0_cutTiles 3 none RX0 wsX0_cutTiles D t A) (aB : BA) (aD : Nat) {Q : BV → DV → Prop} {K64 : BV → DV → Prop} (hK64 : ∀ (vB : BV) (vD : DV) (H : Heap) (locs : List Loc) (ls : Array Slot), K64 vB vD → Wd D A s.heap (bW t aB vB ++ (dW t aD vD)) H locs → lv_has ls 3 [(0, .ref (BA.o aB))] → W p l e ({ frames := 3, cells := 0, slots := 0, locals := 70 } : Room) s m args below meth c H locs 0 0 (Ev below args s A D (fun (u : BV × DV) => (bW t aB u.1 ++ (dW t aD u.2))) (fun (u : BV × DV) => Q u.1 u.2) 0 0) (F0 m 64 ls [])) : ∀ (vB : BV) (vD : DV) (x2 : Int32) (H : Heap) (locs : List Loc) (ls : Array Slot), wp_X0_cutTiles_36 Q K64 vB vD x2 → Wd D A s.heap (bW t aB vB ++ (dW t aD vD)) H locs → lv_has ls 3 [(0, .ref (BA.o aB)), (1, .ref aD), (2, .int x2)] → W p l e ({ frames := 3, cells := 0, slots := 0, locals := 70 } : Room) s m args below meth c H locs 0 0 (Ev below args s A D (fun (u : BV × DV) => (bW t aB u.1 ++ (dW t aD u.2))) (fun (u : BV × DV) => Q u.1 u.2) 0 0) (F0 m 36 ls []) := by
  intro vB vD x2 H locs ls h hw hl
  have hx := X.1.1
  have hb := X.1.2.1
  refine h (fun (vB : BV) (vD : DV) (x2 : Int32) => ∀ (H : Heap) (locs : List Loc) (ls : Array Slot), Wd D A s.heap (bW t aB vB ++ (dW t aD vD)) H locs → lv_has ls 3 [(0, .ref (BA.o aB)), (1, .ref aD), (2, .int x2)] → W p l e ({ frames := 3, cells := 0, slots := 0, locals := 70 } : Room) s m args below meth c H locs 0 0 (Ev below args s A D (fun (u : BV × DV) => (bW t aB u.1 ++ (dW t aD u.2))) (fun (u : BV × DV) => Q u.1 u.2) 0 0) (F0 m 36 ls [])) (fun vB vD x2 h H locs ls hw hl => ?_) H locs ls hw hl
  exact kb_X0_cutTiles_36 X aB aD (fun vB vD x2 H locs ls q hw hl => q H locs ls hw hl) hK64 vB vD x2 _ _ _ h hw hl
def bd_X0_cutTiles_66 (Q : BV → DV → Prop) (P : BV → DV → Int32 → Prop) (vB : BV) (vD : DV) (x2 : Int32) : Prop := ((BV.tiles vB) ≤ x2 → Q vB vD) ∧ (¬ (BV.tiles vB) ≤ x2 → wp_X0_makeWays vB x2 (fun (vB_17 : BV) => ∀ x2_18 : Int32, x2_18 = x2 + 1 → P vB_17 vD x2_18))
def wp_X0_cutTiles_66 (Q : BV → DV → Prop)  (vB : BV) (vD : DV) (x2 : Int32) : Prop := ∀ P : BV → DV → Int32 → Prop, (∀ (vB : BV) (vD : DV) (x2 : Int32), bd_X0_cutTiles_66 Q P  vB vD x2 → P vB vD x2) → P vB vD x2
set_option maxHeartbeats 4000000 in
set_option maxRecDepth 100000 in
theorem kb_X0_cutTiles_66 {p : Program} {l : Launch} {e : Env} {s : State} {m : MethodId} {below : List Frame} {meth : Method} {c : Code} {args : Array Value} {D : va_G} {t : T3} {A : Nat → Prop} (X : Cx p s m meth c args cX0_cutTiles 3 none RX0 wsX0_cutTiles D t A) (aB : BA) (aD : Nat) {Q : BV → DV → Prop} {P : BV → DV → Int32 → Prop} (hP : ∀ (vB : BV) (vD : DV) (x2 : Int32) (H : Heap) (locs : List Loc) (ls : Array Slot), P vB vD x2 → Wd D A s.heap (bW t aB vB ++ (dW t aD vD)) H locs → lv_has ls 3 [(0, .ref (BA.o aB)), (2, .int x2)] → W p l e ({ frames := 3, cells := 0, slots := 0, locals := 70 } : Room) s m args below meth c H locs 0 0 (Ev below args s A D (fun (u : BV × DV) => (bW t aB u.1 ++ (dW t aD u.2))) (fun (u : BV × DV) => Q u.1 u.2) 0 0) (F0 m 66 ls [])) : ∀ (vB : BV) (vD : DV) (x2 : Int32) (H : Heap) (locs : List Loc) (ls : Array Slot), bd_X0_cutTiles_66 Q P  vB vD x2 → Wd D A s.heap (bW t aB vB ++ (dW t aD vD)) H locs → lv_has ls 3 [(0, .ref (BA.o aB)), (2, .int x2)] → W p l e ({ frames := 3, cells := 0, slots := 0, locals := 70 } : Room) s m args below meth c H locs 0 0 (Ev below args s A D (fun (u : BV × DV) => (bW t aB u.1 ++ (dW t aD u.2))) (fun (u : BV × DV) => Q u.1 u.2) 0 0) (F0 m 66 ls []) := by
  intro vB vD x2 H locs ls h hw hl
  have hx := X.1.1
  have hb := X.1.2.1
  refine lv_iload_n hx hb dX0_cutTiles_66 rfl (lv_at hl 1 rfl) ?_
  refine lv_aload_n hx hb dX0_cutTiles_67 rfl (lv_at hl 0 rfl) ?_
  refine r_get (ci := 0) (C := RX0) (T := TX0) (N := 8) X hw 0 rfl rfl 3 (by decide) in_X0_cutTiles_X0 fl_X0_cutTiles_21 (v := .int (BV.tiles vB)) rfl dX0_cutTiles_68 ?_
  refine lv_icmp_ge (tgt := 85) hx hb dX0_cutTiles_71 (by decide) (fun c_19 => ?_) (fun c_19 => ?_)
  · replace h := h.1 c_19
    exact e_v (w1 := (fun (u : BV × DV) => (bW t aB u.1 ++ (dW t aD u.2)))) X (vB, vD) hw h dX0_cutTiles_85
  replace h := h.2 c_19
  refine lv_aload_n hx hb dX0_cutTiles_74 rfl (lv_at hl 0 rfl) ?_
  refine lv_iload_n hx hb dX0_cutTiles_75 rfl (lv_at hl 1 rfl) ?_
  refine r_cv X hw (pm_l pm_0) (wn := fun (u : BV) => (bW t aB u ++ (dW t aD vD))) (fun u => (pm_l pm_0).symm) (r_runV X hw (c_X0_makeWays l D t aB vB x2 _ h) (pm_l pm_0) (cwV 1 X.1.2.2.2.2 gX0_cutTiles_X0_makeWays rfl rfl rfl (by decide +kernel) ⟨Nat.le_of_ble_eq_true rfl, Nat.le_of_ble_eq_true rfl⟩) (ci := 0) rfl rfl rfl rfl hl rfl (Nat.le_of_ble_eq_true rfl) dX0_cutTiles_76 ⟨Nat.le_of_ble_eq_true rfl, Nat.le_of_ble_eq_true rfl⟩) (fun u H locs h hw => ?_)
  obtain ⟨vB_17, rfl⟩ : ∃ z, z = u := ⟨_, rfl⟩
  obtain ⟨x2_18, ex2_18⟩ : ∃ z : Int32, z = x2 + 1 := ⟨_, rfl⟩
  replace h := h x2_18 ex2_18
  refine lv_iinc (v := x2_18) (lv' := [(2, .int x2_18), (0, .ref (BA.o aB))]) hx hb dX0_cutTiles_79 hl (k := 1) rfl (by rw [ex2_18]; rfl) (by decide) rfl (fun ls hl => ?_)
  refine lv_goto (tgt := 66) hx hb dX0_cutTiles_82 (by decide) ?_
  exact hP _ _ _ _ _ _ h hw (lv_sub hl [1, 0] rfl)
set_option maxHeartbeats 4000000 in
set_option maxRecDepth 100000 in
theorem k_X0_cutTiles_66 {p : Program} {l : Launch} {e : Env} {s : State} {m : MethodId} {below : List Frame} {meth : Method} {c : Code} {args : Array Value} {D : va_G} {t : T3} {A : Nat → Prop} (X : Cx p s m meth c args cX0_cutTiles 3 none RX0 wsX0_cutTiles D t A) (aB : BA) (aD : Nat) {Q : BV → DV → Prop}   : ∀ (vB : BV) (vD : DV) (x2 : Int32) (H : Heap) (locs : List Loc) (ls : Array Slot), wp_X0_cutTiles_66 Q  vB vD x2 → Wd D A s.heap (bW t aB vB ++ (dW t aD vD)) H locs → lv_has ls 3 [(0, .ref (BA.o aB)), (2, .int x2)] → W p l e ({ frames := 3, cells := 0, slots := 0, locals := 70 } : Room) s m args below meth c H locs 0 0 (Ev below args s A D (fun (u : BV × DV) => (bW t aB u.1 ++ (dW t aD u.2))) (fun (u : BV × DV) => Q u.1 u.2) 0 0) (F0 m 66 ls []) := by
  intro vB vD x2 H locs ls h hw hl
  have hx := X.1.1
  have hb := X.1.2.1
  refine h (fun (vB : BV) (vD : DV) (x2 : Int32) => ∀ (H : Heap) (locs : List Loc) (ls : Array Slot), Wd D A s.heap (bW t aB vB ++ (dW t aD vD)) H locs → lv_has ls 3 [(0, .ref (BA.o aB)), (2, .int x2)] → W p l e ({ frames := 3, cells := 0, slots := 0, locals := 70 } : Room) s m args below meth c H locs 0 0 (Ev below args s A D (fun (u : BV × DV) => (bW t aB u.1 ++ (dW t aD u.2))) (fun (u : BV × DV) => Q u.1 u.2) 0 0) (F0 m 66 ls [])) (fun vB vD x2 h H locs ls hw hl => ?_) H locs ls hw hl
  exact kb_X0_cutTiles_66 X aB aD (fun vB vD x2 H locs ls q hw hl => q H locs ls hw hl)  vB vD x2 _ _ _ h hw hl
def wp_X0_cutTiles (vB : BV) (vD : DV) (Q : BV → DV → Prop) : Prop := wp_X0_cells vB  (fun (r_2 : Int32) (vB_1 : BV) => wp_X0_cutTiles_10 Q (fun (vB_7 : BV) (vD_8 : DV) => wp_X0_cutTiles_36 Q (fun (vB_15 : BV) (vD_16 : DV) => wp_X0_cutTiles_66 Q  vB_15 vD_16 0) vB_7 vD_8 0) (BV.s_tiles vB_1 r_2) vD 0)
set_option maxHeartbeats 4000000 in
set_option maxRecDepth 100000 in
theorem c_X0_cutTiles (l : Launch) (D : va_G) (t : T3) (aB : BA) (aD : Nat) (vB : BV) (vD : DV) (Q : BV → DV → Prop) (h : wp_X0_cutTiles vB vD Q) : Ct l yX0_cutTiles wsX0_cutTiles 3 70 0 0 [.ref (BA.o aB), .ref aD] D t (bW t aB vB ++ (dW t aD vD)) (fun sz => Qv D (bW t aB vB ++ (dW t aD vD)) (fun (u : BV × DV) => (bW t aB u.1 ++ (dW t aD u.2))) (fun (u : BV × DV) => Q u.1 u.2) sz) := by
  refine Ct.of (Qf := fun _ A => va_Qv (fun (u : BV × DV) => Q u.1 u.2) (B1 D (fun (u : BV × DV) => (bW t aB u.1 ++ (dW t aD u.2))) A) A) cX0_cutTiles 3 none (by decide) rfl (Nat.le_of_ble_eq_true rfl) ?_
  intro p e s m below meth c A ls hAe hin X hw hl
  generalize ([.ref (BA.o aB), .ref aD] : List Value).toArray = args at X ⊢
  have hl : lv_has ls 3 [(0, .ref (BA.o aB)), (1, .ref aD)] := hl
  have hx := X.1.1
  have hb := X.1.2.1
  refine lv_aload_n hx hb dX0_cutTiles_0 rfl (lv_at hl 0 rfl) ?_
  refine lv_aload_n hx hb dX0_cutTiles_1 rfl (lv_at hl 0 rfl) ?_
  refine r_ci X hw (pm_l pm_0) (wn := fun (u : BV) => (bW t aB u ++ (dW t aD vD))) (fun u => (pm_l pm_0).symm) (r_runV X hw (c_X0_cells l D t aB vB _ h) (pm_l pm_0) (cwV 0 X.1.2.2.2.2 gX0_cutTiles_X0_cells rfl rfl rfl (by decide +kernel) ⟨Nat.le_of_ble_eq_true rfl, Nat.le_of_ble_eq_true rfl⟩) (ci := 0) rfl rfl rfl rfl hl rfl (Nat.le_of_ble_eq_true rfl) dX0_cutTiles_2 ⟨Nat.le_of_ble_eq_true rfl, Nat.le_of_ble_eq_true rfl⟩) (fun r_2 u H locs h hw => ?_)
  obtain ⟨vB_1, rfl⟩ : ∃ z, z = u := ⟨_, rfl⟩
  refine r_put (ci := 0) (C := RX0) (T := TX0) (N := 8) (v := .int r_2) (ws' := (bW t aB (BV.s_tiles vB_1 r_2) ++ (dW t aD vD))) X hw 0 rfl rfl 3 (by decide) in_X0_cutTiles_X0 tyX0 tyX0_ok nmX0 fl_X0_cutTiles_21 rfl rfl rfl (Nat.le_of_ble_eq_true rfl) rfl dX0_cutTiles_5 (fun H locs hw => ?_)
  refine lv_iconst (v := 0) hx hb dX0_cutTiles_8 (by decide) ?_
  refine lv_istore_n (lv' := [(2, .int 0), (0, .ref (BA.o aB)), (1, .ref aD)]) hx hb dX0_cutTiles_9 rfl hl (by decide) rfl (fun ls hl => ?_)
  refine k_X0_cutTiles_10 X aB aD (fun vB_7 vD_8 H locs ls h hw hl => ?_) _ _ _ _ _ _ h hw (lv_sub hl [1, 2, 0] rfl)
  refine lv_iconst (v := 0) hx hb dX0_cutTiles_34 (by decide) ?_
  refine lv_istore_n (lv' := [(2, .int 0), (0, .ref (BA.o aB)), (1, .ref aD)]) hx hb dX0_cutTiles_35 rfl hl (by decide) rfl (fun ls hl => ?_)
  refine k_X0_cutTiles_36 X aB aD (fun vB_15 vD_16 H locs ls h hw hl => ?_) _ _ _ _ _ _ h hw (lv_sub hl [1, 2, 0] rfl)
  refine lv_iconst (v := 0) hx hb dX0_cutTiles_64 (by decide) ?_
  refine lv_istore_n (lv' := [(2, .int 0), (0, .ref (BA.o aB))]) hx hb dX0_cutTiles_65 rfl hl (by decide) rfl (fun ls hl => ?_)
  refine k_X0_cutTiles_66 X aB aD  _ _ _ _ _ _ h hw (lv_sub hl [1, 0] rfl)
/-! X0_faceOf -/
theorem in_X0_faceOf_X0 : ∀ w ∈ u_ws RX0 TX0 8, w ∈ wsX0_faceOf := fun w h => (List.mem_cons_of_mem _ (List.mem_append_right _ h))
theorem fl_X0_faceOf_34 : Cond.fieldLink RX0 34 "TwoFacedTiles$Board" "looks" "[I" ∈ wsX0_faceOf := List.mem_of_getElem? (i := 1) rfl
theorem ii_X0_faceOf_X6 : Cond.initialized RX6 ∈ wsX0_faceOf := List.mem_of_getElem? (i := 3) rfl
theorem is_X0_faceOf_X6_colorsAt : Cond.static yX6_colorsAt ∈ wsX0_faceOf := List.mem_of_getElem? (i := 2) rfl
def bd_X0_faceOf_20 (Q : Int32 → BV → Prop) (P : BV → Int32 → Int32 → Int32 → Prop) (vB : BV) (x3 : Int32) (x4 : Int32) (x5 : Int32) : Prop := (4 ≤ x5 → Q x4 vB) ∧ (¬ 4 ≤ x5 → wp_X6_colorsAt  x3 x5 (fun (r_3 : Int32) => ∀ x4_4 : Int32, x4_4 = ((10 * x4) + (r_3 &&& 15)) → ∀ x5_5 : Int32, x5_5 = x5 + 1 → P vB x3 x4_4 x5_5))
def wp_X0_faceOf_20 (Q : Int32 → BV → Prop)  (vB : BV) (x3 : Int32) (x4 : Int32) (x5 : Int32) : Prop := ∀ P : BV → Int32 → Int32 → Int32 → Prop, (∀ (vB : BV) (x3 : Int32) (x4 : Int32) (x5 : Int32), bd_X0_faceOf_20 Q P  vB x3 x4 x5 → P vB x3 x4 x5) → P vB x3 x4 x5
set_option maxHeartbeats 4000000 in
set_option maxRecDepth 100000 in
theorem kb_X0_faceOf_20 {p : Program} {l : Launch} {e : Env} {s : State} {m : MethodId} {below : List Frame} {meth : Method} {c : Code} {args : Array Value} {D : va_G} {t : T3} {A : Nat → Prop} (X : Cx p s m meth c args cX0_faceOf 6 (some .int) RX0 wsX0_faceOf D t A) (aB : BA) {Q : Int32 → BV → Prop} {P : BV → Int32 → Int32 → Int32 → Prop} (hP : ∀ (vB : BV) (x3 : Int32) (x4 : Int32) (x5 : Int32) (H : Heap) (locs : List Loc) (ls : Array Slot), P vB x3 x4 x5 → Wd D A s.heap (bW t aB vB) H locs → lv_has ls 6 [(3, .int x3), (4, .int x4), (5, .int x5)] → W p l e ({ frames := 1, cells := 0, slots := 0, locals := 21 } : Room) s m args below meth c H locs 0 0 (Ei below args s A D (fun (u : BV) => (bW t aB u)) (fun (r : Int32) (u : BV) => Q r u) 0 0) (F0 m 20 ls [])) : ∀ (vB : BV) (x3 : Int32) (x4 : Int32) (x5 : Int32) (H : Heap) (locs : List Loc) (ls : Array Slot), bd_X0_faceOf_20 Q P  vB x3 x4 x5 → Wd D A s.heap (bW t aB vB) H locs → lv_has ls 6 [(3, .int x3), (4, .int x4), (5, .int x5)] → W p l e ({ frames := 1, cells := 0, slots := 0, locals := 21 } : Room) s m args below meth c H locs 0 0 (Ei below args s A D (fun (u : BV) => (bW t aB u)) (fun (r : Int32) (u : BV) => Q r u) 0 0) (F0 m 20 ls []) := by
  intro vB x3 x4 x5 H locs ls h hw hl
  have hx := X.1.1
  have hb := X.1.2.1
  refine lv_iload hx hb dX0_faceOf_20 (lv_at hl 2 rfl) ?_
  refine lv_iconst (v := 4) hx hb dX0_faceOf_22 (by decide) ?_
  refine lv_icmp_ge (tgt := 49) hx hb dX0_faceOf_23 (by decide) (fun c_6 => ?_) (fun c_6 => ?_)
  · replace h := h.1 c_6
    refine lv_iload hx hb dX0_faceOf_49 (lv_at hl 1 rfl) ?_
    exact e_i (w1 := (fun (u : BV) => (bW t aB u))) X (vB) hw h dX0_faceOf_51
  replace h := h.2 c_6
  refine lv_bipush (v := 10) hx hb dX0_faceOf_26 (by decide) ?_
  refine lv_iload hx hb dX0_faceOf_28 (lv_at hl 1 rfl) ?_
  refine lv_imul hx hb dX0_faceOf_30 ?_
  refine lv_iload_n hx hb dX0_faceOf_31 rfl (lv_at hl 0 rfl) ?_
  refine lv_iload hx hb dX0_faceOf_32 (lv_at hl 2 rfl) ?_
  refine r_ci X hw pm_n (wn := fun (u : Unit) => (bW t aB vB)) (fun u => (pm_n).symm) (r_runSN X hw (c_X6_colorsAt l D t x3 x5 _ h) pm_n (va_cnB 2 X.1.2.2.2.2 gX0_faceOf_X6_colorsAt_n91 rfl rfl rfl (X.2.2.2.1.2.1 (RX0, 91, yX6_colorsAt, RX6) (by decide +kernel)) (X.1.2.2.2.2 _ (ii_X0_faceOf_X6)) (by decide +kernel) ⟨Nat.le_of_ble_eq_true rfl, Nat.le_of_ble_eq_true rfl⟩) (X.1.2.2.2.2 _ (is_X0_faceOf_X6_colorsAt)) rfl hl rfl (Nat.le_of_ble_eq_true rfl) dX0_faceOf_34 ⟨Nat.le_of_ble_eq_true rfl, Nat.le_of_ble_eq_true rfl⟩) (fun r_3 u H locs h hw => ?_)
  refine lv_bipush (v := 15) hx hb dX0_faceOf_37 (by decide) ?_
  refine lv_iand hx hb dX0_faceOf_39 ?_
  refine lv_iadd hx hb dX0_faceOf_40 ?_
  refine lv_topi (fun x4_4 ex4_4 => ?_)
  replace h := h x4_4 ex4_4
  refine lv_istore (lv' := [(4, .int x4_4), (3, .int x3), (5, .int x5)]) hx hb dX0_faceOf_41 hl (by decide) rfl (fun ls hl => ?_)
  obtain ⟨x5_5, ex5_5⟩ : ∃ z : Int32, z = x5 + 1 := ⟨_, rfl⟩
  replace h := h x5_5 ex5_5
  refine lv_iinc (v := x5_5) (lv' := [(5, .int x5_5), (4, .int x4_4), (3, .int x3)]) hx hb dX0_faceOf_43 hl (k := 2) rfl (by rw [ex5_5]; rfl) (by decide) rfl (fun ls hl => ?_)
  refine lv_goto (tgt := 20) hx hb dX0_faceOf_46 (by decide) ?_
  exact hP _ _ _ _ _ _ _ h hw (lv_sub hl [2, 1, 0] rfl)
set_option maxHeartbeats 4000000 in
set_option maxRecDepth 100000 in
theorem k_X0_faceOf_20 {p : Program} {l : Launch} {e : Env} {s : State} {m : MethodId} {below : List Frame} {meth : Method} {c : Code} {args : Array Value} {D : va_G} {t : T3} {A : Nat → Prop} (X : Cx p s m meth c args cX0_faceOf 6 (some .int) RX0 wsX0_faceOf D t A) (aB : BA) {Q : Int32 → BV → Prop}   : ∀ (vB : BV) (x3 : Int32) (x4 : Int32) (x5 : Int32) (H : Heap) (locs : List Loc) (ls : Array Slot), wp_X0_faceOf_20 Q  vB x3 x4 x5 → Wd D A s.heap (bW t aB vB) H locs → lv_has ls 6 [(3, .int x3), (4, .int x4), (5, .int x5)] → W p l e ({ frames := 1, cells := 0, slots := 0, locals := 21 } : Room) s m args below meth c H locs 0 0 (Ei below args s A D (fun (u : BV) => (bW t aB u)) (fun (r : Int32) (u : BV) => Q r u) 0 0) (F0 m 20 ls []) := by
  intro vB x3 x4 x5 H locs ls h hw hl
  have hx := X.1.1
  have hb := X.1.2.1
  refine h (fun (vB : BV) (x3 : Int32) (x4 : Int32) (x5 : Int32) => ∀ (H : Heap) (locs : List Loc) (ls : Array Slot), Wd D A s.heap (bW t aB vB) H locs → lv_has ls 6 [(3, .int x3), (4, .int x4), (5, .int x5)] → W p l e ({ frames := 1, cells := 0, slots := 0, locals := 21 } : Room) s m args below meth c H locs 0 0 (Ei below args s A D (fun (u : BV) => (bW t aB u)) (fun (r : Int32) (u : BV) => Q r u) 0 0) (F0 m 20 ls [])) (fun vB x3 x4 x5 h H locs ls hw hl => ?_) H locs ls hw hl
  exact kb_X0_faceOf_20 X aB (fun vB x3 x4 x5 H locs ls q hw hl => q H locs ls hw hl)  vB x3 x4 x5 _ _ _ h hw hl
def wp_X0_faceOf (vB : BV) (p1 : Int32) (p2 : Int32) (Q : Int32 → BV → Prop) : Prop := vp_in ((8 * p1) + (4 * p2)) 96 ∧ ∀ x3_2 : Int32, x3_2 = ((BV.looks vB) (Int32.toNatClampNeg ((8 * p1) + (4 * p2)))) → wp_X0_faceOf_20 Q  vB x3_2 0 0
set_option maxHeartbeats 4000000 in
set_option maxRecDepth 100000 in
theorem c_X0_faceOf (l : Launch) (D : va_G) (t : T3) (aB : BA) (vB : BV) (p1 : Int32) (p2 : Int32) (Q : Int32 → BV → Prop) (h : wp_X0_faceOf vB p1 p2 Q) : Ct l yX0_faceOf wsX0_faceOf 1 21 0 0 [.ref (BA.o aB), .int p1, .int p2] D t (bW t aB vB) (fun sz => Qi D (bW t aB vB) (fun (u : BV) => (bW t aB u)) (fun (r : Int32) (u : BV) => Q r u) sz) := by
  refine Ct.of (Qf := fun _ A => va_Qi (fun (r : Int32) (u : BV) => Q r u) (B1 D (fun (u : BV) => (bW t aB u)) A) A) cX0_faceOf 6 (some .int) (by decide) rfl (Nat.le_of_ble_eq_true rfl) ?_
  intro p e s m below meth c A ls hAe hin X hw hl
  generalize ([.ref (BA.o aB), .int p1, .int p2] : List Value).toArray = args at X ⊢
  have hl : lv_has ls 6 [(0, .ref (BA.o aB)), (1, .int p1), (2, .int p2)] := hl
  have hx := X.1.1
  have hb := X.1.2.1
  refine lv_aload_n hx hb dX0_faceOf_0 rfl (lv_at hl 0 rfl) ?_
  refine r_get (ci := 0) (C := RX0) (T := TX0) (N := 8) X hw 0 rfl rfl 7 (by decide) in_X0_faceOf_X0 fl_X0_faceOf_34 (v := .ref (BA.looks aB)) rfl dX0_faceOf_1 ?_
  refine lv_bipush (v := 8) hx hb dX0_faceOf_4 (by decide) ?_
  refine lv_iload_n hx hb dX0_faceOf_6 rfl (lv_at hl 1 rfl) ?_
  refine lv_imul hx hb dX0_faceOf_7 ?_
  refine lv_iconst (v := 4) hx hb dX0_faceOf_8 (by decide) ?_
  refine lv_iload_n hx hb dX0_faceOf_9 rfl (lv_at hl 2 rfl) ?_
  refine lv_imul hx hb dX0_faceOf_10 ?_
  refine lv_iadd hx hb dX0_faceOf_11 ?_
  obtain ⟨hi_1, h⟩ := h
  refine r_iald (v := ((BV.looks vB) (Int32.toNatClampNeg ((8 * p1) + (4 * p2))))) X hw 3 rfl hi_1 rfl dX0_faceOf_12 ?_
  refine lv_topi (fun x3_2 ex3_2 => ?_)
  replace h := h x3_2 ex3_2
  refine lv_istore_n (lv' := [(3, .int x3_2), (0, .ref (BA.o aB)), (1, .int p1), (2, .int p2)]) hx hb dX0_faceOf_13 rfl hl (by decide) rfl (fun ls hl => ?_)
  refine lv_iconst (v := 0) hx hb dX0_faceOf_14 (by decide) ?_
  refine lv_istore (lv' := [(4, .int 0), (3, .int x3_2), (0, .ref (BA.o aB)), (1, .int p1), (2, .int p2)]) hx hb dX0_faceOf_15 hl (by decide) rfl (fun ls hl => ?_)
  refine lv_iconst (v := 0) hx hb dX0_faceOf_17 (by decide) ?_
  refine lv_istore (lv' := [(5, .int 0), (4, .int 0), (3, .int x3_2), (0, .ref (BA.o aB)), (1, .int p1), (2, .int p2)]) hx hb dX0_faceOf_18 hl (by decide) rfl (fun ls hl => ?_)
  refine k_X0_faceOf_20 X aB  _ _ _ _ _ _ _ h hw (lv_sub hl [2, 1, 0] rfl)
/-! X0_lowestLike -/
theorem in_X0_lowestLike_X0 : ∀ w ∈ u_ws RX0 TX0 8, w ∈ wsX0_lowestLike := fun w h => (List.mem_cons_of_mem _ (List.mem_append_right _ h))
theorem fl_X0_lowestLike_34 : Cond.fieldLink RX0 34 "TwoFacedTiles$Board" "looks" "[I" ∈ wsX0_lowestLike := List.mem_of_getElem? (i := 1) rfl
def bd_X0_lowestLike_12 (Q : Int32 → BV → Prop) (P : BV → Int32 → Int32 → Int32 → Prop) (vB : BV) (x1 : Int32) (x2 : Int32) (x3 : Int32) : Prop := ((8 * x1) ≤ x3 → Q x1 vB) ∧ (¬ (8 * x1) ≤ x3 → vp_in x3 96 ∧ (¬ ((BV.looks vB) (Int32.toNatClampNeg x3)) = x2 → ∀ x3_4 : Int32, x3_4 = x3 + 1 → P vB x1 x2 x3_4) ∧ (((BV.looks vB) (Int32.toNatClampNeg x3)) = x2 → Q (x3 / 8) vB))
def wp_X0_lowestLike_12 (Q : Int32 → BV → Prop)  (vB : BV) (x1 : Int32) (x2 : Int32) (x3 : Int32) : Prop := ∀ P : BV → Int32 → Int32 → Int32 → Prop, (∀ (vB : BV) (x1 : Int32) (x2 : Int32) (x3 : Int32), bd_X0_lowestLike_12 Q P  vB x1 x2 x3 → P vB x1 x2 x3) → P vB x1 x2 x3
set_option maxHeartbeats 4000000 in
set_option maxRecDepth 100000 in
theorem kb_X0_lowestLike_12 {p : Program} {l : Launch} {e : Env} {s : State} {m : MethodId} {below : List Frame} {meth : Method} {c : Code} {args : Array Value} {D : va_G} {t : T3} {A : Nat → Prop} (X : Cx p s m meth c args cX0_lowestLike 4 (some .int) RX0 wsX0_lowestLike D t A) (aB : BA) {Q : Int32 → BV → Prop} {P : BV → Int32 → Int32 → Int32 → Prop} (hP : ∀ (vB : BV) (x1 : Int32) (x2 : Int32) (x3 : Int32) (H : Heap) (locs : List Loc) (ls : Array Slot), P vB x1 x2 x3 → Wd D A s.heap (bW t aB vB) H locs → lv_has ls 4 [(0, .ref (BA.o aB)), (1, .int x1), (2, .int x2), (3, .int x3)] → W p l e ({ frames := 0, cells := 0, slots := 0, locals := 0 } : Room) s m args below meth c H locs 0 0 (Ei below args s A D (fun (u : BV) => (bW t aB u)) (fun (r : Int32) (u : BV) => Q r u) 0 0) (F0 m 12 ls [])) : ∀ (vB : BV) (x1 : Int32) (x2 : Int32) (x3 : Int32) (H : Heap) (locs : List Loc) (ls : Array Slot), bd_X0_lowestLike_12 Q P  vB x1 x2 x3 → Wd D A s.heap (bW t aB vB) H locs → lv_has ls 4 [(0, .ref (BA.o aB)), (1, .int x1), (2, .int x2), (3, .int x3)] → W p l e ({ frames := 0, cells := 0, slots := 0, locals := 0 } : Room) s m args below meth c H locs 0 0 (Ei below args s A D (fun (u : BV) => (bW t aB u)) (fun (r : Int32) (u : BV) => Q r u) 0 0) (F0 m 12 ls []) := by
  intro vB x1 x2 x3 H locs ls h hw hl
  have hx := X.1.1
  have hb := X.1.2.1
  refine lv_iload_n hx hb dX0_lowestLike_12 rfl (lv_at hl 3 rfl) ?_
  refine lv_bipush (v := 8) hx hb dX0_lowestLike_13 (by decide) ?_
  refine lv_iload_n hx hb dX0_lowestLike_15 rfl (lv_at hl 1 rfl) ?_
  refine lv_imul hx hb dX0_lowestLike_16 ?_
  refine lv_icmp_ge (tgt := 41) hx hb dX0_lowestLike_17 (by decide) (fun c_6 => ?_) (fun c_6 => ?_)
  · replace h := h.1 c_6
    refine lv_iload_n hx hb dX0_lowestLike_41 rfl (lv_at hl 1 rfl) ?_
    exact e_i (w1 := (fun (u : BV) => (bW t aB u))) X (vB) hw h dX0_lowestLike_42
  replace h := h.2 c_6
  refine lv_aload_n hx hb dX0_lowestLike_20 rfl (lv_at hl 0 rfl) ?_
  refine r_get (ci := 0) (C := RX0) (T := TX0) (N := 8) X hw 0 rfl rfl 7 (by decide) in_X0_lowestLike_X0 fl_X0_lowestLike_34 (v := .ref (BA.looks aB)) rfl dX0_lowestLike_21 ?_
  refine lv_iload_n hx hb dX0_lowestLike_24 rfl (lv_at hl 3 rfl) ?_
  obtain ⟨hi_3, h⟩ := h
  refine r_iald (v := ((BV.looks vB) (Int32.toNatClampNeg x3))) X hw 3 rfl hi_3 rfl dX0_lowestLike_25 ?_
  refine lv_iload_n hx hb dX0_lowestLike_26 rfl (lv_at hl 2 rfl) ?_
  refine lv_icmp_ne (tgt := 35) hx hb dX0_lowestLike_27 (by decide) (fun c_5 => ?_) (fun c_5 => ?_)
  · replace h := h.1 c_5
    obtain ⟨x3_4, ex3_4⟩ : ∃ z : Int32, z = x3 + 1 := ⟨_, rfl⟩
    replace h := h x3_4 ex3_4
    refine lv_iinc (v := x3_4) (lv' := [(3, .int x3_4), (0, .ref (BA.o aB)), (1, .int x1), (2, .int x2)]) hx hb dX0_lowestLike_35 hl (k := 3) rfl (by rw [ex3_4]; rfl) (by decide) rfl (fun ls hl => ?_)
    refine lv_goto (tgt := 12) hx hb dX0_lowestLike_38 (by decide) ?_
    exact hP _ _ _ _ _ _ _ h hw (lv_sub hl [1, 2, 3, 0] rfl)
  replace h := h.2 c_5
  refine lv_iload_n hx hb dX0_lowestLike_30 rfl (lv_at hl 3 rfl) ?_
  refine lv_bipush (v := 8) hx hb dX0_lowestLike_31 (by decide) ?_
  refine lv_idiv hx hb dX0_lowestLike_33 (by decide) ?_
  exact e_i (w1 := (fun (u : BV) => (bW t aB u))) X (vB) hw h dX0_lowestLike_34
set_option maxHeartbeats 4000000 in
set_option maxRecDepth 100000 in
theorem k_X0_lowestLike_12 {p : Program} {l : Launch} {e : Env} {s : State} {m : MethodId} {below : List Frame} {meth : Method} {c : Code} {args : Array Value} {D : va_G} {t : T3} {A : Nat → Prop} (X : Cx p s m meth c args cX0_lowestLike 4 (some .int) RX0 wsX0_lowestLike D t A) (aB : BA) {Q : Int32 → BV → Prop}   : ∀ (vB : BV) (x1 : Int32) (x2 : Int32) (x3 : Int32) (H : Heap) (locs : List Loc) (ls : Array Slot), wp_X0_lowestLike_12 Q  vB x1 x2 x3 → Wd D A s.heap (bW t aB vB) H locs → lv_has ls 4 [(0, .ref (BA.o aB)), (1, .int x1), (2, .int x2), (3, .int x3)] → W p l e ({ frames := 0, cells := 0, slots := 0, locals := 0 } : Room) s m args below meth c H locs 0 0 (Ei below args s A D (fun (u : BV) => (bW t aB u)) (fun (r : Int32) (u : BV) => Q r u) 0 0) (F0 m 12 ls []) := by
  intro vB x1 x2 x3 H locs ls h hw hl
  have hx := X.1.1
  have hb := X.1.2.1
  refine h (fun (vB : BV) (x1 : Int32) (x2 : Int32) (x3 : Int32) => ∀ (H : Heap) (locs : List Loc) (ls : Array Slot), Wd D A s.heap (bW t aB vB) H locs → lv_has ls 4 [(0, .ref (BA.o aB)), (1, .int x1), (2, .int x2), (3, .int x3)] → W p l e ({ frames := 0, cells := 0, slots := 0, locals := 0 } : Room) s m args below meth c H locs 0 0 (Ei below args s A D (fun (u : BV) => (bW t aB u)) (fun (r : Int32) (u : BV) => Q r u) 0 0) (F0 m 12 ls [])) (fun vB x1 x2 x3 h H locs ls hw hl => ?_) H locs ls hw hl
  exact kb_X0_lowestLike_12 X aB (fun vB x1 x2 x3 H locs ls q hw hl => q H locs ls hw hl)  vB x1 x2 x3 _ _ _ h hw hl
def wp_X0_lowestLike (vB : BV) (p1 : Int32) (Q : Int32 → BV → Prop) : Prop := vp_in (8 * p1) 96 ∧ ∀ x2_2 : Int32, x2_2 = ((BV.looks vB) (Int32.toNatClampNeg (8 * p1))) → wp_X0_lowestLike_12 Q  vB p1 x2_2 0
set_option maxHeartbeats 4000000 in
set_option maxRecDepth 100000 in
theorem c_X0_lowestLike (l : Launch) (D : va_G) (t : T3) (aB : BA) (vB : BV) (p1 : Int32) (Q : Int32 → BV → Prop) (h : wp_X0_lowestLike vB p1 Q) : Ct l yX0_lowestLike wsX0_lowestLike 0 0 0 0 [.ref (BA.o aB), .int p1] D t (bW t aB vB) (fun sz => Qi D (bW t aB vB) (fun (u : BV) => (bW t aB u)) (fun (r : Int32) (u : BV) => Q r u) sz) := by
  refine Ct.of (Qf := fun _ A => va_Qi (fun (r : Int32) (u : BV) => Q r u) (B1 D (fun (u : BV) => (bW t aB u)) A) A) cX0_lowestLike 4 (some .int) (by decide) rfl (Nat.le_of_ble_eq_true rfl) ?_
  intro p e s m below meth c A ls hAe hin X hw hl
  generalize ([.ref (BA.o aB), .int p1] : List Value).toArray = args at X ⊢
  have hl : lv_has ls 4 [(0, .ref (BA.o aB)), (1, .int p1)] := hl
  have hx := X.1.1
  have hb := X.1.2.1
  refine lv_aload_n hx hb dX0_lowestLike_0 rfl (lv_at hl 0 rfl) ?_
  refine r_get (ci := 0) (C := RX0) (T := TX0) (N := 8) X hw 0 rfl rfl 7 (by decide) in_X0_lowestLike_X0 fl_X0_lowestLike_34 (v := .ref (BA.looks aB)) rfl dX0_lowestLike_1 ?_
  refine lv_bipush (v := 8) hx hb dX0_lowestLike_4 (by decide) ?_
  refine lv_iload_n hx hb dX0_lowestLike_6 rfl (lv_at hl 1 rfl) ?_
  refine lv_imul hx hb dX0_lowestLike_7 ?_
  obtain ⟨hi_1, h⟩ := h
  refine r_iald (v := ((BV.looks vB) (Int32.toNatClampNeg (8 * p1)))) X hw 3 rfl hi_1 rfl dX0_lowestLike_8 ?_
  refine lv_topi (fun x2_2 ex2_2 => ?_)
  replace h := h x2_2 ex2_2
  refine lv_istore_n (lv' := [(2, .int x2_2), (0, .ref (BA.o aB)), (1, .int p1)]) hx hb dX0_lowestLike_9 rfl hl (by decide) rfl (fun ls hl => ?_)
  refine lv_iconst (v := 0) hx hb dX0_lowestLike_10 (by decide) ?_
  refine lv_istore_n (lv' := [(3, .int 0), (2, .int x2_2), (0, .ref (BA.o aB)), (1, .int p1)]) hx hb dX0_lowestLike_11 rfl hl (by decide) rfl (fun ls hl => ?_)
  refine k_X0_lowestLike_12 X aB  _ _ _ _ _ _ _ h hw (lv_sub hl [2, 3, 1, 0] rfl)
/-! X0_isAlike -/
theorem ii_X0_isAlike_X6 : Cond.initialized RX6 ∈ wsX0_isAlike := List.mem_of_getElem? (i := 23) rfl
theorem is_X0_isAlike_X6_colorsAt : Cond.static yX6_colorsAt ∈ wsX0_isAlike := List.mem_of_getElem? (i := 22) rfl
theorem is_X0_isAlike_X6_opposite : Cond.static yX6_opposite ∈ wsX0_isAlike := List.mem_of_getElem? (i := 26) rfl
def wp_X0_isAlike (vB : BV) (p1 : Int32) (p2 : Int32) (p3 : Int32) (Q : Int32 → BV → Prop) : Prop := wp_X0_neighbor vB p1 p2 (fun (r_2 : Int32) (vB_1 : BV) => (r_2 = (-1) → Q 0 vB_1) ∧ (¬ r_2 = (-1) → wp_X0_isEmpty vB_1 p1 (fun (r_4 : Int32) (vB_3 : BV) => (¬ r_4 = 0 → Q 0 vB_3) ∧ (r_4 = 0 → wp_X0_isEmpty vB_3 r_2 (fun (r_6 : Int32) (vB_5 : BV) => (r_6 = 0 → wp_X0_lookIn vB_5 p1 (fun (r_8 : Int32) (vB_7 : BV) => wp_X6_colorsAt  r_8 p2 (fun (r_9 : Int32) => wp_X0_lookIn vB_7 r_2 (fun (r_11 : Int32) (vB_10 : BV) => wp_X6_opposite  p2 (fun (r_12 : Int32) => wp_X6_colorsAt  r_11 r_12 (fun (r_13 : Int32) => (¬ ((r_9 ^^^ r_13) &&& p3) = 0 → Q 0 vB_10) ∧ (((r_9 ^^^ r_13) &&& p3) = 0 → Q 1 vB_10))))))) ∧ (¬ r_6 = 0 → Q 0 vB_5))))))
set_option maxHeartbeats 4000000 in
set_option maxRecDepth 100000 in
theorem c_X0_isAlike (l : Launch) (D : va_G) (t : T3) (aB : BA) (vB : BV) (p1 : Int32) (p2 : Int32) (p3 : Int32) (Q : Int32 → BV → Prop) (h : wp_X0_isAlike vB p1 p2 p3 Q) : Ct l yX0_isAlike wsX0_isAlike 2 43 0 0 [.ref (BA.o aB), .int p1, .int p2, .int p3] D t (bW t aB vB) (fun sz => Qi D (bW t aB vB) (fun (u : BV) => (bW t aB u)) (fun (r : Int32) (u : BV) => Q r u) sz) := by
  refine Ct.of (Qf := fun _ A => va_Qi (fun (r : Int32) (u : BV) => Q r u) (B1 D (fun (u : BV) => (bW t aB u)) A) A) cX0_isAlike 7 (some .boolean) (by decide) rfl (Nat.le_of_ble_eq_true rfl) ?_
  intro p e s m below meth c A ls hAe hin X hw hl
  generalize ([.ref (BA.o aB), .int p1, .int p2, .int p3] : List Value).toArray = args at X ⊢
  have hl : lv_has ls 7 [(0, .ref (BA.o aB)), (1, .int p1), (2, .int p2), (3, .int p3)] := hl
  have hx := X.1.1
  have hb := X.1.2.1
  refine lv_aload_n hx hb dX0_isAlike_0 rfl (lv_at hl 0 rfl) ?_
  refine lv_iload_n hx hb dX0_isAlike_1 rfl (lv_at hl 1 rfl) ?_
  refine lv_iload_n hx hb dX0_isAlike_2 rfl (lv_at hl 2 rfl) ?_
  refine r_ci X hw pm_0 (wn := fun (u : BV) => (bW t aB u)) (fun u => pm_0.symm) (r_runV X hw (c_X0_neighbor l D t aB vB p1 p2 _ h) pm_0 (cwV 2 X.1.2.2.2.2 gX0_isAlike_X0_neighbor rfl rfl rfl (by decide +kernel) ⟨Nat.le_of_ble_eq_true rfl, Nat.le_of_ble_eq_true rfl⟩) (ci := 0) rfl rfl rfl rfl hl rfl (Nat.le_of_ble_eq_true rfl) dX0_isAlike_3 ⟨Nat.le_of_ble_eq_true rfl, Nat.le_of_ble_eq_true rfl⟩) (fun r_2 u H locs h hw => ?_)
  obtain ⟨vB_1, rfl⟩ : ∃ z, z = u := ⟨_, rfl⟩
  refine lv_istore (lv' := [(4, .int r_2), (0, .ref (BA.o aB)), (1, .int p1), (2, .int p2), (3, .int p3)]) hx hb dX0_isAlike_6 hl (by decide) rfl (fun ls hl => ?_)
  refine lv_iload hx hb dX0_isAlike_8 (lv_at hl 0 rfl) ?_
  refine lv_iconst (v := (-1)) hx hb dX0_isAlike_10 (by decide) ?_
  refine lv_icmp_eq (tgt := 31) hx hb dX0_isAlike_11 (by decide) (fun c_17 => ?_) (fun c_17 => ?_)
  · replace h := h.1 c_17
    refine lv_iconst (v := 0) hx hb dX0_isAlike_31 (by decide) ?_
    exact e_z (w1 := (fun (u : BV) => (bW t aB u))) X isB_0 (vB_1) hw h dX0_isAlike_32
  replace h := h.2 c_17
  refine lv_aload_n hx hb dX0_isAlike_14 rfl (lv_at hl 1 rfl) ?_
  refine lv_iload_n hx hb dX0_isAlike_15 rfl (lv_at hl 2 rfl) ?_
  refine r_ci X hw pm_0 (wn := fun (u : BV) => (bW t aB u)) (fun u => pm_0.symm) (r_runV X hw (c_X0_isEmpty l D t aB vB_1 p1 _ h) pm_0 (cwV 1 X.1.2.2.2.2 gX0_isAlike_X0_isEmpty rfl rfl rfl (by decide +kernel) ⟨Nat.le_of_ble_eq_true rfl, Nat.le_of_ble_eq_true rfl⟩) (ci := 0) rfl rfl rfl rfl hl rfl (Nat.le_of_ble_eq_true rfl) dX0_isAlike_16 ⟨Nat.le_of_ble_eq_true rfl, Nat.le_of_ble_eq_true rfl⟩) (fun r_4 u H locs h hw => ?_)
  obtain ⟨vB_3, rfl⟩ : ∃ z, z = u := ⟨_, rfl⟩
  refine lv_if_ne (tgt := 31) hx hb dX0_isAlike_19 (by decide) (fun c_16 => ?_) (fun c_16 => ?_)
  · replace h := h.1 c_16
    refine lv_iconst (v := 0) hx hb dX0_isAlike_31 (by decide) ?_
    exact e_z (w1 := (fun (u : BV) => (bW t aB u))) X isB_0 (vB_3) hw h dX0_isAlike_32
  replace h := h.2 c_16
  refine lv_aload_n hx hb dX0_isAlike_22 rfl (lv_at hl 1 rfl) ?_
  refine lv_iload hx hb dX0_isAlike_23 (lv_at hl 0 rfl) ?_
  refine r_ci X hw pm_0 (wn := fun (u : BV) => (bW t aB u)) (fun u => pm_0.symm) (r_runV X hw (c_X0_isEmpty l D t aB vB_3 r_2 _ h) pm_0 (cwV 1 X.1.2.2.2.2 gX0_isAlike_X0_isEmpty rfl rfl rfl (by decide +kernel) ⟨Nat.le_of_ble_eq_true rfl, Nat.le_of_ble_eq_true rfl⟩) (ci := 0) rfl rfl rfl rfl hl rfl (Nat.le_of_ble_eq_true rfl) dX0_isAlike_25 ⟨Nat.le_of_ble_eq_true rfl, Nat.le_of_ble_eq_true rfl⟩) (fun r_6 u H locs h hw => ?_)
  obtain ⟨vB_5, rfl⟩ : ∃ z, z = u := ⟨_, rfl⟩
  refine lv_if_eq (tgt := 33) hx hb dX0_isAlike_28 (by decide) (fun c_15 => ?_) (fun c_15 => ?_)
  · replace h := h.1 c_15
    refine lv_aload_n hx hb dX0_isAlike_33 rfl (lv_at hl 1 rfl) ?_
    refine lv_iload_n hx hb dX0_isAlike_34 rfl (lv_at hl 2 rfl) ?_
    refine r_ci X hw pm_0 (wn := fun (u : BV) => (bW t aB u)) (fun u => pm_0.symm) (r_runV X hw (c_X0_lookIn l D t aB vB_5 p1 _ h) pm_0 (cwV 1 X.1.2.2.2.2 gX0_isAlike_X0_lookIn rfl rfl rfl (by decide +kernel) ⟨Nat.le_of_ble_eq_true rfl, Nat.le_of_ble_eq_true rfl⟩) (ci := 0) rfl rfl rfl rfl hl rfl (Nat.le_of_ble_eq_true rfl) dX0_isAlike_35 ⟨Nat.le_of_ble_eq_true rfl, Nat.le_of_ble_eq_true rfl⟩) (fun r_8 u H locs h hw => ?_)
    obtain ⟨vB_7, rfl⟩ : ∃ z, z = u := ⟨_, rfl⟩
    refine lv_iload_n hx hb dX0_isAlike_38 rfl (lv_at hl 3 rfl) ?_
    refine r_ci X hw pm_n (wn := fun (u : Unit) => (bW t aB vB_7)) (fun u => (pm_n).symm) (r_runSN X hw (c_X6_colorsAt l D t r_8 p2 _ h) pm_n (va_cnB 2 X.1.2.2.2.2 gX0_isAlike_X6_colorsAt_n91 rfl rfl rfl (X.2.2.2.1.2.1 (RX0, 91, yX6_colorsAt, RX6) (by decide +kernel)) (X.1.2.2.2.2 _ (ii_X0_isAlike_X6)) (by decide +kernel) ⟨Nat.le_of_ble_eq_true rfl, Nat.le_of_ble_eq_true rfl⟩) (X.1.2.2.2.2 _ (is_X0_isAlike_X6_colorsAt)) rfl hl rfl (Nat.le_of_ble_eq_true rfl) dX0_isAlike_39 ⟨Nat.le_of_ble_eq_true rfl, Nat.le_of_ble_eq_true rfl⟩) (fun r_9 u H locs h hw => ?_)
    refine lv_istore (lv' := [(5, .int r_9), (4, .int r_2), (0, .ref (BA.o aB)), (1, .int p1), (2, .int p2), (3, .int p3)]) hx hb dX0_isAlike_42 hl (by decide) rfl (fun ls hl => ?_)
    refine lv_aload_n hx hb dX0_isAlike_44 rfl (lv_at hl 2 rfl) ?_
    refine lv_iload hx hb dX0_isAlike_45 (lv_at hl 1 rfl) ?_
    refine r_ci X hw pm_0 (wn := fun (u : BV) => (bW t aB u)) (fun u => pm_0.symm) (r_runV X hw (c_X0_lookIn l D t aB vB_7 r_2 _ h) pm_0 (cwV 1 X.1.2.2.2.2 gX0_isAlike_X0_lookIn rfl rfl rfl (by decide +kernel) ⟨Nat.le_of_ble_eq_true rfl, Nat.le_of_ble_eq_true rfl⟩) (ci := 0) rfl rfl rfl rfl hl rfl (Nat.le_of_ble_eq_true rfl) dX0_isAlike_47 ⟨Nat.le_of_ble_eq_true rfl, Nat.le_of_ble_eq_true rfl⟩) (fun r_11 u H locs h hw => ?_)
    obtain ⟨vB_10, rfl⟩ : ∃ z, z = u := ⟨_, rfl⟩
    refine lv_iload_n hx hb dX0_isAlike_50 rfl (lv_at hl 4 rfl) ?_
    refine r_ci X hw pm_n (wn := fun (u : Unit) => (bW t aB vB_10)) (fun u => (pm_n).symm) (r_runSN X hw (c_X6_opposite l D t p2 _ h) pm_n (va_cnB 1 X.1.2.2.2.2 gX0_isAlike_X6_opposite_n88 rfl rfl rfl (X.2.2.2.1.2.1 (RX0, 88, yX6_opposite, RX6) (by decide +kernel)) (X.1.2.2.2.2 _ (ii_X0_isAlike_X6)) (by decide +kernel) ⟨Nat.le_of_ble_eq_true rfl, Nat.le_of_ble_eq_true rfl⟩) (X.1.2.2.2.2 _ (is_X0_isAlike_X6_opposite)) rfl hl rfl (Nat.le_of_ble_eq_true rfl) dX0_isAlike_51 ⟨Nat.le_of_ble_eq_true rfl, Nat.le_of_ble_eq_true rfl⟩) (fun r_12 u H locs h hw => ?_)
    refine r_ci X hw pm_n (wn := fun (u : Unit) => (bW t aB vB_10)) (fun u => (pm_n).symm) (r_runSN X hw (c_X6_colorsAt l D t r_11 r_12 _ h) pm_n (va_cnB 2 X.1.2.2.2.2 gX0_isAlike_X6_colorsAt_n91 rfl rfl rfl (X.2.2.2.1.2.1 (RX0, 91, yX6_colorsAt, RX6) (by decide +kernel)) (X.1.2.2.2.2 _ (ii_X0_isAlike_X6)) (by decide +kernel) ⟨Nat.le_of_ble_eq_true rfl, Nat.le_of_ble_eq_true rfl⟩) (X.1.2.2.2.2 _ (is_X0_isAlike_X6_colorsAt)) rfl hl rfl (Nat.le_of_ble_eq_true rfl) dX0_isAlike_54 ⟨Nat.le_of_ble_eq_true rfl, Nat.le_of_ble_eq_true rfl⟩) (fun r_13 u H locs h hw => ?_)
    refine lv_istore (lv' := [(6, .int r_13), (5, .int r_9), (4, .int r_2), (0, .ref (BA.o aB)), (1, .int p1), (2, .int p2), (3, .int p3)]) hx hb dX0_isAlike_57 hl (by decide) rfl (fun ls hl => ?_)
    refine lv_iload hx hb dX0_isAlike_59 (lv_at hl 1 rfl) ?_
    refine lv_iload hx hb dX0_isAlike_61 (lv_at hl 0 rfl) ?_
    refine lv_ixor hx hb dX0_isAlike_63 ?_
    refine lv_iload_n hx hb dX0_isAlike_64 rfl (lv_at hl 6 rfl) ?_
    refine lv_iand hx hb dX0_isAlike_65 ?_
    refine lv_if_ne (tgt := 73) hx hb dX0_isAlike_66 (by decide) (fun c_14 => ?_) (fun c_14 => ?_)
    · replace h := h.1 c_14
      refine lv_iconst (v := 0) hx hb dX0_isAlike_73 (by decide) ?_
      exact e_z (w1 := (fun (u : BV) => (bW t aB u))) X isB_0 (vB_10) hw h dX0_isAlike_74
    replace h := h.2 c_14
    refine lv_iconst (v := 1) hx hb dX0_isAlike_69 (by decide) ?_
    refine lv_goto (tgt := 74) hx hb dX0_isAlike_70 (by decide) ?_
    exact e_z (w1 := (fun (u : BV) => (bW t aB u))) X isB_1 (vB_10) hw h dX0_isAlike_74
  replace h := h.2 c_15
  refine lv_iconst (v := 0) hx hb dX0_isAlike_31 (by decide) ?_
  exact e_z (w1 := (fun (u : BV) => (bW t aB u))) X isB_0 (vB_5) hw h dX0_isAlike_32
/-! X0_pairsAlike -/
def wp_X0_pairsAlike_38 (P : BV → Int32 → Int32 → Int32 → Prop) (Q : Int32 → BV → Prop) (vB : BV) (x1 : Int32) (x2 : Int32) (x3 : Int32) : Prop := ∀ x3_7 : Int32, x3_7 = x3 + 1 → P vB x1 x2 x3_7
set_option maxHeartbeats 4000000 in
set_option maxRecDepth 100000 in
theorem k_X0_pairsAlike_38 {p : Program} {l : Launch} {e : Env} {s : State} {m : MethodId} {below : List Frame} {meth : Method} {c : Code} {args : Array Value} {D : va_G} {t : T3} {A : Nat → Prop} (X : Cx p s m meth c args cX0_pairsAlike 4 (some .int) RX0 wsX0_pairsAlike D t A) (aB : BA) {P : BV → Int32 → Int32 → Int32 → Prop} {Q : Int32 → BV → Prop} (hP : ∀ (vB : BV) (x1 : Int32) (x2 : Int32) (x3 : Int32) (H : Heap) (locs : List Loc) (ls : Array Slot), P vB x1 x2 x3 → Wd D A s.heap (bW t aB vB) H locs → lv_has ls 4 [(0, .ref (BA.o aB)), (1, .int x1), (2, .int x2), (3, .int x3)] → W p l e ({ frames := 3, cells := 0, slots := 0, locals := 69 } : Room) s m args below meth c H locs 0 0 (Ei below args s A D (fun (u : BV) => (bW t aB u)) (fun (r : Int32) (u : BV) => Q r u) 0 0) (F0 m 4 ls [])) : ∀ (vB : BV) (x1 : Int32) (x2 : Int32) (x3 : Int32) (H : Heap) (locs : List Loc) (ls : Array Slot), wp_X0_pairsAlike_38 P Q vB x1 x2 x3 → Wd D A s.heap (bW t aB vB) H locs → lv_has ls 4 [(0, .ref (BA.o aB)), (1, .int x1), (2, .int x2), (3, .int x3)] → W p l e ({ frames := 3, cells := 0, slots := 0, locals := 69 } : Room) s m args below meth c H locs 0 0 (Ei below args s A D (fun (u : BV) => (bW t aB u)) (fun (r : Int32) (u : BV) => Q r u) 0 0) (F0 m 38 ls []) := by
  intro vB x1 x2 x3 H locs ls h hw hl
  have hx := X.1.1
  have hb := X.1.2.1
  obtain ⟨x3_7, ex3_7⟩ : ∃ z : Int32, z = x3 + 1 := ⟨_, rfl⟩
  replace h := h x3_7 ex3_7
  refine lv_iinc (v := x3_7) (lv' := [(3, .int x3_7), (0, .ref (BA.o aB)), (1, .int x1), (2, .int x2)]) hx hb dX0_pairsAlike_38 hl (k := 3) rfl (by rw [ex3_7]; rfl) (by decide) rfl (fun ls hl => ?_)
  refine lv_goto (tgt := 4) hx hb dX0_pairsAlike_41 (by decide) ?_
  exact hP _ _ _ _ _ _ _ h hw (lv_sub hl [1, 2, 3, 0] rfl)
def wp_X0_pairsAlike_25 (P : BV → Int32 → Int32 → Int32 → Prop) (Q : Int32 → BV → Prop) (vB : BV) (x1 : Int32) (x2 : Int32) (x3 : Int32) : Prop := wp_X0_isAlike vB x3 2 x1 (fun (r_6 : Int32) (vB_5 : BV) => (r_6 = 0 → wp_X0_pairsAlike_38  P Q vB_5 x1 x2 x3) ∧ (¬ r_6 = 0 → ∀ x2_8 : Int32, x2_8 = x2 + 1 → wp_X0_pairsAlike_38  P Q vB_5 x1 x2_8 x3))
set_option maxHeartbeats 4000000 in
set_option maxRecDepth 100000 in
theorem k_X0_pairsAlike_25 {p : Program} {l : Launch} {e : Env} {s : State} {m : MethodId} {below : List Frame} {meth : Method} {c : Code} {args : Array Value} {D : va_G} {t : T3} {A : Nat → Prop} (X : Cx p s m meth c args cX0_pairsAlike 4 (some .int) RX0 wsX0_pairsAlike D t A) (aB : BA) {P : BV → Int32 → Int32 → Int32 → Prop} {Q : Int32 → BV → Prop} (hP : ∀ (vB : BV) (x1 : Int32) (x2 : Int32) (x3 : Int32) (H : Heap) (locs : List Loc) (ls : Array Slot), P vB x1 x2 x3 → Wd D A s.heap (bW t aB vB) H locs → lv_has ls 4 [(0, .ref (BA.o aB)), (1, .int x1), (2, .int x2), (3, .int x3)] → W p l e ({ frames := 3, cells := 0, slots := 0, locals := 69 } : Room) s m args below meth c H locs 0 0 (Ei below args s A D (fun (u : BV) => (bW t aB u)) (fun (r : Int32) (u : BV) => Q r u) 0 0) (F0 m 4 ls [])) : ∀ (vB : BV) (x1 : Int32) (x2 : Int32) (x3 : Int32) (H : Heap) (locs : List Loc) (ls : Array Slot), wp_X0_pairsAlike_25 P Q vB x1 x2 x3 → Wd D A s.heap (bW t aB vB) H locs → lv_has ls 4 [(0, .ref (BA.o aB)), (1, .int x1), (2, .int x2), (3, .int x3)] → W p l e ({ frames := 3, cells := 0, slots := 0, locals := 69 } : Room) s m args below meth c H locs 0 0 (Ei below args s A D (fun (u : BV) => (bW t aB u)) (fun (r : Int32) (u : BV) => Q r u) 0 0) (F0 m 25 ls []) := by
  intro vB x1 x2 x3 H locs ls h hw hl
  have hx := X.1.1
  have hb := X.1.2.1
  refine lv_aload_n hx hb dX0_pairsAlike_25 rfl (lv_at hl 0 rfl) ?_
  refine lv_iload_n hx hb dX0_pairsAlike_26 rfl (lv_at hl 3 rfl) ?_
  refine lv_iconst (v := 2) hx hb dX0_pairsAlike_27 (by decide) ?_
  refine lv_iload_n hx hb dX0_pairsAlike_28 rfl (lv_at hl 1 rfl) ?_
  refine r_ci X hw pm_0 (wn := fun (u : BV) => (bW t aB u)) (fun u => pm_0.symm) (r_runV X hw (c_X0_isAlike l D t aB vB x3 2 x1 _ h) pm_0 (cwV 3 X.1.2.2.2.2 gX0_pairsAlike_X0_isAlike rfl rfl rfl (by decide +kernel) ⟨Nat.le_of_ble_eq_true rfl, Nat.le_of_ble_eq_true rfl⟩) (ci := 0) rfl rfl rfl rfl hl rfl (Nat.le_of_ble_eq_true rfl) dX0_pairsAlike_29 ⟨Nat.le_of_ble_eq_true rfl, Nat.le_of_ble_eq_true rfl⟩) (fun r_6 u H locs h hw => ?_)
  obtain ⟨vB_5, rfl⟩ : ∃ z, z = u := ⟨_, rfl⟩
  refine lv_if_eq (tgt := 38) hx hb dX0_pairsAlike_32 (by decide) (fun c_9 => ?_) (fun c_9 => ?_)
  · replace h := h.1 c_9
    exact k_X0_pairsAlike_38 X aB hP _ _ _ _ _ _ _ h hw hl
  replace h := h.2 c_9
  obtain ⟨x2_8, ex2_8⟩ : ∃ z : Int32, z = x2 + 1 := ⟨_, rfl⟩
  replace h := h x2_8 ex2_8
  refine lv_iinc (v := x2_8) (lv' := [(2, .int x2_8), (0, .ref (BA.o aB)), (1, .int x1), (3, .int x3)]) hx hb dX0_pairsAlike_35 hl (k := 2) rfl (by rw [ex2_8]; rfl) (by decide) rfl (fun ls hl => ?_)
  exact k_X0_pairsAlike_38 X aB hP _ _ _ _ _ _ _ h hw (lv_sub hl [1, 2, 0, 3] rfl)
def bd_X0_pairsAlike_4 (Q : Int32 → BV → Prop) (P : BV → Int32 → Int32 → Int32 → Prop) (vB : BV) (x1 : Int32) (x2 : Int32) (x3 : Int32) : Prop := wp_X0_cells vB  (fun (r_2 : Int32) (vB_1 : BV) => (r_2 ≤ x3 → Q x2 vB_1) ∧ (¬ r_2 ≤ x3 → wp_X0_isAlike vB_1 x3 1 x1 (fun (r_4 : Int32) (vB_3 : BV) => (r_4 = 0 → wp_X0_pairsAlike_25  P Q vB_3 x1 x2 x3) ∧ (¬ r_4 = 0 → ∀ x2_10 : Int32, x2_10 = x2 + 1 → wp_X0_pairsAlike_25  P Q vB_3 x1 x2_10 x3))))
def wp_X0_pairsAlike_4 (Q : Int32 → BV → Prop)  (vB : BV) (x1 : Int32) (x2 : Int32) (x3 : Int32) : Prop := ∀ P : BV → Int32 → Int32 → Int32 → Prop, (∀ (vB : BV) (x1 : Int32) (x2 : Int32) (x3 : Int32), bd_X0_pairsAlike_4 Q P  vB x1 x2 x3 → P vB x1 x2 x3) → P vB x1 x2 x3
set_option maxHeartbeats 4000000 in
set_option maxRecDepth 100000 in
theorem kb_X0_pairsAlike_4 {p : Program} {l : Launch} {e : Env} {s : State} {m : MethodId} {below : List Frame} {meth : Method} {c : Code} {args : Array Value} {D : va_G} {t : T3} {A : Nat → Prop} (X : Cx p s m meth c args cX0_pairsAlike 4 (some .int) RX0 wsX0_pairsAlike D t A) (aB : BA) {Q : Int32 → BV → Prop} {P : BV → Int32 → Int32 → Int32 → Prop} (hP : ∀ (vB : BV) (x1 : Int32) (x2 : Int32) (x3 : Int32) (H : Heap) (locs : List Loc) (ls : Array Slot), P vB x1 x2 x3 → Wd D A s.heap (bW t aB vB) H locs → lv_has ls 4 [(0, .ref (BA.o aB)), (1, .int x1), (2, .int x2), (3, .int x3)] → W p l e ({ frames := 3, cells := 0, slots := 0, locals := 69 } : Room) s m args below meth c H locs 0 0 (Ei below args s A D (fun (u : BV) => (bW t aB u)) (fun (r : Int32) (u : BV) => Q r u) 0 0) (F0 m 4 ls [])) : ∀ (vB : BV) (x1 : Int32) (x2 : Int32) (x3 : Int32) (H : Heap) (locs : List Loc) (ls : Array Slot), bd_X0_pairsAlike_4 Q P  vB x1 x2 x3 → Wd D A s.heap (bW t aB vB) H locs → lv_has ls 4 [(0, .ref (BA.o aB)), (1, .int x1), (2, .int x2), (3, .int x3)] → W p l e ({ frames := 3, cells := 0, slots := 0, locals := 69 } : Room) s m args below meth c H locs 0 0 (Ei below args s A D (fun (u : BV) => (bW t aB u)) (fun (r : Int32) (u : BV) => Q r u) 0 0) (F0 m 4 ls []) := by
  intro vB x1 x2 x3 H locs ls h hw hl
  have hx := X.1.1
  have hb := X.1.2.1
  refine lv_iload_n hx hb dX0_pairsAlike_4 rfl (lv_at hl 3 rfl) ?_
  refine lv_aload_n hx hb dX0_pairsAlike_5 rfl (lv_at hl 0 rfl) ?_
  refine r_ci X hw pm_0 (wn := fun (u : BV) => (bW t aB u)) (fun u => pm_0.symm) (r_runV X hw (c_X0_cells l D t aB vB _ h) pm_0 (cwV 0 X.1.2.2.2.2 gX0_pairsAlike_X0_cells rfl rfl rfl (by decide +kernel) ⟨Nat.le_of_ble_eq_true rfl, Nat.le_of_ble_eq_true rfl⟩) (ci := 0) rfl rfl rfl rfl hl rfl (Nat.le_of_ble_eq_true rfl) dX0_pairsAlike_6 ⟨Nat.le_of_ble_eq_true rfl, Nat.le_of_ble_eq_true rfl⟩) (fun r_2 u H locs h hw => ?_)
  obtain ⟨vB_1, rfl⟩ : ∃ z, z = u := ⟨_, rfl⟩
  refine lv_icmp_ge (tgt := 44) hx hb dX0_pairsAlike_9 (by decide) (fun c_12 => ?_) (fun c_12 => ?_)
  · replace h := h.1 c_12
    refine lv_iload_n hx hb dX0_pairsAlike_44 rfl (lv_at hl 2 rfl) ?_
    exact e_i (w1 := (fun (u : BV) => (bW t aB u))) X (vB_1) hw h dX0_pairsAlike_45
  replace h := h.2 c_12
  refine lv_aload_n hx hb dX0_pairsAlike_12 rfl (lv_at hl 0 rfl) ?_
  refine lv_iload_n hx hb dX0_pairsAlike_13 rfl (lv_at hl 3 rfl) ?_
  refine lv_iconst (v := 1) hx hb dX0_pairsAlike_14 (by decide) ?_
  refine lv_iload_n hx hb dX0_pairsAlike_15 rfl (lv_at hl 1 rfl) ?_
  refine r_ci X hw pm_0 (wn := fun (u : BV) => (bW t aB u)) (fun u => pm_0.symm) (r_runV X hw (c_X0_isAlike l D t aB vB_1 x3 1 x1 _ h) pm_0 (cwV 3 X.1.2.2.2.2 gX0_pairsAlike_X0_isAlike rfl rfl rfl (by decide +kernel) ⟨Nat.le_of_ble_eq_true rfl, Nat.le_of_ble_eq_true rfl⟩) (ci := 0) rfl rfl rfl rfl hl rfl (Nat.le_of_ble_eq_true rfl) dX0_pairsAlike_16 ⟨Nat.le_of_ble_eq_true rfl, Nat.le_of_ble_eq_true rfl⟩) (fun r_4 u H locs h hw => ?_)
  obtain ⟨vB_3, rfl⟩ : ∃ z, z = u := ⟨_, rfl⟩
  refine lv_if_eq (tgt := 25) hx hb dX0_pairsAlike_19 (by decide) (fun c_11 => ?_) (fun c_11 => ?_)
  · replace h := h.1 c_11
    exact k_X0_pairsAlike_25 X aB hP _ _ _ _ _ _ _ h hw hl
  replace h := h.2 c_11
  obtain ⟨x2_10, ex2_10⟩ : ∃ z : Int32, z = x2 + 1 := ⟨_, rfl⟩
  replace h := h x2_10 ex2_10
  refine lv_iinc (v := x2_10) (lv' := [(2, .int x2_10), (0, .ref (BA.o aB)), (1, .int x1), (3, .int x3)]) hx hb dX0_pairsAlike_22 hl (k := 2) rfl (by rw [ex2_10]; rfl) (by decide) rfl (fun ls hl => ?_)
  exact k_X0_pairsAlike_25 X aB hP _ _ _ _ _ _ _ h hw (lv_sub hl [1, 2, 0, 3] rfl)
set_option maxHeartbeats 4000000 in
set_option maxRecDepth 100000 in
theorem k_X0_pairsAlike_4 {p : Program} {l : Launch} {e : Env} {s : State} {m : MethodId} {below : List Frame} {meth : Method} {c : Code} {args : Array Value} {D : va_G} {t : T3} {A : Nat → Prop} (X : Cx p s m meth c args cX0_pairsAlike 4 (some .int) RX0 wsX0_pairsAlike D t A) (aB : BA) {Q : Int32 → BV → Prop}   : ∀ (vB : BV) (x1 : Int32) (x2 : Int32) (x3 : Int32) (H : Heap) (locs : List Loc) (ls : Array Slot), wp_X0_pairsAlike_4 Q  vB x1 x2 x3 → Wd D A s.heap (bW t aB vB) H locs → lv_has ls 4 [(0, .ref (BA.o aB)), (1, .int x1), (2, .int x2), (3, .int x3)] → W p l e ({ frames := 3, cells := 0, slots := 0, locals := 69 } : Room) s m args below meth c H locs 0 0 (Ei below args s A D (fun (u : BV) => (bW t aB u)) (fun (r : Int32) (u : BV) => Q r u) 0 0) (F0 m 4 ls []) := by
  intro vB x1 x2 x3 H locs ls h hw hl
  have hx := X.1.1
  have hb := X.1.2.1
  refine h (fun (vB : BV) (x1 : Int32) (x2 : Int32) (x3 : Int32) => ∀ (H : Heap) (locs : List Loc) (ls : Array Slot), Wd D A s.heap (bW t aB vB) H locs → lv_has ls 4 [(0, .ref (BA.o aB)), (1, .int x1), (2, .int x2), (3, .int x3)] → W p l e ({ frames := 3, cells := 0, slots := 0, locals := 69 } : Room) s m args below meth c H locs 0 0 (Ei below args s A D (fun (u : BV) => (bW t aB u)) (fun (r : Int32) (u : BV) => Q r u) 0 0) (F0 m 4 ls [])) (fun vB x1 x2 x3 h H locs ls hw hl => ?_) H locs ls hw hl
  exact kb_X0_pairsAlike_4 X aB (fun vB x1 x2 x3 H locs ls q hw hl => q H locs ls hw hl)  vB x1 x2 x3 _ _ _ h hw hl
def wp_X0_pairsAlike (vB : BV) (p1 : Int32) (Q : Int32 → BV → Prop) : Prop := wp_X0_pairsAlike_4 Q  vB p1 0 0
set_option maxHeartbeats 4000000 in
set_option maxRecDepth 100000 in
theorem c_X0_pairsAlike (l : Launch) (D : va_G) (t : T3) (aB : BA) (vB : BV) (p1 : Int32) (Q : Int32 → BV → Prop) (h : wp_X0_pairsAlike vB p1 Q) : Ct l yX0_pairsAlike wsX0_pairsAlike 3 69 0 0 [.ref (BA.o aB), .int p1] D t (bW t aB vB) (fun sz => Qi D (bW t aB vB) (fun (u : BV) => (bW t aB u)) (fun (r : Int32) (u : BV) => Q r u) sz) := by
  refine Ct.of (Qf := fun _ A => va_Qi (fun (r : Int32) (u : BV) => Q r u) (B1 D (fun (u : BV) => (bW t aB u)) A) A) cX0_pairsAlike 4 (some .int) (by decide) rfl (Nat.le_of_ble_eq_true rfl) ?_
  intro p e s m below meth c A ls hAe hin X hw hl
  generalize ([.ref (BA.o aB), .int p1] : List Value).toArray = args at X ⊢
  have hl : lv_has ls 4 [(0, .ref (BA.o aB)), (1, .int p1)] := hl
  have hx := X.1.1
  have hb := X.1.2.1
  refine lv_iconst (v := 0) hx hb dX0_pairsAlike_0 (by decide) ?_
  refine lv_istore_n (lv' := [(2, .int 0), (0, .ref (BA.o aB)), (1, .int p1)]) hx hb dX0_pairsAlike_1 rfl hl (by decide) rfl (fun ls hl => ?_)
  refine lv_iconst (v := 0) hx hb dX0_pairsAlike_2 (by decide) ?_
  refine lv_istore_n (lv' := [(3, .int 0), (2, .int 0), (0, .ref (BA.o aB)), (1, .int p1)]) hx hb dX0_pairsAlike_3 rfl hl (by decide) rfl (fun ls hl => ?_)
  refine k_X0_pairsAlike_4 X aB  _ _ _ _ _ _ _ h hw (lv_sub hl [2, 3, 1, 0] rfl)
