/-! emptying boards; the two constructors that call it -/
def fillm (f : Nat → Int32) (i : Nat) (v : Int32) : Nat → Int32 := fun k => if k < i then v else f k
theorem fillm_step (f : Nat → Int32) (i : Nat) (v : Int32) : upd (fillm f i v) i v = fillm f (i + 1) v := by
  funext k
  by_cases hk : k = i
  · subst hk
    rw [pk_us]
    unfold fillm
    rw [if_pos (by omega)]
  · rw [pk_un hk]
    unfold fillm
    by_cases h2 : k < i
    · rw [if_pos h2, if_pos (by omega)]
    · rw [if_neg h2, if_neg (by omega)]
theorem fillm_0 (f : Nat → Int32) (v : Int32) : fillm f 0 v = f := by
  funext k
  unfold fillm
  rw [if_neg (by omega)]
def emB (B : BV) (r c : Int32) : BV := (r, c, BV.rule B, BV.tiles B, 0, fillm (BV.placings B) 12 (-1), fillm (BV.places B) 12 (-1), BV.looks B)
theorem sp_X0_makeEmpty {B : BV} {r c : Int32} {Q : BV → Prop} (h : Q (emB B r c)) : wp_X0_makeEmpty B r c Q := by
  unfold wp_X0_makeEmpty
  have l2 : ∀ pl : Nat → Int32, Q ((r, c, BV.rule B, BV.tiles B, 0, pl, fillm (BV.places B) 12 (-1), BV.looks B) : BV) → wp_X0_makeEmpty_38 Q ((r, c, BV.rule B, BV.tiles B, 0, pl, BV.places B, BV.looks B) : BV) 0 := by
    intro pl h2 P hP
    have key : ∀ d i : Nat, i + d = 12 → P ((r, c, BV.rule B, BV.tiles B, 0, pl, fillm (BV.places B) i (-1), BV.looks B) : BV) (nI i) := by
      intro d
      induction d with
      | zero =>
        intro i hi
        obtain rfl : i = 12 := by omega
        exact hP _ _ (bq_t (by decide) h2)
      | succ d ih =>
        intro i hi
        have hn := ih (i + 1) (by omega)
        refine hP _ _ (bq_f (fun z => by rw [nn_lit 12, nI_leI (by omega) (by omega)] at z; omega) ⟨vp_in_nI (by omega) (by omega), fun p hp x hx => ?_⟩)
        rw [nI_clamp (by omega)] at hp
        rw [nI_1] at hx
        have hp2 : p = fillm (BV.places B) (i + 1) (-1) := hp.trans (fillm_step _ i (-1))
        subst hp2 hx
        exact hn
    have := key 12 0 (by omega)
    rw [fillm_0] at this
    exact this
  have l1 : wp_X0_makeEmpty_17 Q (fun (vB_5 : BV) => wp_X0_makeEmpty_38 Q vB_5 0) ((r, c, BV.rule B, BV.tiles B, 0, BV.placings B, BV.places B, BV.looks B) : BV) 0 := by
    intro P hP
    have key : ∀ d i : Nat, i + d = 12 → P ((r, c, BV.rule B, BV.tiles B, 0, fillm (BV.placings B) i (-1), BV.places B, BV.looks B) : BV) (nI i) := by
      intro d
      induction d with
      | zero =>
        intro i hi
        obtain rfl : i = 12 := by omega
        exact hP _ _ (bq_t (by decide) (l2 _ h))
      | succ d ih =>
        intro i hi
        have hn := ih (i + 1) (by omega)
        refine hP _ _ (bq_f (fun z => by rw [nn_lit 12, nI_leI (by omega) (by omega)] at z; omega) ⟨vp_in_nI (by omega) (by omega), fun p hp x hx => ?_⟩)
        rw [nI_clamp (by omega)] at hp
        rw [nI_1] at hx
        have hp2 : p = fillm (BV.placings B) (i + 1) (-1) := hp.trans (fillm_step _ i (-1))
        subst hp2 hx
        exact hn
    have := key 12 0 (by omega)
    rw [fillm_0] at this
    exact this
  exact l1

/-! X6_init -/
theorem ob1_X6_init : Cond.methodLink RX6 3 objectInit ∈ wsX6_init := List.mem_of_getElem? (i := 1) rfl
theorem ob2_X6_init : Cond.instanceMethod objectInit ∈ wsX6_init := List.mem_of_getElem? (i := 2) rfl
theorem ob3_X6_init : Cond.code objectInit ⟨#[0xb1]⟩ 1 none ∈ wsX6_init := List.mem_of_getElem? (i := 3) rfl
theorem in_X6_init_X0 : ∀ w ∈ u_ws RX0 TX0 8, w ∈ wsX6_init := fun w h => (List.mem_cons_of_mem _ (List.mem_append_left _ (List.mem_append_left _ (List.mem_append_left _ (List.mem_append_left _ (List.mem_append_left _ (List.mem_append_left _ (List.mem_append_right _ h))))))))
theorem cl9_X6_init : Cond.classLink RX6 9 RX0 ∈ wsX6_init := List.mem_of_getElem? (i := 4) rfl
theorem imX0_X6_init : Cond.instantiable RX0 8 ∈ wsX6_init := List.mem_of_getElem? (i := 5) rfl
theorem iiX0_X6_init : Cond.initialized RX0 ∈ wsX6_init := List.mem_of_getElem? (i := 6) rfl
theorem inX0_init_X6_init : Cond.instanceMethod yX0_init ∈ wsX6_init := List.mem_of_getElem? (i := 28) rfl
theorem in_X6_init_X6 : ∀ w ∈ u_ws RX6 TX6 6, w ∈ wsX6_init := fun w h => (List.mem_cons_of_mem _ (List.mem_append_left _ (List.mem_append_left _ (List.mem_append_left _ (List.mem_append_left _ (List.mem_append_left _ (List.mem_append_right _ h)))))))
theorem fl_X6_init_12 : Cond.fieldLink RX6 12 "TwoFacedTiles" "board" "LTwoFacedTiles$Board;" ∈ wsX6_init := List.mem_of_getElem? (i := 7) rfl
theorem in_X6_init_X2 : ∀ w ∈ u_ws RX2 TX2 3, w ∈ wsX6_init := fun w h => (List.mem_cons_of_mem _ (List.mem_append_left _ (List.mem_append_left _ (List.mem_append_left _ (List.mem_append_left _ (List.mem_append_right _ h))))))
theorem cl16_X6_init : Cond.classLink RX6 16 RX2 ∈ wsX6_init := List.mem_of_getElem? (i := 8) rfl
theorem imX2_X6_init : Cond.instantiable RX2 3 ∈ wsX6_init := List.mem_of_getElem? (i := 9) rfl
theorem iiX2_X6_init : Cond.initialized RX2 ∈ wsX6_init := List.mem_of_getElem? (i := 10) rfl
theorem ml18_X6_init : Cond.methodLink RX6 18 yX2_init ∈ wsX6_init := List.mem_of_getElem? (i := 40) rfl
theorem inX2_init_X6_init : Cond.instanceMethod yX2_init ∈ wsX6_init := List.mem_of_getElem? (i := 41) rfl
theorem fl_X6_init_19 : Cond.fieldLink RX6 19 "TwoFacedTiles" "history" "LTwoFacedTiles$History;" ∈ wsX6_init := List.mem_of_getElem? (i := 11) rfl
theorem in_X6_init_X5 : ∀ w ∈ u_ws RX5 TX5 2, w ∈ wsX6_init := fun w h => (List.mem_cons_of_mem _ (List.mem_append_left _ (List.mem_append_left _ (List.mem_append_left _ (List.mem_append_right _ h)))))
theorem cl23_X6_init : Cond.classLink RX6 23 RX5 ∈ wsX6_init := List.mem_of_getElem? (i := 12) rfl
theorem imX5_X6_init : Cond.instantiable RX5 2 ∈ wsX6_init := List.mem_of_getElem? (i := 13) rfl
theorem iiX5_X6_init : Cond.initialized RX5 ∈ wsX6_init := List.mem_of_getElem? (i := 14) rfl
theorem inX5_init_X6_init : Cond.instanceMethod yX5_init ∈ wsX6_init := List.mem_of_getElem? (i := 48) rfl
theorem fl_X6_init_26 : Cond.fieldLink RX6 26 "TwoFacedTiles" "text" "LTwoFacedTiles$Text;" ∈ wsX6_init := List.mem_of_getElem? (i := 15) rfl
theorem in_X6_init_X3 : ∀ w ∈ u_ws RX3 TX3 4, w ∈ wsX6_init := fun w h => (List.mem_cons_of_mem _ (List.mem_append_left _ (List.mem_append_left _ (List.mem_append_right _ h))))
theorem cl30_X6_init : Cond.classLink RX6 30 RX3 ∈ wsX6_init := List.mem_of_getElem? (i := 16) rfl
theorem imX3_X6_init : Cond.instantiable RX3 4 ∈ wsX6_init := List.mem_of_getElem? (i := 17) rfl
theorem iiX3_X6_init : Cond.initialized RX3 ∈ wsX6_init := List.mem_of_getElem? (i := 18) rfl
theorem inX3_init_X6_init : Cond.instanceMethod yX3_init ∈ wsX6_init := List.mem_of_getElem? (i := 53) rfl
theorem fl_X6_init_33 : Cond.fieldLink RX6 33 "TwoFacedTiles" "needs" "LTwoFacedTiles$Needs;" ∈ wsX6_init := List.mem_of_getElem? (i := 19) rfl
theorem in_X6_init_X4 : ∀ w ∈ u_ws RX4 TX4 7, w ∈ wsX6_init := fun w h => (List.mem_cons_of_mem _ (List.mem_append_left _ (List.mem_append_right _ h)))
theorem cl37_X6_init : Cond.classLink RX6 37 RX4 ∈ wsX6_init := List.mem_of_getElem? (i := 20) rfl
theorem imX4_X6_init : Cond.instantiable RX4 7 ∈ wsX6_init := List.mem_of_getElem? (i := 21) rfl
theorem iiX4_X6_init : Cond.initialized RX4 ∈ wsX6_init := List.mem_of_getElem? (i := 22) rfl
theorem ml39_X6_init : Cond.methodLink RX6 39 yX4_init ∈ wsX6_init := List.mem_of_getElem? (i := 60) rfl
theorem inX4_init_X6_init : Cond.instanceMethod yX4_init ∈ wsX6_init := List.mem_of_getElem? (i := 61) rfl
theorem fl_X6_init_40 : Cond.fieldLink RX6 40 "TwoFacedTiles" "search" "LTwoFacedTiles$Search;" ∈ wsX6_init := List.mem_of_getElem? (i := 23) rfl
theorem in_X6_init_X1 : ∀ w ∈ u_ws RX1 TX1 3, w ∈ wsX6_init := fun w h => (List.mem_cons_of_mem _ (List.mem_append_right _ h))
theorem cl44_X6_init : Cond.classLink RX6 44 RX1 ∈ wsX6_init := List.mem_of_getElem? (i := 24) rfl
theorem imX1_X6_init : Cond.instantiable RX1 3 ∈ wsX6_init := List.mem_of_getElem? (i := 25) rfl
theorem iiX1_X6_init : Cond.initialized RX1 ∈ wsX6_init := List.mem_of_getElem? (i := 26) rfl
theorem inX1_init_X6_init : Cond.instanceMethod yX1_init ∈ wsX6_init := List.mem_of_getElem? (i := 73) rfl
theorem fl_X6_init_47 : Cond.fieldLink RX6 47 "TwoFacedTiles" "draws" "LTwoFacedTiles$Draws;" ∈ wsX6_init := List.mem_of_getElem? (i := 27) rfl
set_option maxHeartbeats 8000000 in
set_option maxRecDepth 100000 in
theorem c_X6_init (l : Launch) (D : va_G) (t : T3) (h0 : Nat) : Ct l yX6_init wsX6_init 3 101 60 1427 [.ref h0] D t ([(h0, .inr (6, [.null, .null, .null, .null, .null, .null]))]) (fun sz => Qv D ([(h0, .inr (6, [.null, .null, .null, .null, .null, .null]))]) (fun (u : XA × XV) => xW t u.1 u.2) (fun u => XA.o u.1 = h0 ∧ u.2 = (((emB ((1, 1, 0, 0, 0, (fun _ => 0), (fun _ => 0), (fun _ => 0)) : BV) 2 2), (((fun _ => ((1, 1, 0, 0, 0, (fun _ => 0), (fun _ => 0), (fun _ => 0)) : BV)), 0, 0) : HV), (((fun _ => 0), 0) : TV), ((0, 0, 0, 0) : NV), ((((1, 1, 0, 0, 0, (fun _ => 0), (fun _ => 0), (fun _ => 0)) : BV), 0, (fun _ => ((0, 0, 0, 0) : NV)), 0, 0, 0, 0) : SV), ((1, 1, 1) : DV)) : XV)) sz) := by
  refine Ct.of (Qf := fun _ A => va_Qv (fun (u : XA × XV) => XA.o u.1 = h0 ∧ u.2 = (((emB ((1, 1, 0, 0, 0, (fun _ => 0), (fun _ => 0), (fun _ => 0)) : BV) 2 2), (((fun _ => ((1, 1, 0, 0, 0, (fun _ => 0), (fun _ => 0), (fun _ => 0)) : BV)), 0, 0) : HV), (((fun _ => 0), 0) : TV), ((0, 0, 0, 0) : NV), ((((1, 1, 0, 0, 0, (fun _ => 0), (fun _ => 0), (fun _ => 0)) : BV), 0, (fun _ => ((0, 0, 0, 0) : NV)), 0, 0, 0, 0) : SV), ((1, 1, 1) : DV)) : XV)) (B1 D (fun (u : XA × XV) => xW t u.1 u.2) A) A) cX6_init 1 none (by decide) rfl (Nat.le_of_ble_eq_true rfl) ?_
  intro p e s m below meth c A ls hAe hin X hw hl
  generalize ([.ref h0] : List Value).toArray = args at X ⊢
  have hl : lv_has ls 1 [(0, .ref h0)] := hl
  have hin : meth.name = "<init>" := hin
  have hx := X.1.1
  have hb := X.1.2.1
  refine lv_aload_n hx hb dX6_init_0 rfl (lv_at hl 0 rfl) ?_
  refine r_obj X hl ob1_X6_init ob2_X6_init ob3_X6_init dX6_init_1 (Nat.le_of_ble_eq_true rfl) (Nat.le_of_ble_eq_true rfl) ?_
  refine lv_aload_n hx hb dX6_init_4 rfl (lv_at hl 0 rfl) ?_
  refine r_new X hw (ci := 0) (C := RX0) (T := TX0) (N := 8) (fs := [.int 0, .int 0, .int 0, .int 0, .int 0, .null, .null, .null]) in_X6_init_X0 tyX0 tyX0_ok cl9_X6_init imX0_X6_init iiX0_X6_init rfl (fun j hj => by rcases (show j = 0 ∨ j = 1 ∨ j = 2 ∨ j = 3 ∨ j = 4 ∨ j = 5 ∨ j = 6 ∨ j = 7 by omega) with rfl | rfl | rfl | rfl | rfl | rfl | rfl | rfl <;> rfl) (Nat.le_of_ble_eq_true rfl) (Nat.le_of_ble_eq_true rfl) (wn := fun q_1 => ([(h0, .inr (6, [.null, .null, .null, .null, .null, .null]))] ++ ([(q_1, .inr (0, [.int 0, .int 0, .int 0, .int 0, .int 0, .null, .null, .null]))]))) (fun q => rfl) dX6_init_5 (fun q_1 H hw => ?_)
  refine lv_dup hx hb dX6_init_8 rfl ?_
  refine r_cv X hw (pm_r pm_0) (wn := fun (u : BA × BV) => ([(h0, .inr (6, [.null, .null, .null, .null, .null, .null]))] ++ (bW t u.1 u.2))) (fun u => (pm_r pm_0).symm) (r_runIN X hw (c_X0_init l D t q_1) (pm_r pm_0) (va_cnB 0 X.1.2.2.2.2 gX6_init_X0_init_n11 rfl rfl rfl (X.2.2.2.1.2.1 (RX6, 11, yX0_init, RX6) (by decide +kernel)) (X.1.2.2.2.2 _ iiX0_X6_init) (by decide +kernel) ⟨Nat.le_of_ble_eq_true rfl, Nat.le_of_ble_eq_true rfl⟩) rfl (X.1.2.2.2.2 _ inX0_init_X6_init) rfl hl rfl (Nat.le_of_ble_eq_true rfl) dX6_init_9 ⟨Nat.le_of_ble_eq_true rfl, Nat.le_of_ble_eq_true rfl⟩) (fun u H locs h hw2 => ?_)
  obtain ⟨zB_2, v9⟩ := u
  obtain ⟨h9, rfl⟩ : BA.o zB_2 = q_1 ∧ v9 = ((1, 1, 0, 0, 0, (fun _ => 0), (fun _ => 0), (fun _ => 0)) : BV) := h
  subst h9
  have hw := hw2
  refine r_putF (ci := 6) (C := RX6) (T := TX6) (N := 6) (v := .ref (BA.o zB_2)) (ws' := ([(h0, .inr (6, [.ref (BA.o zB_2), .null, .null, .null, .null, .null]))] ++ (bW t zB_2 ((1, 1, 0, 0, 0, (fun _ => 0), (fun _ => 0), (fun _ => 0)) : BV)))) X hin hw 0 rfl rfl 0 (by decide) in_X6_init_X6 tyX6 tyX6_ok nmX6 fl_X6_init_12 rfl rfl rfl rfl (Nat.le_of_ble_eq_true rfl) rfl dX6_init_12 (fun H locs hw => ?_)
  refine lv_aload_n hx hb dX6_init_15 rfl (lv_at hl 0 rfl) ?_
  refine r_new X hw (ci := 2) (C := RX2) (T := TX2) (N := 3) (fs := [.null, .int 0, .int 0]) in_X6_init_X2 tyX2 tyX2_ok cl16_X6_init imX2_X6_init iiX2_X6_init rfl (fun j hj => by rcases (show j = 0 ∨ j = 1 ∨ j = 2 by omega) with rfl | rfl | rfl <;> rfl) (Nat.le_of_ble_eq_true rfl) (Nat.le_of_ble_eq_true rfl) (wn := fun q_3 => ([(h0, .inr (6, [.ref (BA.o zB_2), .null, .null, .null, .null, .null]))] ++ (bW t zB_2 ((1, 1, 0, 0, 0, (fun _ => 0), (fun _ => 0), (fun _ => 0)) : BV) ++ ([(q_3, .inr (2, [.null, .int 0, .int 0]))])))) (fun q => rfl) dX6_init_16 (fun q_3 H hw => ?_)
  refine lv_dup hx hb dX6_init_19 rfl ?_
  refine r_cv X hw (pm_r (pm_r pm_0)) (wn := fun (u : HA × HV) => ([(h0, .inr (6, [.ref (BA.o zB_2), .null, .null, .null, .null, .null]))] ++ (bW t zB_2 ((1, 1, 0, 0, 0, (fun _ => 0), (fun _ => 0), (fun _ => 0)) : BV) ++ (hW t u.1 u.2)))) (fun u => (pm_r (pm_r pm_0)).symm) (r_runI X hw (c_X2_init l D t q_3) (pm_r (pm_r pm_0)) (cwI 0 X.1.2.2.2.2 gX6_init_X2_init rfl rfl rfl (X.1.2.2.2.2 _ iiX2_X6_init) (X.1.2.2.2.2 _ ml18_X6_init) (X.1.2.2.2.2 _ inX2_init_X6_init) rfl (by decide +kernel) ⟨Nat.le_of_ble_eq_true rfl, Nat.le_of_ble_eq_true rfl⟩) rfl hl rfl (Nat.le_of_ble_eq_true rfl) dX6_init_20 ⟨Nat.le_of_ble_eq_true rfl, Nat.le_of_ble_eq_true rfl⟩) (fun u H locs h hw2 => ?_)
  obtain ⟨zH_4, v9⟩ := u
  obtain ⟨h9, rfl⟩ : HA.o zH_4 = q_3 ∧ v9 = (((fun _ => ((1, 1, 0, 0, 0, (fun _ => 0), (fun _ => 0), (fun _ => 0)) : BV)), 0, 0) : HV) := h
  subst h9
  have hw := hw2
  refine r_putF (ci := 6) (C := RX6) (T := TX6) (N := 6) (v := .ref (HA.o zH_4)) (ws' := ([(h0, .inr (6, [.ref (BA.o zB_2), .ref (HA.o zH_4), .null, .null, .null, .null]))] ++ (bW t zB_2 ((1, 1, 0, 0, 0, (fun _ => 0), (fun _ => 0), (fun _ => 0)) : BV) ++ (hW t zH_4 (((fun _ => ((1, 1, 0, 0, 0, (fun _ => 0), (fun _ => 0), (fun _ => 0)) : BV)), 0, 0) : HV))))) X hin hw 0 rfl rfl 1 (by decide) in_X6_init_X6 tyX6 tyX6_ok nmX6 fl_X6_init_19 rfl rfl rfl rfl (Nat.le_of_ble_eq_true rfl) rfl dX6_init_23 (fun H locs hw => ?_)
  refine lv_aload_n hx hb dX6_init_26 rfl (lv_at hl 0 rfl) ?_
  refine r_new X hw (ci := 5) (C := RX5) (T := TX5) (N := 2) (fs := [.null, .int 0]) in_X6_init_X5 tyX5 tyX5_ok cl23_X6_init imX5_X6_init iiX5_X6_init rfl (fun j hj => by rcases (show j = 0 ∨ j = 1 by omega) with rfl | rfl <;> rfl) (Nat.le_of_ble_eq_true rfl) (Nat.le_of_ble_eq_true rfl) (wn := fun q_5 => ([(h0, .inr (6, [.ref (BA.o zB_2), .ref (HA.o zH_4), .null, .null, .null, .null]))] ++ (bW t zB_2 ((1, 1, 0, 0, 0, (fun _ => 0), (fun _ => 0), (fun _ => 0)) : BV) ++ (hW t zH_4 (((fun _ => ((1, 1, 0, 0, 0, (fun _ => 0), (fun _ => 0), (fun _ => 0)) : BV)), 0, 0) : HV) ++ ([(q_5, .inr (5, [.null, .int 0]))]))))) (fun q => rfl) dX6_init_27 (fun q_5 H hw => ?_)
  refine lv_dup hx hb dX6_init_30 rfl ?_
  refine r_cv X hw (pm_r (pm_r (pm_r pm_0))) (wn := fun (u : TA × TV) => ([(h0, .inr (6, [.ref (BA.o zB_2), .ref (HA.o zH_4), .null, .null, .null, .null]))] ++ (bW t zB_2 ((1, 1, 0, 0, 0, (fun _ => 0), (fun _ => 0), (fun _ => 0)) : BV) ++ (hW t zH_4 (((fun _ => ((1, 1, 0, 0, 0, (fun _ => 0), (fun _ => 0), (fun _ => 0)) : BV)), 0, 0) : HV) ++ (tW t u.1 u.2))))) (fun u => (pm_r (pm_r (pm_r pm_0))).symm) (r_runIN X hw (c_X5_init l D t q_5) (pm_r (pm_r (pm_r pm_0))) (va_cnB 0 X.1.2.2.2.2 gX6_init_X5_init_n25 rfl rfl rfl (X.2.2.2.1.2.1 (RX6, 25, yX5_init, RX6) (by decide +kernel)) (X.1.2.2.2.2 _ iiX5_X6_init) (by decide +kernel) ⟨Nat.le_of_ble_eq_true rfl, Nat.le_of_ble_eq_true rfl⟩) rfl (X.1.2.2.2.2 _ inX5_init_X6_init) rfl hl rfl (Nat.le_of_ble_eq_true rfl) dX6_init_31 ⟨Nat.le_of_ble_eq_true rfl, Nat.le_of_ble_eq_true rfl⟩) (fun u H locs h hw2 => ?_)
  obtain ⟨zT_6, v9⟩ := u
  obtain ⟨h9, rfl⟩ : TA.o zT_6 = q_5 ∧ v9 = (((fun _ => 0), 0) : TV) := h
  subst h9
  have hw := hw2
  refine r_putF (ci := 6) (C := RX6) (T := TX6) (N := 6) (v := .ref (TA.o zT_6)) (ws' := ([(h0, .inr (6, [.ref (BA.o zB_2), .ref (HA.o zH_4), .ref (TA.o zT_6), .null, .null, .null]))] ++ (bW t zB_2 ((1, 1, 0, 0, 0, (fun _ => 0), (fun _ => 0), (fun _ => 0)) : BV) ++ (hW t zH_4 (((fun _ => ((1, 1, 0, 0, 0, (fun _ => 0), (fun _ => 0), (fun _ => 0)) : BV)), 0, 0) : HV) ++ (tW t zT_6 (((fun _ => 0), 0) : TV)))))) X hin hw 0 rfl rfl 2 (by decide) in_X6_init_X6 tyX6 tyX6_ok nmX6 fl_X6_init_26 rfl rfl rfl rfl (Nat.le_of_ble_eq_true rfl) rfl dX6_init_34 (fun H locs hw => ?_)
  refine lv_aload_n hx hb dX6_init_37 rfl (lv_at hl 0 rfl) ?_
  refine r_new X hw (ci := 3) (C := RX3) (T := TX3) (N := 4) (fs := [.int 0, .int 0, .int 0, .int 0]) in_X6_init_X3 tyX3 tyX3_ok cl30_X6_init imX3_X6_init iiX3_X6_init rfl (fun j hj => by rcases (show j = 0 ∨ j = 1 ∨ j = 2 ∨ j = 3 by omega) with rfl | rfl | rfl | rfl <;> rfl) (Nat.le_of_ble_eq_true rfl) (Nat.le_of_ble_eq_true rfl) (wn := fun q_7 => ([(h0, .inr (6, [.ref (BA.o zB_2), .ref (HA.o zH_4), .ref (TA.o zT_6), .null, .null, .null]))] ++ (bW t zB_2 ((1, 1, 0, 0, 0, (fun _ => 0), (fun _ => 0), (fun _ => 0)) : BV) ++ (hW t zH_4 (((fun _ => ((1, 1, 0, 0, 0, (fun _ => 0), (fun _ => 0), (fun _ => 0)) : BV)), 0, 0) : HV) ++ (tW t zT_6 (((fun _ => 0), 0) : TV) ++ ([(q_7, .inr (3, [.int 0, .int 0, .int 0, .int 0]))])))))) (fun q => rfl) dX6_init_38 (fun q_7 H hw => ?_)
  refine lv_dup hx hb dX6_init_41 rfl ?_
  refine r_cv X hw (pm_r (pm_r (pm_r (pm_r pm_0)))) (wn := fun (u : Nat × NV) => ([(h0, .inr (6, [.ref (BA.o zB_2), .ref (HA.o zH_4), .ref (TA.o zT_6), .null, .null, .null]))] ++ (bW t zB_2 ((1, 1, 0, 0, 0, (fun _ => 0), (fun _ => 0), (fun _ => 0)) : BV) ++ (hW t zH_4 (((fun _ => ((1, 1, 0, 0, 0, (fun _ => 0), (fun _ => 0), (fun _ => 0)) : BV)), 0, 0) : HV) ++ (tW t zT_6 (((fun _ => 0), 0) : TV) ++ (nW t u.1 u.2)))))) (fun u => (pm_r (pm_r (pm_r (pm_r pm_0)))).symm) (r_runIN X hw (c_X3_init l D t q_7) (pm_r (pm_r (pm_r (pm_r pm_0)))) (va_cnB 0 X.1.2.2.2.2 gX6_init_X3_init_n32 rfl rfl rfl (X.2.2.2.1.2.1 (RX6, 32, yX3_init, RX6) (by decide +kernel)) (X.1.2.2.2.2 _ iiX3_X6_init) (by decide +kernel) ⟨Nat.le_of_ble_eq_true rfl, Nat.le_of_ble_eq_true rfl⟩) rfl (X.1.2.2.2.2 _ inX3_init_X6_init) rfl hl rfl (Nat.le_of_ble_eq_true rfl) dX6_init_42 ⟨Nat.le_of_ble_eq_true rfl, Nat.le_of_ble_eq_true rfl⟩) (fun u H locs h hw2 => ?_)
  obtain ⟨zN_8, v9⟩ := u
  obtain ⟨h9, rfl⟩ : zN_8 = q_7 ∧ v9 = ((0, 0, 0, 0) : NV) := h
  subst h9
  have hw := hw2
  refine r_putF (ci := 6) (C := RX6) (T := TX6) (N := 6) (v := .ref zN_8) (ws' := ([(h0, .inr (6, [.ref (BA.o zB_2), .ref (HA.o zH_4), .ref (TA.o zT_6), .ref zN_8, .null, .null]))] ++ (bW t zB_2 ((1, 1, 0, 0, 0, (fun _ => 0), (fun _ => 0), (fun _ => 0)) : BV) ++ (hW t zH_4 (((fun _ => ((1, 1, 0, 0, 0, (fun _ => 0), (fun _ => 0), (fun _ => 0)) : BV)), 0, 0) : HV) ++ (tW t zT_6 (((fun _ => 0), 0) : TV) ++ (nW t zN_8 ((0, 0, 0, 0) : NV))))))) X hin hw 0 rfl rfl 3 (by decide) in_X6_init_X6 tyX6 tyX6_ok nmX6 fl_X6_init_33 rfl rfl rfl rfl (Nat.le_of_ble_eq_true rfl) rfl dX6_init_45 (fun H locs hw => ?_)
  refine lv_aload_n hx hb dX6_init_48 rfl (lv_at hl 0 rfl) ?_
  refine r_new X hw (ci := 4) (C := RX4) (T := TX4) (N := 7) (fs := [.null, .int 0, .null, .int 0, .int 0, .int 0, .int 0]) in_X6_init_X4 tyX4 tyX4_ok cl37_X6_init imX4_X6_init iiX4_X6_init rfl (fun j hj => by rcases (show j = 0 ∨ j = 1 ∨ j = 2 ∨ j = 3 ∨ j = 4 ∨ j = 5 ∨ j = 6 by omega) with rfl | rfl | rfl | rfl | rfl | rfl | rfl <;> rfl) (Nat.le_of_ble_eq_true rfl) (Nat.le_of_ble_eq_true rfl) (wn := fun q_9 => ([(h0, .inr (6, [.ref (BA.o zB_2), .ref (HA.o zH_4), .ref (TA.o zT_6), .ref zN_8, .null, .null]))] ++ (bW t zB_2 ((1, 1, 0, 0, 0, (fun _ => 0), (fun _ => 0), (fun _ => 0)) : BV) ++ (hW t zH_4 (((fun _ => ((1, 1, 0, 0, 0, (fun _ => 0), (fun _ => 0), (fun _ => 0)) : BV)), 0, 0) : HV) ++ (tW t zT_6 (((fun _ => 0), 0) : TV) ++ (nW t zN_8 ((0, 0, 0, 0) : NV) ++ ([(q_9, .inr (4, [.null, .int 0, .null, .int 0, .int 0, .int 0, .int 0]))]))))))) (fun q => rfl) dX6_init_49 (fun q_9 H hw => ?_)
  refine lv_dup hx hb dX6_init_52 rfl ?_
  refine r_cv X hw (pm_r (pm_r (pm_r (pm_r (pm_r pm_0))))) (wn := fun (u : SA × SV) => ([(h0, .inr (6, [.ref (BA.o zB_2), .ref (HA.o zH_4), .ref (TA.o zT_6), .ref zN_8, .null, .null]))] ++ (bW t zB_2 ((1, 1, 0, 0, 0, (fun _ => 0), (fun _ => 0), (fun _ => 0)) : BV) ++ (hW t zH_4 (((fun _ => ((1, 1, 0, 0, 0, (fun _ => 0), (fun _ => 0), (fun _ => 0)) : BV)), 0, 0) : HV) ++ (tW t zT_6 (((fun _ => 0), 0) : TV) ++ (nW t zN_8 ((0, 0, 0, 0) : NV) ++ (sW t u.1 u.2))))))) (fun u => (pm_r (pm_r (pm_r (pm_r (pm_r pm_0))))).symm) (r_runI X hw (c_X4_init l D t q_9) (pm_r (pm_r (pm_r (pm_r (pm_r pm_0))))) (cwI 0 X.1.2.2.2.2 gX6_init_X4_init rfl rfl rfl (X.1.2.2.2.2 _ iiX4_X6_init) (X.1.2.2.2.2 _ ml39_X6_init) (X.1.2.2.2.2 _ inX4_init_X6_init) rfl (by decide +kernel) ⟨Nat.le_of_ble_eq_true rfl, Nat.le_of_ble_eq_true rfl⟩) rfl hl rfl (Nat.le_of_ble_eq_true rfl) dX6_init_53 ⟨Nat.le_of_ble_eq_true rfl, Nat.le_of_ble_eq_true rfl⟩) (fun u H locs h hw2 => ?_)
  obtain ⟨zS_10, v9⟩ := u
  obtain ⟨h9, rfl⟩ : SA.o zS_10 = q_9 ∧ v9 = ((((1, 1, 0, 0, 0, (fun _ => 0), (fun _ => 0), (fun _ => 0)) : BV), 0, (fun _ => ((0, 0, 0, 0) : NV)), 0, 0, 0, 0) : SV) := h
  subst h9
  have hw := hw2
  refine r_putF (ci := 6) (C := RX6) (T := TX6) (N := 6) (v := .ref (SA.o zS_10)) (ws' := ([(h0, .inr (6, [.ref (BA.o zB_2), .ref (HA.o zH_4), .ref (TA.o zT_6), .ref zN_8, .ref (SA.o zS_10), .null]))] ++ (bW t zB_2 ((1, 1, 0, 0, 0, (fun _ => 0), (fun _ => 0), (fun _ => 0)) : BV) ++ (hW t zH_4 (((fun _ => ((1, 1, 0, 0, 0, (fun _ => 0), (fun _ => 0), (fun _ => 0)) : BV)), 0, 0) : HV) ++ (tW t zT_6 (((fun _ => 0), 0) : TV) ++ (nW t zN_8 ((0, 0, 0, 0) : NV) ++ (sW t zS_10 ((((1, 1, 0, 0, 0, (fun _ => 0), (fun _ => 0), (fun _ => 0)) : BV), 0, (fun _ => ((0, 0, 0, 0) : NV)), 0, 0, 0, 0) : SV)))))))) X hin hw 0 rfl rfl 4 (by decide) in_X6_init_X6 tyX6 tyX6_ok nmX6 fl_X6_init_40 rfl rfl rfl rfl (Nat.le_of_ble_eq_true rfl) rfl dX6_init_56 (fun H locs hw => ?_)
  refine lv_aload_n hx hb dX6_init_59 rfl (lv_at hl 0 rfl) ?_
  refine r_new X hw (ci := 1) (C := RX1) (T := TX1) (N := 3) (fs := [.int 0, .int 0, .int 0]) in_X6_init_X1 tyX1 tyX1_ok cl44_X6_init imX1_X6_init iiX1_X6_init rfl (fun j hj => by rcases (show j = 0 ∨ j = 1 ∨ j = 2 by omega) with rfl | rfl | rfl <;> rfl) (Nat.le_of_ble_eq_true rfl) (Nat.le_of_ble_eq_true rfl) (wn := fun q_11 => ([(h0, .inr (6, [.ref (BA.o zB_2), .ref (HA.o zH_4), .ref (TA.o zT_6), .ref zN_8, .ref (SA.o zS_10), .null]))] ++ (bW t zB_2 ((1, 1, 0, 0, 0, (fun _ => 0), (fun _ => 0), (fun _ => 0)) : BV) ++ (hW t zH_4 (((fun _ => ((1, 1, 0, 0, 0, (fun _ => 0), (fun _ => 0), (fun _ => 0)) : BV)), 0, 0) : HV) ++ (tW t zT_6 (((fun _ => 0), 0) : TV) ++ (nW t zN_8 ((0, 0, 0, 0) : NV) ++ (sW t zS_10 ((((1, 1, 0, 0, 0, (fun _ => 0), (fun _ => 0), (fun _ => 0)) : BV), 0, (fun _ => ((0, 0, 0, 0) : NV)), 0, 0, 0, 0) : SV) ++ ([(q_11, .inr (1, [.int 0, .int 0, .int 0]))])))))))) (fun q => rfl) dX6_init_60 (fun q_11 H hw => ?_)
  refine lv_dup hx hb dX6_init_63 rfl ?_
  refine r_cv X hw (pm_r (pm_r (pm_r (pm_r (pm_r (pm_r pm_0)))))) (wn := fun (u : Nat × DV) => ([(h0, .inr (6, [.ref (BA.o zB_2), .ref (HA.o zH_4), .ref (TA.o zT_6), .ref zN_8, .ref (SA.o zS_10), .null]))] ++ (bW t zB_2 ((1, 1, 0, 0, 0, (fun _ => 0), (fun _ => 0), (fun _ => 0)) : BV) ++ (hW t zH_4 (((fun _ => ((1, 1, 0, 0, 0, (fun _ => 0), (fun _ => 0), (fun _ => 0)) : BV)), 0, 0) : HV) ++ (tW t zT_6 (((fun _ => 0), 0) : TV) ++ (nW t zN_8 ((0, 0, 0, 0) : NV) ++ (sW t zS_10 ((((1, 1, 0, 0, 0, (fun _ => 0), (fun _ => 0), (fun _ => 0)) : BV), 0, (fun _ => ((0, 0, 0, 0) : NV)), 0, 0, 0, 0) : SV) ++ (dW t u.1 u.2)))))))) (fun u => (pm_r (pm_r (pm_r (pm_r (pm_r (pm_r pm_0)))))).symm) (r_runIN X hw (c_X1_init l D t q_11) (pm_r (pm_r (pm_r (pm_r (pm_r (pm_r pm_0)))))) (va_cnB 0 X.1.2.2.2.2 gX6_init_X1_init_n46 rfl rfl rfl (X.2.2.2.1.2.1 (RX6, 46, yX1_init, RX6) (by decide +kernel)) (X.1.2.2.2.2 _ iiX1_X6_init) (by decide +kernel) ⟨Nat.le_of_ble_eq_true rfl, Nat.le_of_ble_eq_true rfl⟩) rfl (X.1.2.2.2.2 _ inX1_init_X6_init) rfl hl rfl (Nat.le_of_ble_eq_true rfl) dX6_init_64 ⟨Nat.le_of_ble_eq_true rfl, Nat.le_of_ble_eq_true rfl⟩) (fun u H locs h hw2 => ?_)
  obtain ⟨zD_12, v9⟩ := u
  obtain ⟨h9, rfl⟩ : zD_12 = q_11 ∧ v9 = ((1, 1, 1) : DV) := h
  subst h9
  have hw := hw2
  refine r_putF (ci := 6) (C := RX6) (T := TX6) (N := 6) (v := .ref zD_12) (ws' := ([(h0, .inr (6, [.ref (BA.o zB_2), .ref (HA.o zH_4), .ref (TA.o zT_6), .ref zN_8, .ref (SA.o zS_10), .ref zD_12]))] ++ (bW t zB_2 ((1, 1, 0, 0, 0, (fun _ => 0), (fun _ => 0), (fun _ => 0)) : BV) ++ (hW t zH_4 (((fun _ => ((1, 1, 0, 0, 0, (fun _ => 0), (fun _ => 0), (fun _ => 0)) : BV)), 0, 0) : HV) ++ (tW t zT_6 (((fun _ => 0), 0) : TV) ++ (nW t zN_8 ((0, 0, 0, 0) : NV) ++ (sW t zS_10 ((((1, 1, 0, 0, 0, (fun _ => 0), (fun _ => 0), (fun _ => 0)) : BV), 0, (fun _ => ((0, 0, 0, 0) : NV)), 0, 0, 0, 0) : SV) ++ (dW t zD_12 ((1, 1, 1) : DV))))))))) X hin hw 0 rfl rfl 5 (by decide) in_X6_init_X6 tyX6 tyX6_ok nmX6 fl_X6_init_47 rfl rfl rfl rfl (Nat.le_of_ble_eq_true rfl) rfl dX6_init_67 (fun H locs hw => ?_)
  refine lv_aload_n hx hb dX6_init_70 rfl (lv_at hl 0 rfl) ?_
  refine r_get (ci := 6) (C := RX6) (T := TX6) (N := 6) X hw 0 rfl rfl 0 (by decide) in_X6_init_X6 fl_X6_init_12 (v := .ref (BA.o zB_2)) rfl dX6_init_71 ?_
  refine lv_iconst (v := 2) hx hb dX6_init_74 (by decide) ?_
  refine lv_iconst (v := 2) hx hb dX6_init_75 (by decide) ?_
  refine r_cv X hw (pm_r (pm_l pm_0)) (wn := fun (u : BV) => ([(h0, .inr (6, [.ref (BA.o zB_2), .ref (HA.o zH_4), .ref (TA.o zT_6), .ref zN_8, .ref (SA.o zS_10), .ref zD_12]))] ++ (bW t zB_2 u ++ (hW t zH_4 (((fun _ => ((1, 1, 0, 0, 0, (fun _ => 0), (fun _ => 0), (fun _ => 0)) : BV)), 0, 0) : HV) ++ (tW t zT_6 (((fun _ => 0), 0) : TV) ++ (nW t zN_8 ((0, 0, 0, 0) : NV) ++ (sW t zS_10 ((((1, 1, 0, 0, 0, (fun _ => 0), (fun _ => 0), (fun _ => 0)) : BV), 0, (fun _ => ((0, 0, 0, 0) : NV)), 0, 0, 0, 0) : SV) ++ (dW t zD_12 ((1, 1, 1) : DV))))))))) (fun u => (pm_r (pm_l pm_0)).symm) (r_runV X hw (c_X0_makeEmpty l D t zB_2 ((1, 1, 0, 0, 0, (fun _ => 0), (fun _ => 0), (fun _ => 0)) : BV) 2 2 (fun z => z = (emB ((1, 1, 0, 0, 0, (fun _ => 0), (fun _ => 0), (fun _ => 0)) : BV) 2 2)) (sp_X0_makeEmpty rfl)) (pm_r (pm_l pm_0)) (cwV 2 X.1.2.2.2.2 gX6_init_X0_makeEmpty rfl rfl rfl (by decide +kernel) ⟨Nat.le_of_ble_eq_true rfl, Nat.le_of_ble_eq_true rfl⟩) (ci := 0) rfl rfl rfl rfl hl rfl (Nat.le_of_ble_eq_true rfl) dX6_init_76 ⟨Nat.le_of_ble_eq_true rfl, Nat.le_of_ble_eq_true rfl⟩) (fun u H locs h hw => ?_)
  obtain rfl : u = (emB ((1, 1, 0, 0, 0, (fun _ => 0), (fun _ => 0), (fun _ => 0)) : BV) 2 2) := h
  have hw : Wd D A s.heap (xW t (h0, zB_2, zH_4, zT_6, zN_8, zS_10, zD_12) ((emB ((1, 1, 0, 0, 0, (fun _ => 0), (fun _ => 0), (fun _ => 0)) : BV) 2 2), (((fun _ => ((1, 1, 0, 0, 0, (fun _ => 0), (fun _ => 0), (fun _ => 0)) : BV)), 0, 0) : HV), (((fun _ => 0), 0) : TV), ((0, 0, 0, 0) : NV), ((((1, 1, 0, 0, 0, (fun _ => 0), (fun _ => 0), (fun _ => 0)) : BV), 0, (fun _ => ((0, 0, 0, 0) : NV)), 0, 0, 0, 0) : SV), ((1, 1, 1) : DV))) H locs := hw
  exact e_v (w1 := fun (u : XA × XV) => xW t u.1 u.2) X ((h0, zB_2, zH_4, zT_6, zN_8, zS_10, zD_12), ((emB ((1, 1, 0, 0, 0, (fun _ => 0), (fun _ => 0), (fun _ => 0)) : BV) 2 2), (((fun _ => ((1, 1, 0, 0, 0, (fun _ => 0), (fun _ => 0), (fun _ => 0)) : BV)), 0, 0) : HV), (((fun _ => 0), 0) : TV), ((0, 0, 0, 0) : NV), ((((1, 1, 0, 0, 0, (fun _ => 0), (fun _ => 0), (fun _ => 0)) : BV), 0, (fun _ => ((0, 0, 0, 0) : NV)), 0, 0, 0, 0) : SV), ((1, 1, 1) : DV))) hw ⟨rfl, rfl⟩ dX6_init_79
