/-! L_act -/
theorem k_L_act_68 : Cond.constant RL 68 (99999999) ∈ wsL_act := List.mem_of_getElem? (i := 1) rfl
theorem arI_L_act : Cond.arrayClass .int ∈ wsL_act := List.mem_of_getElem? (i := 2) rfl
set_option maxHeartbeats 4000000 in
set_option maxRecDepth 100000 in
theorem kb_L_act_54 {p : Program} {l : Launch} {e : Env} {s : State} {m : MethodId} {below : List Frame} {meth : Method} {c : Code} {args : Array Value} {D : va_G} {t : T3} {A : Nat → Prop} (X : Cx p s m meth c args cL_act 13 (some .boolean) RL wsL_act D t A) (aX : XA) (aI28 : Nat) (aI48 : Nat) {Q : Int32 → XV → IV → IV → Prop} {P : XV → IV → IV → Int32 → Int32 → Prop} {K84 : XV → IV → IV → Int32 → Prop} (hP : ∀ (vX : XV) (vI28 : IV) (vI48 : IV) (x3 : Int32) (x7 : Int32) (H : Heap) (locs : List Loc) (ls : Array Slot), P vX vI28 vI48 x3 x7 → Wd D A s.heap (xW t aX vX ++ (i28W t aI28 vI28 ++ (i48W t aI48 vI48))) H locs → lv_has ls 13 [(0, .ref (XA.o aX)), (3, .int x3), (4, .ref aI28), (5, .ref aI48), (7, .int x7)] → W p l e ({ frames := 82, cells := 3, slots := 39, locals := 1650 } : Room) s m args below meth c H locs 0 0 (Ei below args s A D (fun (u : XV × IV × IV) => (xW t aX u.1 ++ (i28W t aI28 u.2.1 ++ (i48W t aI48 u.2.2)))) (fun (r : Int32) (u : XV × IV × IV) => Q r u.1 u.2.1 u.2.2) 3 39) (F0 m 54 ls [])) (hK84 : ∀ (vX : XV) (vI28 : IV) (vI48 : IV) (x3 : Int32) (H : Heap) (locs : List Loc) (ls : Array Slot), K84 vX vI28 vI48 x3 → Wd D A s.heap (xW t aX vX ++ (i28W t aI28 vI28 ++ (i48W t aI48 vI48))) H locs → lv_has ls 13 [(0, .ref (XA.o aX)), (3, .int x3), (4, .ref aI28), (5, .ref aI48)] → W p l e ({ frames := 82, cells := 3, slots := 39, locals := 1650 } : Room) s m args below meth c H locs 0 0 (Ei below args s A D (fun (u : XV × IV × IV) => (xW t aX u.1 ++ (i28W t aI28 u.2.1 ++ (i48W t aI48 u.2.2)))) (fun (r : Int32) (u : XV × IV × IV) => Q r u.1 u.2.1 u.2.2) 3 39) (F0 m 84 ls [])) : ∀ (vX : XV) (vI28 : IV) (vI48 : IV) (x3 : Int32) (x7 : Int32) (H : Heap) (locs : List Loc) (ls : Array Slot), bd_L_act_54 Q P K84 vX vI28 vI48 x3 x7 → Wd D A s.heap (xW t aX vX ++ (i28W t aI28 vI28 ++ (i48W t aI48 vI48))) H locs → lv_has ls 13 [(0, .ref (XA.o aX)), (3, .int x3), (4, .ref aI28), (5, .ref aI48), (7, .int x7)] → W p l e ({ frames := 82, cells := 3, slots := 39, locals := 1650 } : Room) s m args below meth c H locs 0 0 (Ei below args s A D (fun (u : XV × IV × IV) => (xW t aX u.1 ++ (i28W t aI28 u.2.1 ++ (i48W t aI48 u.2.2)))) (fun (r : Int32) (u : XV × IV × IV) => Q r u.1 u.2.1 u.2.2) 3 39) (F0 m 54 ls []) := by
  intro vX vI28 vI48 x3 x7 H locs ls h hw hl
  have hx := X.1.1
  have hb := X.1.2.1
  refine lv_iload hx hb dL_act_54 (lv_at hl 4 rfl) ?_
  refine lv_bipush (v := 12) hx hb dL_act_56 (by decide) ?_
  refine lv_icmp_ge (tgt := 84) hx hb dL_act_58 (by decide) (fun c_13 => ?_) (fun c_13 => ?_)
  · replace h := h.1 c_13
    exact hK84 _ _ _ _ _ _ _ h hw (lv_sub hl [0, 1, 2, 3] rfl)
  replace h := h.2 c_13
  refine lv_aload hx hb dL_act_61 (lv_at hl 2 rfl) ?_
  refine lv_iconst (v := 4) hx hb dL_act_63 (by decide) ?_
  refine lv_iload hx hb dL_act_64 (lv_at hl 4 rfl) ?_
  refine lv_iadd hx hb dL_act_66 ?_
  refine lv_iconst (v := (-1)) hx hb dL_act_67 (by decide) ?_
  obtain ⟨hi_8, h⟩ := h
  obtain ⟨o_9, eo_9⟩ : ∃ z : Nat → Int32, z = upd vI28 (Int32.toNatClampNeg (4 + x7)) (-1) := ⟨_, rfl⟩
  replace h := h o_9 eo_9
  refine r_iast (ws' := (xW t aX vX ++ (i28W t aI28 o_9 ++ (i48W t aI48 vI48)))) X hw 61 rfl hi_8 (by subst eo_9; rfl) dL_act_68 (fun H locs hw => ?_)
  refine lv_aload hx hb dL_act_69 (lv_at hl 2 rfl) ?_
  refine lv_bipush (v := 16) hx hb dL_act_71 (by decide) ?_
  refine lv_iload hx hb dL_act_73 (lv_at hl 4 rfl) ?_
  refine lv_iadd hx hb dL_act_75 ?_
  refine lv_iconst (v := 0) hx hb dL_act_76 (by decide) ?_
  obtain ⟨hi_10, h⟩ := h
  obtain ⟨o_11, eo_11⟩ : ∃ z : Nat → Int32, z = upd o_9 (Int32.toNatClampNeg (16 + x7)) 0 := ⟨_, rfl⟩
  replace h := h o_11 eo_11
  refine r_iast (ws' := (xW t aX vX ++ (i28W t aI28 o_11 ++ (i48W t aI48 vI48)))) X hw 61 rfl hi_10 (by subst eo_11; rfl) dL_act_77 (fun H locs hw => ?_)
  obtain ⟨x7_12, ex7_12⟩ : ∃ z : Int32, z = x7 + 1 := ⟨_, rfl⟩
  replace h := h x7_12 ex7_12
  refine lv_iinc (v := x7_12) (lv' := [(7, .int x7_12), (0, .ref (XA.o aX)), (3, .int x3), (4, .ref aI28), (5, .ref aI48)]) hx hb dL_act_78 hl (k := 4) rfl (by rw [ex7_12]; rfl) (by decide) rfl (fun ls hl => ?_)
  refine lv_goto (tgt := 54) hx hb dL_act_81 (by decide) ?_
  exact hP _ _ _ _ _ _ _ _ h hw (lv_sub hl [1, 2, 3, 4, 0] rfl)
set_option maxHeartbeats 4000000 in
set_option maxRecDepth 100000 in
theorem k_L_act_54 {p : Program} {l : Launch} {e : Env} {s : State} {m : MethodId} {below : List Frame} {meth : Method} {c : Code} {args : Array Value} {D : va_G} {t : T3} {A : Nat → Prop} (X : Cx p s m meth c args cL_act 13 (some .boolean) RL wsL_act D t A) (aX : XA) (aI28 : Nat) (aI48 : Nat) {Q : Int32 → XV → IV → IV → Prop} {K84 : XV → IV → IV → Int32 → Prop} (hK84 : ∀ (vX : XV) (vI28 : IV) (vI48 : IV) (x3 : Int32) (H : Heap) (locs : List Loc) (ls : Array Slot), K84 vX vI28 vI48 x3 → Wd D A s.heap (xW t aX vX ++ (i28W t aI28 vI28 ++ (i48W t aI48 vI48))) H locs → lv_has ls 13 [(0, .ref (XA.o aX)), (3, .int x3), (4, .ref aI28), (5, .ref aI48)] → W p l e ({ frames := 82, cells := 3, slots := 39, locals := 1650 } : Room) s m args below meth c H locs 0 0 (Ei below args s A D (fun (u : XV × IV × IV) => (xW t aX u.1 ++ (i28W t aI28 u.2.1 ++ (i48W t aI48 u.2.2)))) (fun (r : Int32) (u : XV × IV × IV) => Q r u.1 u.2.1 u.2.2) 3 39) (F0 m 84 ls [])) : ∀ (vX : XV) (vI28 : IV) (vI48 : IV) (x3 : Int32) (x7 : Int32) (H : Heap) (locs : List Loc) (ls : Array Slot), wp_L_act_54 Q K84 vX vI28 vI48 x3 x7 → Wd D A s.heap (xW t aX vX ++ (i28W t aI28 vI28 ++ (i48W t aI48 vI48))) H locs → lv_has ls 13 [(0, .ref (XA.o aX)), (3, .int x3), (4, .ref aI28), (5, .ref aI48), (7, .int x7)] → W p l e ({ frames := 82, cells := 3, slots := 39, locals := 1650 } : Room) s m args below meth c H locs 0 0 (Ei below args s A D (fun (u : XV × IV × IV) => (xW t aX u.1 ++ (i28W t aI28 u.2.1 ++ (i48W t aI48 u.2.2)))) (fun (r : Int32) (u : XV × IV × IV) => Q r u.1 u.2.1 u.2.2) 3 39) (F0 m 54 ls []) := by
  intro vX vI28 vI48 x3 x7 H locs ls h hw hl
  have hx := X.1.1
  have hb := X.1.2.1
  refine h (fun (vX : XV) (vI28 : IV) (vI48 : IV) (x3 : Int32) (x7 : Int32) => ∀ (H : Heap) (locs : List Loc) (ls : Array Slot), Wd D A s.heap (xW t aX vX ++ (i28W t aI28 vI28 ++ (i48W t aI48 vI48))) H locs → lv_has ls 13 [(0, .ref (XA.o aX)), (3, .int x3), (4, .ref aI28), (5, .ref aI48), (7, .int x7)] → W p l e ({ frames := 82, cells := 3, slots := 39, locals := 1650 } : Room) s m args below meth c H locs 0 0 (Ei below args s A D (fun (u : XV × IV × IV) => (xW t aX u.1 ++ (i28W t aI28 u.2.1 ++ (i48W t aI48 u.2.2)))) (fun (r : Int32) (u : XV × IV × IV) => Q r u.1 u.2.1 u.2.2) 3 39) (F0 m 54 ls [])) (fun vX vI28 vI48 x3 x7 h H locs ls hw hl => ?_) H locs ls hw hl
  exact kb_L_act_54 X aX aI28 aI48 (fun vX vI28 vI48 x3 x7 H locs ls q hw hl => q H locs ls hw hl) hK84 vX vI28 vI48 x3 x7 _ _ _ h hw hl
set_option maxHeartbeats 4000000 in
set_option maxRecDepth 100000 in
theorem k_L_act_27 {p : Program} {l : Launch} {e : Env} {s : State} {m : MethodId} {below : List Frame} {meth : Method} {c : Code} {args : Array Value} {D : va_G} {t : T3} {A : Nat → Prop} (X : Cx p s m meth c args cL_act 13 (some .boolean) RL wsL_act D t A) (aX : XA) (aI28 : Nat) (aI48 : Nat) {Q : Int32 → XV → IV → IV → Prop}  : ∀ (vX : XV) (vI28 : IV) (vI48 : IV) (x2 : Int32) (x3 : Int32) (H : Heap) (locs : List Loc) (ls : Array Slot), wp_L_act_27 Q vX vI28 vI48 x2 x3 → Wd D A s.heap (xW t aX vX ++ (i28W t aI28 vI28 ++ (i48W t aI48 vI48))) H locs → lv_has ls 13 [(0, .ref (XA.o aX)), (2, .int x2), (3, .int x3), (4, .ref aI28), (5, .ref aI48)] → W p l e ({ frames := 82, cells := 3, slots := 39, locals := 1650 } : Room) s m args below meth c H locs 0 0 (Ei below args s A D (fun (u : XV × IV × IV) => (xW t aX u.1 ++ (i28W t aI28 u.2.1 ++ (i48W t aI48 u.2.2)))) (fun (r : Int32) (u : XV × IV × IV) => Q r u.1 u.2.1 u.2.2) 3 39) (F0 m 27 ls []) := by
  intro vX vI28 vI48 x2 x3 H locs ls h hw hl
  have hx := X.1.1
  have hb := X.1.2.1
  refine lv_aload hx hb dL_act_27 (lv_at hl 3 rfl) ?_
  refine lv_iconst (v := 0) hx hb dL_act_29 (by decide) ?_
  refine lv_iconst (v := 1) hx hb dL_act_30 (by decide) ?_
  refine lv_iload_n hx hb dL_act_31 rfl (lv_at hl 1 rfl) ?_
  refine lv_iconst (v := 2) hx hb dL_act_32 (by decide) ?_
  refine r_ci X hw pm_n (wn := fun (u : Unit) => (xW t aX vX ++ (i28W t aI28 vI28 ++ (i48W t aI48 vI48)))) (fun u => (pm_n).symm) (r_runS X hw (c_L_at l D t x2 2 _ h) pm_n (va_cwS 2 X.1.2.2.2.2 gL_act_L_at rfl rfl rfl (by decide +kernel) ⟨Nat.le_of_ble_eq_true rfl, Nat.le_of_ble_eq_true rfl⟩) rfl hl rfl (Nat.le_of_ble_eq_true rfl) dL_act_33 ⟨Nat.le_of_ble_eq_true rfl, Nat.le_of_ble_eq_true rfl⟩) (fun r_2 u H locs h hw => ?_)
  refine lv_iadd hx hb dL_act_36 ?_
  refine lv_topi (fun f_3 ef_3 => ?_)
  replace h := h f_3 ef_3
  obtain ⟨o_4, eo_4⟩ : ∃ z : Nat → Int32, z = upd vI28 0 f_3 := ⟨_, rfl⟩
  replace h := h o_4 eo_4
  refine r_iast (ws' := (xW t aX vX ++ (i28W t aI28 o_4 ++ (i48W t aI48 vI48)))) X hw 61 rfl (vpl rfl) (by subst eo_4; rfl) dL_act_37 (fun H locs hw => ?_)
  refine lv_aload hx hb dL_act_38 (lv_at hl 3 rfl) ?_
  refine lv_iconst (v := 1) hx hb dL_act_40 (by decide) ?_
  refine lv_iconst (v := 1) hx hb dL_act_41 (by decide) ?_
  refine lv_iload_n hx hb dL_act_42 rfl (lv_at hl 1 rfl) ?_
  refine lv_iconst (v := 1) hx hb dL_act_43 (by decide) ?_
  refine r_ishr hx hb dL_act_44 ?_
  refine lv_iconst (v := 3) hx hb dL_act_45 (by decide) ?_
  refine r_ci X hw pm_n (wn := fun (u : Unit) => (xW t aX vX ++ (i28W t aI28 o_4 ++ (i48W t aI48 vI48)))) (fun u => (pm_n).symm) (r_runS X hw (c_L_at l D t (jshr x2 1) 3 _ h) pm_n (va_cwS 2 X.1.2.2.2.2 gL_act_L_at rfl rfl rfl (by decide +kernel) ⟨Nat.le_of_ble_eq_true rfl, Nat.le_of_ble_eq_true rfl⟩) rfl hl rfl (Nat.le_of_ble_eq_true rfl) dL_act_46 ⟨Nat.le_of_ble_eq_true rfl, Nat.le_of_ble_eq_true rfl⟩) (fun r_5 u H locs h hw => ?_)
  refine lv_iadd hx hb dL_act_49 ?_
  refine lv_topi (fun f_6 ef_6 => ?_)
  replace h := h f_6 ef_6
  obtain ⟨o_7, eo_7⟩ : ∃ z : Nat → Int32, z = upd o_4 1 f_6 := ⟨_, rfl⟩
  replace h := h o_7 eo_7
  refine r_iast (ws' := (xW t aX vX ++ (i28W t aI28 o_7 ++ (i48W t aI48 vI48)))) X hw 61 rfl (vpl rfl) (by subst eo_7; rfl) dL_act_50 (fun H locs hw => ?_)
  refine lv_iconst (v := 0) hx hb dL_act_51 (by decide) ?_
  refine lv_istore (lv' := [(7, .int 0), (0, .ref (XA.o aX)), (2, .int x2), (3, .int x3), (4, .ref aI28), (5, .ref aI48)]) hx hb dL_act_52 hl (by decide) rfl (fun ls hl => ?_)
  refine k_L_act_54 X aX aI28 aI48 (fun vX_14 vI28_15 vI48_16 x3_17 H locs ls h hw hl => ?_) _ _ _ _ _ _ _ _ h hw (lv_sub hl [1, 3, 4, 5, 0] rfl)
  refine lv_aload_n hx hb dL_act_84 rfl (lv_at hl 0 rfl) ?_
  refine lv_aload hx hb dL_act_85 (lv_at hl 2 rfl) ?_
  refine lv_iconst (v := 0) hx hb dL_act_87 (by decide) ?_
  refine r_iald (v := (vI28_15 0)) X hw 61 rfl (vpl rfl) rfl dL_act_88 ?_
  refine lv_aload hx hb dL_act_89 (lv_at hl 2 rfl) ?_
  refine lv_iconst (v := 1) hx hb dL_act_91 (by decide) ?_
  refine r_iald (v := (vI28_15 1)) X hw 61 rfl (vpl rfl) rfl dL_act_92 ?_
  refine r_ci X hw (pm_l pm_0) (wn := fun (u : XV) => (xW t aX u ++ (i28W t aI28 vI28_15 ++ (i48W t aI48 vI48_16)))) (fun u => (pm_l pm_0).symm) (r_runV X hw (c_X6_begin l D t aX vX_14 (vI28_15 0) (vI28_15 1) _ h) (pm_l pm_0) (cwV 2 X.1.2.2.2.2 gL_act_X6_begin rfl rfl rfl (by decide +kernel) ⟨Nat.le_of_ble_eq_true rfl, Nat.le_of_ble_eq_true rfl⟩) (ci := 6) rfl rfl rfl rfl hl rfl (Nat.le_of_ble_eq_true rfl) dL_act_93 ⟨Nat.le_of_ble_eq_true rfl, Nat.le_of_ble_eq_true rfl⟩) (fun r_19 u H locs h hw => ?_)
  obtain ⟨vX_18, rfl⟩ : ∃ z, z = u := ⟨_, rfl⟩
  refine lv_aload hx hb dL_act_96 (lv_at hl 2 rfl) ?_
  refine lv_iconst (v := 0) hx hb dL_act_98 (by decide) ?_
  refine r_iald (v := (vI28_15 0)) X hw 61 rfl (vpl rfl) rfl dL_act_99 ?_
  refine lv_aload hx hb dL_act_100 (lv_at hl 2 rfl) ?_
  refine lv_iconst (v := 1) hx hb dL_act_102 (by decide) ?_
  refine r_iald (v := (vI28_15 1)) X hw 61 rfl (vpl rfl) rfl dL_act_103 ?_
  refine lv_imul hx hb dL_act_104 ?_
  refine lv_icmp_eq (tgt := 110) hx hb dL_act_105 (by decide) (fun c_29 => ?_) (fun c_29 => ?_)
  · replace h := h.1 c_29
    refine lv_iconst (v := 1) hx hb dL_act_110 (by decide) ?_
    refine lv_iload_n hx hb dL_act_111 rfl (lv_at hl 1 rfl) ?_
    refine lv_ldc (v := 99999999) hx hb X.1.2.2.2.1 (X.1.2.2.2.2 _ k_L_act_68) dL_act_112 ?_
    refine r_ci X hw pm_n (wn := fun (u : Unit) => (xW t aX vX_18 ++ (i28W t aI28 vI28_15 ++ (i48W t aI48 vI48_16)))) (fun u => (pm_n).symm) (r_runS X hw (c_L_at l D t x3_17 99999999 _ h) pm_n (va_cwS 2 X.1.2.2.2.2 gL_act_L_at rfl rfl rfl (by decide +kernel) ⟨Nat.le_of_ble_eq_true rfl, Nat.le_of_ble_eq_true rfl⟩) rfl hl rfl (Nat.le_of_ble_eq_true rfl) dL_act_114 ⟨Nat.le_of_ble_eq_true rfl, Nat.le_of_ble_eq_true rfl⟩) (fun r_20 u H locs h hw => ?_)
    refine lv_iadd hx hb dL_act_117 ?_
    refine lv_topi (fun x7_21 ex7_21 => ?_)
    replace h := h x7_21 ex7_21
    refine lv_istore (lv' := [(7, .int x7_21), (0, .ref (XA.o aX)), (3, .int x3_17), (4, .ref aI28), (5, .ref aI48)]) hx hb dL_act_118 hl (by decide) rfl (fun ls hl => ?_)
    refine lv_iconst (v := 1) hx hb dL_act_120 (by decide) ?_
    refine lv_iload_n hx hb dL_act_121 rfl (lv_at hl 2 rfl) ?_
    refine lv_iconst (v := 4) hx hb dL_act_122 (by decide) ?_
    refine r_ishr hx hb dL_act_123 ?_
    refine lv_iconst (v := 4) hx hb dL_act_124 (by decide) ?_
    refine r_ci X hw pm_n (wn := fun (u : Unit) => (xW t aX vX_18 ++ (i28W t aI28 vI28_15 ++ (i48W t aI48 vI48_16)))) (fun u => (pm_n).symm) (r_runS X hw (c_L_at l D t (jshr x3_17 4) 4 _ h) pm_n (va_cwS 2 X.1.2.2.2.2 gL_act_L_at rfl rfl rfl (by decide +kernel) ⟨Nat.le_of_ble_eq_true rfl, Nat.le_of_ble_eq_true rfl⟩) rfl hl rfl (Nat.le_of_ble_eq_true rfl) dL_act_125 ⟨Nat.le_of_ble_eq_true rfl, Nat.le_of_ble_eq_true rfl⟩) (fun r_22 u H locs h hw => ?_)
    refine lv_iadd hx hb dL_act_128 ?_
    refine lv_topi (fun x8_23 ex8_23 => ?_)
    replace h := h x8_23 ex8_23
    refine lv_istore (lv' := [(8, .int x8_23), (7, .int x7_21), (0, .ref (XA.o aX)), (3, .int x3_17), (4, .ref aI28), (5, .ref aI48)]) hx hb dL_act_129 hl (by decide) rfl (fun ls hl => ?_)
    refine lv_iload hx hb dL_act_131 (lv_at hl 1 rfl) ?_
    refine lv_iload hx hb dL_act_133 (lv_at hl 0 rfl) ?_
    refine lv_aload hx hb dL_act_135 (lv_at hl 4 rfl) ?_
    refine lv_aload hx hb dL_act_137 (lv_at hl 5 rfl) ?_
    refine r_cv X hw (pm_2 (pm_r (pm_l pm_0)) (pm_r (pm_r pm_0))) (wn := fun (u : IV × IV) => (xW t aX vX_18 ++ (i28W t aI28 u.1 ++ (i48W t aI48 u.2)))) (fun u => (pm_2 (pm_r (pm_l pm_0)) (pm_r (pm_r pm_0))).symm) (r_runS X hw (c_L_cut l D t aI28 aI48 vI28_15 vI48_16 x7_21 x8_23 _ h) (pm_2 (pm_r (pm_l pm_0)) (pm_r (pm_r pm_0))) (va_cwS 4 X.1.2.2.2.2 gL_act_L_cut rfl rfl rfl (by decide +kernel) ⟨Nat.le_of_ble_eq_true rfl, Nat.le_of_ble_eq_true rfl⟩) rfl hl rfl (Nat.le_of_ble_eq_true rfl) dL_act_139 ⟨Nat.le_of_ble_eq_true rfl, Nat.le_of_ble_eq_true rfl⟩) (fun u H locs h hw => ?_)
    obtain ⟨vI28_24, vI48_25⟩ := u
    refine lv_aload_n hx hb dL_act_142 rfl (lv_at hl 2 rfl) ?_
    refine lv_iload hx hb dL_act_143 (lv_at hl 1 rfl) ?_
    refine lv_iload hx hb dL_act_145 (lv_at hl 0 rfl) ?_
    refine r_ci X hw (pm_l pm_0) (wn := fun (u : XV) => (xW t aX u ++ (i28W t aI28 vI28_24 ++ (i48W t aI48 vI48_25)))) (fun u => (pm_l pm_0).symm) (r_runV X hw (c_X6_cut l D t aX vX_18 x7_21 x8_23 _ h) (pm_l pm_0) (cwV 2 X.1.2.2.2.2 gL_act_X6_cut rfl rfl rfl (by decide +kernel) ⟨Nat.le_of_ble_eq_true rfl, Nat.le_of_ble_eq_true rfl⟩) (ci := 6) rfl rfl rfl rfl hl rfl (Nat.le_of_ble_eq_true rfl) dL_act_147 ⟨Nat.le_of_ble_eq_true rfl, Nat.le_of_ble_eq_true rfl⟩) (fun r_27 u H locs h hw => ?_)
    obtain ⟨vX_26, rfl⟩ : ∃ z, z = u := ⟨_, rfl⟩
    refine lv_aload hx hb dL_act_150 (lv_at hl 4 rfl) ?_
    refine lv_iconst (v := 0) hx hb dL_act_152 (by decide) ?_
    refine r_iald (v := (vI28_24 0)) X hw 61 rfl (vpl rfl) rfl dL_act_153 ?_
    refine lv_aload hx hb dL_act_154 (lv_at hl 4 rfl) ?_
    refine lv_iconst (v := 1) hx hb dL_act_156 (by decide) ?_
    refine r_iald (v := (vI28_24 1)) X hw 61 rfl (vpl rfl) rfl dL_act_157 ?_
    refine lv_imul hx hb dL_act_158 ?_
    refine lv_icmp_ne (tgt := 166) hx hb dL_act_159 (by decide) (fun c_28 => ?_) (fun c_28 => ?_)
    · replace h := h.1 c_28
      refine lv_iconst (v := 0) hx hb dL_act_166 (by decide) ?_
      refine W.widen (k := 3) (n := 39) (Nat.le_of_ble_eq_true rfl) (Nat.le_of_ble_eq_true rfl) ?_
      exact e_z (w1 := (fun (u : XV × IV × IV) => (xW t aX u.1 ++ (i28W t aI28 u.2.1 ++ (i48W t aI48 u.2.2))))) X isB_0 (vX_26, vI28_24, vI48_25) hw h dL_act_167
    replace h := h.2 c_28
    refine lv_iconst (v := 1) hx hb dL_act_162 (by decide) ?_
    refine lv_goto (tgt := 167) hx hb dL_act_163 (by decide) ?_
    refine W.widen (k := 3) (n := 39) (Nat.le_of_ble_eq_true rfl) (Nat.le_of_ble_eq_true rfl) ?_
    exact e_z (w1 := (fun (u : XV × IV × IV) => (xW t aX u.1 ++ (i28W t aI28 u.2.1 ++ (i48W t aI48 u.2.2))))) X isB_1 (vX_26, vI28_24, vI48_25) hw h dL_act_167
  replace h := h.2 c_29
  refine lv_iconst (v := 0) hx hb dL_act_108 (by decide) ?_
  refine W.widen (k := 3) (n := 39) (Nat.le_of_ble_eq_true rfl) (Nat.le_of_ble_eq_true rfl) ?_
  exact e_z (w1 := (fun (u : XV × IV × IV) => (xW t aX u.1 ++ (i28W t aI28 u.2.1 ++ (i48W t aI48 u.2.2))))) X isB_0 (vX_18, vI28_15, vI48_16) hw h dL_act_109
set_option maxHeartbeats 4000000 in
set_option maxRecDepth 100000 in
theorem k_L_act_1031 {p : Program} {l : Launch} {e : Env} {s : State} {m : MethodId} {below : List Frame} {meth : Method} {c : Code} {args : Array Value} {D : va_G} {t : T3} {A : Nat → Prop} (X : Cx p s m meth c args cL_act 13 (some .boolean) RL wsL_act D t A) (aX : XA) (aI28 : Nat) (aI48 : Nat) (aI15_31 : Nat) {P : XV → IV → IV → IV → Int32 → Int32 → Int32 → Prop} {K1037 : XV → IV → IV → IV → Int32 → Prop} {Q : Int32 → XV → IV → IV → Prop} (hP : ∀ (vX : XV) (vI28 : IV) (vI48 : IV) (vI15 : IV) (x6 : Int32) (x9 : Int32) (x10 : Int32) (H : Heap) (locs : List Loc) (ls : Array Slot), P vX vI28 vI48 vI15 x6 x9 x10 → Wd D A s.heap (xW t aX vX ++ (i28W t aI28 vI28 ++ (i48W t aI48 vI48 ++ (i15W t aI15_31 vI15)))) H locs → lv_has ls 13 [(0, .ref (XA.o aX)), (4, .ref aI28), (6, .int x6), (8, .ref aI15_31), (9, .int x9), (10, .int x10)] → W p l e ({ frames := 82, cells := 3, slots := 39, locals := 1650 } : Room) s m args below meth c H locs 3 39 (Ei below args s A D (fun (u : XV × IV × IV) => (xW t aX u.1 ++ (i28W t aI28 u.2.1 ++ (i48W t aI48 u.2.2)))) (fun (r : Int32) (u : XV × IV × IV) => Q r u.1 u.2.1 u.2.2) 3 39) (F0 m 994 ls [])) (hK1037 : ∀ (vX : XV) (vI28 : IV) (vI48 : IV) (vI15 : IV) (x9 : Int32) (H : Heap) (locs : List Loc) (ls : Array Slot), K1037 vX vI28 vI48 vI15 x9 → Wd D A s.heap (xW t aX vX ++ (i28W t aI28 vI28 ++ (i48W t aI48 vI48 ++ (i15W t aI15_31 vI15)))) H locs → lv_has ls 13 [(0, .ref (XA.o aX)), (9, .int x9)] → W p l e ({ frames := 82, cells := 3, slots := 39, locals := 1650 } : Room) s m args below meth c H locs 3 39 (Ei below args s A D (fun (u : XV × IV × IV) => (xW t aX u.1 ++ (i28W t aI28 u.2.1 ++ (i48W t aI48 u.2.2)))) (fun (r : Int32) (u : XV × IV × IV) => Q r u.1 u.2.1 u.2.2) 3 39) (F0 m 1037 ls [])) : ∀ (vX : XV) (vI28 : IV) (vI48 : IV) (vI15 : IV) (x6 : Int32) (x9 : Int32) (x10 : Int32) (H : Heap) (locs : List Loc) (ls : Array Slot), wp_L_act_1031 P K1037 Q vX vI28 vI48 vI15 x6 x9 x10 → Wd D A s.heap (xW t aX vX ++ (i28W t aI28 vI28 ++ (i48W t aI48 vI48 ++ (i15W t aI15_31 vI15)))) H locs → lv_has ls 13 [(0, .ref (XA.o aX)), (4, .ref aI28), (6, .int x6), (8, .ref aI15_31), (9, .int x9), (10, .int x10)] → W p l e ({ frames := 82, cells := 3, slots := 39, locals := 1650 } : Room) s m args below meth c H locs 3 39 (Ei below args s A D (fun (u : XV × IV × IV) => (xW t aX u.1 ++ (i28W t aI28 u.2.1 ++ (i48W t aI48 u.2.2)))) (fun (r : Int32) (u : XV × IV × IV) => Q r u.1 u.2.1 u.2.2) 3 39) (F0 m 1031 ls []) := by
  intro vX vI28 vI48 vI15 x6 x9 x10 H locs ls h hw hl
  have hx := X.1.1
  have hb := X.1.2.1
  obtain ⟨x10_41, ex10_41⟩ : ∃ z : Int32, z = x10 + 1 := ⟨_, rfl⟩
  replace h := h x10_41 ex10_41
  refine lv_iinc (v := x10_41) (lv' := [(10, .int x10_41), (0, .ref (XA.o aX)), (4, .ref aI28), (6, .int x6), (8, .ref aI15_31), (9, .int x9)]) hx hb dL_act_1031 hl (k := 5) rfl (by rw [ex10_41]; rfl) (by decide) rfl (fun ls hl => ?_)
  refine lv_goto (tgt := 994) hx hb dL_act_1034 (by decide) ?_
  exact hP _ _ _ _ _ _ _ _ _ _ h hw (lv_sub hl [1, 2, 3, 4, 5, 0] rfl)
set_option maxHeartbeats 4000000 in
set_option maxRecDepth 100000 in
theorem kb_L_act_994 {p : Program} {l : Launch} {e : Env} {s : State} {m : MethodId} {below : List Frame} {meth : Method} {c : Code} {args : Array Value} {D : va_G} {t : T3} {A : Nat → Prop} (X : Cx p s m meth c args cL_act 13 (some .boolean) RL wsL_act D t A) (aX : XA) (aI28 : Nat) (aI48 : Nat) (aI15_31 : Nat) {Q : Int32 → XV → IV → IV → Prop} {P : XV → IV → IV → IV → Int32 → Int32 → Int32 → Prop} {K1037 : XV → IV → IV → IV → Int32 → Prop} (hP : ∀ (vX : XV) (vI28 : IV) (vI48 : IV) (vI15 : IV) (x6 : Int32) (x9 : Int32) (x10 : Int32) (H : Heap) (locs : List Loc) (ls : Array Slot), P vX vI28 vI48 vI15 x6 x9 x10 → Wd D A s.heap (xW t aX vX ++ (i28W t aI28 vI28 ++ (i48W t aI48 vI48 ++ (i15W t aI15_31 vI15)))) H locs → lv_has ls 13 [(0, .ref (XA.o aX)), (4, .ref aI28), (6, .int x6), (8, .ref aI15_31), (9, .int x9), (10, .int x10)] → W p l e ({ frames := 82, cells := 3, slots := 39, locals := 1650 } : Room) s m args below meth c H locs 3 39 (Ei below args s A D (fun (u : XV × IV × IV) => (xW t aX u.1 ++ (i28W t aI28 u.2.1 ++ (i48W t aI48 u.2.2)))) (fun (r : Int32) (u : XV × IV × IV) => Q r u.1 u.2.1 u.2.2) 3 39) (F0 m 994 ls [])) (hK1037 : ∀ (vX : XV) (vI28 : IV) (vI48 : IV) (vI15 : IV) (x9 : Int32) (H : Heap) (locs : List Loc) (ls : Array Slot), K1037 vX vI28 vI48 vI15 x9 → Wd D A s.heap (xW t aX vX ++ (i28W t aI28 vI28 ++ (i48W t aI48 vI48 ++ (i15W t aI15_31 vI15)))) H locs → lv_has ls 13 [(0, .ref (XA.o aX)), (9, .int x9)] → W p l e ({ frames := 82, cells := 3, slots := 39, locals := 1650 } : Room) s m args below meth c H locs 3 39 (Ei below args s A D (fun (u : XV × IV × IV) => (xW t aX u.1 ++ (i28W t aI28 u.2.1 ++ (i48W t aI48 u.2.2)))) (fun (r : Int32) (u : XV × IV × IV) => Q r u.1 u.2.1 u.2.2) 3 39) (F0 m 1037 ls [])) : ∀ (vX : XV) (vI28 : IV) (vI48 : IV) (vI15 : IV) (x6 : Int32) (x9 : Int32) (x10 : Int32) (H : Heap) (locs : List Loc) (ls : Array Slot), bd_L_act_994 Q P K1037 vX vI28 vI48 vI15 x6 x9 x10 → Wd D A s.heap (xW t aX vX ++ (i28W t aI28 vI28 ++ (i48W t aI48 vI48 ++ (i15W t aI15_31 vI15)))) H locs → lv_has ls 13 [(0, .ref (XA.o aX)), (4, .ref aI28), (6, .int x6), (8, .ref aI15_31), (9, .int x9), (10, .int x10)] → W p l e ({ frames := 82, cells := 3, slots := 39, locals := 1650 } : Room) s m args below meth c H locs 3 39 (Ei below args s A D (fun (u : XV × IV × IV) => (xW t aX u.1 ++ (i28W t aI28 u.2.1 ++ (i48W t aI48 u.2.2)))) (fun (r : Int32) (u : XV × IV × IV) => Q r u.1 u.2.1 u.2.2) 3 39) (F0 m 994 ls []) := by
  intro vX vI28 vI48 vI15 x6 x9 x10 H locs ls h hw hl
  have hx := X.1.1
  have hb := X.1.2.1
  refine lv_iload hx hb dL_act_994 (lv_at hl 5 rfl) ?_
  refine lv_iload hx hb dL_act_996 (lv_at hl 2 rfl) ?_
  refine lv_icmp_ge (tgt := 1037) hx hb dL_act_998 (by decide) (fun c_43 => ?_) (fun c_43 => ?_)
  · replace h := h.1 c_43
    exact hK1037 _ _ _ _ _ _ _ _ h hw (lv_sub hl [0, 4] rfl)
  replace h := h.2 c_43
  refine lv_aload hx hb dL_act_1001 (lv_at hl 1 rfl) ?_
  refine lv_iconst (v := 4) hx hb dL_act_1003 (by decide) ?_
  refine lv_iload hx hb dL_act_1004 (lv_at hl 5 rfl) ?_
  refine lv_iadd hx hb dL_act_1006 ?_
  obtain ⟨hi_35, h⟩ := h
  refine r_iald (v := (vI28 (Int32.toNatClampNeg (4 + x10)))) X hw 61 rfl hi_35 rfl dL_act_1007 ?_
  refine lv_if_lt (tgt := 1014) hx hb dL_act_1008 (by decide) (fun c_42 => ?_) (fun c_42 => ?_)
  · replace h := h.1 c_42
    refine lv_aload hx hb dL_act_1014 (lv_at hl 1 rfl) ?_
    refine lv_iconst (v := 4) hx hb dL_act_1016 (by decide) ?_
    refine lv_iload hx hb dL_act_1017 (lv_at hl 5 rfl) ?_
    refine lv_iadd hx hb dL_act_1019 ?_
    refine lv_aload hx hb dL_act_1020 (lv_at hl 3 rfl) ?_
    refine lv_iconst (v := 3) hx hb dL_act_1022 (by decide) ?_
    refine lv_iload hx hb dL_act_1023 (lv_at hl 5 rfl) ?_
    refine lv_iadd hx hb dL_act_1025 ?_
    obtain ⟨hi_36, h⟩ := h
    refine r_iald (v := (vI15 (Int32.toNatClampNeg (3 + x10)))) X hw 63 rfl hi_36 rfl dL_act_1026 ?_
    refine lv_topi (fun f_37 ef_37 => ?_)
    replace h := h f_37 ef_37
    obtain ⟨hi_38, h⟩ := h
    obtain ⟨o_39, eo_39⟩ : ∃ z : Nat → Int32, z = upd vI28 (Int32.toNatClampNeg (4 + x10)) f_37 := ⟨_, rfl⟩
    replace h := h o_39 eo_39
    refine r_iast (ws' := (xW t aX vX ++ (i28W t aI28 o_39 ++ (i48W t aI48 vI48 ++ (i15W t aI15_31 vI15))))) X hw 61 rfl hi_38 (by subst eo_39; rfl) dL_act_1027 (fun H locs hw => ?_)
    obtain ⟨x9_40, ex9_40⟩ : ∃ z : Int32, z = x9 + 1 := ⟨_, rfl⟩
    replace h := h x9_40 ex9_40
    refine lv_iinc (v := x9_40) (lv' := [(9, .int x9_40), (0, .ref (XA.o aX)), (4, .ref aI28), (6, .int x6), (8, .ref aI15_31), (10, .int x10)]) hx hb dL_act_1028 hl (k := 4) rfl (by rw [ex9_40]; rfl) (by decide) rfl (fun ls hl => ?_)
    exact k_L_act_1031 X aX aI28 aI48 aI15_31 hP hK1037 _ _ _ _ _ _ _ _ _ _ h hw (lv_sub hl [1, 2, 3, 4, 0, 5] rfl)
  replace h := h.2 c_42
  refine lv_goto (tgt := 1031) hx hb dL_act_1011 (by decide) ?_
  exact k_L_act_1031 X aX aI28 aI48 aI15_31 hP hK1037 _ _ _ _ _ _ _ _ _ _ h hw hl
set_option maxHeartbeats 4000000 in
set_option maxRecDepth 100000 in
theorem k_L_act_994 {p : Program} {l : Launch} {e : Env} {s : State} {m : MethodId} {below : List Frame} {meth : Method} {c : Code} {args : Array Value} {D : va_G} {t : T3} {A : Nat → Prop} (X : Cx p s m meth c args cL_act 13 (some .boolean) RL wsL_act D t A) (aX : XA) (aI28 : Nat) (aI48 : Nat) (aI15_31 : Nat) {Q : Int32 → XV → IV → IV → Prop} {K1037 : XV → IV → IV → IV → Int32 → Prop} (hK1037 : ∀ (vX : XV) (vI28 : IV) (vI48 : IV) (vI15 : IV) (x9 : Int32) (H : Heap) (locs : List Loc) (ls : Array Slot), K1037 vX vI28 vI48 vI15 x9 → Wd D A s.heap (xW t aX vX ++ (i28W t aI28 vI28 ++ (i48W t aI48 vI48 ++ (i15W t aI15_31 vI15)))) H locs → lv_has ls 13 [(0, .ref (XA.o aX)), (9, .int x9)] → W p l e ({ frames := 82, cells := 3, slots := 39, locals := 1650 } : Room) s m args below meth c H locs 3 39 (Ei below args s A D (fun (u : XV × IV × IV) => (xW t aX u.1 ++ (i28W t aI28 u.2.1 ++ (i48W t aI48 u.2.2)))) (fun (r : Int32) (u : XV × IV × IV) => Q r u.1 u.2.1 u.2.2) 3 39) (F0 m 1037 ls [])) : ∀ (vX : XV) (vI28 : IV) (vI48 : IV) (vI15 : IV) (x6 : Int32) (x9 : Int32) (x10 : Int32) (H : Heap) (locs : List Loc) (ls : Array Slot), wp_L_act_994 Q K1037 vX vI28 vI48 vI15 x6 x9 x10 → Wd D A s.heap (xW t aX vX ++ (i28W t aI28 vI28 ++ (i48W t aI48 vI48 ++ (i15W t aI15_31 vI15)))) H locs → lv_has ls 13 [(0, .ref (XA.o aX)), (4, .ref aI28), (6, .int x6), (8, .ref aI15_31), (9, .int x9), (10, .int x10)] → W p l e ({ frames := 82, cells := 3, slots := 39, locals := 1650 } : Room) s m args below meth c H locs 3 39 (Ei below args s A D (fun (u : XV × IV × IV) => (xW t aX u.1 ++ (i28W t aI28 u.2.1 ++ (i48W t aI48 u.2.2)))) (fun (r : Int32) (u : XV × IV × IV) => Q r u.1 u.2.1 u.2.2) 3 39) (F0 m 994 ls []) := by
  intro vX vI28 vI48 vI15 x6 x9 x10 H locs ls h hw hl
  have hx := X.1.1
  have hb := X.1.2.1
  refine h (fun (vX : XV) (vI28 : IV) (vI48 : IV) (vI15 : IV) (x6 : Int32) (x9 : Int32) (x10 : Int32) => ∀ (H : Heap) (locs : List Loc) (ls : Array Slot), Wd D A s.heap (xW t aX vX ++ (i28W t aI28 vI28 ++ (i48W t aI48 vI48 ++ (i15W t aI15_31 vI15)))) H locs → lv_has ls 13 [(0, .ref (XA.o aX)), (4, .ref aI28), (6, .int x6), (8, .ref aI15_31), (9, .int x9), (10, .int x10)] → W p l e ({ frames := 82, cells := 3, slots := 39, locals := 1650 } : Room) s m args below meth c H locs 3 39 (Ei below args s A D (fun (u : XV × IV × IV) => (xW t aX u.1 ++ (i28W t aI28 u.2.1 ++ (i48W t aI48 u.2.2)))) (fun (r : Int32) (u : XV × IV × IV) => Q r u.1 u.2.1 u.2.2) 3 39) (F0 m 994 ls [])) (fun vX vI28 vI48 vI15 x6 x9 x10 h H locs ls hw hl => ?_) H locs ls hw hl
  exact kb_L_act_994 X aX aI28 aI48 aI15_31 (fun vX vI28 vI48 vI15 x6 x9 x10 H locs ls q hw hl => q H locs ls hw hl) hK1037 vX vI28 vI48 vI15 x6 x9 x10 _ _ _ h hw hl
set_option maxHeartbeats 4000000 in
set_option maxRecDepth 100000 in
theorem kb_L_act_755 {p : Program} {l : Launch} {e : Env} {s : State} {m : MethodId} {below : List Frame} {meth : Method} {c : Code} {args : Array Value} {D : va_G} {t : T3} {A : Nat → Prop} (X : Cx p s m meth c args cL_act 13 (some .boolean) RL wsL_act D t A) (aX : XA) (aI28 : Nat) (aI48 : Nat) {Q : Int32 → XV → IV → IV → Prop} {P : XV → IV → IV → Int32 → Int32 → Int32 → Prop} {K791 : XV → IV → IV → Prop} (hP : ∀ (vX : XV) (vI28 : IV) (vI48 : IV) (x2 : Int32) (x3 : Int32) (x8 : Int32) (H : Heap) (locs : List Loc) (ls : Array Slot), P vX vI28 vI48 x2 x3 x8 → Wd D A s.heap (xW t aX vX ++ (i28W t aI28 vI28 ++ (i48W t aI48 vI48))) H locs → lv_has ls 13 [(0, .ref (XA.o aX)), (2, .int x2), (3, .int x3), (4, .ref aI28), (5, .ref aI48), (8, .int x8)] → W p l e ({ frames := 82, cells := 3, slots := 39, locals := 1650 } : Room) s m args below meth c H locs 0 0 (Ei below args s A D (fun (u : XV × IV × IV) => (xW t aX u.1 ++ (i28W t aI28 u.2.1 ++ (i48W t aI48 u.2.2)))) (fun (r : Int32) (u : XV × IV × IV) => Q r u.1 u.2.1 u.2.2) 3 39) (F0 m 755 ls [])) (hK791 : ∀ (vX : XV) (vI28 : IV) (vI48 : IV) (H : Heap) (locs : List Loc) (ls : Array Slot), K791 vX vI28 vI48 → Wd D A s.heap (xW t aX vX ++ (i28W t aI28 vI28 ++ (i48W t aI48 vI48))) H locs → lv_has ls 13 [(0, .ref (XA.o aX)), (4, .ref aI28), (5, .ref aI48)] → W p l e ({ frames := 82, cells := 3, slots := 39, locals := 1650 } : Room) s m args below meth c H locs 0 0 (Ei below args s A D (fun (u : XV × IV × IV) => (xW t aX u.1 ++ (i28W t aI28 u.2.1 ++ (i48W t aI48 u.2.2)))) (fun (r : Int32) (u : XV × IV × IV) => Q r u.1 u.2.1 u.2.2) 3 39) (F0 m 791 ls [])) : ∀ (vX : XV) (vI28 : IV) (vI48 : IV) (x2 : Int32) (x3 : Int32) (x8 : Int32) (H : Heap) (locs : List Loc) (ls : Array Slot), bd_L_act_755 Q P K791 vX vI28 vI48 x2 x3 x8 → Wd D A s.heap (xW t aX vX ++ (i28W t aI28 vI28 ++ (i48W t aI48 vI48))) H locs → lv_has ls 13 [(0, .ref (XA.o aX)), (2, .int x2), (3, .int x3), (4, .ref aI28), (5, .ref aI48), (8, .int x8)] → W p l e ({ frames := 82, cells := 3, slots := 39, locals := 1650 } : Room) s m args below meth c H locs 0 0 (Ei below args s A D (fun (u : XV × IV × IV) => (xW t aX u.1 ++ (i28W t aI28 u.2.1 ++ (i48W t aI48 u.2.2)))) (fun (r : Int32) (u : XV × IV × IV) => Q r u.1 u.2.1 u.2.2) 3 39) (F0 m 755 ls []) := by
  intro vX vI28 vI48 x2 x3 x8 H locs ls h hw hl
  have hx := X.1.1
  have hb := X.1.2.1
  refine lv_iload hx hb dL_act_755 (lv_at hl 5 rfl) ?_
  refine lv_bipush (v := 8) hx hb dL_act_757 (by decide) ?_
  refine lv_icmp_ge (tgt := 791) hx hb dL_act_759 (by decide) (fun c_67 => ?_) (fun c_67 => ?_)
  · replace h := h.1 c_67
    exact hK791 _ _ _ _ _ _ h hw (lv_sub hl [0, 3, 4] rfl)
  replace h := h.2 c_67
  refine lv_aload hx hb dL_act_762 (lv_at hl 4 rfl) ?_
  refine lv_bipush (v := 8) hx hb dL_act_764 (by decide) ?_
  refine lv_aload hx hb dL_act_766 (lv_at hl 3 rfl) ?_
  refine lv_iconst (v := 3) hx hb dL_act_768 (by decide) ?_
  refine r_iald (v := (vI28 3)) X hw 61 rfl (vpl rfl) rfl dL_act_769 ?_
  refine lv_imul hx hb dL_act_770 ?_
  refine lv_iload hx hb dL_act_771 (lv_at hl 5 rfl) ?_
  refine lv_iadd hx hb dL_act_773 ?_
  refine lv_iload_n hx hb dL_act_774 rfl (lv_at hl 1 rfl) ?_
  refine lv_iload hx hb dL_act_775 (lv_at hl 5 rfl) ?_
  refine r_ishr hx hb dL_act_777 ?_
  refine lv_iload_n hx hb dL_act_778 rfl (lv_at hl 2 rfl) ?_
  refine lv_iadd hx hb dL_act_779 ?_
  refine lv_iconst (v := 4) hx hb dL_act_780 (by decide) ?_
  refine r_ci X hw pm_n (wn := fun (u : Unit) => (xW t aX vX ++ (i28W t aI28 vI28 ++ (i48W t aI48 vI48)))) (fun u => (pm_n).symm) (r_runS X hw (c_L_at l D t ((jshr x2 x8) + x3) 4 _ h) pm_n (va_cwS 2 X.1.2.2.2.2 gL_act_L_at rfl rfl rfl (by decide +kernel) ⟨Nat.le_of_ble_eq_true rfl, Nat.le_of_ble_eq_true rfl⟩) rfl hl rfl (Nat.le_of_ble_eq_true rfl) dL_act_781 ⟨Nat.le_of_ble_eq_true rfl, Nat.le_of_ble_eq_true rfl⟩) (fun r_63 u H locs h hw => ?_)
  obtain ⟨hi_64, h⟩ := h
  obtain ⟨o_65, eo_65⟩ : ∃ z : Nat → Int32, z = upd vI48 (Int32.toNatClampNeg ((8 * (vI28 3)) + x8)) r_63 := ⟨_, rfl⟩
  replace h := h o_65 eo_65
  refine r_iast (ws' := (xW t aX vX ++ (i28W t aI28 vI28 ++ (i48W t aI48 o_65)))) X hw 62 rfl hi_64 (by subst eo_65; rfl) dL_act_784 (fun H locs hw => ?_)
  obtain ⟨x8_66, ex8_66⟩ : ∃ z : Int32, z = x8 + 1 := ⟨_, rfl⟩
  replace h := h x8_66 ex8_66
  refine lv_iinc (v := x8_66) (lv' := [(8, .int x8_66), (0, .ref (XA.o aX)), (2, .int x2), (3, .int x3), (4, .ref aI28), (5, .ref aI48)]) hx hb dL_act_785 hl (k := 5) rfl (by rw [ex8_66]; rfl) (by decide) rfl (fun ls hl => ?_)
  refine lv_goto (tgt := 755) hx hb dL_act_788 (by decide) ?_
  exact hP _ _ _ _ _ _ _ _ _ h hw (lv_sub hl [1, 2, 3, 4, 5, 0] rfl)
set_option maxHeartbeats 4000000 in
set_option maxRecDepth 100000 in
theorem k_L_act_755 {p : Program} {l : Launch} {e : Env} {s : State} {m : MethodId} {below : List Frame} {meth : Method} {c : Code} {args : Array Value} {D : va_G} {t : T3} {A : Nat → Prop} (X : Cx p s m meth c args cL_act 13 (some .boolean) RL wsL_act D t A) (aX : XA) (aI28 : Nat) (aI48 : Nat) {Q : Int32 → XV → IV → IV → Prop} {K791 : XV → IV → IV → Prop} (hK791 : ∀ (vX : XV) (vI28 : IV) (vI48 : IV) (H : Heap) (locs : List Loc) (ls : Array Slot), K791 vX vI28 vI48 → Wd D A s.heap (xW t aX vX ++ (i28W t aI28 vI28 ++ (i48W t aI48 vI48))) H locs → lv_has ls 13 [(0, .ref (XA.o aX)), (4, .ref aI28), (5, .ref aI48)] → W p l e ({ frames := 82, cells := 3, slots := 39, locals := 1650 } : Room) s m args below meth c H locs 0 0 (Ei below args s A D (fun (u : XV × IV × IV) => (xW t aX u.1 ++ (i28W t aI28 u.2.1 ++ (i48W t aI48 u.2.2)))) (fun (r : Int32) (u : XV × IV × IV) => Q r u.1 u.2.1 u.2.2) 3 39) (F0 m 791 ls [])) : ∀ (vX : XV) (vI28 : IV) (vI48 : IV) (x2 : Int32) (x3 : Int32) (x8 : Int32) (H : Heap) (locs : List Loc) (ls : Array Slot), wp_L_act_755 Q K791 vX vI28 vI48 x2 x3 x8 → Wd D A s.heap (xW t aX vX ++ (i28W t aI28 vI28 ++ (i48W t aI48 vI48))) H locs → lv_has ls 13 [(0, .ref (XA.o aX)), (2, .int x2), (3, .int x3), (4, .ref aI28), (5, .ref aI48), (8, .int x8)] → W p l e ({ frames := 82, cells := 3, slots := 39, locals := 1650 } : Room) s m args below meth c H locs 0 0 (Ei below args s A D (fun (u : XV × IV × IV) => (xW t aX u.1 ++ (i28W t aI28 u.2.1 ++ (i48W t aI48 u.2.2)))) (fun (r : Int32) (u : XV × IV × IV) => Q r u.1 u.2.1 u.2.2) 3 39) (F0 m 755 ls []) := by
  intro vX vI28 vI48 x2 x3 x8 H locs ls h hw hl
  have hx := X.1.1
  have hb := X.1.2.1
  refine h (fun (vX : XV) (vI28 : IV) (vI48 : IV) (x2 : Int32) (x3 : Int32) (x8 : Int32) => ∀ (H : Heap) (locs : List Loc) (ls : Array Slot), Wd D A s.heap (xW t aX vX ++ (i28W t aI28 vI28 ++ (i48W t aI48 vI48))) H locs → lv_has ls 13 [(0, .ref (XA.o aX)), (2, .int x2), (3, .int x3), (4, .ref aI28), (5, .ref aI48), (8, .int x8)] → W p l e ({ frames := 82, cells := 3, slots := 39, locals := 1650 } : Room) s m args below meth c H locs 0 0 (Ei below args s A D (fun (u : XV × IV × IV) => (xW t aX u.1 ++ (i28W t aI28 u.2.1 ++ (i48W t aI48 u.2.2)))) (fun (r : Int32) (u : XV × IV × IV) => Q r u.1 u.2.1 u.2.2) 3 39) (F0 m 755 ls [])) (fun vX vI28 vI48 x2 x3 x8 h H locs ls hw hl => ?_) H locs ls hw hl
  exact kb_L_act_755 X aX aI28 aI48 (fun vX vI28 vI48 x2 x3 x8 H locs ls q hw hl => q H locs ls hw hl) hK791 vX vI28 vI48 x2 x3 x8 _ _ _ h hw hl
set_option maxHeartbeats 4000000 in
set_option maxRecDepth 100000 in
theorem kb_L_act_578 {p : Program} {l : Launch} {e : Env} {s : State} {m : MethodId} {below : List Frame} {meth : Method} {c : Code} {args : Array Value} {D : va_G} {t : T3} {A : Nat → Prop} (X : Cx p s m meth c args cL_act 13 (some .boolean) RL wsL_act D t A) (aX : XA) (aI28 : Nat) (aI48 : Nat) (aI28_87 : Nat) {Q : Int32 → XV → IV → IV → Prop} {P : XV → IV → IV → IV → Int32 → Int32 → Int32 → Prop} {K601 : XV → IV → IV → IV → Int32 → Int32 → Prop} (hP : ∀ (vX : XV) (vI28 : IV) (vI48 : IV) (vI281 : IV) (x6 : Int32) (x9 : Int32) (x10 : Int32) (H : Heap) (locs : List Loc) (ls : Array Slot), P vX vI28 vI48 vI281 x6 x9 x10 → Wd D A s.heap (xW t aX vX ++ (i28W t aI28 vI28 ++ (i48W t aI48 vI48 ++ (i28W t aI28_87 vI281)))) H locs → lv_has ls 13 [(0, .ref (XA.o aX)), (4, .ref aI28), (6, .int x6), (8, .ref aI28_87), (9, .int x9), (10, .int x10)] → W p l e ({ frames := 82, cells := 3, slots := 39, locals := 1650 } : Room) s m args below meth c H locs 1 28 (Ei below args s A D (fun (u : XV × IV × IV) => (xW t aX u.1 ++ (i28W t aI28 u.2.1 ++ (i48W t aI48 u.2.2)))) (fun (r : Int32) (u : XV × IV × IV) => Q r u.1 u.2.1 u.2.2) 3 39) (F0 m 578 ls [])) (hK601 : ∀ (vX : XV) (vI28 : IV) (vI48 : IV) (vI281 : IV) (x6 : Int32) (x9 : Int32) (H : Heap) (locs : List Loc) (ls : Array Slot), K601 vX vI28 vI48 vI281 x6 x9 → Wd D A s.heap (xW t aX vX ++ (i28W t aI28 vI28 ++ (i48W t aI48 vI48 ++ (i28W t aI28_87 vI281)))) H locs → lv_has ls 13 [(0, .ref (XA.o aX)), (4, .ref aI28), (6, .int x6), (8, .ref aI28_87), (9, .int x9)] → W p l e ({ frames := 82, cells := 3, slots := 39, locals := 1650 } : Room) s m args below meth c H locs 1 28 (Ei below args s A D (fun (u : XV × IV × IV) => (xW t aX u.1 ++ (i28W t aI28 u.2.1 ++ (i48W t aI48 u.2.2)))) (fun (r : Int32) (u : XV × IV × IV) => Q r u.1 u.2.1 u.2.2) 3 39) (F0 m 601 ls [])) : ∀ (vX : XV) (vI28 : IV) (vI48 : IV) (vI281 : IV) (x6 : Int32) (x9 : Int32) (x10 : Int32) (H : Heap) (locs : List Loc) (ls : Array Slot), bd_L_act_578 Q P K601 vX vI28 vI48 vI281 x6 x9 x10 → Wd D A s.heap (xW t aX vX ++ (i28W t aI28 vI28 ++ (i48W t aI48 vI48 ++ (i28W t aI28_87 vI281)))) H locs → lv_has ls 13 [(0, .ref (XA.o aX)), (4, .ref aI28), (6, .int x6), (8, .ref aI28_87), (9, .int x9), (10, .int x10)] → W p l e ({ frames := 82, cells := 3, slots := 39, locals := 1650 } : Room) s m args below meth c H locs 1 28 (Ei below args s A D (fun (u : XV × IV × IV) => (xW t aX u.1 ++ (i28W t aI28 u.2.1 ++ (i48W t aI48 u.2.2)))) (fun (r : Int32) (u : XV × IV × IV) => Q r u.1 u.2.1 u.2.2) 3 39) (F0 m 578 ls []) := by
  intro vX vI28 vI48 vI281 x6 x9 x10 H locs ls h hw hl
  have hx := X.1.1
  have hb := X.1.2.1
  refine lv_iload hx hb dL_act_578 (lv_at hl 5 rfl) ?_
  refine lv_bipush (v := 28) hx hb dL_act_580 (by decide) ?_
  refine lv_icmp_ge (tgt := 601) hx hb dL_act_582 (by decide) (fun c_93 => ?_) (fun c_93 => ?_)
  · replace h := h.1 c_93
    exact hK601 _ _ _ _ _ _ _ _ _ h hw (lv_sub hl [0, 1, 2, 3, 4] rfl)
  replace h := h.2 c_93
  refine lv_aload hx hb dL_act_585 (lv_at hl 3 rfl) ?_
  refine lv_iload hx hb dL_act_587 (lv_at hl 5 rfl) ?_
  refine lv_aload hx hb dL_act_589 (lv_at hl 1 rfl) ?_
  refine lv_iload hx hb dL_act_591 (lv_at hl 5 rfl) ?_
  obtain ⟨hi_88, h⟩ := h
  refine r_iald (v := (vI28 (Int32.toNatClampNeg x10))) X hw 61 rfl hi_88 rfl dL_act_593 ?_
  refine lv_topi (fun f_89 ef_89 => ?_)
  replace h := h f_89 ef_89
  obtain ⟨hi_90, h⟩ := h
  obtain ⟨o_91, eo_91⟩ : ∃ z : Nat → Int32, z = upd vI281 (Int32.toNatClampNeg x10) f_89 := ⟨_, rfl⟩
  replace h := h o_91 eo_91
  refine r_iast (ws' := (xW t aX vX ++ (i28W t aI28 vI28 ++ (i48W t aI48 vI48 ++ (i28W t aI28_87 o_91))))) X hw 63 rfl hi_90 (by subst eo_91; rfl) dL_act_594 (fun H locs hw => ?_)
  obtain ⟨x10_92, ex10_92⟩ : ∃ z : Int32, z = x10 + 1 := ⟨_, rfl⟩
  replace h := h x10_92 ex10_92
  refine lv_iinc (v := x10_92) (lv' := [(10, .int x10_92), (0, .ref (XA.o aX)), (4, .ref aI28), (6, .int x6), (8, .ref aI28_87), (9, .int x9)]) hx hb dL_act_595 hl (k := 5) rfl (by rw [ex10_92]; rfl) (by decide) rfl (fun ls hl => ?_)
  refine lv_goto (tgt := 578) hx hb dL_act_598 (by decide) ?_
  exact hP _ _ _ _ _ _ _ _ _ _ h hw (lv_sub hl [1, 2, 3, 4, 5, 0] rfl)
set_option maxHeartbeats 4000000 in
set_option maxRecDepth 100000 in
theorem k_L_act_578 {p : Program} {l : Launch} {e : Env} {s : State} {m : MethodId} {below : List Frame} {meth : Method} {c : Code} {args : Array Value} {D : va_G} {t : T3} {A : Nat → Prop} (X : Cx p s m meth c args cL_act 13 (some .boolean) RL wsL_act D t A) (aX : XA) (aI28 : Nat) (aI48 : Nat) (aI28_87 : Nat) {Q : Int32 → XV → IV → IV → Prop} {K601 : XV → IV → IV → IV → Int32 → Int32 → Prop} (hK601 : ∀ (vX : XV) (vI28 : IV) (vI48 : IV) (vI281 : IV) (x6 : Int32) (x9 : Int32) (H : Heap) (locs : List Loc) (ls : Array Slot), K601 vX vI28 vI48 vI281 x6 x9 → Wd D A s.heap (xW t aX vX ++ (i28W t aI28 vI28 ++ (i48W t aI48 vI48 ++ (i28W t aI28_87 vI281)))) H locs → lv_has ls 13 [(0, .ref (XA.o aX)), (4, .ref aI28), (6, .int x6), (8, .ref aI28_87), (9, .int x9)] → W p l e ({ frames := 82, cells := 3, slots := 39, locals := 1650 } : Room) s m args below meth c H locs 1 28 (Ei below args s A D (fun (u : XV × IV × IV) => (xW t aX u.1 ++ (i28W t aI28 u.2.1 ++ (i48W t aI48 u.2.2)))) (fun (r : Int32) (u : XV × IV × IV) => Q r u.1 u.2.1 u.2.2) 3 39) (F0 m 601 ls [])) : ∀ (vX : XV) (vI28 : IV) (vI48 : IV) (vI281 : IV) (x6 : Int32) (x9 : Int32) (x10 : Int32) (H : Heap) (locs : List Loc) (ls : Array Slot), wp_L_act_578 Q K601 vX vI28 vI48 vI281 x6 x9 x10 → Wd D A s.heap (xW t aX vX ++ (i28W t aI28 vI28 ++ (i48W t aI48 vI48 ++ (i28W t aI28_87 vI281)))) H locs → lv_has ls 13 [(0, .ref (XA.o aX)), (4, .ref aI28), (6, .int x6), (8, .ref aI28_87), (9, .int x9), (10, .int x10)] → W p l e ({ frames := 82, cells := 3, slots := 39, locals := 1650 } : Room) s m args below meth c H locs 1 28 (Ei below args s A D (fun (u : XV × IV × IV) => (xW t aX u.1 ++ (i28W t aI28 u.2.1 ++ (i48W t aI48 u.2.2)))) (fun (r : Int32) (u : XV × IV × IV) => Q r u.1 u.2.1 u.2.2) 3 39) (F0 m 578 ls []) := by
  intro vX vI28 vI48 vI281 x6 x9 x10 H locs ls h hw hl
  have hx := X.1.1
  have hb := X.1.2.1
  refine h (fun (vX : XV) (vI28 : IV) (vI48 : IV) (vI281 : IV) (x6 : Int32) (x9 : Int32) (x10 : Int32) => ∀ (H : Heap) (locs : List Loc) (ls : Array Slot), Wd D A s.heap (xW t aX vX ++ (i28W t aI28 vI28 ++ (i48W t aI48 vI48 ++ (i28W t aI28_87 vI281)))) H locs → lv_has ls 13 [(0, .ref (XA.o aX)), (4, .ref aI28), (6, .int x6), (8, .ref aI28_87), (9, .int x9), (10, .int x10)] → W p l e ({ frames := 82, cells := 3, slots := 39, locals := 1650 } : Room) s m args below meth c H locs 1 28 (Ei below args s A D (fun (u : XV × IV × IV) => (xW t aX u.1 ++ (i28W t aI28 u.2.1 ++ (i48W t aI48 u.2.2)))) (fun (r : Int32) (u : XV × IV × IV) => Q r u.1 u.2.1 u.2.2) 3 39) (F0 m 578 ls [])) (fun vX vI28 vI48 vI281 x6 x9 x10 h H locs ls hw hl => ?_) H locs ls hw hl
  exact kb_L_act_578 X aX aI28 aI48 aI28_87 (fun vX vI28 vI48 vI281 x6 x9 x10 H locs ls q hw hl => q H locs ls hw hl) hK601 vX vI28 vI48 vI281 x6 x9 x10 _ _ _ h hw hl
set_option maxHeartbeats 4000000 in
set_option maxRecDepth 100000 in
theorem k_L_act_711 {p : Program} {l : Launch} {e : Env} {s : State} {m : MethodId} {below : List Frame} {meth : Method} {c : Code} {args : Array Value} {D : va_G} {t : T3} {A : Nat → Prop} (X : Cx p s m meth c args cL_act 13 (some .boolean) RL wsL_act D t A) (aX : XA) (aI28 : Nat) (aI48 : Nat) (aI28_87 : Nat) {P : XV → IV → IV → IV → Int32 → Int32 → Int32 → Prop} {K720 : XV → IV → IV → IV → Int32 → Prop} {Q : Int32 → XV → IV → IV → Prop} (hP : ∀ (vX : XV) (vI28 : IV) (vI48 : IV) (vI281 : IV) (x6 : Int32) (x9 : Int32) (x10 : Int32) (H : Heap) (locs : List Loc) (ls : Array Slot), P vX vI28 vI48 vI281 x6 x9 x10 → Wd D A s.heap (xW t aX vX ++ (i28W t aI28 vI28 ++ (i48W t aI48 vI48 ++ (i28W t aI28_87 vI281)))) H locs → lv_has ls 13 [(0, .ref (XA.o aX)), (4, .ref aI28), (6, .int x6), (8, .ref aI28_87), (9, .int x9), (10, .int x10)] → W p l e ({ frames := 82, cells := 3, slots := 39, locals := 1650 } : Room) s m args below meth c H locs 1 28 (Ei below args s A D (fun (u : XV × IV × IV) => (xW t aX u.1 ++ (i28W t aI28 u.2.1 ++ (i48W t aI48 u.2.2)))) (fun (r : Int32) (u : XV × IV × IV) => Q r u.1 u.2.1 u.2.2) 3 39) (F0 m 604 ls [])) (hK720 : ∀ (vX : XV) (vI28 : IV) (vI48 : IV) (vI281 : IV) (x9 : Int32) (H : Heap) (locs : List Loc) (ls : Array Slot), K720 vX vI28 vI48 vI281 x9 → Wd D A s.heap (xW t aX vX ++ (i28W t aI28 vI28 ++ (i48W t aI48 vI48 ++ (i28W t aI28_87 vI281)))) H locs → lv_has ls 13 [(0, .ref (XA.o aX)), (9, .int x9)] → W p l e ({ frames := 82, cells := 3, slots := 39, locals := 1650 } : Room) s m args below meth c H locs 1 28 (Ei below args s A D (fun (u : XV × IV × IV) => (xW t aX u.1 ++ (i28W t aI28 u.2.1 ++ (i48W t aI48 u.2.2)))) (fun (r : Int32) (u : XV × IV × IV) => Q r u.1 u.2.1 u.2.2) 3 39) (F0 m 720 ls [])) : ∀ (vX : XV) (vI28 : IV) (vI48 : IV) (vI281 : IV) (x6 : Int32) (x10 : Int32) (t0 : Int32) (t1 : Int32) (H : Heap) (locs : List Loc) (ls : Array Slot), wp_L_act_711 P K720 Q vX vI28 vI48 vI281 x6 x10 t0 t1 → Wd D A s.heap (xW t aX vX ++ (i28W t aI28 vI28 ++ (i48W t aI48 vI48 ++ (i28W t aI28_87 vI281)))) H locs → lv_has ls 13 [(0, .ref (XA.o aX)), (4, .ref aI28), (6, .int x6), (8, .ref aI28_87), (10, .int x10)] → W p l e ({ frames := 82, cells := 3, slots := 39, locals := 1650 } : Room) s m args below meth c H locs 1 28 (Ei below args s A D (fun (u : XV × IV × IV) => (xW t aX u.1 ++ (i28W t aI28 u.2.1 ++ (i48W t aI48 u.2.2)))) (fun (r : Int32) (u : XV × IV × IV) => Q r u.1 u.2.1 u.2.2) 3 39) (F0 m 711 ls [.int t1, .int t0]) := by
  intro vX vI28 vI48 vI281 x6 x10 t0 t1 H locs ls h hw hl
  have hx := X.1.1
  have hb := X.1.2.1
  refine lv_iadd hx hb dL_act_711 ?_
  refine lv_topi (fun x9_111 ex9_111 => ?_)
  replace h := h x9_111 ex9_111
  refine lv_istore (lv' := [(9, .int x9_111), (0, .ref (XA.o aX)), (4, .ref aI28), (6, .int x6), (8, .ref aI28_87), (10, .int x10)]) hx hb dL_act_712 hl (by decide) rfl (fun ls hl => ?_)
  obtain ⟨x10_112, ex10_112⟩ : ∃ z : Int32, z = x10 + 1 := ⟨_, rfl⟩
  replace h := h x10_112 ex10_112
  refine lv_iinc (v := x10_112) (lv' := [(10, .int x10_112), (9, .int x9_111), (0, .ref (XA.o aX)), (4, .ref aI28), (6, .int x6), (8, .ref aI28_87)]) hx hb dL_act_714 hl (k := 5) rfl (by rw [ex10_112]; rfl) (by decide) rfl (fun ls hl => ?_)
  refine lv_goto (tgt := 604) hx hb dL_act_717 (by decide) ?_
  exact hP _ _ _ _ _ _ _ _ _ _ h hw (lv_sub hl [2, 3, 4, 5, 1, 0] rfl)
set_option maxHeartbeats 4000000 in
set_option maxRecDepth 100000 in
theorem k_L_act_682 {p : Program} {l : Launch} {e : Env} {s : State} {m : MethodId} {below : List Frame} {meth : Method} {c : Code} {args : Array Value} {D : va_G} {t : T3} {A : Nat → Prop} (X : Cx p s m meth c args cL_act 13 (some .boolean) RL wsL_act D t A) (aX : XA) (aI28 : Nat) (aI48 : Nat) (aI28_87 : Nat) {P : XV → IV → IV → IV → Int32 → Int32 → Int32 → Prop} {K720 : XV → IV → IV → IV → Int32 → Prop} {Q : Int32 → XV → IV → IV → Prop} (hP : ∀ (vX : XV) (vI28 : IV) (vI48 : IV) (vI281 : IV) (x6 : Int32) (x9 : Int32) (x10 : Int32) (H : Heap) (locs : List Loc) (ls : Array Slot), P vX vI28 vI48 vI281 x6 x9 x10 → Wd D A s.heap (xW t aX vX ++ (i28W t aI28 vI28 ++ (i48W t aI48 vI48 ++ (i28W t aI28_87 vI281)))) H locs → lv_has ls 13 [(0, .ref (XA.o aX)), (4, .ref aI28), (6, .int x6), (8, .ref aI28_87), (9, .int x9), (10, .int x10)] → W p l e ({ frames := 82, cells := 3, slots := 39, locals := 1650 } : Room) s m args below meth c H locs 1 28 (Ei below args s A D (fun (u : XV × IV × IV) => (xW t aX u.1 ++ (i28W t aI28 u.2.1 ++ (i48W t aI48 u.2.2)))) (fun (r : Int32) (u : XV × IV × IV) => Q r u.1 u.2.1 u.2.2) 3 39) (F0 m 604 ls [])) (hK720 : ∀ (vX : XV) (vI28 : IV) (vI48 : IV) (vI281 : IV) (x9 : Int32) (H : Heap) (locs : List Loc) (ls : Array Slot), K720 vX vI28 vI48 vI281 x9 → Wd D A s.heap (xW t aX vX ++ (i28W t aI28 vI28 ++ (i48W t aI48 vI48 ++ (i28W t aI28_87 vI281)))) H locs → lv_has ls 13 [(0, .ref (XA.o aX)), (9, .int x9)] → W p l e ({ frames := 82, cells := 3, slots := 39, locals := 1650 } : Room) s m args below meth c H locs 1 28 (Ei below args s A D (fun (u : XV × IV × IV) => (xW t aX u.1 ++ (i28W t aI28 u.2.1 ++ (i48W t aI48 u.2.2)))) (fun (r : Int32) (u : XV × IV × IV) => Q r u.1 u.2.1 u.2.2) 3 39) (F0 m 720 ls [])) : ∀ (vX : XV) (vI28 : IV) (vI48 : IV) (vI281 : IV) (x6 : Int32) (x9 : Int32) (x10 : Int32) (x11 : Int32) (x12 : Int32) (t1 : Int32) (t2 : Int32) (H : Heap) (locs : List Loc) (ls : Array Slot), wp_L_act_682 P K720 Q vX vI28 vI48 vI281 x6 x9 x10 x11 x12 t1 t2 → Wd D A s.heap (xW t aX vX ++ (i28W t aI28 vI28 ++ (i48W t aI48 vI48 ++ (i28W t aI28_87 vI281)))) H locs → lv_has ls 13 [(0, .ref (XA.o aX)), (4, .ref aI28), (6, .int x6), (8, .ref aI28_87), (9, .int x9), (10, .int x10), (11, .int x11), (12, .int x12)] → W p l e ({ frames := 82, cells := 3, slots := 39, locals := 1650 } : Room) s m args below meth c H locs 1 28 (Ei below args s A D (fun (u : XV × IV × IV) => (xW t aX u.1 ++ (i28W t aI28 u.2.1 ++ (i48W t aI48 u.2.2)))) (fun (r : Int32) (u : XV × IV × IV) => Q r u.1 u.2.1 u.2.2) 3 39) (F0 m 682 ls [.int t2, .int t1, .ref aI28]) := by
  intro vX vI28 vI48 vI281 x6 x9 x10 x11 x12 t1 t2 H locs ls h hw hl
  have hx := X.1.1
  have hb := X.1.2.1
  obtain ⟨hi_105, h⟩ := h
  obtain ⟨o_106, eo_106⟩ : ∃ z : Nat → Int32, z = upd vI28 (Int32.toNatClampNeg t1) t2 := ⟨_, rfl⟩
  replace h := h o_106 eo_106
  refine r_iast (ws' := (xW t aX vX ++ (i28W t aI28 o_106 ++ (i48W t aI48 vI48 ++ (i28W t aI28_87 vI281))))) X hw 61 rfl hi_105 (by subst eo_106; rfl) dL_act_682 (fun H locs hw => ?_)
  refine lv_aload hx hb dL_act_683 (lv_at hl 1 rfl) ?_
  refine lv_bipush (v := 16) hx hb dL_act_685 (by decide) ?_
  refine lv_iload hx hb dL_act_687 (lv_at hl 5 rfl) ?_
  refine lv_iadd hx hb dL_act_689 ?_
  refine lv_aload hx hb dL_act_690 (lv_at hl 3 rfl) ?_
  refine lv_bipush (v := 16) hx hb dL_act_692 (by decide) ?_
  refine lv_iload hx hb dL_act_694 (lv_at hl 6 rfl) ?_
  refine lv_iadd hx hb dL_act_696 ?_
  obtain ⟨hi_107, h⟩ := h
  refine r_iald (v := (vI281 (Int32.toNatClampNeg (16 + x11)))) X hw 63 rfl hi_107 rfl dL_act_697 ?_
  refine lv_topi (fun f_108 ef_108 => ?_)
  replace h := h f_108 ef_108
  obtain ⟨hi_109, h⟩ := h
  obtain ⟨o_110, eo_110⟩ : ∃ z : Nat → Int32, z = upd o_106 (Int32.toNatClampNeg (16 + x10)) f_108 := ⟨_, rfl⟩
  replace h := h o_110 eo_110
  refine r_iast (ws' := (xW t aX vX ++ (i28W t aI28 o_110 ++ (i48W t aI48 vI48 ++ (i28W t aI28_87 vI281))))) X hw 61 rfl hi_109 (by subst eo_110; rfl) dL_act_698 (fun H locs hw => ?_)
  refine lv_iload hx hb dL_act_699 (lv_at hl 4 rfl) ?_
  refine lv_iload hx hb dL_act_701 (lv_at hl 7 rfl) ?_
  refine lv_if_ge (tgt := 710) hx hb dL_act_703 (by decide) (fun c_113 => ?_) (fun c_113 => ?_)
  · replace h := h.1 c_113
    refine lv_iconst (v := 1) hx hb dL_act_710 (by decide) ?_
    exact k_L_act_711 X aX aI28 aI48 aI28_87 hP hK720 _ _ _ _ _ _ _ _ _ _ _ h hw (lv_sub hl [0, 1, 2, 3, 5] rfl)
  replace h := h.2 c_113
  refine lv_iconst (v := 0) hx hb dL_act_706 (by decide) ?_
  refine lv_goto (tgt := 711) hx hb dL_act_707 (by decide) ?_
  exact k_L_act_711 X aX aI28 aI48 aI28_87 hP hK720 _ _ _ _ _ _ _ _ _ _ _ h hw (lv_sub hl [0, 1, 2, 3, 5] rfl)
set_option maxHeartbeats 4000000 in
set_option maxRecDepth 100000 in
theorem kb_L_act_604 {p : Program} {l : Launch} {e : Env} {s : State} {m : MethodId} {below : List Frame} {meth : Method} {c : Code} {args : Array Value} {D : va_G} {t : T3} {A : Nat → Prop} (X : Cx p s m meth c args cL_act 13 (some .boolean) RL wsL_act D t A) (aX : XA) (aI28 : Nat) (aI48 : Nat) (aI28_87 : Nat) {Q : Int32 → XV → IV → IV → Prop} {P : XV → IV → IV → IV → Int32 → Int32 → Int32 → Prop} {K720 : XV → IV → IV → IV → Int32 → Prop} (hP : ∀ (vX : XV) (vI28 : IV) (vI48 : IV) (vI281 : IV) (x6 : Int32) (x9 : Int32) (x10 : Int32) (H : Heap) (locs : List Loc) (ls : Array Slot), P vX vI28 vI48 vI281 x6 x9 x10 → Wd D A s.heap (xW t aX vX ++ (i28W t aI28 vI28 ++ (i48W t aI48 vI48 ++ (i28W t aI28_87 vI281)))) H locs → lv_has ls 13 [(0, .ref (XA.o aX)), (4, .ref aI28), (6, .int x6), (8, .ref aI28_87), (9, .int x9), (10, .int x10)] → W p l e ({ frames := 82, cells := 3, slots := 39, locals := 1650 } : Room) s m args below meth c H locs 1 28 (Ei below args s A D (fun (u : XV × IV × IV) => (xW t aX u.1 ++ (i28W t aI28 u.2.1 ++ (i48W t aI48 u.2.2)))) (fun (r : Int32) (u : XV × IV × IV) => Q r u.1 u.2.1 u.2.2) 3 39) (F0 m 604 ls [])) (hK720 : ∀ (vX : XV) (vI28 : IV) (vI48 : IV) (vI281 : IV) (x9 : Int32) (H : Heap) (locs : List Loc) (ls : Array Slot), K720 vX vI28 vI48 vI281 x9 → Wd D A s.heap (xW t aX vX ++ (i28W t aI28 vI28 ++ (i48W t aI48 vI48 ++ (i28W t aI28_87 vI281)))) H locs → lv_has ls 13 [(0, .ref (XA.o aX)), (9, .int x9)] → W p l e ({ frames := 82, cells := 3, slots := 39, locals := 1650 } : Room) s m args below meth c H locs 1 28 (Ei below args s A D (fun (u : XV × IV × IV) => (xW t aX u.1 ++ (i28W t aI28 u.2.1 ++ (i48W t aI48 u.2.2)))) (fun (r : Int32) (u : XV × IV × IV) => Q r u.1 u.2.1 u.2.2) 3 39) (F0 m 720 ls [])) : ∀ (vX : XV) (vI28 : IV) (vI48 : IV) (vI281 : IV) (x6 : Int32) (x9 : Int32) (x10 : Int32) (H : Heap) (locs : List Loc) (ls : Array Slot), bd_L_act_604 Q P K720 vX vI28 vI48 vI281 x6 x9 x10 → Wd D A s.heap (xW t aX vX ++ (i28W t aI28 vI28 ++ (i48W t aI48 vI48 ++ (i28W t aI28_87 vI281)))) H locs → lv_has ls 13 [(0, .ref (XA.o aX)), (4, .ref aI28), (6, .int x6), (8, .ref aI28_87), (9, .int x9), (10, .int x10)] → W p l e ({ frames := 82, cells := 3, slots := 39, locals := 1650 } : Room) s m args below meth c H locs 1 28 (Ei below args s A D (fun (u : XV × IV × IV) => (xW t aX u.1 ++ (i28W t aI28 u.2.1 ++ (i48W t aI48 u.2.2)))) (fun (r : Int32) (u : XV × IV × IV) => Q r u.1 u.2.1 u.2.2) 3 39) (F0 m 604 ls []) := by
  intro vX vI28 vI48 vI281 x6 x9 x10 H locs ls h hw hl
  have hx := X.1.1
  have hb := X.1.2.1
  refine lv_iload hx hb dL_act_604 (lv_at hl 5 rfl) ?_
  refine lv_iload hx hb dL_act_606 (lv_at hl 2 rfl) ?_
  refine lv_icmp_ge (tgt := 720) hx hb dL_act_608 (by decide) (fun c_115 => ?_) (fun c_115 => ?_)
  · replace h := h.1 c_115
    exact hK720 _ _ _ _ _ _ _ _ h hw (lv_sub hl [0, 4] rfl)
  replace h := h.2 c_115
  refine lv_iload hx hb dL_act_611 (lv_at hl 5 rfl) ?_
  refine lv_aload hx hb dL_act_613 (lv_at hl 1 rfl) ?_
  refine lv_iconst (v := 1) hx hb dL_act_615 (by decide) ?_
  refine r_iald (v := (vI28 1)) X hw 61 rfl (vpl rfl) rfl dL_act_616 ?_
  obtain ⟨hn_100, h⟩ := h
  refine lv_idiv hx hb dL_act_617 hn_100 ?_
  refine lv_aload hx hb dL_act_618 (lv_at hl 1 rfl) ?_
  refine lv_iconst (v := 1) hx hb dL_act_620 (by decide) ?_
  refine r_iald (v := (vI28 1)) X hw 61 rfl (vpl rfl) rfl dL_act_621 ?_
  refine lv_imul hx hb dL_act_622 ?_
  refine lv_aload hx hb dL_act_623 (lv_at hl 1 rfl) ?_
  refine lv_iconst (v := 1) hx hb dL_act_625 (by decide) ?_
  refine r_iald (v := (vI28 1)) X hw 61 rfl (vpl rfl) rfl dL_act_626 ?_
  refine lv_iadd hx hb dL_act_627 ?_
  refine lv_iconst (v := 1) hx hb dL_act_628 (by decide) ?_
  refine lv_isub hx hb dL_act_629 ?_
  refine lv_iload hx hb dL_act_630 (lv_at hl 5 rfl) ?_
  refine lv_aload hx hb dL_act_632 (lv_at hl 1 rfl) ?_
  refine lv_iconst (v := 1) hx hb dL_act_634 (by decide) ?_
  refine r_iald (v := (vI28 1)) X hw 61 rfl (vpl rfl) rfl dL_act_635 ?_
  obtain ⟨hn_101, h⟩ := h
  refine r_irem hx hb dL_act_636 hn_101 ?_
  refine lv_isub hx hb dL_act_637 ?_
  refine lv_topi (fun x11_102 ex11_102 => ?_)
  replace h := h x11_102 ex11_102
  refine lv_istore (lv' := [(11, .int x11_102), (0, .ref (XA.o aX)), (4, .ref aI28), (6, .int x6), (8, .ref aI28_87), (9, .int x9), (10, .int x10)]) hx hb dL_act_638 hl (by decide) rfl (fun ls hl => ?_)
  refine lv_aload hx hb dL_act_640 (lv_at hl 4 rfl) ?_
  refine lv_iconst (v := 4) hx hb dL_act_642 (by decide) ?_
  refine lv_iload hx hb dL_act_643 (lv_at hl 0 rfl) ?_
  refine lv_iadd hx hb dL_act_645 ?_
  obtain ⟨hi_103, h⟩ := h
  refine r_iald (v := (vI281 (Int32.toNatClampNeg (4 + x11_102)))) X hw 63 rfl hi_103 rfl dL_act_646 ?_
  refine lv_topi (fun x12_104 ex12_104 => ?_)
  replace h := h x12_104 ex12_104
  refine lv_istore (lv' := [(12, .int x12_104), (11, .int x11_102), (0, .ref (XA.o aX)), (4, .ref aI28), (6, .int x6), (8, .ref aI28_87), (9, .int x9), (10, .int x10)]) hx hb dL_act_647 hl (by decide) rfl (fun ls hl => ?_)
  refine lv_aload hx hb dL_act_649 (lv_at hl 3 rfl) ?_
  refine lv_iconst (v := 4) hx hb dL_act_651 (by decide) ?_
  refine lv_iload hx hb dL_act_652 (lv_at hl 7 rfl) ?_
  refine lv_iadd hx hb dL_act_654 ?_
  refine lv_iload hx hb dL_act_655 (lv_at hl 0 rfl) ?_
  refine lv_if_ge (tgt := 664) hx hb dL_act_657 (by decide) (fun c_114 => ?_) (fun c_114 => ?_)
  · replace h := h.1 c_114
    refine lv_iload hx hb dL_act_664 (lv_at hl 0 rfl) ?_
    refine lv_iconst (v := 4) hx hb dL_act_666 (by decide) ?_
    refine lv_ixor hx hb dL_act_667 ?_
    refine lv_iload hx hb dL_act_668 (lv_at hl 0 rfl) ?_
    refine lv_iconst (v := 4) hx hb dL_act_670 (by decide) ?_
    refine r_irem hx hb dL_act_671 (by decide) ?_
    refine lv_isub hx hb dL_act_672 ?_
    refine lv_iconst (v := 4) hx hb dL_act_673 (by decide) ?_
    refine lv_iload hx hb dL_act_674 (lv_at hl 0 rfl) ?_
    refine lv_iconst (v := 4) hx hb dL_act_676 (by decide) ?_
    refine r_irem hx hb dL_act_677 (by decide) ?_
    refine lv_isub hx hb dL_act_678 ?_
    refine lv_iconst (v := 4) hx hb dL_act_679 (by decide) ?_
    refine r_irem hx hb dL_act_680 (by decide) ?_
    refine lv_iadd hx hb dL_act_681 ?_
    exact k_L_act_682 X aX aI28 aI48 aI28_87 hP hK720 _ _ _ _ _ _ _ _ _ _ _ _ _ _ h hw (lv_sub hl [2, 3, 4, 5, 6, 7, 1, 0] rfl)
  replace h := h.2 c_114
  refine lv_iconst (v := (-1)) hx hb dL_act_660 (by decide) ?_
  refine lv_goto (tgt := 682) hx hb dL_act_661 (by decide) ?_
  exact k_L_act_682 X aX aI28 aI48 aI28_87 hP hK720 _ _ _ _ _ _ _ _ _ _ _ _ _ _ h hw (lv_sub hl [2, 3, 4, 5, 6, 7, 1, 0] rfl)
set_option maxHeartbeats 4000000 in
set_option maxRecDepth 100000 in
theorem k_L_act_604 {p : Program} {l : Launch} {e : Env} {s : State} {m : MethodId} {below : List Frame} {meth : Method} {c : Code} {args : Array Value} {D : va_G} {t : T3} {A : Nat → Prop} (X : Cx p s m meth c args cL_act 13 (some .boolean) RL wsL_act D t A) (aX : XA) (aI28 : Nat) (aI48 : Nat) (aI28_87 : Nat) {Q : Int32 → XV → IV → IV → Prop} {K720 : XV → IV → IV → IV → Int32 → Prop} (hK720 : ∀ (vX : XV) (vI28 : IV) (vI48 : IV) (vI281 : IV) (x9 : Int32) (H : Heap) (locs : List Loc) (ls : Array Slot), K720 vX vI28 vI48 vI281 x9 → Wd D A s.heap (xW t aX vX ++ (i28W t aI28 vI28 ++ (i48W t aI48 vI48 ++ (i28W t aI28_87 vI281)))) H locs → lv_has ls 13 [(0, .ref (XA.o aX)), (9, .int x9)] → W p l e ({ frames := 82, cells := 3, slots := 39, locals := 1650 } : Room) s m args below meth c H locs 1 28 (Ei below args s A D (fun (u : XV × IV × IV) => (xW t aX u.1 ++ (i28W t aI28 u.2.1 ++ (i48W t aI48 u.2.2)))) (fun (r : Int32) (u : XV × IV × IV) => Q r u.1 u.2.1 u.2.2) 3 39) (F0 m 720 ls [])) : ∀ (vX : XV) (vI28 : IV) (vI48 : IV) (vI281 : IV) (x6 : Int32) (x9 : Int32) (x10 : Int32) (H : Heap) (locs : List Loc) (ls : Array Slot), wp_L_act_604 Q K720 vX vI28 vI48 vI281 x6 x9 x10 → Wd D A s.heap (xW t aX vX ++ (i28W t aI28 vI28 ++ (i48W t aI48 vI48 ++ (i28W t aI28_87 vI281)))) H locs → lv_has ls 13 [(0, .ref (XA.o aX)), (4, .ref aI28), (6, .int x6), (8, .ref aI28_87), (9, .int x9), (10, .int x10)] → W p l e ({ frames := 82, cells := 3, slots := 39, locals := 1650 } : Room) s m args below meth c H locs 1 28 (Ei below args s A D (fun (u : XV × IV × IV) => (xW t aX u.1 ++ (i28W t aI28 u.2.1 ++ (i48W t aI48 u.2.2)))) (fun (r : Int32) (u : XV × IV × IV) => Q r u.1 u.2.1 u.2.2) 3 39) (F0 m 604 ls []) := by
  intro vX vI28 vI48 vI281 x6 x9 x10 H locs ls h hw hl
  have hx := X.1.1
  have hb := X.1.2.1
  refine h (fun (vX : XV) (vI28 : IV) (vI48 : IV) (vI281 : IV) (x6 : Int32) (x9 : Int32) (x10 : Int32) => ∀ (H : Heap) (locs : List Loc) (ls : Array Slot), Wd D A s.heap (xW t aX vX ++ (i28W t aI28 vI28 ++ (i48W t aI48 vI48 ++ (i28W t aI28_87 vI281)))) H locs → lv_has ls 13 [(0, .ref (XA.o aX)), (4, .ref aI28), (6, .int x6), (8, .ref aI28_87), (9, .int x9), (10, .int x10)] → W p l e ({ frames := 82, cells := 3, slots := 39, locals := 1650 } : Room) s m args below meth c H locs 1 28 (Ei below args s A D (fun (u : XV × IV × IV) => (xW t aX u.1 ++ (i28W t aI28 u.2.1 ++ (i48W t aI48 u.2.2)))) (fun (r : Int32) (u : XV × IV × IV) => Q r u.1 u.2.1 u.2.2) 3 39) (F0 m 604 ls [])) (fun vX vI28 vI48 vI281 x6 x9 x10 h H locs ls hw hl => ?_) H locs ls hw hl
  exact kb_L_act_604 X aX aI28 aI48 aI28_87 (fun vX vI28 vI48 vI281 x6 x9 x10 H locs ls q hw hl => q H locs ls hw hl) hK720 vX vI28 vI48 vI281 x6 x9 x10 _ _ _ h hw hl
set_option maxHeartbeats 4000000 in
set_option maxRecDepth 100000 in
theorem k_L_act_539 {p : Program} {l : Launch} {e : Env} {s : State} {m : MethodId} {below : List Frame} {meth : Method} {c : Code} {args : Array Value} {D : va_G} {t : T3} {A : Nat → Prop} (X : Cx p s m meth c args cL_act 13 (some .boolean) RL wsL_act D t A) (aX : XA) (aI28 : Nat) (aI48 : Nat) {P : XV → IV → IV → Int32 → Int32 → Int32 → Prop} {K545 : XV → IV → IV → Int32 → Prop} {Q : Int32 → XV → IV → IV → Prop} (hP : ∀ (vX : XV) (vI28 : IV) (vI48 : IV) (x6 : Int32) (x8 : Int32) (x9 : Int32) (H : Heap) (locs : List Loc) (ls : Array Slot), P vX vI28 vI48 x6 x8 x9 → Wd D A s.heap (xW t aX vX ++ (i28W t aI28 vI28 ++ (i48W t aI48 vI48))) H locs → lv_has ls 13 [(0, .ref (XA.o aX)), (4, .ref aI28), (6, .int x6), (8, .int x8), (9, .int x9)] → W p l e ({ frames := 82, cells := 3, slots := 39, locals := 1650 } : Room) s m args below meth c H locs 0 0 (Ei below args s A D (fun (u : XV × IV × IV) => (xW t aX u.1 ++ (i28W t aI28 u.2.1 ++ (i48W t aI48 u.2.2)))) (fun (r : Int32) (u : XV × IV × IV) => Q r u.1 u.2.1 u.2.2) 3 39) (F0 m 496 ls [])) (hK545 : ∀ (vX : XV) (vI28 : IV) (vI48 : IV) (x8 : Int32) (H : Heap) (locs : List Loc) (ls : Array Slot), K545 vX vI28 vI48 x8 → Wd D A s.heap (xW t aX vX ++ (i28W t aI28 vI28 ++ (i48W t aI48 vI48))) H locs → lv_has ls 13 [(0, .ref (XA.o aX)), (8, .int x8)] → W p l e ({ frames := 82, cells := 3, slots := 39, locals := 1650 } : Room) s m args below meth c H locs 0 0 (Ei below args s A D (fun (u : XV × IV × IV) => (xW t aX u.1 ++ (i28W t aI28 u.2.1 ++ (i48W t aI48 u.2.2)))) (fun (r : Int32) (u : XV × IV × IV) => Q r u.1 u.2.1 u.2.2) 3 39) (F0 m 545 ls [])) : ∀ (vX : XV) (vI28 : IV) (vI48 : IV) (x6 : Int32) (x8 : Int32) (x9 : Int32) (H : Heap) (locs : List Loc) (ls : Array Slot), wp_L_act_539 P K545 Q vX vI28 vI48 x6 x8 x9 → Wd D A s.heap (xW t aX vX ++ (i28W t aI28 vI28 ++ (i48W t aI48 vI48))) H locs → lv_has ls 13 [(0, .ref (XA.o aX)), (4, .ref aI28), (6, .int x6), (8, .int x8), (9, .int x9)] → W p l e ({ frames := 82, cells := 3, slots := 39, locals := 1650 } : Room) s m args below meth c H locs 0 0 (Ei below args s A D (fun (u : XV × IV × IV) => (xW t aX u.1 ++ (i28W t aI28 u.2.1 ++ (i48W t aI48 u.2.2)))) (fun (r : Int32) (u : XV × IV × IV) => Q r u.1 u.2.1 u.2.2) 3 39) (F0 m 539 ls []) := by
  intro vX vI28 vI48 x6 x8 x9 H locs ls h hw hl
  have hx := X.1.1
  have hb := X.1.2.1
  obtain ⟨x9_126, ex9_126⟩ : ∃ z : Int32, z = x9 + 1 := ⟨_, rfl⟩
  replace h := h x9_126 ex9_126
  refine lv_iinc (v := x9_126) (lv' := [(9, .int x9_126), (0, .ref (XA.o aX)), (4, .ref aI28), (6, .int x6), (8, .int x8)]) hx hb dL_act_539 hl (k := 4) rfl (by rw [ex9_126]; rfl) (by decide) rfl (fun ls hl => ?_)
  refine lv_goto (tgt := 496) hx hb dL_act_542 (by decide) ?_
  exact hP _ _ _ _ _ _ _ _ _ h hw (lv_sub hl [1, 2, 3, 4, 0] rfl)
set_option maxHeartbeats 4000000 in
set_option maxRecDepth 100000 in
theorem kb_L_act_496 {p : Program} {l : Launch} {e : Env} {s : State} {m : MethodId} {below : List Frame} {meth : Method} {c : Code} {args : Array Value} {D : va_G} {t : T3} {A : Nat → Prop} (X : Cx p s m meth c args cL_act 13 (some .boolean) RL wsL_act D t A) (aX : XA) (aI28 : Nat) (aI48 : Nat) {Q : Int32 → XV → IV → IV → Prop} {P : XV → IV → IV → Int32 → Int32 → Int32 → Prop} {K545 : XV → IV → IV → Int32 → Prop} (hP : ∀ (vX : XV) (vI28 : IV) (vI48 : IV) (x6 : Int32) (x8 : Int32) (x9 : Int32) (H : Heap) (locs : List Loc) (ls : Array Slot), P vX vI28 vI48 x6 x8 x9 → Wd D A s.heap (xW t aX vX ++ (i28W t aI28 vI28 ++ (i48W t aI48 vI48))) H locs → lv_has ls 13 [(0, .ref (XA.o aX)), (4, .ref aI28), (6, .int x6), (8, .int x8), (9, .int x9)] → W p l e ({ frames := 82, cells := 3, slots := 39, locals := 1650 } : Room) s m args below meth c H locs 0 0 (Ei below args s A D (fun (u : XV × IV × IV) => (xW t aX u.1 ++ (i28W t aI28 u.2.1 ++ (i48W t aI48 u.2.2)))) (fun (r : Int32) (u : XV × IV × IV) => Q r u.1 u.2.1 u.2.2) 3 39) (F0 m 496 ls [])) (hK545 : ∀ (vX : XV) (vI28 : IV) (vI48 : IV) (x8 : Int32) (H : Heap) (locs : List Loc) (ls : Array Slot), K545 vX vI28 vI48 x8 → Wd D A s.heap (xW t aX vX ++ (i28W t aI28 vI28 ++ (i48W t aI48 vI48))) H locs → lv_has ls 13 [(0, .ref (XA.o aX)), (8, .int x8)] → W p l e ({ frames := 82, cells := 3, slots := 39, locals := 1650 } : Room) s m args below meth c H locs 0 0 (Ei below args s A D (fun (u : XV × IV × IV) => (xW t aX u.1 ++ (i28W t aI28 u.2.1 ++ (i48W t aI48 u.2.2)))) (fun (r : Int32) (u : XV × IV × IV) => Q r u.1 u.2.1 u.2.2) 3 39) (F0 m 545 ls [])) : ∀ (vX : XV) (vI28 : IV) (vI48 : IV) (x6 : Int32) (x8 : Int32) (x9 : Int32) (H : Heap) (locs : List Loc) (ls : Array Slot), bd_L_act_496 Q P K545 vX vI28 vI48 x6 x8 x9 → Wd D A s.heap (xW t aX vX ++ (i28W t aI28 vI28 ++ (i48W t aI48 vI48))) H locs → lv_has ls 13 [(0, .ref (XA.o aX)), (4, .ref aI28), (6, .int x6), (8, .int x8), (9, .int x9)] → W p l e ({ frames := 82, cells := 3, slots := 39, locals := 1650 } : Room) s m args below meth c H locs 0 0 (Ei below args s A D (fun (u : XV × IV × IV) => (xW t aX u.1 ++ (i28W t aI28 u.2.1 ++ (i48W t aI48 u.2.2)))) (fun (r : Int32) (u : XV × IV × IV) => Q r u.1 u.2.1 u.2.2) 3 39) (F0 m 496 ls []) := by
  intro vX vI28 vI48 x6 x8 x9 H locs ls h hw hl
  have hx := X.1.1
  have hb := X.1.2.1
  refine lv_iload hx hb dL_act_496 (lv_at hl 4 rfl) ?_
  refine lv_iload hx hb dL_act_498 (lv_at hl 2 rfl) ?_
  refine lv_icmp_ge (tgt := 545) hx hb dL_act_500 (by decide) (fun c_133 => ?_) (fun c_133 => ?_)
  · replace h := h.1 c_133
    exact hK545 _ _ _ _ _ _ _ h hw (lv_sub hl [0, 3] rfl)
  replace h := h.2 c_133
  refine lv_aload hx hb dL_act_503 (lv_at hl 1 rfl) ?_
  refine lv_iconst (v := 4) hx hb dL_act_505 (by decide) ?_
  refine lv_iload hx hb dL_act_506 (lv_at hl 4 rfl) ?_
  refine lv_iadd hx hb dL_act_508 ?_
  obtain ⟨hi_125, h⟩ := h
  refine r_iald (v := (vI28 (Int32.toNatClampNeg (4 + x9)))) X hw 61 rfl hi_125 rfl dL_act_509 ?_
  refine lv_if_lt (tgt := 539) hx hb dL_act_510 (by decide) (fun c_132 => ?_) (fun c_132 => ?_)
  · replace h := h.1 c_132
    exact k_L_act_539 X aX aI28 aI48 hP hK545 _ _ _ _ _ _ _ _ _ h hw hl
  replace h := h.2 c_132
  refine lv_aload hx hb dL_act_513 (lv_at hl 1 rfl) ?_
  refine lv_bipush (v := 16) hx hb dL_act_515 (by decide) ?_
  refine lv_iload hx hb dL_act_517 (lv_at hl 4 rfl) ?_
  refine lv_iadd hx hb dL_act_519 ?_
  obtain ⟨hi_127, h⟩ := h
  refine r_iald (v := (vI28 (Int32.toNatClampNeg (16 + x9)))) X hw 61 rfl hi_127 rfl dL_act_520 ?_
  refine lv_iconst (v := 1) hx hb dL_act_521 (by decide) ?_
  refine lv_icmp_ne (tgt := 528) hx hb dL_act_522 (by decide) (fun c_131 => ?_) (fun c_131 => ?_)
  · replace h := h.1 c_131
    refine lv_aload hx hb dL_act_528 (lv_at hl 1 rfl) ?_
    refine lv_iconst (v := 4) hx hb dL_act_530 (by decide) ?_
    refine lv_iload hx hb dL_act_531 (lv_at hl 4 rfl) ?_
    refine lv_iadd hx hb dL_act_533 ?_
    refine lv_iconst (v := (-1)) hx hb dL_act_534 (by decide) ?_
    obtain ⟨hi_128, h⟩ := h
    obtain ⟨o_129, eo_129⟩ : ∃ z : Nat → Int32, z = upd vI28 (Int32.toNatClampNeg (4 + x9)) (-1) := ⟨_, rfl⟩
    replace h := h o_129 eo_129
    refine r_iast (ws' := (xW t aX vX ++ (i28W t aI28 o_129 ++ (i48W t aI48 vI48)))) X hw 61 rfl hi_128 (by subst eo_129; rfl) dL_act_535 (fun H locs hw => ?_)
    obtain ⟨x8_130, ex8_130⟩ : ∃ z : Int32, z = x8 + 1 := ⟨_, rfl⟩
    replace h := h x8_130 ex8_130
    refine lv_iinc (v := x8_130) (lv' := [(8, .int x8_130), (0, .ref (XA.o aX)), (4, .ref aI28), (6, .int x6), (9, .int x9)]) hx hb dL_act_536 hl (k := 3) rfl (by rw [ex8_130]; rfl) (by decide) rfl (fun ls hl => ?_)
    exact k_L_act_539 X aX aI28 aI48 hP hK545 _ _ _ _ _ _ _ _ _ h hw (lv_sub hl [1, 2, 3, 0, 4] rfl)
  replace h := h.2 c_131
  refine lv_goto (tgt := 539) hx hb dL_act_525 (by decide) ?_
  exact k_L_act_539 X aX aI28 aI48 hP hK545 _ _ _ _ _ _ _ _ _ h hw hl
set_option maxHeartbeats 4000000 in
set_option maxRecDepth 100000 in
theorem k_L_act_496 {p : Program} {l : Launch} {e : Env} {s : State} {m : MethodId} {below : List Frame} {meth : Method} {c : Code} {args : Array Value} {D : va_G} {t : T3} {A : Nat → Prop} (X : Cx p s m meth c args cL_act 13 (some .boolean) RL wsL_act D t A) (aX : XA) (aI28 : Nat) (aI48 : Nat) {Q : Int32 → XV → IV → IV → Prop} {K545 : XV → IV → IV → Int32 → Prop} (hK545 : ∀ (vX : XV) (vI28 : IV) (vI48 : IV) (x8 : Int32) (H : Heap) (locs : List Loc) (ls : Array Slot), K545 vX vI28 vI48 x8 → Wd D A s.heap (xW t aX vX ++ (i28W t aI28 vI28 ++ (i48W t aI48 vI48))) H locs → lv_has ls 13 [(0, .ref (XA.o aX)), (8, .int x8)] → W p l e ({ frames := 82, cells := 3, slots := 39, locals := 1650 } : Room) s m args below meth c H locs 0 0 (Ei below args s A D (fun (u : XV × IV × IV) => (xW t aX u.1 ++ (i28W t aI28 u.2.1 ++ (i48W t aI48 u.2.2)))) (fun (r : Int32) (u : XV × IV × IV) => Q r u.1 u.2.1 u.2.2) 3 39) (F0 m 545 ls [])) : ∀ (vX : XV) (vI28 : IV) (vI48 : IV) (x6 : Int32) (x8 : Int32) (x9 : Int32) (H : Heap) (locs : List Loc) (ls : Array Slot), wp_L_act_496 Q K545 vX vI28 vI48 x6 x8 x9 → Wd D A s.heap (xW t aX vX ++ (i28W t aI28 vI28 ++ (i48W t aI48 vI48))) H locs → lv_has ls 13 [(0, .ref (XA.o aX)), (4, .ref aI28), (6, .int x6), (8, .int x8), (9, .int x9)] → W p l e ({ frames := 82, cells := 3, slots := 39, locals := 1650 } : Room) s m args below meth c H locs 0 0 (Ei below args s A D (fun (u : XV × IV × IV) => (xW t aX u.1 ++ (i28W t aI28 u.2.1 ++ (i48W t aI48 u.2.2)))) (fun (r : Int32) (u : XV × IV × IV) => Q r u.1 u.2.1 u.2.2) 3 39) (F0 m 496 ls []) := by
  intro vX vI28 vI48 x6 x8 x9 H locs ls h hw hl
  have hx := X.1.1
  have hb := X.1.2.1
  refine h (fun (vX : XV) (vI28 : IV) (vI48 : IV) (x6 : Int32) (x8 : Int32) (x9 : Int32) => ∀ (H : Heap) (locs : List Loc) (ls : Array Slot), Wd D A s.heap (xW t aX vX ++ (i28W t aI28 vI28 ++ (i48W t aI48 vI48))) H locs → lv_has ls 13 [(0, .ref (XA.o aX)), (4, .ref aI28), (6, .int x6), (8, .int x8), (9, .int x9)] → W p l e ({ frames := 82, cells := 3, slots := 39, locals := 1650 } : Room) s m args below meth c H locs 0 0 (Ei below args s A D (fun (u : XV × IV × IV) => (xW t aX u.1 ++ (i28W t aI28 u.2.1 ++ (i48W t aI48 u.2.2)))) (fun (r : Int32) (u : XV × IV × IV) => Q r u.1 u.2.1 u.2.2) 3 39) (F0 m 496 ls [])) (fun vX vI28 vI48 x6 x8 x9 h H locs ls hw hl => ?_) H locs ls hw hl
  exact kb_L_act_496 X aX aI28 aI48 (fun vX vI28 vI48 x6 x8 x9 H locs ls q hw hl => q H locs ls hw hl) hK545 vX vI28 vI48 x6 x8 x9 _ _ _ h hw hl
set_option maxHeartbeats 4000000 in
set_option maxRecDepth 100000 in
theorem kb_L_act_186 {p : Program} {l : Launch} {e : Env} {s : State} {m : MethodId} {below : List Frame} {meth : Method} {c : Code} {args : Array Value} {D : va_G} {t : T3} {A : Nat → Prop} (X : Cx p s m meth c args cL_act 13 (some .boolean) RL wsL_act D t A) (aX : XA) (aI28 : Nat) (aI48 : Nat) {Q : Int32 → XV → IV → IV → Prop} {P : XV → IV → IV → Int32 → Int32 → Int32 → Int32 → Prop} {K239 : XV → IV → IV → Int32 → Int32 → Int32 → Prop} (hP : ∀ (vX : XV) (vI28 : IV) (vI48 : IV) (x3 : Int32) (x6 : Int32) (x7 : Int32) (x8 : Int32) (H : Heap) (locs : List Loc) (ls : Array Slot), P vX vI28 vI48 x3 x6 x7 x8 → Wd D A s.heap (xW t aX vX ++ (i28W t aI28 vI28 ++ (i48W t aI48 vI48))) H locs → lv_has ls 13 [(0, .ref (XA.o aX)), (3, .int x3), (4, .ref aI28), (5, .ref aI48), (6, .int x6), (7, .int x7), (8, .int x8)] → W p l e ({ frames := 82, cells := 3, slots := 39, locals := 1650 } : Room) s m args below meth c H locs 0 0 (Ei below args s A D (fun (u : XV × IV × IV) => (xW t aX u.1 ++ (i28W t aI28 u.2.1 ++ (i48W t aI48 u.2.2)))) (fun (r : Int32) (u : XV × IV × IV) => Q r u.1 u.2.1 u.2.2) 3 39) (F0 m 186 ls [])) (hK239 : ∀ (vX : XV) (vI28 : IV) (vI48 : IV) (x6 : Int32) (x7 : Int32) (x9 : Int32) (H : Heap) (locs : List Loc) (ls : Array Slot), K239 vX vI28 vI48 x6 x7 x9 → Wd D A s.heap (xW t aX vX ++ (i28W t aI28 vI28 ++ (i48W t aI48 vI48))) H locs → lv_has ls 13 [(0, .ref (XA.o aX)), (4, .ref aI28), (6, .int x6), (7, .int x7), (9, .int x9)] → W p l e ({ frames := 82, cells := 3, slots := 39, locals := 1650 } : Room) s m args below meth c H locs 0 0 (Ei below args s A D (fun (u : XV × IV × IV) => (xW t aX u.1 ++ (i28W t aI28 u.2.1 ++ (i48W t aI48 u.2.2)))) (fun (r : Int32) (u : XV × IV × IV) => Q r u.1 u.2.1 u.2.2) 3 39) (F0 m 239 ls [])) : ∀ (vX : XV) (vI28 : IV) (vI48 : IV) (x3 : Int32) (x6 : Int32) (x7 : Int32) (x8 : Int32) (H : Heap) (locs : List Loc) (ls : Array Slot), bd_L_act_186 Q P K239 vX vI28 vI48 x3 x6 x7 x8 → Wd D A s.heap (xW t aX vX ++ (i28W t aI28 vI28 ++ (i48W t aI48 vI48))) H locs → lv_has ls 13 [(0, .ref (XA.o aX)), (3, .int x3), (4, .ref aI28), (5, .ref aI48), (6, .int x6), (7, .int x7), (8, .int x8)] → W p l e ({ frames := 82, cells := 3, slots := 39, locals := 1650 } : Room) s m args below meth c H locs 0 0 (Ei below args s A D (fun (u : XV × IV × IV) => (xW t aX u.1 ++ (i28W t aI28 u.2.1 ++ (i48W t aI48 u.2.2)))) (fun (r : Int32) (u : XV × IV × IV) => Q r u.1 u.2.1 u.2.2) 3 39) (F0 m 186 ls []) := by
  intro vX vI28 vI48 x3 x6 x7 x8 H locs ls h hw hl
  have hx := X.1.1
  have hb := X.1.2.1
  refine lv_iload hx hb dL_act_186 (lv_at hl 6 rfl) ?_
  refine lv_bipush (v := 8) hx hb dL_act_188 (by decide) ?_
  refine lv_aload hx hb dL_act_190 (lv_at hl 2 rfl) ?_
  refine lv_iconst (v := 3) hx hb dL_act_192 (by decide) ?_
  refine r_iald (v := (vI28 3)) X hw 61 rfl (vpl rfl) rfl dL_act_193 ?_
  refine lv_imul hx hb dL_act_194 ?_
  refine lv_icmp_ge (tgt := 312) hx hb dL_act_195 (by decide) (fun c_181 => ?_) (fun c_181 => ?_)
  · replace h := h.1 c_181
    refine lv_iconst (v := 1) hx hb dL_act_312 (by decide) ?_
    refine W.widen (k := 3) (n := 39) (Nat.le_of_ble_eq_true rfl) (Nat.le_of_ble_eq_true rfl) ?_
    exact e_z (w1 := (fun (u : XV × IV × IV) => (xW t aX u.1 ++ (i28W t aI28 u.2.1 ++ (i48W t aI48 u.2.2))))) X isB_1 (vX, vI28, vI48) hw h dL_act_313
  replace h := h.2 c_181
  refine lv_iload_n hx hb dL_act_198 rfl (lv_at hl 1 rfl) ?_
  refine lv_bipush (v := 8) hx hb dL_act_199 (by decide) ?_
  refine lv_aload hx hb dL_act_201 (lv_at hl 2 rfl) ?_
  refine lv_iconst (v := 3) hx hb dL_act_203 (by decide) ?_
  refine r_iald (v := (vI28 3)) X hw 61 rfl (vpl rfl) rfl dL_act_204 ?_
  refine lv_imul hx hb dL_act_205 ?_
  refine r_ci X hw pm_n (wn := fun (u : Unit) => (xW t aX vX ++ (i28W t aI28 vI28 ++ (i48W t aI48 vI48)))) (fun u => (pm_n).symm) (r_runS X hw (c_L_at l D t x3 (8 * (vI28 3)) _ h) pm_n (va_cwS 2 X.1.2.2.2.2 gL_act_L_at rfl rfl rfl (by decide +kernel) ⟨Nat.le_of_ble_eq_true rfl, Nat.le_of_ble_eq_true rfl⟩) rfl hl rfl (Nat.le_of_ble_eq_true rfl) dL_act_206 ⟨Nat.le_of_ble_eq_true rfl, Nat.le_of_ble_eq_true rfl⟩) (fun r_173 u H locs h hw => ?_)
  refine lv_iload hx hb dL_act_209 (lv_at hl 6 rfl) ?_
  refine lv_iadd hx hb dL_act_211 ?_
  refine lv_bipush (v := 8) hx hb dL_act_212 (by decide) ?_
  refine lv_aload hx hb dL_act_214 (lv_at hl 2 rfl) ?_
  refine lv_iconst (v := 3) hx hb dL_act_216 (by decide) ?_
  refine r_iald (v := (vI28 3)) X hw 61 rfl (vpl rfl) rfl dL_act_217 ?_
  refine lv_imul hx hb dL_act_218 ?_
  obtain ⟨hn_174, h⟩ := h
  refine r_irem hx hb dL_act_219 hn_174 ?_
  refine lv_topi (fun x9_175 ex9_175 => ?_)
  replace h := h x9_175 ex9_175
  refine lv_istore (lv' := [(9, .int x9_175), (0, .ref (XA.o aX)), (3, .int x3), (4, .ref aI28), (5, .ref aI48), (6, .int x6), (7, .int x7), (8, .int x8)]) hx hb dL_act_220 hl (by decide) rfl (fun ls hl => ?_)
  refine lv_iload hx hb dL_act_222 (lv_at hl 6 rfl) ?_
  refine lv_iload hx hb dL_act_224 (lv_at hl 0 rfl) ?_
  refine lv_aload hx hb dL_act_226 (lv_at hl 3 rfl) ?_
  refine lv_aload hx hb dL_act_228 (lv_at hl 4 rfl) ?_
  refine r_ci X hw (pm_2 (pm_r (pm_l pm_0)) (pm_r (pm_r pm_0))) (wn := fun (u : IV × IV) => (xW t aX vX ++ (i28W t aI28 u.1 ++ (i48W t aI48 u.2)))) (fun u => (pm_2 (pm_r (pm_l pm_0)) (pm_r (pm_r pm_0))).symm) (r_runS X hw (c_L_why l D t aI28 aI48 vI28 vI48 x7 x9_175 _ h) (pm_2 (pm_r (pm_l pm_0)) (pm_r (pm_r pm_0))) (va_cwS 4 X.1.2.2.2.2 gL_act_L_why rfl rfl rfl (by decide +kernel) ⟨Nat.le_of_ble_eq_true rfl, Nat.le_of_ble_eq_true rfl⟩) rfl hl rfl (Nat.le_of_ble_eq_true rfl) dL_act_230 ⟨Nat.le_of_ble_eq_true rfl, Nat.le_of_ble_eq_true rfl⟩) (fun r_178 u H locs h hw => ?_)
  obtain ⟨vI28_176, vI48_177⟩ := u
  refine lv_if_le (tgt := 239) hx hb dL_act_233 (by decide) (fun c_180 => ?_) (fun c_180 => ?_)
  · replace h := h.1 c_180
    exact hK239 _ _ _ _ _ _ _ _ _ h hw (lv_sub hl [1, 3, 5, 6, 0] rfl)
  replace h := h.2 c_180
  refine lv_goto (tgt := 306) hx hb dL_act_236 (by decide) ?_
  obtain ⟨x8_179, ex8_179⟩ : ∃ z : Int32, z = x8 + 1 := ⟨_, rfl⟩
  replace h := h x8_179 ex8_179
  refine lv_iinc (v := x8_179) (lv' := [(8, .int x8_179), (9, .int x9_175), (0, .ref (XA.o aX)), (3, .int x3), (4, .ref aI28), (5, .ref aI48), (6, .int x6), (7, .int x7)]) hx hb dL_act_306 hl (k := 7) rfl (by rw [ex8_179]; rfl) (by decide) rfl (fun ls hl => ?_)
  refine lv_goto (tgt := 186) hx hb dL_act_309 (by decide) ?_
  exact hP _ _ _ _ _ _ _ _ _ _ h hw (lv_sub hl [2, 3, 4, 5, 6, 7, 0] rfl)
set_option maxHeartbeats 4000000 in
set_option maxRecDepth 100000 in
theorem k_L_act_186 {p : Program} {l : Launch} {e : Env} {s : State} {m : MethodId} {below : List Frame} {meth : Method} {c : Code} {args : Array Value} {D : va_G} {t : T3} {A : Nat → Prop} (X : Cx p s m meth c args cL_act 13 (some .boolean) RL wsL_act D t A) (aX : XA) (aI28 : Nat) (aI48 : Nat) {Q : Int32 → XV → IV → IV → Prop} {K239 : XV → IV → IV → Int32 → Int32 → Int32 → Prop} (hK239 : ∀ (vX : XV) (vI28 : IV) (vI48 : IV) (x6 : Int32) (x7 : Int32) (x9 : Int32) (H : Heap) (locs : List Loc) (ls : Array Slot), K239 vX vI28 vI48 x6 x7 x9 → Wd D A s.heap (xW t aX vX ++ (i28W t aI28 vI28 ++ (i48W t aI48 vI48))) H locs → lv_has ls 13 [(0, .ref (XA.o aX)), (4, .ref aI28), (6, .int x6), (7, .int x7), (9, .int x9)] → W p l e ({ frames := 82, cells := 3, slots := 39, locals := 1650 } : Room) s m args below meth c H locs 0 0 (Ei below args s A D (fun (u : XV × IV × IV) => (xW t aX u.1 ++ (i28W t aI28 u.2.1 ++ (i48W t aI48 u.2.2)))) (fun (r : Int32) (u : XV × IV × IV) => Q r u.1 u.2.1 u.2.2) 3 39) (F0 m 239 ls [])) : ∀ (vX : XV) (vI28 : IV) (vI48 : IV) (x3 : Int32) (x6 : Int32) (x7 : Int32) (x8 : Int32) (H : Heap) (locs : List Loc) (ls : Array Slot), wp_L_act_186 Q K239 vX vI28 vI48 x3 x6 x7 x8 → Wd D A s.heap (xW t aX vX ++ (i28W t aI28 vI28 ++ (i48W t aI48 vI48))) H locs → lv_has ls 13 [(0, .ref (XA.o aX)), (3, .int x3), (4, .ref aI28), (5, .ref aI48), (6, .int x6), (7, .int x7), (8, .int x8)] → W p l e ({ frames := 82, cells := 3, slots := 39, locals := 1650 } : Room) s m args below meth c H locs 0 0 (Ei below args s A D (fun (u : XV × IV × IV) => (xW t aX u.1 ++ (i28W t aI28 u.2.1 ++ (i48W t aI48 u.2.2)))) (fun (r : Int32) (u : XV × IV × IV) => Q r u.1 u.2.1 u.2.2) 3 39) (F0 m 186 ls []) := by
  intro vX vI28 vI48 x3 x6 x7 x8 H locs ls h hw hl
  have hx := X.1.1
  have hb := X.1.2.1
  refine h (fun (vX : XV) (vI28 : IV) (vI48 : IV) (x3 : Int32) (x6 : Int32) (x7 : Int32) (x8 : Int32) => ∀ (H : Heap) (locs : List Loc) (ls : Array Slot), Wd D A s.heap (xW t aX vX ++ (i28W t aI28 vI28 ++ (i48W t aI48 vI48))) H locs → lv_has ls 13 [(0, .ref (XA.o aX)), (3, .int x3), (4, .ref aI28), (5, .ref aI48), (6, .int x6), (7, .int x7), (8, .int x8)] → W p l e ({ frames := 82, cells := 3, slots := 39, locals := 1650 } : Room) s m args below meth c H locs 0 0 (Ei below args s A D (fun (u : XV × IV × IV) => (xW t aX u.1 ++ (i28W t aI28 u.2.1 ++ (i48W t aI48 u.2.2)))) (fun (r : Int32) (u : XV × IV × IV) => Q r u.1 u.2.1 u.2.2) 3 39) (F0 m 186 ls [])) (fun vX vI28 vI48 x3 x6 x7 x8 h H locs ls hw hl => ?_) H locs ls hw hl
  exact kb_L_act_186 X aX aI28 aI48 (fun vX vI28 vI48 x3 x6 x7 x8 H locs ls q hw hl => q H locs ls hw hl) hK239 vX vI28 vI48 x3 x6 x7 x8 _ _ _ h hw hl
set_option maxHeartbeats 4000000 in
set_option maxRecDepth 100000 in
theorem k_L_act_278 {p : Program} {l : Launch} {e : Env} {s : State} {m : MethodId} {below : List Frame} {meth : Method} {c : Code} {args : Array Value} {D : va_G} {t : T3} {A : Nat → Prop} (X : Cx p s m meth c args cL_act 13 (some .boolean) RL wsL_act D t A) (aX : XA) (aI28 : Nat) (aI48 : Nat) {P : XV → IV → IV → Int32 → Int32 → Int32 → Int32 → Int32 → Prop} {K287 : XV → IV → IV → Int32 → Int32 → Int32 → Prop} {Q : Int32 → XV → IV → IV → Prop} (hP : ∀ (vX : XV) (vI28 : IV) (vI48 : IV) (x6 : Int32) (x7 : Int32) (x9 : Int32) (x10 : Int32) (x11 : Int32) (H : Heap) (locs : List Loc) (ls : Array Slot), P vX vI28 vI48 x6 x7 x9 x10 x11 → Wd D A s.heap (xW t aX vX ++ (i28W t aI28 vI28 ++ (i48W t aI48 vI48))) H locs → lv_has ls 13 [(0, .ref (XA.o aX)), (4, .ref aI28), (6, .int x6), (7, .int x7), (9, .int x9), (10, .int x10), (11, .int x11)] → W p l e ({ frames := 82, cells := 3, slots := 39, locals := 1650 } : Room) s m args below meth c H locs 0 0 (Ei below args s A D (fun (u : XV × IV × IV) => (xW t aX u.1 ++ (i28W t aI28 u.2.1 ++ (i48W t aI48 u.2.2)))) (fun (r : Int32) (u : XV × IV × IV) => Q r u.1 u.2.1 u.2.2) 3 39) (F0 m 254 ls [])) (hK287 : ∀ (vX : XV) (vI28 : IV) (vI48 : IV) (x7 : Int32) (x9 : Int32) (x10 : Int32) (H : Heap) (locs : List Loc) (ls : Array Slot), K287 vX vI28 vI48 x7 x9 x10 → Wd D A s.heap (xW t aX vX ++ (i28W t aI28 vI28 ++ (i48W t aI48 vI48))) H locs → lv_has ls 13 [(0, .ref (XA.o aX)), (7, .int x7), (9, .int x9), (10, .int x10)] → W p l e ({ frames := 82, cells := 3, slots := 39, locals := 1650 } : Room) s m args below meth c H locs 0 0 (Ei below args s A D (fun (u : XV × IV × IV) => (xW t aX u.1 ++ (i28W t aI28 u.2.1 ++ (i48W t aI48 u.2.2)))) (fun (r : Int32) (u : XV × IV × IV) => Q r u.1 u.2.1 u.2.2) 3 39) (F0 m 287 ls [])) : ∀ (vX : XV) (vI28 : IV) (vI48 : IV) (x6 : Int32) (x7 : Int32) (x9 : Int32) (x11 : Int32) (t0 : Int32) (t1 : Int32) (H : Heap) (locs : List Loc) (ls : Array Slot), wp_L_act_278 P K287 Q vX vI28 vI48 x6 x7 x9 x11 t0 t1 → Wd D A s.heap (xW t aX vX ++ (i28W t aI28 vI28 ++ (i48W t aI48 vI48))) H locs → lv_has ls 13 [(0, .ref (XA.o aX)), (4, .ref aI28), (6, .int x6), (7, .int x7), (9, .int x9), (11, .int x11)] → W p l e ({ frames := 82, cells := 3, slots := 39, locals := 1650 } : Room) s m args below meth c H locs 0 0 (Ei below args s A D (fun (u : XV × IV × IV) => (xW t aX u.1 ++ (i28W t aI28 u.2.1 ++ (i48W t aI48 u.2.2)))) (fun (r : Int32) (u : XV × IV × IV) => Q r u.1 u.2.1 u.2.2) 3 39) (F0 m 278 ls [.int t1, .int t0]) := by
  intro vX vI28 vI48 x6 x7 x9 x11 t0 t1 H locs ls h hw hl
  have hx := X.1.1
  have hb := X.1.2.1
  refine lv_iadd hx hb dL_act_278 ?_
  refine lv_topi (fun x10_191 ex10_191 => ?_)
  replace h := h x10_191 ex10_191
  refine lv_istore (lv' := [(10, .int x10_191), (0, .ref (XA.o aX)), (4, .ref aI28), (6, .int x6), (7, .int x7), (9, .int x9), (11, .int x11)]) hx hb dL_act_279 hl (by decide) rfl (fun ls hl => ?_)
  obtain ⟨x11_192, ex11_192⟩ : ∃ z : Int32, z = x11 + 1 := ⟨_, rfl⟩
  replace h := h x11_192 ex11_192
  refine lv_iinc (v := x11_192) (lv' := [(11, .int x11_192), (10, .int x10_191), (0, .ref (XA.o aX)), (4, .ref aI28), (6, .int x6), (7, .int x7), (9, .int x9)]) hx hb dL_act_281 hl (k := 6) rfl (by rw [ex11_192]; rfl) (by decide) rfl (fun ls hl => ?_)
  refine lv_goto (tgt := 254) hx hb dL_act_284 (by decide) ?_
  exact hP _ _ _ _ _ _ _ _ _ _ _ h hw (lv_sub hl [2, 3, 4, 5, 6, 1, 0] rfl)
set_option maxHeartbeats 4000000 in
set_option maxRecDepth 100000 in
theorem kb_L_act_254 {p : Program} {l : Launch} {e : Env} {s : State} {m : MethodId} {below : List Frame} {meth : Method} {c : Code} {args : Array Value} {D : va_G} {t : T3} {A : Nat → Prop} (X : Cx p s m meth c args cL_act 13 (some .boolean) RL wsL_act D t A) (aX : XA) (aI28 : Nat) (aI48 : Nat) {Q : Int32 → XV → IV → IV → Prop} {P : XV → IV → IV → Int32 → Int32 → Int32 → Int32 → Int32 → Prop} {K287 : XV → IV → IV → Int32 → Int32 → Int32 → Prop} (hP : ∀ (vX : XV) (vI28 : IV) (vI48 : IV) (x6 : Int32) (x7 : Int32) (x9 : Int32) (x10 : Int32) (x11 : Int32) (H : Heap) (locs : List Loc) (ls : Array Slot), P vX vI28 vI48 x6 x7 x9 x10 x11 → Wd D A s.heap (xW t aX vX ++ (i28W t aI28 vI28 ++ (i48W t aI48 vI48))) H locs → lv_has ls 13 [(0, .ref (XA.o aX)), (4, .ref aI28), (6, .int x6), (7, .int x7), (9, .int x9), (10, .int x10), (11, .int x11)] → W p l e ({ frames := 82, cells := 3, slots := 39, locals := 1650 } : Room) s m args below meth c H locs 0 0 (Ei below args s A D (fun (u : XV × IV × IV) => (xW t aX u.1 ++ (i28W t aI28 u.2.1 ++ (i48W t aI48 u.2.2)))) (fun (r : Int32) (u : XV × IV × IV) => Q r u.1 u.2.1 u.2.2) 3 39) (F0 m 254 ls [])) (hK287 : ∀ (vX : XV) (vI28 : IV) (vI48 : IV) (x7 : Int32) (x9 : Int32) (x10 : Int32) (H : Heap) (locs : List Loc) (ls : Array Slot), K287 vX vI28 vI48 x7 x9 x10 → Wd D A s.heap (xW t aX vX ++ (i28W t aI28 vI28 ++ (i48W t aI48 vI48))) H locs → lv_has ls 13 [(0, .ref (XA.o aX)), (7, .int x7), (9, .int x9), (10, .int x10)] → W p l e ({ frames := 82, cells := 3, slots := 39, locals := 1650 } : Room) s m args below meth c H locs 0 0 (Ei below args s A D (fun (u : XV × IV × IV) => (xW t aX u.1 ++ (i28W t aI28 u.2.1 ++ (i48W t aI48 u.2.2)))) (fun (r : Int32) (u : XV × IV × IV) => Q r u.1 u.2.1 u.2.2) 3 39) (F0 m 287 ls [])) : ∀ (vX : XV) (vI28 : IV) (vI48 : IV) (x6 : Int32) (x7 : Int32) (x9 : Int32) (x10 : Int32) (x11 : Int32) (H : Heap) (locs : List Loc) (ls : Array Slot), bd_L_act_254 Q P K287 vX vI28 vI48 x6 x7 x9 x10 x11 → Wd D A s.heap (xW t aX vX ++ (i28W t aI28 vI28 ++ (i48W t aI48 vI48))) H locs → lv_has ls 13 [(0, .ref (XA.o aX)), (4, .ref aI28), (6, .int x6), (7, .int x7), (9, .int x9), (10, .int x10), (11, .int x11)] → W p l e ({ frames := 82, cells := 3, slots := 39, locals := 1650 } : Room) s m args below meth c H locs 0 0 (Ei below args s A D (fun (u : XV × IV × IV) => (xW t aX u.1 ++ (i28W t aI28 u.2.1 ++ (i48W t aI48 u.2.2)))) (fun (r : Int32) (u : XV × IV × IV) => Q r u.1 u.2.1 u.2.2) 3 39) (F0 m 254 ls []) := by
  intro vX vI28 vI48 x6 x7 x9 x10 x11 H locs ls h hw hl
  have hx := X.1.1
  have hb := X.1.2.1
  refine lv_iload hx hb dL_act_254 (lv_at hl 6 rfl) ?_
  refine lv_iload hx hb dL_act_256 (lv_at hl 2 rfl) ?_
  refine lv_icmp_ge (tgt := 287) hx hb dL_act_258 (by decide) (fun c_194 => ?_) (fun c_194 => ?_)
  · replace h := h.1 c_194
    exact hK287 _ _ _ _ _ _ _ _ _ h hw (lv_sub hl [0, 3, 4, 5] rfl)
  replace h := h.2 c_194
  refine lv_iload hx hb dL_act_261 (lv_at hl 5 rfl) ?_
  refine lv_aload hx hb dL_act_263 (lv_at hl 1 rfl) ?_
  refine lv_iconst (v := 4) hx hb dL_act_265 (by decide) ?_
  refine lv_iload hx hb dL_act_266 (lv_at hl 6 rfl) ?_
  refine lv_iadd hx hb dL_act_268 ?_
  obtain ⟨hi_190, h⟩ := h
  refine r_iald (v := (vI28 (Int32.toNatClampNeg (4 + x11)))) X hw 61 rfl hi_190 rfl dL_act_269 ?_
  refine lv_if_ge (tgt := 277) hx hb dL_act_270 (by decide) (fun c_193 => ?_) (fun c_193 => ?_)
  · replace h := h.1 c_193
    refine lv_iconst (v := 0) hx hb dL_act_277 (by decide) ?_
    exact k_L_act_278 X aX aI28 aI48 hP hK287 _ _ _ _ _ _ _ _ _ _ _ _ h hw (lv_sub hl [0, 1, 2, 3, 4, 6] rfl)
  replace h := h.2 c_193
  refine lv_iconst (v := 1) hx hb dL_act_273 (by decide) ?_
  refine lv_goto (tgt := 278) hx hb dL_act_274 (by decide) ?_
  exact k_L_act_278 X aX aI28 aI48 hP hK287 _ _ _ _ _ _ _ _ _ _ _ _ h hw (lv_sub hl [0, 1, 2, 3, 4, 6] rfl)
set_option maxHeartbeats 4000000 in
set_option maxRecDepth 100000 in
theorem k_L_act_254 {p : Program} {l : Launch} {e : Env} {s : State} {m : MethodId} {below : List Frame} {meth : Method} {c : Code} {args : Array Value} {D : va_G} {t : T3} {A : Nat → Prop} (X : Cx p s m meth c args cL_act 13 (some .boolean) RL wsL_act D t A) (aX : XA) (aI28 : Nat) (aI48 : Nat) {Q : Int32 → XV → IV → IV → Prop} {K287 : XV → IV → IV → Int32 → Int32 → Int32 → Prop} (hK287 : ∀ (vX : XV) (vI28 : IV) (vI48 : IV) (x7 : Int32) (x9 : Int32) (x10 : Int32) (H : Heap) (locs : List Loc) (ls : Array Slot), K287 vX vI28 vI48 x7 x9 x10 → Wd D A s.heap (xW t aX vX ++ (i28W t aI28 vI28 ++ (i48W t aI48 vI48))) H locs → lv_has ls 13 [(0, .ref (XA.o aX)), (7, .int x7), (9, .int x9), (10, .int x10)] → W p l e ({ frames := 82, cells := 3, slots := 39, locals := 1650 } : Room) s m args below meth c H locs 0 0 (Ei below args s A D (fun (u : XV × IV × IV) => (xW t aX u.1 ++ (i28W t aI28 u.2.1 ++ (i48W t aI48 u.2.2)))) (fun (r : Int32) (u : XV × IV × IV) => Q r u.1 u.2.1 u.2.2) 3 39) (F0 m 287 ls [])) : ∀ (vX : XV) (vI28 : IV) (vI48 : IV) (x6 : Int32) (x7 : Int32) (x9 : Int32) (x10 : Int32) (x11 : Int32) (H : Heap) (locs : List Loc) (ls : Array Slot), wp_L_act_254 Q K287 vX vI28 vI48 x6 x7 x9 x10 x11 → Wd D A s.heap (xW t aX vX ++ (i28W t aI28 vI28 ++ (i48W t aI48 vI48))) H locs → lv_has ls 13 [(0, .ref (XA.o aX)), (4, .ref aI28), (6, .int x6), (7, .int x7), (9, .int x9), (10, .int x10), (11, .int x11)] → W p l e ({ frames := 82, cells := 3, slots := 39, locals := 1650 } : Room) s m args below meth c H locs 0 0 (Ei below args s A D (fun (u : XV × IV × IV) => (xW t aX u.1 ++ (i28W t aI28 u.2.1 ++ (i48W t aI48 u.2.2)))) (fun (r : Int32) (u : XV × IV × IV) => Q r u.1 u.2.1 u.2.2) 3 39) (F0 m 254 ls []) := by
  intro vX vI28 vI48 x6 x7 x9 x10 x11 H locs ls h hw hl
  have hx := X.1.1
  have hb := X.1.2.1
  refine h (fun (vX : XV) (vI28 : IV) (vI48 : IV) (x6 : Int32) (x7 : Int32) (x9 : Int32) (x10 : Int32) (x11 : Int32) => ∀ (H : Heap) (locs : List Loc) (ls : Array Slot), Wd D A s.heap (xW t aX vX ++ (i28W t aI28 vI28 ++ (i48W t aI48 vI48))) H locs → lv_has ls 13 [(0, .ref (XA.o aX)), (4, .ref aI28), (6, .int x6), (7, .int x7), (9, .int x9), (10, .int x10), (11, .int x11)] → W p l e ({ frames := 82, cells := 3, slots := 39, locals := 1650 } : Room) s m args below meth c H locs 0 0 (Ei below args s A D (fun (u : XV × IV × IV) => (xW t aX u.1 ++ (i28W t aI28 u.2.1 ++ (i48W t aI48 u.2.2)))) (fun (r : Int32) (u : XV × IV × IV) => Q r u.1 u.2.1 u.2.2) 3 39) (F0 m 254 ls [])) (fun vX vI28 vI48 x6 x7 x9 x10 x11 h H locs ls hw hl => ?_) H locs ls hw hl
  exact kb_L_act_254 X aX aI28 aI48 (fun vX vI28 vI48 x6 x7 x9 x10 x11 H locs ls q hw hl => q H locs ls hw hl) hK287 vX vI28 vI48 x6 x7 x9 x10 x11 _ _ _ h hw hl
set_option maxHeartbeats 4000000 in
set_option maxRecDepth 100000 in
theorem k_L_act_168 {p : Program} {l : Launch} {e : Env} {s : State} {m : MethodId} {below : List Frame} {meth : Method} {c : Code} {args : Array Value} {D : va_G} {t : T3} {A : Nat → Prop} (X : Cx p s m meth c args cL_act 13 (some .boolean) RL wsL_act D t A) (aX : XA) (aI28 : Nat) (aI48 : Nat) {Q : Int32 → XV → IV → IV → Prop}  : ∀ (vX : XV) (vI28 : IV) (vI48 : IV) (x1 : Int32) (x2 : Int32) (x3 : Int32) (x6 : Int32) (H : Heap) (locs : List Loc) (ls : Array Slot), wp_L_act_168 Q vX vI28 vI48 x1 x2 x3 x6 → Wd D A s.heap (xW t aX vX ++ (i28W t aI28 vI28 ++ (i48W t aI48 vI48))) H locs → lv_has ls 13 [(0, .ref (XA.o aX)), (1, .int x1), (2, .int x2), (3, .int x3), (4, .ref aI28), (5, .ref aI48), (6, .int x6)] → W p l e ({ frames := 82, cells := 3, slots := 39, locals := 1650 } : Room) s m args below meth c H locs 0 0 (Ei below args s A D (fun (u : XV × IV × IV) => (xW t aX u.1 ++ (i28W t aI28 u.2.1 ++ (i48W t aI48 u.2.2)))) (fun (r : Int32) (u : XV × IV × IV) => Q r u.1 u.2.1 u.2.2) 3 39) (F0 m 168 ls []) := by
  intro vX vI28 vI48 x1 x2 x3 x6 H locs ls h hw hl
  have hx := X.1.1
  have hb := X.1.2.1
  refine lv_iload_n hx hb dL_act_168 rfl (lv_at hl 1 rfl) ?_
  refine lv_iconst (v := 5) hx hb dL_act_169 (by decide) ?_
  refine lv_icmp_ge (tgt := 314) hx hb dL_act_170 (by decide) (fun c_204 => ?_) (fun c_204 => ?_)
  · replace h := h.1 c_204
    refine lv_iload_n hx hb dL_act_314 rfl (lv_at hl 2 rfl) ?_
    refine lv_iload hx hb dL_act_315 (lv_at hl 6 rfl) ?_
    refine r_ci X hw pm_n (wn := fun (u : Unit) => (xW t aX vX ++ (i28W t aI28 vI28 ++ (i48W t aI48 vI48)))) (fun u => (pm_n).symm) (r_runS X hw (c_L_at l D t x2 x6 _ h) pm_n (va_cwS 2 X.1.2.2.2.2 gL_act_L_at rfl rfl rfl (by decide +kernel) ⟨Nat.le_of_ble_eq_true rfl, Nat.le_of_ble_eq_true rfl⟩) rfl hl rfl (Nat.le_of_ble_eq_true rfl) dL_act_317 ⟨Nat.le_of_ble_eq_true rfl, Nat.le_of_ble_eq_true rfl⟩) (fun r_30 u H locs h hw => ?_)
    refine lv_istore (lv' := [(7, .int r_30), (0, .ref (XA.o aX)), (1, .int x1), (2, .int x2), (3, .int x3), (4, .ref aI28), (5, .ref aI48), (6, .int x6)]) hx hb dL_act_320 hl (by decide) rfl (fun ls hl => ?_)
    refine lv_iload_n hx hb dL_act_322 rfl (lv_at hl 2 rfl) ?_
    refine lv_iconst (v := 5) hx hb dL_act_323 (by decide) ?_
    refine lv_icmp_ne (tgt := 385) hx hb dL_act_324 (by decide) (fun c_171 => ?_) (fun c_171 => ?_)
    · replace h := h.1 c_171
      refine lv_iload_n hx hb dL_act_385 rfl (lv_at hl 2 rfl) ?_
      refine lv_bipush (v := 6) hx hb dL_act_386 (by decide) ?_
      refine lv_icmp_ne (tgt := 444) hx hb dL_act_388 (by decide) (fun c_159 => ?_) (fun c_159 => ?_)
      · replace h := h.1 c_159
        refine lv_iload_n hx hb dL_act_444 rfl (lv_at hl 2 rfl) ?_
        refine lv_bipush (v := 7) hx hb dL_act_445 (by decide) ?_
        refine lv_icmp_ne (tgt := 484) hx hb dL_act_447 (by decide) (fun c_148 => ?_) (fun c_148 => ?_)
        · replace h := h.1 c_148
          refine lv_iload_n hx hb dL_act_484 rfl (lv_at hl 2 rfl) ?_
          refine lv_bipush (v := 8) hx hb dL_act_485 (by decide) ?_
          refine lv_icmp_ne (tgt := 560) hx hb dL_act_487 (by decide) (fun c_141 => ?_) (fun c_141 => ?_)
          · replace h := h.1 c_141
            refine lv_iload_n hx hb dL_act_560 rfl (lv_at hl 2 rfl) ?_
            refine lv_bipush (v := 9) hx hb dL_act_561 (by decide) ?_
            refine lv_icmp_ne (tgt := 735) hx hb dL_act_563 (by decide) (fun c_124 => ?_) (fun c_124 => ?_)
            · replace h := h.1 c_124
              refine lv_iload_n hx hb dL_act_735 rfl (lv_at hl 2 rfl) ?_
              refine lv_bipush (v := 10) hx hb dL_act_736 (by decide) ?_
              refine lv_icmp_ne (tgt := 909) hx hb dL_act_738 (by decide) (fun c_86 => ?_) (fun c_86 => ?_)
              · replace h := h.1 c_86
                refine lv_iload_n hx hb dL_act_909 rfl (lv_at hl 2 rfl) ?_
                refine lv_bipush (v := 11) hx hb dL_act_910 (by decide) ?_
                refine lv_icmp_ne (tgt := 963) hx hb dL_act_912 (by decide) (fun c_62 => ?_) (fun c_62 => ?_)
                · replace h := h.1 c_62
                  refine lv_bipush (v := 15) hx hb dL_act_963 (by decide) ?_
                  refine r_newI X hw arI_L_act (by decide) (N := 15) (by decide) (by decide) (Nat.le_of_ble_eq_true rfl) (Nat.le_of_ble_eq_true rfl) (wn := fun aI15_31 => (xW t aX vX ++ (i28W t aI28 vI28 ++ (i48W t aI48 vI48 ++ (i15W t aI15_31 (fun _ => 0)))))) (fun q => ap_3 _ _ _ _) dL_act_965 (fun aI15_31 H hw => ?_)
                  refine lv_astore (lv' := [(8, .ref aI15_31), (7, .int r_30), (0, .ref (XA.o aX)), (1, .int x1), (2, .int x2), (3, .int x3), (4, .ref aI28), (5, .ref aI48), (6, .int x6)]) hx hb dL_act_967 hl (by decide) rfl (fun ls hl => ?_)
                  refine lv_iconst (v := 1) hx hb dL_act_969 (by decide) ?_
                  refine lv_aload hx hb dL_act_970 (lv_at hl 6 rfl) ?_
                  refine lv_aload hx hb dL_act_972 (lv_at hl 7 rfl) ?_
                  refine lv_aload hx hb dL_act_974 (lv_at hl 0 rfl) ?_
                  refine r_cv X hw (pm_2 (pm_r (pm_l pm_0)) (pm_2 (pm_r (pm_r (pm_l pm_0))) (pm_r (pm_r (pm_r pm_0))))) (wn := fun (u : IV × IV × IV) => (xW t aX vX ++ (i28W t aI28 u.1 ++ (i48W t aI48 u.2.1 ++ (i15W t aI15_31 u.2.2))))) (fun u => (pm_2 (pm_r (pm_l pm_0)) (pm_2 (pm_r (pm_r (pm_l pm_0))) (pm_r (pm_r (pm_r pm_0))))).symm) (r_runS X hw (c_L_search l D t aI28 aI48 aI15_31 vI28 vI48 (fun _ => 0) 1 _ h) (pm_2 (pm_r (pm_l pm_0)) (pm_2 (pm_r (pm_r (pm_l pm_0))) (pm_r (pm_r (pm_r pm_0))))) (va_cwS 4 X.1.2.2.2.2 gL_act_L_search rfl rfl rfl (by decide +kernel) ⟨Nat.le_of_ble_eq_true rfl, Nat.le_of_ble_eq_true rfl⟩) rfl hl rfl (Nat.le_of_ble_eq_true rfl) dL_act_976 ⟨Nat.le_of_ble_eq_true rfl, Nat.le_of_ble_eq_true rfl⟩) (fun u H locs h hw => ?_)
                  obtain ⟨vI28_32, vI48_33, vI15_34⟩ := u
                  refine lv_aload hx hb dL_act_979 (lv_at hl 0 rfl) ?_
                  refine lv_iconst (v := 0) hx hb dL_act_981 (by decide) ?_
                  refine r_iald (v := (vI15_34 0)) X hw 63 rfl (vpl rfl) rfl dL_act_982 ?_
                  refine lv_if_ne (tgt := 988) hx hb dL_act_983 (by decide) (fun c_52 => ?_) (fun c_52 => ?_)
                  · replace h := h.1 c_52
                    refine lv_iconst (v := 0) hx hb dL_act_988 (by decide) ?_
                    refine lv_istore (lv' := [(9, .int 0), (8, .ref aI15_31), (7, .int r_30), (0, .ref (XA.o aX)), (1, .int x1), (2, .int x2), (3, .int x3), (4, .ref aI28), (5, .ref aI48), (6, .int x6)]) hx hb dL_act_989 hl (by decide) rfl (fun ls hl => ?_)
                    refine lv_iconst (v := 0) hx hb dL_act_991 (by decide) ?_
                    refine lv_istore (lv' := [(10, .int 0), (9, .int 0), (8, .ref aI15_31), (7, .int r_30), (0, .ref (XA.o aX)), (1, .int x1), (2, .int x2), (3, .int x3), (4, .ref aI28), (5, .ref aI48), (6, .int x6)]) hx hb dL_act_992 hl (by decide) rfl (fun ls hl => ?_)
                    refine k_L_act_994 X aX aI28 aI48 aI15_31 (fun vX_44 vI28_45 vI48_46 vI15_47 x9_48 H locs ls h hw hl => ?_) _ _ _ _ _ _ _ _ _ _ h hw (lv_sub hl [4, 8, 10, 2, 1, 0] rfl)
                    refine lv_aload_n hx hb dL_act_1037 rfl (lv_at hl 0 rfl) ?_
                    refine r_ci X hw (pm_l pm_0) (wn := fun (u : XV) => (xW t aX u ++ (i28W t aI28 vI28_45 ++ (i48W t aI48 vI48_46 ++ (i15W t aI15_31 vI15_47))))) (fun u => (pm_l pm_0).symm) (r_runV X hw (c_X6_solve l D t aX vX_44 _ h) (pm_l pm_0) (cwV 0 X.1.2.2.2.2 gL_act_X6_solve rfl rfl rfl (by decide +kernel) ⟨Nat.le_of_ble_eq_true rfl, Nat.le_of_ble_eq_true rfl⟩) (ci := 6) rfl rfl rfl rfl hl rfl (Nat.le_of_ble_eq_true rfl) dL_act_1038 ⟨Nat.le_of_ble_eq_true rfl, Nat.le_of_ble_eq_true rfl⟩) (fun r_50 u H locs h hw => ?_)
                    obtain ⟨vX_49, rfl⟩ : ∃ z, z = u := ⟨_, rfl⟩
                    refine lv_iload hx hb dL_act_1041 (lv_at hl 1 rfl) ?_
                    refine lv_icmp_ne (tgt := 1050) hx hb dL_act_1043 (by decide) (fun c_51 => ?_) (fun c_51 => ?_)
                    · replace h := h.1 c_51
                      refine lv_iconst (v := 0) hx hb dL_act_1050 (by decide) ?_
                      replace hw := Wd.part (pm_2 (pm_l pm_0) (pm_2 (pm_r (pm_l pm_0)) (pm_r (pm_r (pm_l pm_0))))) hw
                      exact e_z (w1 := (fun (u : XV × IV × IV) => (xW t aX u.1 ++ (i28W t aI28 u.2.1 ++ (i48W t aI48 u.2.2))))) X isB_0 (vX_49, vI28_45, vI48_46) hw h dL_act_1051
                    replace h := h.2 c_51
                    refine lv_iconst (v := 1) hx hb dL_act_1046 (by decide) ?_
                    refine lv_goto (tgt := 1051) hx hb dL_act_1047 (by decide) ?_
                    replace hw := Wd.part (pm_2 (pm_l pm_0) (pm_2 (pm_r (pm_l pm_0)) (pm_r (pm_r (pm_l pm_0))))) hw
                    exact e_z (w1 := (fun (u : XV × IV × IV) => (xW t aX u.1 ++ (i28W t aI28 u.2.1 ++ (i48W t aI48 u.2.2))))) X isB_1 (vX_49, vI28_45, vI48_46) hw h dL_act_1051
                  replace h := h.2 c_52
                  refine lv_iconst (v := 1) hx hb dL_act_986 (by decide) ?_
                  replace hw := Wd.part (pm_2 (pm_l pm_0) (pm_2 (pm_r (pm_l pm_0)) (pm_r (pm_r (pm_l pm_0))))) hw
                  exact e_z (w1 := (fun (u : XV × IV × IV) => (xW t aX u.1 ++ (i28W t aI28 u.2.1 ++ (i48W t aI48 u.2.2))))) X isB_1 (vX, vI28_32, vI48_33) hw h dL_act_987
                replace h := h.2 c_62
                refine lv_aload hx hb dL_act_915 (lv_at hl 5 rfl) ?_
                refine lv_iconst (v := 3) hx hb dL_act_917 (by decide) ?_
                refine r_iald (v := (vI28 3)) X hw 61 rfl (vpl rfl) rfl dL_act_918 ?_
                refine lv_if_eq (tgt := 936) hx hb dL_act_919 (by decide) (fun c_61 => ?_) (fun c_61 => ?_)
                · replace h := h.1 c_61
                  refine lv_iconst (v := 1) hx hb dL_act_936 (by decide) ?_
                  refine W.widen (k := 3) (n := 39) (Nat.le_of_ble_eq_true rfl) (Nat.le_of_ble_eq_true rfl) ?_
                  exact e_z (w1 := (fun (u : XV × IV × IV) => (xW t aX u.1 ++ (i28W t aI28 u.2.1 ++ (i48W t aI48 u.2.2))))) X isB_1 (vX, vI28, vI48) hw h dL_act_937
                replace h := h.2 c_61
                refine lv_aload hx hb dL_act_922 (lv_at hl 5 rfl) ?_
                refine lv_iconst (v := 3) hx hb dL_act_924 (by decide) ?_
                refine r_iald (v := (vI28 3)) X hw 61 rfl (vpl rfl) rfl dL_act_925 ?_
                refine lv_iconst (v := 1) hx hb dL_act_926 (by decide) ?_
                refine lv_isub hx hb dL_act_927 ?_
                refine lv_aload hx hb dL_act_928 (lv_at hl 5 rfl) ?_
                refine r_ci X hw (pm_r (pm_l pm_0)) (wn := fun (u : IV) => (xW t aX vX ++ (i28W t aI28 u ++ (i48W t aI48 vI48)))) (fun u => (pm_r (pm_l pm_0)).symm) (r_runS X hw (c_L_where l D t aI28 vI28 ((vI28 3) - 1) _ h) (pm_r (pm_l pm_0)) (va_cwS 2 X.1.2.2.2.2 gL_act_L_where rfl rfl rfl (by decide +kernel) ⟨Nat.le_of_ble_eq_true rfl, Nat.le_of_ble_eq_true rfl⟩) rfl hl rfl (Nat.le_of_ble_eq_true rfl) dL_act_930 ⟨Nat.le_of_ble_eq_true rfl, Nat.le_of_ble_eq_true rfl⟩) (fun r_54 u H locs h hw => ?_)
                obtain ⟨vI28_53, rfl⟩ : ∃ z, z = u := ⟨_, rfl⟩
                refine lv_if_lt (tgt := 938) hx hb dL_act_933 (by decide) (fun c_60 => ?_) (fun c_60 => ?_)
                · replace h := h.1 c_60
                  refine lv_aload hx hb dL_act_938 (lv_at hl 5 rfl) ?_
                  refine lv_iconst (v := 3) hx hb dL_act_940 (by decide) ?_
                  refine lv_dup2_11 hx hb dL_act_941 rfl rfl ?_
                  refine r_iald (v := (vI28_53 3)) X hw 61 rfl (vpl rfl) rfl dL_act_942 ?_
                  refine lv_iconst (v := 1) hx hb dL_act_943 (by decide) ?_
                  refine lv_isub hx hb dL_act_944 ?_
                  refine lv_topi (fun f_55 ef_55 => ?_)
                  replace h := h f_55 ef_55
                  obtain ⟨o_56, eo_56⟩ : ∃ z : Nat → Int32, z = upd vI28_53 3 f_55 := ⟨_, rfl⟩
                  replace h := h o_56 eo_56
                  refine r_iast (ws' := (xW t aX vX ++ (i28W t aI28 o_56 ++ (i48W t aI48 vI48)))) X hw 61 rfl (vpl rfl) (by subst eo_56; rfl) dL_act_945 (fun H locs hw => ?_)
                  refine lv_aload_n hx hb dL_act_946 rfl (lv_at hl 1 rfl) ?_
                  refine r_ci X hw (pm_l pm_0) (wn := fun (u : XV) => (xW t aX u ++ (i28W t aI28 o_56 ++ (i48W t aI48 vI48)))) (fun u => (pm_l pm_0).symm) (r_runV X hw (c_X6_dropTile l D t aX vX _ h) (pm_l pm_0) (cwV 0 X.1.2.2.2.2 gL_act_X6_dropTile rfl rfl rfl (by decide +kernel) ⟨Nat.le_of_ble_eq_true rfl, Nat.le_of_ble_eq_true rfl⟩) (ci := 6) rfl rfl rfl rfl hl rfl (Nat.le_of_ble_eq_true rfl) dL_act_947 ⟨Nat.le_of_ble_eq_true rfl, Nat.le_of_ble_eq_true rfl⟩) (fun r_58 u H locs h hw => ?_)
                  obtain ⟨vX_57, rfl⟩ : ∃ z, z = u := ⟨_, rfl⟩
                  refine lv_aload hx hb dL_act_950 (lv_at hl 5 rfl) ?_
                  refine lv_iconst (v := 3) hx hb dL_act_952 (by decide) ?_
                  refine r_iald (v := (o_56 3)) X hw 61 rfl (vpl rfl) rfl dL_act_953 ?_
                  refine lv_icmp_ne (tgt := 961) hx hb dL_act_954 (by decide) (fun c_59 => ?_) (fun c_59 => ?_)
                  · replace h := h.1 c_59
                    refine lv_iconst (v := 0) hx hb dL_act_961 (by decide) ?_
                    refine W.widen (k := 3) (n := 39) (Nat.le_of_ble_eq_true rfl) (Nat.le_of_ble_eq_true rfl) ?_
                    exact e_z (w1 := (fun (u : XV × IV × IV) => (xW t aX u.1 ++ (i28W t aI28 u.2.1 ++ (i48W t aI48 u.2.2))))) X isB_0 (vX_57, o_56, vI48) hw h dL_act_962
                  replace h := h.2 c_59
                  refine lv_iconst (v := 1) hx hb dL_act_957 (by decide) ?_
                  refine lv_goto (tgt := 962) hx hb dL_act_958 (by decide) ?_
                  refine W.widen (k := 3) (n := 39) (Nat.le_of_ble_eq_true rfl) (Nat.le_of_ble_eq_true rfl) ?_
                  exact e_z (w1 := (fun (u : XV × IV × IV) => (xW t aX u.1 ++ (i28W t aI28 u.2.1 ++ (i48W t aI48 u.2.2))))) X isB_1 (vX_57, o_56, vI48) hw h dL_act_962
                replace h := h.2 c_60
                refine lv_iconst (v := 1) hx hb dL_act_936 (by decide) ?_
                refine W.widen (k := 3) (n := 39) (Nat.le_of_ble_eq_true rfl) (Nat.le_of_ble_eq_true rfl) ?_
                exact e_z (w1 := (fun (u : XV × IV × IV) => (xW t aX u.1 ++ (i28W t aI28 u.2.1 ++ (i48W t aI48 u.2.2))))) X isB_1 (vX, vI28_53, vI48) hw h dL_act_937
              replace h := h.2 c_86
              refine lv_aload hx hb dL_act_741 (lv_at hl 5 rfl) ?_
              refine lv_iconst (v := 3) hx hb dL_act_743 (by decide) ?_
              refine r_iald (v := (vI28 3)) X hw 61 rfl (vpl rfl) rfl dL_act_744 ?_
              refine lv_bipush (v := 6) hx hb dL_act_745 (by decide) ?_
              refine lv_icmp_ne (tgt := 752) hx hb dL_act_747 (by decide) (fun c_85 => ?_) (fun c_85 => ?_)
              · replace h := h.1 c_85
                refine lv_iconst (v := 0) hx hb dL_act_752 (by decide) ?_
                refine lv_istore (lv' := [(8, .int 0), (7, .int r_30), (0, .ref (XA.o aX)), (1, .int x1), (2, .int x2), (3, .int x3), (4, .ref aI28), (5, .ref aI48), (6, .int x6)]) hx hb dL_act_753 hl (by decide) rfl (fun ls hl => ?_)
                refine k_L_act_755 X aX aI28 aI48 (fun vX_68 vI28_69 vI48_70 H locs ls h hw hl => ?_) _ _ _ _ _ _ _ _ _ h hw (lv_sub hl [2, 4, 5, 6, 7, 0] rfl)
                refine lv_bipush (v := 8) hx hb dL_act_791 (by decide) ?_
                refine lv_aload hx hb dL_act_793 (lv_at hl 1 rfl) ?_
                refine lv_iconst (v := 3) hx hb dL_act_795 (by decide) ?_
                refine r_iald (v := (vI28_69 3)) X hw 61 rfl (vpl rfl) rfl dL_act_796 ?_
                refine lv_imul hx hb dL_act_797 ?_
                refine lv_topi (fun x8_71 ex8_71 => ?_)
                replace h := h x8_71 ex8_71
                refine lv_istore (lv' := [(8, .int x8_71), (0, .ref (XA.o aX)), (4, .ref aI28), (5, .ref aI48)]) hx hb dL_act_798 hl (by decide) rfl (fun ls hl => ?_)
                refine lv_aload hx hb dL_act_800 (lv_at hl 2 rfl) ?_
                refine lv_iconst (v := 3) hx hb dL_act_802 (by decide) ?_
                refine lv_dup2_11 hx hb dL_act_803 rfl rfl ?_
                refine r_iald (v := (vI28_69 3)) X hw 61 rfl (vpl rfl) rfl dL_act_804 ?_
                refine lv_iconst (v := 1) hx hb dL_act_805 (by decide) ?_
                refine lv_iadd hx hb dL_act_806 ?_
                refine lv_topi (fun f_72 ef_72 => ?_)
                replace h := h f_72 ef_72
                obtain ⟨o_73, eo_73⟩ : ∃ z : Nat → Int32, z = upd vI28_69 3 f_72 := ⟨_, rfl⟩
                replace h := h o_73 eo_73
                refine r_iast (ws' := (xW t aX vX_68 ++ (i28W t aI28 o_73 ++ (i48W t aI48 vI48_70)))) X hw 61 rfl (vpl rfl) (by subst eo_73; rfl) dL_act_807 (fun H locs hw => ?_)
                refine lv_aload_n hx hb dL_act_808 rfl (lv_at hl 1 rfl) ?_
                refine lv_sipush (v := 1000) hx hb dL_act_809 (by decide) ?_
                refine lv_aload hx hb dL_act_812 (lv_at hl 3 rfl) ?_
                refine lv_iload hx hb dL_act_814 (lv_at hl 0 rfl) ?_
                obtain ⟨hi_74, h⟩ := h
                refine r_iald (v := (vI48_70 (Int32.toNatClampNeg x8_71))) X hw 62 rfl hi_74 rfl dL_act_816 ?_
                refine lv_imul hx hb dL_act_817 ?_
                refine lv_bipush (v := 100) hx hb dL_act_818 (by decide) ?_
                refine lv_aload hx hb dL_act_820 (lv_at hl 3 rfl) ?_
                refine lv_iload hx hb dL_act_822 (lv_at hl 0 rfl) ?_
                refine lv_iconst (v := 1) hx hb dL_act_824 (by decide) ?_
                refine lv_iadd hx hb dL_act_825 ?_
                obtain ⟨hi_75, h⟩ := h
                refine r_iald (v := (vI48_70 (Int32.toNatClampNeg (x8_71 + 1)))) X hw 62 rfl hi_75 rfl dL_act_826 ?_
                refine lv_imul hx hb dL_act_827 ?_
                refine lv_iadd hx hb dL_act_828 ?_
                refine lv_bipush (v := 10) hx hb dL_act_829 (by decide) ?_
                refine lv_aload hx hb dL_act_831 (lv_at hl 3 rfl) ?_
                refine lv_iload hx hb dL_act_833 (lv_at hl 0 rfl) ?_
                refine lv_iconst (v := 2) hx hb dL_act_835 (by decide) ?_
                refine lv_iadd hx hb dL_act_836 ?_
                obtain ⟨hi_76, h⟩ := h
                refine r_iald (v := (vI48_70 (Int32.toNatClampNeg (x8_71 + 2)))) X hw 62 rfl hi_76 rfl dL_act_837 ?_
                refine lv_imul hx hb dL_act_838 ?_
                refine lv_iadd hx hb dL_act_839 ?_
                refine lv_aload hx hb dL_act_840 (lv_at hl 3 rfl) ?_
                refine lv_iload hx hb dL_act_842 (lv_at hl 0 rfl) ?_
                refine lv_iconst (v := 3) hx hb dL_act_844 (by decide) ?_
                refine lv_iadd hx hb dL_act_845 ?_
                obtain ⟨hi_77, h⟩ := h
                refine r_iald (v := (vI48_70 (Int32.toNatClampNeg (x8_71 + 3)))) X hw 62 rfl hi_77 rfl dL_act_846 ?_
                refine lv_iadd hx hb dL_act_847 ?_
                refine lv_sipush (v := 1000) hx hb dL_act_848 (by decide) ?_
                refine lv_aload hx hb dL_act_851 (lv_at hl 3 rfl) ?_
                refine lv_iload hx hb dL_act_853 (lv_at hl 0 rfl) ?_
                refine lv_iconst (v := 4) hx hb dL_act_855 (by decide) ?_
                refine lv_iadd hx hb dL_act_856 ?_
                obtain ⟨hi_78, h⟩ := h
                refine r_iald (v := (vI48_70 (Int32.toNatClampNeg (x8_71 + 4)))) X hw 62 rfl hi_78 rfl dL_act_857 ?_
                refine lv_imul hx hb dL_act_858 ?_
                refine lv_bipush (v := 100) hx hb dL_act_859 (by decide) ?_
                refine lv_aload hx hb dL_act_861 (lv_at hl 3 rfl) ?_
                refine lv_iload hx hb dL_act_863 (lv_at hl 0 rfl) ?_
                refine lv_iconst (v := 5) hx hb dL_act_865 (by decide) ?_
                refine lv_iadd hx hb dL_act_866 ?_
                obtain ⟨hi_79, h⟩ := h
                refine r_iald (v := (vI48_70 (Int32.toNatClampNeg (x8_71 + 5)))) X hw 62 rfl hi_79 rfl dL_act_867 ?_
                refine lv_imul hx hb dL_act_868 ?_
                refine lv_iadd hx hb dL_act_869 ?_
                refine lv_bipush (v := 10) hx hb dL_act_870 (by decide) ?_
                refine lv_aload hx hb dL_act_872 (lv_at hl 3 rfl) ?_
                refine lv_iload hx hb dL_act_874 (lv_at hl 0 rfl) ?_
                refine lv_bipush (v := 6) hx hb dL_act_876 (by decide) ?_
                refine lv_iadd hx hb dL_act_878 ?_
                obtain ⟨hi_80, h⟩ := h
                refine r_iald (v := (vI48_70 (Int32.toNatClampNeg (x8_71 + 6)))) X hw 62 rfl hi_80 rfl dL_act_879 ?_
                refine lv_imul hx hb dL_act_880 ?_
                refine lv_iadd hx hb dL_act_881 ?_
                refine lv_aload hx hb dL_act_882 (lv_at hl 3 rfl) ?_
                refine lv_iload hx hb dL_act_884 (lv_at hl 0 rfl) ?_
                refine lv_bipush (v := 7) hx hb dL_act_886 (by decide) ?_
                refine lv_iadd hx hb dL_act_888 ?_
                obtain ⟨hi_81, h⟩ := h
                refine r_iald (v := (vI48_70 (Int32.toNatClampNeg (x8_71 + 7)))) X hw 62 rfl hi_81 rfl dL_act_889 ?_
                refine lv_iadd hx hb dL_act_890 ?_
                refine r_ci X hw (pm_l pm_0) (wn := fun (u : XV) => (xW t aX u ++ (i28W t aI28 o_73 ++ (i48W t aI48 vI48_70)))) (fun u => (pm_l pm_0).symm) (r_runV X hw (c_X6_addTile l D t aX vX_68 ((((1000 * (vI48_70 (Int32.toNatClampNeg x8_71))) + (100 * (vI48_70 (Int32.toNatClampNeg (x8_71 + 1))))) + (10 * (vI48_70 (Int32.toNatClampNeg (x8_71 + 2))))) + (vI48_70 (Int32.toNatClampNeg (x8_71 + 3)))) ((((1000 * (vI48_70 (Int32.toNatClampNeg (x8_71 + 4)))) + (100 * (vI48_70 (Int32.toNatClampNeg (x8_71 + 5))))) + (10 * (vI48_70 (Int32.toNatClampNeg (x8_71 + 6))))) + (vI48_70 (Int32.toNatClampNeg (x8_71 + 7)))) _ h) (pm_l pm_0) (cwV 2 X.1.2.2.2.2 gL_act_X6_addTile rfl rfl rfl (by decide +kernel) ⟨Nat.le_of_ble_eq_true rfl, Nat.le_of_ble_eq_true rfl⟩) (ci := 6) rfl rfl rfl rfl hl rfl (Nat.le_of_ble_eq_true rfl) dL_act_891 ⟨Nat.le_of_ble_eq_true rfl, Nat.le_of_ble_eq_true rfl⟩) (fun r_83 u H locs h hw => ?_)
                obtain ⟨vX_82, rfl⟩ : ∃ z, z = u := ⟨_, rfl⟩
                refine lv_aload hx hb dL_act_894 (lv_at hl 2 rfl) ?_
                refine lv_iconst (v := 3) hx hb dL_act_896 (by decide) ?_
                refine r_iald (v := (o_73 3)) X hw 61 rfl (vpl rfl) rfl dL_act_897 ?_
                refine lv_iconst (v := 1) hx hb dL_act_898 (by decide) ?_
                refine lv_isub hx hb dL_act_899 ?_
                refine lv_icmp_ne (tgt := 907) hx hb dL_act_900 (by decide) (fun c_84 => ?_) (fun c_84 => ?_)
                · replace h := h.1 c_84
                  refine lv_iconst (v := 0) hx hb dL_act_907 (by decide) ?_
                  refine W.widen (k := 3) (n := 39) (Nat.le_of_ble_eq_true rfl) (Nat.le_of_ble_eq_true rfl) ?_
                  exact e_z (w1 := (fun (u : XV × IV × IV) => (xW t aX u.1 ++ (i28W t aI28 u.2.1 ++ (i48W t aI48 u.2.2))))) X isB_0 (vX_82, o_73, vI48_70) hw h dL_act_908
                replace h := h.2 c_84
                refine lv_iconst (v := 1) hx hb dL_act_903 (by decide) ?_
                refine lv_goto (tgt := 908) hx hb dL_act_904 (by decide) ?_
                refine W.widen (k := 3) (n := 39) (Nat.le_of_ble_eq_true rfl) (Nat.le_of_ble_eq_true rfl) ?_
                exact e_z (w1 := (fun (u : XV × IV × IV) => (xW t aX u.1 ++ (i28W t aI28 u.2.1 ++ (i48W t aI48 u.2.2))))) X isB_1 (vX_82, o_73, vI48_70) hw h dL_act_908
              replace h := h.2 c_85
              refine lv_iconst (v := 1) hx hb dL_act_750 (by decide) ?_
              refine W.widen (k := 3) (n := 39) (Nat.le_of_ble_eq_true rfl) (Nat.le_of_ble_eq_true rfl) ?_
              exact e_z (w1 := (fun (u : XV × IV × IV) => (xW t aX u.1 ++ (i28W t aI28 u.2.1 ++ (i48W t aI48 u.2.2))))) X isB_1 (vX, vI28, vI48) hw h dL_act_751
            replace h := h.2 c_124
            refine lv_bipush (v := 28) hx hb dL_act_566 (by decide) ?_
            refine r_newI X hw arI_L_act (by decide) (N := 28) (by decide) (by decide) (Nat.le_of_ble_eq_true rfl) (Nat.le_of_ble_eq_true rfl) (wn := fun aI28_87 => (xW t aX vX ++ (i28W t aI28 vI28 ++ (i48W t aI48 vI48 ++ (i28W t aI28_87 (fun _ => 0)))))) (fun q => ap_3 _ _ _ _) dL_act_568 (fun aI28_87 H hw => ?_)
            refine lv_astore (lv' := [(8, .ref aI28_87), (7, .int r_30), (0, .ref (XA.o aX)), (1, .int x1), (2, .int x2), (3, .int x3), (4, .ref aI28), (5, .ref aI48), (6, .int x6)]) hx hb dL_act_570 hl (by decide) rfl (fun ls hl => ?_)
            refine lv_iconst (v := 0) hx hb dL_act_572 (by decide) ?_
            refine lv_istore (lv' := [(9, .int 0), (8, .ref aI28_87), (7, .int r_30), (0, .ref (XA.o aX)), (1, .int x1), (2, .int x2), (3, .int x3), (4, .ref aI28), (5, .ref aI48), (6, .int x6)]) hx hb dL_act_573 hl (by decide) rfl (fun ls hl => ?_)
            refine lv_iconst (v := 0) hx hb dL_act_575 (by decide) ?_
            refine lv_istore (lv' := [(10, .int 0), (9, .int 0), (8, .ref aI28_87), (7, .int r_30), (0, .ref (XA.o aX)), (1, .int x1), (2, .int x2), (3, .int x3), (4, .ref aI28), (5, .ref aI48), (6, .int x6)]) hx hb dL_act_576 hl (by decide) rfl (fun ls hl => ?_)
            refine k_L_act_578 X aX aI28 aI48 aI28_87 (fun vX_94 vI28_95 vI48_96 vI281_97 x6_98 x9_99 H locs ls h hw hl => ?_) _ _ _ _ _ _ _ _ _ _ h hw (lv_sub hl [4, 8, 10, 2, 1, 0] rfl)
            refine lv_iconst (v := 0) hx hb dL_act_601 (by decide) ?_
            refine lv_istore (lv' := [(10, .int 0), (0, .ref (XA.o aX)), (4, .ref aI28), (6, .int x6_98), (8, .ref aI28_87), (9, .int x9_99)]) hx hb dL_act_602 hl (by decide) rfl (fun ls hl => ?_)
            refine k_L_act_604 X aX aI28 aI48 aI28_87 (fun vX_116 vI28_117 vI48_118 vI281_119 x9_120 H locs ls h hw hl => ?_) _ _ _ _ _ _ _ _ _ _ h hw (lv_sub hl [1, 2, 3, 4, 5, 0] rfl)
            refine lv_aload_n hx hb dL_act_720 rfl (lv_at hl 0 rfl) ?_
            refine r_ci X hw (pm_l pm_0) (wn := fun (u : XV) => (xW t aX u ++ (i28W t aI28 vI28_117 ++ (i48W t aI48 vI48_118 ++ (i28W t aI28_87 vI281_119))))) (fun u => (pm_l pm_0).symm) (r_runV X hw (c_X6_turnOver l D t aX vX_116 _ h) (pm_l pm_0) (cwV 0 X.1.2.2.2.2 gL_act_X6_turnOver rfl rfl rfl (by decide +kernel) ⟨Nat.le_of_ble_eq_true rfl, Nat.le_of_ble_eq_true rfl⟩) (ci := 6) rfl rfl rfl rfl hl rfl (Nat.le_of_ble_eq_true rfl) dL_act_721 ⟨Nat.le_of_ble_eq_true rfl, Nat.le_of_ble_eq_true rfl⟩) (fun r_122 u H locs h hw => ?_)
            obtain ⟨vX_121, rfl⟩ : ∃ z, z = u := ⟨_, rfl⟩
            refine lv_iload hx hb dL_act_724 (lv_at hl 1 rfl) ?_
            refine lv_icmp_ne (tgt := 733) hx hb dL_act_726 (by decide) (fun c_123 => ?_) (fun c_123 => ?_)
            · replace h := h.1 c_123
              refine lv_iconst (v := 0) hx hb dL_act_733 (by decide) ?_
              replace hw := Wd.part (pm_2 (pm_l pm_0) (pm_2 (pm_r (pm_l pm_0)) (pm_r (pm_r (pm_l pm_0))))) hw
              refine W.widen (k := 3) (n := 39) (Nat.le_of_ble_eq_true rfl) (Nat.le_of_ble_eq_true rfl) ?_
              exact e_z (w1 := (fun (u : XV × IV × IV) => (xW t aX u.1 ++ (i28W t aI28 u.2.1 ++ (i48W t aI48 u.2.2))))) X isB_0 (vX_121, vI28_117, vI48_118) hw h dL_act_734
            replace h := h.2 c_123
            refine lv_iconst (v := 1) hx hb dL_act_729 (by decide) ?_
            refine lv_goto (tgt := 734) hx hb dL_act_730 (by decide) ?_
            replace hw := Wd.part (pm_2 (pm_l pm_0) (pm_2 (pm_r (pm_l pm_0)) (pm_r (pm_r (pm_l pm_0))))) hw
            refine W.widen (k := 3) (n := 39) (Nat.le_of_ble_eq_true rfl) (Nat.le_of_ble_eq_true rfl) ?_
            exact e_z (w1 := (fun (u : XV × IV × IV) => (xW t aX u.1 ++ (i28W t aI28 u.2.1 ++ (i48W t aI48 u.2.2))))) X isB_1 (vX_121, vI28_117, vI48_118) hw h dL_act_734
          replace h := h.2 c_141
          refine lv_iconst (v := 0) hx hb dL_act_490 (by decide) ?_
          refine lv_istore (lv' := [(8, .int 0), (7, .int r_30), (0, .ref (XA.o aX)), (1, .int x1), (2, .int x2), (3, .int x3), (4, .ref aI28), (5, .ref aI48), (6, .int x6)]) hx hb dL_act_491 hl (by decide) rfl (fun ls hl => ?_)
          refine lv_iconst (v := 0) hx hb dL_act_493 (by decide) ?_
          refine lv_istore (lv' := [(9, .int 0), (8, .int 0), (7, .int r_30), (0, .ref (XA.o aX)), (1, .int x1), (2, .int x2), (3, .int x3), (4, .ref aI28), (5, .ref aI48), (6, .int x6)]) hx hb dL_act_494 hl (by decide) rfl (fun ls hl => ?_)
          refine k_L_act_496 X aX aI28 aI48 (fun vX_134 vI28_135 vI48_136 x8_137 H locs ls h hw hl => ?_) _ _ _ _ _ _ _ _ _ h hw (lv_sub hl [3, 7, 9, 1, 0] rfl)
          refine lv_aload_n hx hb dL_act_545 rfl (lv_at hl 0 rfl) ?_
          refine r_ci X hw (pm_l pm_0) (wn := fun (u : XV) => (xW t aX u ++ (i28W t aI28 vI28_135 ++ (i48W t aI48 vI48_136)))) (fun u => (pm_l pm_0).symm) (r_runV X hw (c_X6_clear l D t aX vX_134 _ h) (pm_l pm_0) (cwV 0 X.1.2.2.2.2 gL_act_X6_clear rfl rfl rfl (by decide +kernel) ⟨Nat.le_of_ble_eq_true rfl, Nat.le_of_ble_eq_true rfl⟩) (ci := 6) rfl rfl rfl rfl hl rfl (Nat.le_of_ble_eq_true rfl) dL_act_546 ⟨Nat.le_of_ble_eq_true rfl, Nat.le_of_ble_eq_true rfl⟩) (fun r_139 u H locs h hw => ?_)
          obtain ⟨vX_138, rfl⟩ : ∃ z, z = u := ⟨_, rfl⟩
          refine lv_iload hx hb dL_act_549 (lv_at hl 1 rfl) ?_
          refine lv_icmp_ne (tgt := 558) hx hb dL_act_551 (by decide) (fun c_140 => ?_) (fun c_140 => ?_)
          · replace h := h.1 c_140
            refine lv_iconst (v := 0) hx hb dL_act_558 (by decide) ?_
            refine W.widen (k := 3) (n := 39) (Nat.le_of_ble_eq_true rfl) (Nat.le_of_ble_eq_true rfl) ?_
            exact e_z (w1 := (fun (u : XV × IV × IV) => (xW t aX u.1 ++ (i28W t aI28 u.2.1 ++ (i48W t aI48 u.2.2))))) X isB_0 (vX_138, vI28_135, vI48_136) hw h dL_act_559
          replace h := h.2 c_140
          refine lv_iconst (v := 1) hx hb dL_act_554 (by decide) ?_
          refine lv_goto (tgt := 559) hx hb dL_act_555 (by decide) ?_
          refine W.widen (k := 3) (n := 39) (Nat.le_of_ble_eq_true rfl) (Nat.le_of_ble_eq_true rfl) ?_
          exact e_z (w1 := (fun (u : XV × IV × IV) => (xW t aX u.1 ++ (i28W t aI28 u.2.1 ++ (i48W t aI48 u.2.2))))) X isB_1 (vX_138, vI28_135, vI48_136) hw h dL_act_559
        replace h := h.2 c_148
        refine lv_aload hx hb dL_act_450 (lv_at hl 5 rfl) ?_
        refine lv_iconst (v := 2) hx hb dL_act_452 (by decide) ?_
        refine r_iald (v := (vI28 2)) X hw 61 rfl (vpl rfl) rfl dL_act_453 ?_
        refine lv_topi (fun x8_142 ex8_142 => ?_)
        replace h := h x8_142 ex8_142
        refine lv_istore (lv' := [(8, .int x8_142), (7, .int r_30), (0, .ref (XA.o aX)), (1, .int x1), (2, .int x2), (3, .int x3), (4, .ref aI28), (5, .ref aI48), (6, .int x6)]) hx hb dL_act_454 hl (by decide) rfl (fun ls hl => ?_)
        refine lv_aload hx hb dL_act_456 (lv_at hl 6 rfl) ?_
        refine lv_iconst (v := 2) hx hb dL_act_458 (by decide) ?_
        refine lv_iload_n hx hb dL_act_459 rfl (lv_at hl 5 rfl) ?_
        refine lv_iconst (v := 3) hx hb dL_act_460 (by decide) ?_
        refine r_ci X hw pm_n (wn := fun (u : Unit) => (xW t aX vX ++ (i28W t aI28 vI28 ++ (i48W t aI48 vI48)))) (fun u => (pm_n).symm) (r_runS X hw (c_L_at l D t x3 3 _ h) pm_n (va_cwS 2 X.1.2.2.2.2 gL_act_L_at rfl rfl rfl (by decide +kernel) ⟨Nat.le_of_ble_eq_true rfl, Nat.le_of_ble_eq_true rfl⟩) rfl hl rfl (Nat.le_of_ble_eq_true rfl) dL_act_461 ⟨Nat.le_of_ble_eq_true rfl, Nat.le_of_ble_eq_true rfl⟩) (fun r_143 u H locs h hw => ?_)
        obtain ⟨o_144, eo_144⟩ : ∃ z : Nat → Int32, z = upd vI28 2 r_143 := ⟨_, rfl⟩
        replace h := h o_144 eo_144
        refine r_iast (ws' := (xW t aX vX ++ (i28W t aI28 o_144 ++ (i48W t aI48 vI48)))) X hw 61 rfl (vpl rfl) (by subst eo_144; rfl) dL_act_464 (fun H locs hw => ?_)
        refine lv_aload_n hx hb dL_act_465 rfl (lv_at hl 2 rfl) ?_
        refine lv_aload hx hb dL_act_466 (lv_at hl 6 rfl) ?_
        refine lv_iconst (v := 2) hx hb dL_act_468 (by decide) ?_
        refine r_iald (v := (o_144 2)) X hw 61 rfl (vpl rfl) rfl dL_act_469 ?_
        refine r_ci X hw (pm_l pm_0) (wn := fun (u : XV) => (xW t aX u ++ (i28W t aI28 o_144 ++ (i48W t aI48 vI48)))) (fun u => (pm_l pm_0).symm) (r_runV X hw (c_X6_setRule l D t aX vX (o_144 2) _ h) (pm_l pm_0) (cwV 1 X.1.2.2.2.2 gL_act_X6_setRule rfl rfl rfl (by decide +kernel) ⟨Nat.le_of_ble_eq_true rfl, Nat.le_of_ble_eq_true rfl⟩) (ci := 6) rfl rfl rfl rfl hl rfl (Nat.le_of_ble_eq_true rfl) dL_act_470 ⟨Nat.le_of_ble_eq_true rfl, Nat.le_of_ble_eq_true rfl⟩) (fun r_146 u H locs h hw => ?_)
        obtain ⟨vX_145, rfl⟩ : ∃ z, z = u := ⟨_, rfl⟩
        refine lv_iload hx hb dL_act_473 (lv_at hl 0 rfl) ?_
        refine lv_icmp_ne (tgt := 482) hx hb dL_act_475 (by decide) (fun c_147 => ?_) (fun c_147 => ?_)
        · replace h := h.1 c_147
          refine lv_iconst (v := 0) hx hb dL_act_482 (by decide) ?_
          refine W.widen (k := 3) (n := 39) (Nat.le_of_ble_eq_true rfl) (Nat.le_of_ble_eq_true rfl) ?_
          exact e_z (w1 := (fun (u : XV × IV × IV) => (xW t aX u.1 ++ (i28W t aI28 u.2.1 ++ (i48W t aI48 u.2.2))))) X isB_0 (vX_145, o_144, vI48) hw h dL_act_483
        replace h := h.2 c_147
        refine lv_iconst (v := 1) hx hb dL_act_478 (by decide) ?_
        refine lv_goto (tgt := 483) hx hb dL_act_479 (by decide) ?_
        refine W.widen (k := 3) (n := 39) (Nat.le_of_ble_eq_true rfl) (Nat.le_of_ble_eq_true rfl) ?_
        exact e_z (w1 := (fun (u : XV × IV × IV) => (xW t aX u.1 ++ (i28W t aI28 u.2.1 ++ (i48W t aI48 u.2.2))))) X isB_1 (vX_145, o_144, vI48) hw h dL_act_483
      replace h := h.2 c_159
      refine lv_aload hx hb dL_act_391 (lv_at hl 5 rfl) ?_
      refine lv_iconst (v := 4) hx hb dL_act_393 (by decide) ?_
      refine lv_iload hx hb dL_act_394 (lv_at hl 0 rfl) ?_
      refine lv_iadd hx hb dL_act_396 ?_
      obtain ⟨hi_149, h⟩ := h
      refine r_iald (v := (vI28 (Int32.toNatClampNeg (4 + r_30)))) X hw 61 rfl hi_149 rfl dL_act_397 ?_
      refine lv_if_ge (tgt := 403) hx hb dL_act_398 (by decide) (fun c_158 => ?_) (fun c_158 => ?_)
      · replace h := h.1 c_158
        refine lv_aload hx hb dL_act_403 (lv_at hl 5 rfl) ?_
        refine lv_bipush (v := 16) hx hb dL_act_405 (by decide) ?_
        refine lv_iload hx hb dL_act_407 (lv_at hl 0 rfl) ?_
        refine lv_iadd hx hb dL_act_409 ?_
        refine lv_iconst (v := 1) hx hb dL_act_410 (by decide) ?_
        refine lv_aload hx hb dL_act_411 (lv_at hl 5 rfl) ?_
        refine lv_bipush (v := 16) hx hb dL_act_413 (by decide) ?_
        refine lv_iload hx hb dL_act_415 (lv_at hl 0 rfl) ?_
        refine lv_iadd hx hb dL_act_417 ?_
        obtain ⟨hi_150, h⟩ := h
        refine r_iald (v := (vI28 (Int32.toNatClampNeg (16 + r_30)))) X hw 61 rfl hi_150 rfl dL_act_418 ?_
        refine lv_isub hx hb dL_act_419 ?_
        refine lv_topi (fun f_151 ef_151 => ?_)
        replace h := h f_151 ef_151
        obtain ⟨hi_152, h⟩ := h
        obtain ⟨o_153, eo_153⟩ : ∃ z : Nat → Int32, z = upd vI28 (Int32.toNatClampNeg (16 + r_30)) f_151 := ⟨_, rfl⟩
        replace h := h o_153 eo_153
        refine r_iast (ws' := (xW t aX vX ++ (i28W t aI28 o_153 ++ (i48W t aI48 vI48)))) X hw 61 rfl hi_152 (by subst eo_153; rfl) dL_act_420 (fun H locs hw => ?_)
        refine lv_aload_n hx hb dL_act_421 rfl (lv_at hl 1 rfl) ?_
        refine lv_iload hx hb dL_act_422 (lv_at hl 0 rfl) ?_
        refine r_ci X hw (pm_l pm_0) (wn := fun (u : XV) => (xW t aX u ++ (i28W t aI28 o_153 ++ (i48W t aI48 vI48)))) (fun u => (pm_l pm_0).symm) (r_runV X hw (c_X6_fix l D t aX vX r_30 _ h) (pm_l pm_0) (cwV 1 X.1.2.2.2.2 gL_act_X6_fix rfl rfl rfl (by decide +kernel) ⟨Nat.le_of_ble_eq_true rfl, Nat.le_of_ble_eq_true rfl⟩) (ci := 6) rfl rfl rfl rfl hl rfl (Nat.le_of_ble_eq_true rfl) dL_act_424 ⟨Nat.le_of_ble_eq_true rfl, Nat.le_of_ble_eq_true rfl⟩) (fun r_155 u H locs h hw => ?_)
        obtain ⟨vX_154, rfl⟩ : ∃ z, z = u := ⟨_, rfl⟩
        refine lv_aload hx hb dL_act_427 (lv_at hl 5 rfl) ?_
        refine lv_bipush (v := 16) hx hb dL_act_429 (by decide) ?_
        refine lv_iload hx hb dL_act_431 (lv_at hl 0 rfl) ?_
        refine lv_iadd hx hb dL_act_433 ?_
        obtain ⟨hi_156, h⟩ := h
        refine r_iald (v := (o_153 (Int32.toNatClampNeg (16 + r_30)))) X hw 61 rfl hi_156 rfl dL_act_434 ?_
        refine lv_icmp_ne (tgt := 442) hx hb dL_act_435 (by decide) (fun c_157 => ?_) (fun c_157 => ?_)
        · replace h := h.1 c_157
          refine lv_iconst (v := 0) hx hb dL_act_442 (by decide) ?_
          refine W.widen (k := 3) (n := 39) (Nat.le_of_ble_eq_true rfl) (Nat.le_of_ble_eq_true rfl) ?_
          exact e_z (w1 := (fun (u : XV × IV × IV) => (xW t aX u.1 ++ (i28W t aI28 u.2.1 ++ (i48W t aI48 u.2.2))))) X isB_0 (vX_154, o_153, vI48) hw h dL_act_443
        replace h := h.2 c_157
        refine lv_iconst (v := 1) hx hb dL_act_438 (by decide) ?_
        refine lv_goto (tgt := 443) hx hb dL_act_439 (by decide) ?_
        refine W.widen (k := 3) (n := 39) (Nat.le_of_ble_eq_true rfl) (Nat.le_of_ble_eq_true rfl) ?_
        exact e_z (w1 := (fun (u : XV × IV × IV) => (xW t aX u.1 ++ (i28W t aI28 u.2.1 ++ (i48W t aI48 u.2.2))))) X isB_1 (vX_154, o_153, vI48) hw h dL_act_443
      replace h := h.2 c_158
      refine lv_iconst (v := 1) hx hb dL_act_401 (by decide) ?_
      refine W.widen (k := 3) (n := 39) (Nat.le_of_ble_eq_true rfl) (Nat.le_of_ble_eq_true rfl) ?_
      exact e_z (w1 := (fun (u : XV × IV × IV) => (xW t aX u.1 ++ (i28W t aI28 u.2.1 ++ (i48W t aI48 u.2.2))))) X isB_1 (vX, vI28, vI48) hw h dL_act_402
    replace h := h.2 c_171
    refine lv_aload hx hb dL_act_327 (lv_at hl 5 rfl) ?_
    refine lv_iconst (v := 4) hx hb dL_act_329 (by decide) ?_
    refine lv_iload hx hb dL_act_330 (lv_at hl 0 rfl) ?_
    refine lv_iadd hx hb dL_act_332 ?_
    obtain ⟨hi_160, h⟩ := h
    refine r_iald (v := (vI28 (Int32.toNatClampNeg (4 + r_30)))) X hw 61 rfl hi_160 rfl dL_act_333 ?_
    refine lv_if_lt (tgt := 349) hx hb dL_act_334 (by decide) (fun c_170 => ?_) (fun c_170 => ?_)
    · replace h := h.1 c_170
      refine lv_iconst (v := 1) hx hb dL_act_349 (by decide) ?_
      refine W.widen (k := 3) (n := 39) (Nat.le_of_ble_eq_true rfl) (Nat.le_of_ble_eq_true rfl) ?_
      exact e_z (w1 := (fun (u : XV × IV × IV) => (xW t aX u.1 ++ (i28W t aI28 u.2.1 ++ (i48W t aI48 u.2.2))))) X isB_1 (vX, vI28, vI48) hw h dL_act_350
    replace h := h.2 c_170
    refine lv_aload hx hb dL_act_337 (lv_at hl 5 rfl) ?_
    refine lv_bipush (v := 16) hx hb dL_act_339 (by decide) ?_
    refine lv_iload hx hb dL_act_341 (lv_at hl 0 rfl) ?_
    refine lv_iadd hx hb dL_act_343 ?_
    obtain ⟨hi_161, h⟩ := h
    refine r_iald (v := (vI28 (Int32.toNatClampNeg (16 + r_30)))) X hw 61 rfl hi_161 rfl dL_act_344 ?_
    refine lv_iconst (v := 1) hx hb dL_act_345 (by decide) ?_
    refine lv_icmp_ne (tgt := 351) hx hb dL_act_346 (by decide) (fun c_169 => ?_) (fun c_169 => ?_)
    · replace h := h.1 c_169
      refine lv_aload hx hb dL_act_351 (lv_at hl 5 rfl) ?_
      refine lv_iconst (v := 4) hx hb dL_act_353 (by decide) ?_
      refine lv_iload hx hb dL_act_354 (lv_at hl 0 rfl) ?_
      refine lv_iadd hx hb dL_act_356 ?_
      obtain ⟨hi_162, h⟩ := h
      refine r_iald (v := (vI28 (Int32.toNatClampNeg (4 + r_30)))) X hw 61 rfl hi_162 rfl dL_act_357 ?_
      refine lv_topi (fun x8_163 ex8_163 => ?_)
      replace h := h x8_163 ex8_163
      refine lv_istore (lv' := [(8, .int x8_163), (7, .int r_30), (0, .ref (XA.o aX)), (1, .int x1), (2, .int x2), (3, .int x3), (4, .ref aI28), (5, .ref aI48), (6, .int x6)]) hx hb dL_act_358 hl (by decide) rfl (fun ls hl => ?_)
      refine lv_aload hx hb dL_act_360 (lv_at hl 6 rfl) ?_
      refine lv_iconst (v := 4) hx hb dL_act_362 (by decide) ?_
      refine lv_iload hx hb dL_act_363 (lv_at hl 1 rfl) ?_
      refine lv_iadd hx hb dL_act_365 ?_
      refine lv_iconst (v := (-1)) hx hb dL_act_366 (by decide) ?_
      obtain ⟨hi_164, h⟩ := h
      obtain ⟨o_165, eo_165⟩ : ∃ z : Nat → Int32, z = upd vI28 (Int32.toNatClampNeg (4 + r_30)) (-1) := ⟨_, rfl⟩
      replace h := h o_165 eo_165
      refine r_iast (ws' := (xW t aX vX ++ (i28W t aI28 o_165 ++ (i48W t aI48 vI48)))) X hw 61 rfl hi_164 (by subst eo_165; rfl) dL_act_367 (fun H locs hw => ?_)
      refine lv_aload_n hx hb dL_act_368 rfl (lv_at hl 2 rfl) ?_
      refine lv_iload hx hb dL_act_369 (lv_at hl 1 rfl) ?_
      refine r_ci X hw (pm_l pm_0) (wn := fun (u : XV) => (xW t aX u ++ (i28W t aI28 o_165 ++ (i48W t aI48 vI48)))) (fun u => (pm_l pm_0).symm) (r_runV X hw (c_X6_take l D t aX vX r_30 _ h) (pm_l pm_0) (cwV 1 X.1.2.2.2.2 gL_act_X6_take rfl rfl rfl (by decide +kernel) ⟨Nat.le_of_ble_eq_true rfl, Nat.le_of_ble_eq_true rfl⟩) (ci := 6) rfl rfl rfl rfl hl rfl (Nat.le_of_ble_eq_true rfl) dL_act_371 ⟨Nat.le_of_ble_eq_true rfl, Nat.le_of_ble_eq_true rfl⟩) (fun r_167 u H locs h hw => ?_)
      obtain ⟨vX_166, rfl⟩ : ∃ z, z = u := ⟨_, rfl⟩
      refine lv_iload hx hb dL_act_374 (lv_at hl 0 rfl) ?_
      refine lv_icmp_ne (tgt := 383) hx hb dL_act_376 (by decide) (fun c_168 => ?_) (fun c_168 => ?_)
      · replace h := h.1 c_168
        refine lv_iconst (v := 0) hx hb dL_act_383 (by decide) ?_
        refine W.widen (k := 3) (n := 39) (Nat.le_of_ble_eq_true rfl) (Nat.le_of_ble_eq_true rfl) ?_
        exact e_z (w1 := (fun (u : XV × IV × IV) => (xW t aX u.1 ++ (i28W t aI28 u.2.1 ++ (i48W t aI48 u.2.2))))) X isB_0 (vX_166, o_165, vI48) hw h dL_act_384
      replace h := h.2 c_168
      refine lv_iconst (v := 1) hx hb dL_act_379 (by decide) ?_
      refine lv_goto (tgt := 384) hx hb dL_act_380 (by decide) ?_
      refine W.widen (k := 3) (n := 39) (Nat.le_of_ble_eq_true rfl) (Nat.le_of_ble_eq_true rfl) ?_
      exact e_z (w1 := (fun (u : XV × IV × IV) => (xW t aX u.1 ++ (i28W t aI28 u.2.1 ++ (i48W t aI48 u.2.2))))) X isB_1 (vX_166, o_165, vI48) hw h dL_act_384
    replace h := h.2 c_169
    refine lv_iconst (v := 1) hx hb dL_act_349 (by decide) ?_
    refine W.widen (k := 3) (n := 39) (Nat.le_of_ble_eq_true rfl) (Nat.le_of_ble_eq_true rfl) ?_
    exact e_z (w1 := (fun (u : XV × IV × IV) => (xW t aX u.1 ++ (i28W t aI28 u.2.1 ++ (i48W t aI48 u.2.2))))) X isB_1 (vX, vI28, vI48) hw h dL_act_350
  replace h := h.2 c_204
  refine lv_iload_n hx hb dL_act_173 rfl (lv_at hl 2 rfl) ?_
  refine lv_iconst (v := 2) hx hb dL_act_174 (by decide) ?_
  refine r_ishr hx hb dL_act_175 ?_
  refine lv_iload hx hb dL_act_176 (lv_at hl 6 rfl) ?_
  refine r_ci X hw pm_n (wn := fun (u : Unit) => (xW t aX vX ++ (i28W t aI28 vI28 ++ (i48W t aI48 vI48)))) (fun u => (pm_n).symm) (r_runS X hw (c_L_at l D t (jshr x2 2) x6 _ h) pm_n (va_cwS 2 X.1.2.2.2.2 gL_act_L_at rfl rfl rfl (by decide +kernel) ⟨Nat.le_of_ble_eq_true rfl, Nat.le_of_ble_eq_true rfl⟩) rfl hl rfl (Nat.le_of_ble_eq_true rfl) dL_act_178 ⟨Nat.le_of_ble_eq_true rfl, Nat.le_of_ble_eq_true rfl⟩) (fun r_172 u H locs h hw => ?_)
  refine lv_istore (lv' := [(7, .int r_172), (0, .ref (XA.o aX)), (1, .int x1), (2, .int x2), (3, .int x3), (4, .ref aI28), (5, .ref aI48), (6, .int x6)]) hx hb dL_act_181 hl (by decide) rfl (fun ls hl => ?_)
  refine lv_iconst (v := 0) hx hb dL_act_183 (by decide) ?_
  refine lv_istore (lv' := [(8, .int 0), (7, .int r_172), (0, .ref (XA.o aX)), (1, .int x1), (2, .int x2), (3, .int x3), (4, .ref aI28), (5, .ref aI48), (6, .int x6)]) hx hb dL_act_184 hl (by decide) rfl (fun ls hl => ?_)
  refine k_L_act_186 X aX aI28 aI48 (fun vX_182 vI28_183 vI48_184 x6_185 x7_186 x9_187 H locs ls h hw hl => ?_) _ _ _ _ _ _ _ _ _ _ h hw (lv_sub hl [2, 5, 6, 7, 8, 1, 0] rfl)
  refine lv_aload hx hb dL_act_239 (lv_at hl 1 rfl) ?_
  refine lv_iconst (v := 4) hx hb dL_act_241 (by decide) ?_
  refine lv_iload hx hb dL_act_242 (lv_at hl 3 rfl) ?_
  refine lv_iadd hx hb dL_act_244 ?_
  refine lv_iload hx hb dL_act_245 (lv_at hl 4 rfl) ?_
  obtain ⟨hi_188, h⟩ := h
  obtain ⟨o_189, eo_189⟩ : ∃ z : Nat → Int32, z = upd vI28_183 (Int32.toNatClampNeg (4 + x7_186)) x9_187 := ⟨_, rfl⟩
  replace h := h o_189 eo_189
  refine r_iast (ws' := (xW t aX vX_182 ++ (i28W t aI28 o_189 ++ (i48W t aI48 vI48_184)))) X hw 61 rfl hi_188 (by subst eo_189; rfl) dL_act_247 (fun H locs hw => ?_)
  refine lv_iconst (v := 0) hx hb dL_act_248 (by decide) ?_
  refine lv_istore (lv' := [(10, .int 0), (0, .ref (XA.o aX)), (4, .ref aI28), (6, .int x6_185), (7, .int x7_186), (9, .int x9_187)]) hx hb dL_act_249 hl (by decide) rfl (fun ls hl => ?_)
  refine lv_iconst (v := 0) hx hb dL_act_251 (by decide) ?_
  refine lv_istore (lv' := [(11, .int 0), (10, .int 0), (0, .ref (XA.o aX)), (4, .ref aI28), (6, .int x6_185), (7, .int x7_186), (9, .int x9_187)]) hx hb dL_act_252 hl (by decide) rfl (fun ls hl => ?_)
  refine k_L_act_254 X aX aI28 aI48 (fun vX_195 vI28_196 vI48_197 x7_198 x9_199 x10_200 H locs ls h hw hl => ?_) _ _ _ _ _ _ _ _ _ _ _ h hw (lv_sub hl [2, 3, 4, 5, 6, 1, 0] rfl)
  refine lv_aload_n hx hb dL_act_287 rfl (lv_at hl 0 rfl) ?_
  refine lv_iload hx hb dL_act_288 (lv_at hl 1 rfl) ?_
  refine lv_iload hx hb dL_act_290 (lv_at hl 2 rfl) ?_
  refine r_ci X hw (pm_l pm_0) (wn := fun (u : XV) => (xW t aX u ++ (i28W t aI28 vI28_196 ++ (i48W t aI48 vI48_197)))) (fun u => (pm_l pm_0).symm) (r_runV X hw (c_X6_lay l D t aX vX_195 x7_198 x9_199 _ h) (pm_l pm_0) (cwV 2 X.1.2.2.2.2 gL_act_X6_lay rfl rfl rfl (by decide +kernel) ⟨Nat.le_of_ble_eq_true rfl, Nat.le_of_ble_eq_true rfl⟩) (ci := 6) rfl rfl rfl rfl hl rfl (Nat.le_of_ble_eq_true rfl) dL_act_292 ⟨Nat.le_of_ble_eq_true rfl, Nat.le_of_ble_eq_true rfl⟩) (fun r_202 u H locs h hw => ?_)
  obtain ⟨vX_201, rfl⟩ : ∃ z, z = u := ⟨_, rfl⟩
  refine lv_iload hx hb dL_act_295 (lv_at hl 3 rfl) ?_
  refine lv_icmp_ne (tgt := 304) hx hb dL_act_297 (by decide) (fun c_203 => ?_) (fun c_203 => ?_)
  · replace h := h.1 c_203
    refine lv_iconst (v := 0) hx hb dL_act_304 (by decide) ?_
    refine W.widen (k := 3) (n := 39) (Nat.le_of_ble_eq_true rfl) (Nat.le_of_ble_eq_true rfl) ?_
    exact e_z (w1 := (fun (u : XV × IV × IV) => (xW t aX u.1 ++ (i28W t aI28 u.2.1 ++ (i48W t aI48 u.2.2))))) X isB_0 (vX_201, vI28_196, vI48_197) hw h dL_act_305
  replace h := h.2 c_203
  refine lv_iconst (v := 1) hx hb dL_act_300 (by decide) ?_
  refine lv_goto (tgt := 305) hx hb dL_act_301 (by decide) ?_
  refine W.widen (k := 3) (n := 39) (Nat.le_of_ble_eq_true rfl) (Nat.le_of_ble_eq_true rfl) ?_
  exact e_z (w1 := (fun (u : XV × IV × IV) => (xW t aX u.1 ++ (i28W t aI28 u.2.1 ++ (i48W t aI48 u.2.2))))) X isB_1 (vX_201, vI28_196, vI48_197) hw h dL_act_305
set_option maxHeartbeats 4000000 in
set_option maxRecDepth 100000 in
theorem c_L_act (l : Launch) (D : va_G) (t : T3) (aX : XA) (aI28 : Nat) (aI48 : Nat) (vX : XV) (vI28 : IV) (vI48 : IV) (p1 : Int32) (p2 : Int32) (p3 : Int32) (Q : Int32 → XV → IV → IV → Prop) (h : wp_L_act vX vI28 vI48 p1 p2 p3 Q) : Ct l yL_act wsL_act 82 1650 3 39 [.ref (XA.o aX), .int p1, .int p2, .int p3, .ref aI28, .ref aI48] D t (xW t aX vX ++ (i28W t aI28 vI28 ++ (i48W t aI48 vI48))) (fun sz => Qi D (xW t aX vX ++ (i28W t aI28 vI28 ++ (i48W t aI48 vI48))) (fun (u : XV × IV × IV) => (xW t aX u.1 ++ (i28W t aI28 u.2.1 ++ (i48W t aI48 u.2.2)))) (fun (r : Int32) (u : XV × IV × IV) => Q r u.1 u.2.1 u.2.2) sz) := by
  refine Ct.of (Qf := fun _ A => va_Qi (fun (r : Int32) (u : XV × IV × IV) => Q r u.1 u.2.1 u.2.2) (B1 D (fun (u : XV × IV × IV) => (xW t aX u.1 ++ (i28W t aI28 u.2.1 ++ (i48W t aI48 u.2.2)))) A) A) cL_act 13 (some .boolean) (by decide) rfl (Nat.le_of_ble_eq_true rfl) ?_
  intro p e s m below meth c A ls hAe hin X hw hl
  generalize ([.ref (XA.o aX), .int p1, .int p2, .int p3, .ref aI28, .ref aI48] : List Value).toArray = args at X ⊢
  have hl : lv_has ls 13 [(0, .ref (XA.o aX)), (1, .int p1), (2, .int p2), (3, .int p3), (4, .ref aI28), (5, .ref aI48)] := hl
  have hx := X.1.1
  have hb := X.1.2.1
  refine lv_aload hx hb dL_act_0 (lv_at hl 4 rfl) ?_
  refine lv_iconst (v := 0) hx hb dL_act_2 (by decide) ?_
  refine r_iald (v := (vI28 0)) X hw 61 rfl (vpl rfl) rfl dL_act_3 ?_
  refine lv_aload hx hb dL_act_4 (lv_at hl 4 rfl) ?_
  refine lv_iconst (v := 1) hx hb dL_act_6 (by decide) ?_
  refine r_iald (v := (vI28 1)) X hw 61 rfl (vpl rfl) rfl dL_act_7 ?_
  refine lv_imul hx hb dL_act_8 ?_
  refine lv_topi (fun x6_1 ex6_1 => ?_)
  replace h := h x6_1 ex6_1
  refine lv_istore (lv' := [(6, .int x6_1), (0, .ref (XA.o aX)), (1, .int p1), (2, .int p2), (3, .int p3), (4, .ref aI28), (5, .ref aI48)]) hx hb dL_act_9 hl (by decide) rfl (fun ls hl => ?_)
  refine lv_iload_n hx hb dL_act_11 rfl (lv_at hl 2 rfl) ?_
  refine lv_if_eq (tgt := 27) hx hb dL_act_12 (by decide) (fun c_207 => ?_) (fun c_207 => ?_)
  · replace h := h.1 c_207
    exact k_L_act_27 X aX aI28 aI48 _ _ _ _ _ _ _ _ h hw (lv_sub hl [1, 3, 4, 5, 6] rfl)
  replace h := h.2 c_207
  refine lv_iload_n hx hb dL_act_15 rfl (lv_at hl 2 rfl) ?_
  refine lv_iconst (v := 5) hx hb dL_act_16 (by decide) ?_
  refine lv_icmp_ge (tgt := 168) hx hb dL_act_17 (by decide) (fun c_206 => ?_) (fun c_206 => ?_)
  · replace h := h.1 c_206
    exact k_L_act_168 X aX aI28 aI48 _ _ _ _ _ _ _ _ _ _ h hw (lv_sub hl [1, 2, 3, 4, 5, 6, 0] rfl)
  replace h := h.2 c_206
  refine lv_aload hx hb dL_act_20 (lv_at hl 5 rfl) ?_
  refine lv_iconst (v := 3) hx hb dL_act_22 (by decide) ?_
  refine r_iald (v := (vI28 3)) X hw 61 rfl (vpl rfl) rfl dL_act_23 ?_
  refine lv_if_ne (tgt := 168) hx hb dL_act_24 (by decide) (fun c_205 => ?_) (fun c_205 => ?_)
  · replace h := h.1 c_205
    exact k_L_act_168 X aX aI28 aI48 _ _ _ _ _ _ _ _ _ _ h hw (lv_sub hl [1, 2, 3, 4, 5, 6, 0] rfl)
  replace h := h.2 c_205
  exact k_L_act_27 X aX aI28 aI48 _ _ _ _ _ _ _ _ h hw (lv_sub hl [1, 3, 4, 5, 6] rfl)
