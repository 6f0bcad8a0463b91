/-! L_told -/
theorem arI_L_told : Cond.arrayClass .int ∈ wsL_told := List.mem_of_getElem? (i := 1) rfl
set_option maxHeartbeats 4000000 in
set_option maxRecDepth 100000 in
theorem k_L_told_101 {p : Program} {l : Launch} {e : Env} {s : State} {m : MethodId} {below : List Frame} {meth : Method} {c : Code} {args : Array Value} {D : va_G} {t : T3} {A : Nat → Prop} (X : Cx p s m meth c args cL_told 20 (some .boolean) RL wsL_told D t A) (aX : XA) (aI28 : Nat) (aI48 : Nat) (aI15_1 : Nat) {P : XV → IV → IV → IV → Int32 → Int32 → Int32 → Int32 → Int32 → Int32 → Int32 → Int32 → Int32 → Int32 → Int32 → Int32 → Int32 → Int32 → Int32 → Prop} {K107 : XV → IV → IV → IV → Int32 → Int32 → Int32 → Int32 → Int32 → Int32 → Int32 → Int32 → Int32 → Int32 → Int32 → Int32 → Int32 → Int32 → Prop} {Q : Int32 → XV → IV → IV → Prop} (hP : ∀ (vX : XV) (vI28 : IV) (vI48 : IV) (vI15 : IV) (x1 : Int32) (x5 : Int32) (x6 : Int32) (x7 : Int32) (x8 : Int32) (x9 : Int32) (x10 : Int32) (x11 : Int32) (x12 : Int32) (x13 : Int32) (x14 : Int32) (x15 : Int32) (x16 : Int32) (x17 : Int32) (x18 : Int32) (H : Heap) (locs : List Loc) (ls : Array Slot), P vX vI28 vI48 vI15 x1 x5 x6 x7 x8 x9 x10 x11 x12 x13 x14 x15 x16 x17 x18 → Wd D A s.heap (xW t aX vX ++ (i28W t aI28 vI28 ++ (i48W t aI48 vI48 ++ (i15W t aI15_1 vI15)))) H locs → lv_has ls 20 [(0, .ref (XA.o aX)), (1, .int x1), (2, .ref aI28), (3, .ref aI48), (4, .ref aI15_1), (5, .int x5), (6, .int x6), (7, .int x7), (8, .int x8), (9, .int x9), (10, .int x10), (11, .int x11), (12, .int x12), (13, .int x13), (14, .int x14), (15, .int x15), (16, .int x16), (17, .int x17), (18, .int x18)] → W p l e ({ frames := 82, cells := 3, slots := 39, locals := 1651 } : Room) s m args below meth c H locs 1 15 (Ei below args s A D (fun (u : XV × IV × IV) => (xW t aX u.1 ++ (i28W t aI28 u.2.1 ++ (i48W t aI48 u.2.2)))) (fun (r : Int32) (u : XV × IV × IV) => Q r u.1 u.2.1 u.2.2) 3 39) (F0 m 74 ls [])) (hK107 : ∀ (vX : XV) (vI28 : IV) (vI48 : IV) (vI15 : IV) (x1 : Int32) (x5 : Int32) (x6 : Int32) (x7 : Int32) (x8 : Int32) (x9 : Int32) (x10 : Int32) (x11 : Int32) (x12 : Int32) (x13 : Int32) (x14 : Int32) (x15 : Int32) (x16 : Int32) (x17 : Int32) (H : Heap) (locs : List Loc) (ls : Array Slot), K107 vX vI28 vI48 vI15 x1 x5 x6 x7 x8 x9 x10 x11 x12 x13 x14 x15 x16 x17 → Wd D A s.heap (xW t aX vX ++ (i28W t aI28 vI28 ++ (i48W t aI48 vI48 ++ (i15W t aI15_1 vI15)))) H locs → lv_has ls 20 [(0, .ref (XA.o aX)), (1, .int x1), (2, .ref aI28), (3, .ref aI48), (4, .ref aI15_1), (5, .int x5), (6, .int x6), (7, .int x7), (8, .int x8), (9, .int x9), (10, .int x10), (11, .int x11), (12, .int x12), (13, .int x13), (14, .int x14), (15, .int x15), (16, .int x16), (17, .int x17)] → W p l e ({ frames := 82, cells := 3, slots := 39, locals := 1651 } : Room) s m args below meth c H locs 1 15 (Ei below args s A D (fun (u : XV × IV × IV) => (xW t aX u.1 ++ (i28W t aI28 u.2.1 ++ (i48W t aI48 u.2.2)))) (fun (r : Int32) (u : XV × IV × IV) => Q r u.1 u.2.1 u.2.2) 3 39) (F0 m 107 ls [])) : ∀ (vX : XV) (vI28 : IV) (vI48 : IV) (vI15 : IV) (x1 : Int32) (x5 : Int32) (x6 : Int32) (x7 : Int32) (x8 : Int32) (x9 : Int32) (x10 : Int32) (x11 : Int32) (x12 : Int32) (x13 : Int32) (x14 : Int32) (x15 : Int32) (x16 : Int32) (x17 : Int32) (x18 : Int32) (H : Heap) (locs : List Loc) (ls : Array Slot), wp_L_told_101 P K107 Q vX vI28 vI48 vI15 x1 x5 x6 x7 x8 x9 x10 x11 x12 x13 x14 x15 x16 x17 x18 → Wd D A s.heap (xW t aX vX ++ (i28W t aI28 vI28 ++ (i48W t aI48 vI48 ++ (i15W t aI15_1 vI15)))) H locs → lv_has ls 20 [(0, .ref (XA.o aX)), (1, .int x1), (2, .ref aI28), (3, .ref aI48), (4, .ref aI15_1), (5, .int x5), (6, .int x6), (7, .int x7), (8, .int x8), (9, .int x9), (10, .int x10), (11, .int x11), (12, .int x12), (13, .int x13), (14, .int x14), (15, .int x15), (16, .int x16), (17, .int x17), (18, .int x18)] → W p l e ({ frames := 82, cells := 3, slots := 39, locals := 1651 } : Room) s m args below meth c H locs 1 15 (Ei below args s A D (fun (u : XV × IV × IV) => (xW t aX u.1 ++ (i28W t aI28 u.2.1 ++ (i48W t aI48 u.2.2)))) (fun (r : Int32) (u : XV × IV × IV) => Q r u.1 u.2.1 u.2.2) 3 39) (F0 m 101 ls []) := by
  intro vX vI28 vI48 vI15 x1 x5 x6 x7 x8 x9 x10 x11 x12 x13 x14 x15 x16 x17 x18 H locs ls h hw hl
  have hx := X.1.1
  have hb := X.1.2.1
  obtain ⟨x18_10, ex18_10⟩ : ∃ z : Int32, z = x18 + (-1) := ⟨_, rfl⟩
  replace h := h x18_10 ex18_10
  refine lv_iinc (v := x18_10) (lv' := [(18, .int x18_10), (0, .ref (XA.o aX)), (1, .int x1), (2, .ref aI28), (3, .ref aI48), (4, .ref aI15_1), (5, .int x5), (6, .int x6), (7, .int x7), (8, .int x8), (9, .int x9), (10, .int x10), (11, .int x11), (12, .int x12), (13, .int x13), (14, .int x14), (15, .int x15), (16, .int x16), (17, .int x17)]) hx hb dL_told_101 hl (k := 18) rfl (by rw [ex18_10]; rfl) (by decide) rfl (fun ls hl => ?_)
  refine lv_goto (tgt := 74) hx hb dL_told_104 (by decide) ?_
  exact hP _ _ _ _ _ _ _ _ _ _ _ _ _ _ _ _ _ _ _ _ _ _ h hw (lv_sub hl [1, 2, 3, 4, 5, 6, 7, 8, 9, 10, 11, 12, 13, 14, 15, 16, 17, 18, 0] rfl)
set_option maxHeartbeats 4000000 in
set_option maxRecDepth 100000 in
theorem kb_L_told_74 {p : Program} {l : Launch} {e : Env} {s : State} {m : MethodId} {below : List Frame} {meth : Method} {c : Code} {args : Array Value} {D : va_G} {t : T3} {A : Nat → Prop} (X : Cx p s m meth c args cL_told 20 (some .boolean) RL wsL_told D t A) (aX : XA) (aI28 : Nat) (aI48 : Nat) (aI15_1 : Nat) {Q : Int32 → XV → IV → IV → Prop} {P : XV → IV → IV → IV → Int32 → Int32 → Int32 → Int32 → Int32 → Int32 → Int32 → Int32 → Int32 → Int32 → Int32 → Int32 → Int32 → Int32 → Int32 → Prop} {K107 : XV → IV → IV → IV → Int32 → Int32 → Int32 → Int32 → Int32 → Int32 → Int32 → Int32 → Int32 → Int32 → Int32 → Int32 → Int32 → Int32 → Prop} (hP : ∀ (vX : XV) (vI28 : IV) (vI48 : IV) (vI15 : IV) (x1 : Int32) (x5 : Int32) (x6 : Int32) (x7 : Int32) (x8 : Int32) (x9 : Int32) (x10 : Int32) (x11 : Int32) (x12 : Int32) (x13 : Int32) (x14 : Int32) (x15 : Int32) (x16 : Int32) (x17 : Int32) (x18 : Int32) (H : Heap) (locs : List Loc) (ls : Array Slot), P vX vI28 vI48 vI15 x1 x5 x6 x7 x8 x9 x10 x11 x12 x13 x14 x15 x16 x17 x18 → Wd D A s.heap (xW t aX vX ++ (i28W t aI28 vI28 ++ (i48W t aI48 vI48 ++ (i15W t aI15_1 vI15)))) H locs → lv_has ls 20 [(0, .ref (XA.o aX)), (1, .int x1), (2, .ref aI28), (3, .ref aI48), (4, .ref aI15_1), (5, .int x5), (6, .int x6), (7, .int x7), (8, .int x8), (9, .int x9), (10, .int x10), (11, .int x11), (12, .int x12), (13, .int x13), (14, .int x14), (15, .int x15), (16, .int x16), (17, .int x17), (18, .int x18)] → W p l e ({ frames := 82, cells := 3, slots := 39, locals := 1651 } : Room) s m args below meth c H locs 1 15 (Ei below args s A D (fun (u : XV × IV × IV) => (xW t aX u.1 ++ (i28W t aI28 u.2.1 ++ (i48W t aI48 u.2.2)))) (fun (r : Int32) (u : XV × IV × IV) => Q r u.1 u.2.1 u.2.2) 3 39) (F0 m 74 ls [])) (hK107 : ∀ (vX : XV) (vI28 : IV) (vI48 : IV) (vI15 : IV) (x1 : Int32) (x5 : Int32) (x6 : Int32) (x7 : Int32) (x8 : Int32) (x9 : Int32) (x10 : Int32) (x11 : Int32) (x12 : Int32) (x13 : Int32) (x14 : Int32) (x15 : Int32) (x16 : Int32) (x17 : Int32) (H : Heap) (locs : List Loc) (ls : Array Slot), K107 vX vI28 vI48 vI15 x1 x5 x6 x7 x8 x9 x10 x11 x12 x13 x14 x15 x16 x17 → Wd D A s.heap (xW t aX vX ++ (i28W t aI28 vI28 ++ (i48W t aI48 vI48 ++ (i15W t aI15_1 vI15)))) H locs → lv_has ls 20 [(0, .ref (XA.o aX)), (1, .int x1), (2, .ref aI28), (3, .ref aI48), (4, .ref aI15_1), (5, .int x5), (6, .int x6), (7, .int x7), (8, .int x8), (9, .int x9), (10, .int x10), (11, .int x11), (12, .int x12), (13, .int x13), (14, .int x14), (15, .int x15), (16, .int x16), (17, .int x17)] → W p l e ({ frames := 82, cells := 3, slots := 39, locals := 1651 } : Room) s m args below meth c H locs 1 15 (Ei below args s A D (fun (u : XV × IV × IV) => (xW t aX u.1 ++ (i28W t aI28 u.2.1 ++ (i48W t aI48 u.2.2)))) (fun (r : Int32) (u : XV × IV × IV) => Q r u.1 u.2.1 u.2.2) 3 39) (F0 m 107 ls [])) : ∀ (vX : XV) (vI28 : IV) (vI48 : IV) (vI15 : IV) (x1 : Int32) (x5 : Int32) (x6 : Int32) (x7 : Int32) (x8 : Int32) (x9 : Int32) (x10 : Int32) (x11 : Int32) (x12 : Int32) (x13 : Int32) (x14 : Int32) (x15 : Int32) (x16 : Int32) (x17 : Int32) (x18 : Int32) (H : Heap) (locs : List Loc) (ls : Array Slot), bd_L_told_74 Q P K107 vX vI28 vI48 vI15 x1 x5 x6 x7 x8 x9 x10 x11 x12 x13 x14 x15 x16 x17 x18 → Wd D A s.heap (xW t aX vX ++ (i28W t aI28 vI28 ++ (i48W t aI48 vI48 ++ (i15W t aI15_1 vI15)))) H locs → lv_has ls 20 [(0, .ref (XA.o aX)), (1, .int x1), (2, .ref aI28), (3, .ref aI48), (4, .ref aI15_1), (5, .int x5), (6, .int x6), (7, .int x7), (8, .int x8), (9, .int x9), (10, .int x10), (11, .int x11), (12, .int x12), (13, .int x13), (14, .int x14), (15, .int x15), (16, .int x16), (17, .int x17), (18, .int x18)] → W p l e ({ frames := 82, cells := 3, slots := 39, locals := 1651 } : Room) s m args below meth c H locs 1 15 (Ei below args s A D (fun (u : XV × IV × IV) => (xW t aX u.1 ++ (i28W t aI28 u.2.1 ++ (i48W t aI48 u.2.2)))) (fun (r : Int32) (u : XV × IV × IV) => Q r u.1 u.2.1 u.2.2) 3 39) (F0 m 74 ls []) := by
  intro vX vI28 vI48 vI15 x1 x5 x6 x7 x8 x9 x10 x11 x12 x13 x14 x15 x16 x17 x18 H locs ls h hw hl
  have hx := X.1.1
  have hb := X.1.2.1
  refine lv_iload hx hb dL_told_74 (lv_at hl 18 rfl) ?_
  refine lv_if_lt (tgt := 107) hx hb dL_told_76 (by decide) (fun c_12 => ?_) (fun c_12 => ?_)
  · replace h := h.1 c_12
    exact hK107 _ _ _ _ _ _ _ _ _ _ _ _ _ _ _ _ _ _ _ _ _ h hw (lv_sub hl [0, 1, 2, 3, 4, 5, 6, 7, 8, 9, 10, 11, 12, 13, 14, 15, 16, 17] rfl)
  replace h := h.2 c_12
  refine lv_iload hx hb dL_told_79 (lv_at hl 14 rfl) ?_
  refine lv_iload hx hb dL_told_81 (lv_at hl 18 rfl) ?_
  refine lv_aload_n hx hb dL_told_83 rfl (lv_at hl 2 rfl) ?_
  refine lv_aload_n hx hb dL_told_84 rfl (lv_at hl 3 rfl) ?_
  refine r_ci X hw (pm_2 (pm_r (pm_l pm_0)) (pm_r (pm_r (pm_l pm_0)))) (wn := fun (u : IV × IV) => (xW t aX vX ++ (i28W t aI28 u.1 ++ (i48W t aI48 u.2 ++ (i15W t aI15_1 vI15))))) (fun u => (pm_2 (pm_r (pm_l pm_0)) (pm_r (pm_r (pm_l pm_0)))).symm) (r_runS X hw (c_L_why l D t aI28 aI48 vI28 vI48 x14 x18 _ h) (pm_2 (pm_r (pm_l pm_0)) (pm_r (pm_r (pm_l pm_0)))) (va_cwS 4 X.1.2.2.2.2 gL_told_L_why rfl rfl rfl (by decide +kernel) ⟨Nat.le_of_ble_eq_true rfl, Nat.le_of_ble_eq_true rfl⟩) rfl hl rfl (Nat.le_of_ble_eq_true rfl) dL_told_85 ⟨Nat.le_of_ble_eq_true rfl, Nat.le_of_ble_eq_true rfl⟩) (fun r_8 u H locs h hw => ?_)
  obtain ⟨vI28_6, vI48_7⟩ := u
  refine lv_if_le (tgt := 94) hx hb dL_told_88 (by decide) (fun c_11 => ?_) (fun c_11 => ?_)
  · replace h := h.1 c_11
    obtain ⟨x16_9, ex16_9⟩ : ∃ z : Int32, z = x16 + 1 := ⟨_, rfl⟩
    replace h := h x16_9 ex16_9
    refine lv_iinc (v := x16_9) (lv' := [(16, .int x16_9), (0, .ref (XA.o aX)), (1, .int x1), (2, .ref aI28), (3, .ref aI48), (4, .ref aI15_1), (5, .int x5), (6, .int x6), (7, .int x7), (8, .int x8), (9, .int x9), (10, .int x10), (11, .int x11), (12, .int x12), (13, .int x13), (14, .int x14), (15, .int x15), (17, .int x17), (18, .int x18)]) hx hb dL_told_94 hl (k := 16) rfl (by rw [ex16_9]; rfl) (by decide) rfl (fun ls hl => ?_)
    refine lv_iload hx hb dL_told_97 (lv_at hl 18 rfl) ?_
    refine lv_istore (lv' := [(17, .int x18), (16, .int x16_9), (0, .ref (XA.o aX)), (1, .int x1), (2, .ref aI28), (3, .ref aI48), (4, .ref aI15_1), (5, .int x5), (6, .int x6), (7, .int x7), (8, .int x8), (9, .int x9), (10, .int x10), (11, .int x11), (12, .int x12), (13, .int x13), (14, .int x14), (15, .int x15), (18, .int x18)]) hx hb dL_told_99 hl (by decide) rfl (fun ls hl => ?_)
    exact k_L_told_101 X aX aI28 aI48 aI15_1 hP hK107 _ _ _ _ _ _ _ _ _ _ _ _ _ _ _ _ _ _ _ _ _ _ h hw (lv_sub hl [2, 3, 4, 5, 6, 7, 8, 9, 10, 11, 12, 13, 14, 15, 16, 17, 1, 0, 18] rfl)
  replace h := h.2 c_11
  refine lv_goto (tgt := 101) hx hb dL_told_91 (by decide) ?_
  exact k_L_told_101 X aX aI28 aI48 aI15_1 hP hK107 _ _ _ _ _ _ _ _ _ _ _ _ _ _ _ _ _ _ _ _ _ _ h hw hl
set_option maxHeartbeats 4000000 in
set_option maxRecDepth 100000 in
theorem k_L_told_74 {p : Program} {l : Launch} {e : Env} {s : State} {m : MethodId} {below : List Frame} {meth : Method} {c : Code} {args : Array Value} {D : va_G} {t : T3} {A : Nat → Prop} (X : Cx p s m meth c args cL_told 20 (some .boolean) RL wsL_told D t A) (aX : XA) (aI28 : Nat) (aI48 : Nat) (aI15_1 : Nat) {Q : Int32 → XV → IV → IV → Prop} {K107 : XV → IV → IV → IV → Int32 → Int32 → Int32 → Int32 → Int32 → Int32 → Int32 → Int32 → Int32 → Int32 → Int32 → Int32 → Int32 → Int32 → Prop} (hK107 : ∀ (vX : XV) (vI28 : IV) (vI48 : IV) (vI15 : IV) (x1 : Int32) (x5 : Int32) (x6 : Int32) (x7 : Int32) (x8 : Int32) (x9 : Int32) (x10 : Int32) (x11 : Int32) (x12 : Int32) (x13 : Int32) (x14 : Int32) (x15 : Int32) (x16 : Int32) (x17 : Int32) (H : Heap) (locs : List Loc) (ls : Array Slot), K107 vX vI28 vI48 vI15 x1 x5 x6 x7 x8 x9 x10 x11 x12 x13 x14 x15 x16 x17 → Wd D A s.heap (xW t aX vX ++ (i28W t aI28 vI28 ++ (i48W t aI48 vI48 ++ (i15W t aI15_1 vI15)))) H locs → lv_has ls 20 [(0, .ref (XA.o aX)), (1, .int x1), (2, .ref aI28), (3, .ref aI48), (4, .ref aI15_1), (5, .int x5), (6, .int x6), (7, .int x7), (8, .int x8), (9, .int x9), (10, .int x10), (11, .int x11), (12, .int x12), (13, .int x13), (14, .int x14), (15, .int x15), (16, .int x16), (17, .int x17)] → W p l e ({ frames := 82, cells := 3, slots := 39, locals := 1651 } : Room) s m args below meth c H locs 1 15 (Ei below args s A D (fun (u : XV × IV × IV) => (xW t aX u.1 ++ (i28W t aI28 u.2.1 ++ (i48W t aI48 u.2.2)))) (fun (r : Int32) (u : XV × IV × IV) => Q r u.1 u.2.1 u.2.2) 3 39) (F0 m 107 ls [])) : ∀ (vX : XV) (vI28 : IV) (vI48 : IV) (vI15 : IV) (x1 : Int32) (x5 : Int32) (x6 : Int32) (x7 : Int32) (x8 : Int32) (x9 : Int32) (x10 : Int32) (x11 : Int32) (x12 : Int32) (x13 : Int32) (x14 : Int32) (x15 : Int32) (x16 : Int32) (x17 : Int32) (x18 : Int32) (H : Heap) (locs : List Loc) (ls : Array Slot), wp_L_told_74 Q K107 vX vI28 vI48 vI15 x1 x5 x6 x7 x8 x9 x10 x11 x12 x13 x14 x15 x16 x17 x18 → Wd D A s.heap (xW t aX vX ++ (i28W t aI28 vI28 ++ (i48W t aI48 vI48 ++ (i15W t aI15_1 vI15)))) H locs → lv_has ls 20 [(0, .ref (XA.o aX)), (1, .int x1), (2, .ref aI28), (3, .ref aI48), (4, .ref aI15_1), (5, .int x5), (6, .int x6), (7, .int x7), (8, .int x8), (9, .int x9), (10, .int x10), (11, .int x11), (12, .int x12), (13, .int x13), (14, .int x14), (15, .int x15), (16, .int x16), (17, .int x17), (18, .int x18)] → W p l e ({ frames := 82, cells := 3, slots := 39, locals := 1651 } : Room) s m args below meth c H locs 1 15 (Ei below args s A D (fun (u : XV × IV × IV) => (xW t aX u.1 ++ (i28W t aI28 u.2.1 ++ (i48W t aI48 u.2.2)))) (fun (r : Int32) (u : XV × IV × IV) => Q r u.1 u.2.1 u.2.2) 3 39) (F0 m 74 ls []) := by
  intro vX vI28 vI48 vI15 x1 x5 x6 x7 x8 x9 x10 x11 x12 x13 x14 x15 x16 x17 x18 H locs ls h hw hl
  have hx := X.1.1
  have hb := X.1.2.1
  refine h (fun (vX : XV) (vI28 : IV) (vI48 : IV) (vI15 : IV) (x1 : Int32) (x5 : Int32) (x6 : Int32) (x7 : Int32) (x8 : Int32) (x9 : Int32) (x10 : Int32) (x11 : Int32) (x12 : Int32) (x13 : Int32) (x14 : Int32) (x15 : Int32) (x16 : Int32) (x17 : Int32) (x18 : Int32) => ∀ (H : Heap) (locs : List Loc) (ls : Array Slot), Wd D A s.heap (xW t aX vX ++ (i28W t aI28 vI28 ++ (i48W t aI48 vI48 ++ (i15W t aI15_1 vI15)))) H locs → lv_has ls 20 [(0, .ref (XA.o aX)), (1, .int x1), (2, .ref aI28), (3, .ref aI48), (4, .ref aI15_1), (5, .int x5), (6, .int x6), (7, .int x7), (8, .int x8), (9, .int x9), (10, .int x10), (11, .int x11), (12, .int x12), (13, .int x13), (14, .int x14), (15, .int x15), (16, .int x16), (17, .int x17), (18, .int x18)] → W p l e ({ frames := 82, cells := 3, slots := 39, locals := 1651 } : Room) s m args below meth c H locs 1 15 (Ei below args s A D (fun (u : XV × IV × IV) => (xW t aX u.1 ++ (i28W t aI28 u.2.1 ++ (i48W t aI48 u.2.2)))) (fun (r : Int32) (u : XV × IV × IV) => Q r u.1 u.2.1 u.2.2) 3 39) (F0 m 74 ls [])) (fun vX vI28 vI48 vI15 x1 x5 x6 x7 x8 x9 x10 x11 x12 x13 x14 x15 x16 x17 x18 h H locs ls hw hl => ?_) H locs ls hw hl
  exact kb_L_told_74 X aX aI28 aI48 aI15_1 (fun vX vI28 vI48 vI15 x1 x5 x6 x7 x8 x9 x10 x11 x12 x13 x14 x15 x16 x17 x18 H locs ls q hw hl => q H locs ls hw hl) hK107 vX vI28 vI48 vI15 x1 x5 x6 x7 x8 x9 x10 x11 x12 x13 x14 x15 x16 x17 x18 _ _ _ h hw hl
set_option maxHeartbeats 4000000 in
set_option maxRecDepth 100000 in
theorem k_L_told_428 {p : Program} {l : Launch} {e : Env} {s : State} {m : MethodId} {below : List Frame} {meth : Method} {c : Code} {args : Array Value} {D : va_G} {t : T3} {A : Nat → Prop} (X : Cx p s m meth c args cL_told 20 (some .boolean) RL wsL_told D t A) (aX : XA) (aI28 : Nat) (aI48 : Nat) (aI15_1 : Nat) {P : XV → IV → IV → IV → Int32 → Int32 → Int32 → Int32 → Int32 → Int32 → Int32 → Int32 → Int32 → Int32 → Int32 → Int32 → Int32 → Prop} {K434 : XV → IV → IV → IV → Int32 → Int32 → Int32 → Int32 → Int32 → Int32 → Int32 → Int32 → Int32 → Int32 → Int32 → Prop} {Q : Int32 → XV → IV → IV → Prop} (hP : ∀ (vX : XV) (vI28 : IV) (vI48 : IV) (vI15 : IV) (x1 : Int32) (x5 : Int32) (x6 : Int32) (x7 : Int32) (x8 : Int32) (x9 : Int32) (x10 : Int32) (x11 : Int32) (x12 : Int32) (x13 : Int32) (x14 : Int32) (x15 : Int32) (x18 : Int32) (H : Heap) (locs : List Loc) (ls : Array Slot), P vX vI28 vI48 vI15 x1 x5 x6 x7 x8 x9 x10 x11 x12 x13 x14 x15 x18 → Wd D A s.heap (xW t aX vX ++ (i28W t aI28 vI28 ++ (i48W t aI48 vI48 ++ (i15W t aI15_1 vI15)))) H locs → lv_has ls 20 [(0, .ref (XA.o aX)), (1, .int x1), (2, .ref aI28), (3, .ref aI48), (4, .ref aI15_1), (5, .int x5), (6, .int x6), (7, .int x7), (8, .int x8), (9, .int x9), (10, .int x10), (11, .int x11), (12, .int x12), (13, .int x13), (14, .int x14), (15, .int x15), (18, .int x18)] → W p l e ({ frames := 82, cells := 3, slots := 39, locals := 1651 } : Room) s m args below meth c H locs 1 15 (Ei below args s A D (fun (u : XV × IV × IV) => (xW t aX u.1 ++ (i28W t aI28 u.2.1 ++ (i48W t aI48 u.2.2)))) (fun (r : Int32) (u : XV × IV × IV) => Q r u.1 u.2.1 u.2.2) 3 39) (F0 m 245 ls [])) (hK434 : ∀ (vX : XV) (vI28 : IV) (vI48 : IV) (vI15 : IV) (x1 : Int32) (x5 : Int32) (x6 : Int32) (x7 : Int32) (x8 : Int32) (x9 : Int32) (x10 : Int32) (x11 : Int32) (x12 : Int32) (x13 : Int32) (x14 : Int32) (H : Heap) (locs : List Loc) (ls : Array Slot), K434 vX vI28 vI48 vI15 x1 x5 x6 x7 x8 x9 x10 x11 x12 x13 x14 → Wd D A s.heap (xW t aX vX ++ (i28W t aI28 vI28 ++ (i48W t aI48 vI48 ++ (i15W t aI15_1 vI15)))) H locs → lv_has ls 20 [(0, .ref (XA.o aX)), (1, .int x1), (2, .ref aI28), (3, .ref aI48), (4, .ref aI15_1), (5, .int x5), (6, .int x6), (7, .int x7), (8, .int x8), (9, .int x9), (10, .int x10), (11, .int x11), (12, .int x12), (13, .int x13), (14, .int x14)] → W p l e ({ frames := 82, cells := 3, slots := 39, locals := 1651 } : Room) s m args below meth c H locs 1 15 (Ei below args s A D (fun (u : XV × IV × IV) => (xW t aX u.1 ++ (i28W t aI28 u.2.1 ++ (i48W t aI48 u.2.2)))) (fun (r : Int32) (u : XV × IV × IV) => Q r u.1 u.2.1 u.2.2) 3 39) (F0 m 434 ls [])) : ∀ (vX : XV) (vI28 : IV) (vI48 : IV) (vI15 : IV) (x1 : Int32) (x5 : Int32) (x6 : Int32) (x7 : Int32) (x8 : Int32) (x9 : Int32) (x10 : Int32) (x11 : Int32) (x12 : Int32) (x13 : Int32) (x14 : Int32) (x15 : Int32) (x18 : Int32) (H : Heap) (locs : List Loc) (ls : Array Slot), wp_L_told_428 P K434 Q vX vI28 vI48 vI15 x1 x5 x6 x7 x8 x9 x10 x11 x12 x13 x14 x15 x18 → Wd D A s.heap (xW t aX vX ++ (i28W t aI28 vI28 ++ (i48W t aI48 vI48 ++ (i15W t aI15_1 vI15)))) H locs → lv_has ls 20 [(0, .ref (XA.o aX)), (1, .int x1), (2, .ref aI28), (3, .ref aI48), (4, .ref aI15_1), (5, .int x5), (6, .int x6), (7, .int x7), (8, .int x8), (9, .int x9), (10, .int x10), (11, .int x11), (12, .int x12), (13, .int x13), (14, .int x14), (15, .int x15), (18, .int x18)] → W p l e ({ frames := 82, cells := 3, slots := 39, locals := 1651 } : Room) s m args below meth c H locs 1 15 (Ei below args s A D (fun (u : XV × IV × IV) => (xW t aX u.1 ++ (i28W t aI28 u.2.1 ++ (i48W t aI48 u.2.2)))) (fun (r : Int32) (u : XV × IV × IV) => Q r u.1 u.2.1 u.2.2) 3 39) (F0 m 428 ls []) := by
  intro vX vI28 vI48 vI15 x1 x5 x6 x7 x8 x9 x10 x11 x12 x13 x14 x15 x18 H locs ls h hw hl
  have hx := X.1.1
  have hb := X.1.2.1
  obtain ⟨x18_54, ex18_54⟩ : ∃ z : Int32, z = x18 + 1 := ⟨_, rfl⟩
  replace h := h x18_54 ex18_54
  refine lv_iinc (v := x18_54) (lv' := [(18, .int x18_54), (0, .ref (XA.o aX)), (1, .int x1), (2, .ref aI28), (3, .ref aI48), (4, .ref aI15_1), (5, .int x5), (6, .int x6), (7, .int x7), (8, .int x8), (9, .int x9), (10, .int x10), (11, .int x11), (12, .int x12), (13, .int x13), (14, .int x14), (15, .int x15)]) hx hb dL_told_428 hl (k := 16) rfl (by rw [ex18_54]; rfl) (by decide) rfl (fun ls hl => ?_)
  refine lv_goto (tgt := 245) hx hb dL_told_431 (by decide) ?_
  exact hP _ _ _ _ _ _ _ _ _ _ _ _ _ _ _ _ _ _ _ _ h hw (lv_sub hl [1, 2, 3, 4, 5, 6, 7, 8, 9, 10, 11, 12, 13, 14, 15, 16, 0] rfl)
set_option maxHeartbeats 4000000 in
set_option maxRecDepth 100000 in
theorem k_L_told_425 {p : Program} {l : Launch} {e : Env} {s : State} {m : MethodId} {below : List Frame} {meth : Method} {c : Code} {args : Array Value} {D : va_G} {t : T3} {A : Nat → Prop} (X : Cx p s m meth c args cL_told 20 (some .boolean) RL wsL_told D t A) (aX : XA) (aI28 : Nat) (aI48 : Nat) (aI15_1 : Nat) {P : XV → IV → IV → IV → Int32 → Int32 → Int32 → Int32 → Int32 → Int32 → Int32 → Int32 → Int32 → Int32 → Int32 → Int32 → Int32 → Prop} {K434 : XV → IV → IV → IV → Int32 → Int32 → Int32 → Int32 → Int32 → Int32 → Int32 → Int32 → Int32 → Int32 → Int32 → Prop} {Q : Int32 → XV → IV → IV → Prop} (hP : ∀ (vX : XV) (vI28 : IV) (vI48 : IV) (vI15 : IV) (x1 : Int32) (x5 : Int32) (x6 : Int32) (x7 : Int32) (x8 : Int32) (x9 : Int32) (x10 : Int32) (x11 : Int32) (x12 : Int32) (x13 : Int32) (x14 : Int32) (x15 : Int32) (x18 : Int32) (H : Heap) (locs : List Loc) (ls : Array Slot), P vX vI28 vI48 vI15 x1 x5 x6 x7 x8 x9 x10 x11 x12 x13 x14 x15 x18 → Wd D A s.heap (xW t aX vX ++ (i28W t aI28 vI28 ++ (i48W t aI48 vI48 ++ (i15W t aI15_1 vI15)))) H locs → lv_has ls 20 [(0, .ref (XA.o aX)), (1, .int x1), (2, .ref aI28), (3, .ref aI48), (4, .ref aI15_1), (5, .int x5), (6, .int x6), (7, .int x7), (8, .int x8), (9, .int x9), (10, .int x10), (11, .int x11), (12, .int x12), (13, .int x13), (14, .int x14), (15, .int x15), (18, .int x18)] → W p l e ({ frames := 82, cells := 3, slots := 39, locals := 1651 } : Room) s m args below meth c H locs 1 15 (Ei below args s A D (fun (u : XV × IV × IV) => (xW t aX u.1 ++ (i28W t aI28 u.2.1 ++ (i48W t aI48 u.2.2)))) (fun (r : Int32) (u : XV × IV × IV) => Q r u.1 u.2.1 u.2.2) 3 39) (F0 m 245 ls [])) (hK434 : ∀ (vX : XV) (vI28 : IV) (vI48 : IV) (vI15 : IV) (x1 : Int32) (x5 : Int32) (x6 : Int32) (x7 : Int32) (x8 : Int32) (x9 : Int32) (x10 : Int32) (x11 : Int32) (x12 : Int32) (x13 : Int32) (x14 : Int32) (H : Heap) (locs : List Loc) (ls : Array Slot), K434 vX vI28 vI48 vI15 x1 x5 x6 x7 x8 x9 x10 x11 x12 x13 x14 → Wd D A s.heap (xW t aX vX ++ (i28W t aI28 vI28 ++ (i48W t aI48 vI48 ++ (i15W t aI15_1 vI15)))) H locs → lv_has ls 20 [(0, .ref (XA.o aX)), (1, .int x1), (2, .ref aI28), (3, .ref aI48), (4, .ref aI15_1), (5, .int x5), (6, .int x6), (7, .int x7), (8, .int x8), (9, .int x9), (10, .int x10), (11, .int x11), (12, .int x12), (13, .int x13), (14, .int x14)] → W p l e ({ frames := 82, cells := 3, slots := 39, locals := 1651 } : Room) s m args below meth c H locs 1 15 (Ei below args s A D (fun (u : XV × IV × IV) => (xW t aX u.1 ++ (i28W t aI28 u.2.1 ++ (i48W t aI48 u.2.2)))) (fun (r : Int32) (u : XV × IV × IV) => Q r u.1 u.2.1 u.2.2) 3 39) (F0 m 434 ls [])) : ∀ (vX : XV) (vI28 : IV) (vI48 : IV) (vI15 : IV) (x1 : Int32) (x5 : Int32) (x6 : Int32) (x7 : Int32) (x8 : Int32) (x9 : Int32) (x11 : Int32) (x12 : Int32) (x13 : Int32) (x14 : Int32) (x15 : Int32) (x18 : Int32) (t0 : Int32) (t1 : Int32) (H : Heap) (locs : List Loc) (ls : Array Slot), wp_L_told_425 P K434 Q vX vI28 vI48 vI15 x1 x5 x6 x7 x8 x9 x11 x12 x13 x14 x15 x18 t0 t1 → Wd D A s.heap (xW t aX vX ++ (i28W t aI28 vI28 ++ (i48W t aI48 vI48 ++ (i15W t aI15_1 vI15)))) H locs → lv_has ls 20 [(0, .ref (XA.o aX)), (1, .int x1), (2, .ref aI28), (3, .ref aI48), (4, .ref aI15_1), (5, .int x5), (6, .int x6), (7, .int x7), (8, .int x8), (9, .int x9), (11, .int x11), (12, .int x12), (13, .int x13), (14, .int x14), (15, .int x15), (18, .int x18)] → W p l e ({ frames := 82, cells := 3, slots := 39, locals := 1651 } : Room) s m args below meth c H locs 1 15 (Ei below args s A D (fun (u : XV × IV × IV) => (xW t aX u.1 ++ (i28W t aI28 u.2.1 ++ (i48W t aI48 u.2.2)))) (fun (r : Int32) (u : XV × IV × IV) => Q r u.1 u.2.1 u.2.2) 3 39) (F0 m 425 ls [.int t1, .int t0]) := by
  intro vX vI28 vI48 vI15 x1 x5 x6 x7 x8 x9 x11 x12 x13 x14 x15 x18 t0 t1 H locs ls h hw hl
  have hx := X.1.1
  have hb := X.1.2.1
  refine lv_iadd hx hb dL_told_425 ?_
  refine lv_topi (fun x10_68 ex10_68 => ?_)
  replace h := h x10_68 ex10_68
  refine lv_istore (lv' := [(10, .int x10_68), (0, .ref (XA.o aX)), (1, .int x1), (2, .ref aI28), (3, .ref aI48), (4, .ref aI15_1), (5, .int x5), (6, .int x6), (7, .int x7), (8, .int x8), (9, .int x9), (11, .int x11), (12, .int x12), (13, .int x13), (14, .int x14), (15, .int x15), (18, .int x18)]) hx hb dL_told_426 hl (by decide) rfl (fun ls hl => ?_)
  exact k_L_told_428 X aX aI28 aI48 aI15_1 hP hK434 _ _ _ _ _ _ _ _ _ _ _ _ _ _ _ _ _ _ _ _ h hw (lv_sub hl [1, 2, 3, 4, 5, 6, 7, 8, 9, 10, 0, 11, 12, 13, 14, 15, 16] rfl)
set_option maxHeartbeats 4000000 in
set_option maxRecDepth 100000 in
theorem k_L_told_386 {p : Program} {l : Launch} {e : Env} {s : State} {m : MethodId} {below : List Frame} {meth : Method} {c : Code} {args : Array Value} {D : va_G} {t : T3} {A : Nat → Prop} (X : Cx p s m meth c args cL_told 20 (some .boolean) RL wsL_told D t A) (aX : XA) (aI28 : Nat) (aI48 : Nat) (aI15_1 : Nat) {P : XV → IV → IV → IV → Int32 → Int32 → Int32 → Int32 → Int32 → Int32 → Int32 → Int32 → Int32 → Int32 → Int32 → Int32 → Int32 → Prop} {K434 : XV → IV → IV → IV → Int32 → Int32 → Int32 → Int32 → Int32 → Int32 → Int32 → Int32 → Int32 → Int32 → Int32 → Prop} {Q : Int32 → XV → IV → IV → Prop} (hP : ∀ (vX : XV) (vI28 : IV) (vI48 : IV) (vI15 : IV) (x1 : Int32) (x5 : Int32) (x6 : Int32) (x7 : Int32) (x8 : Int32) (x9 : Int32) (x10 : Int32) (x11 : Int32) (x12 : Int32) (x13 : Int32) (x14 : Int32) (x15 : Int32) (x18 : Int32) (H : Heap) (locs : List Loc) (ls : Array Slot), P vX vI28 vI48 vI15 x1 x5 x6 x7 x8 x9 x10 x11 x12 x13 x14 x15 x18 → Wd D A s.heap (xW t aX vX ++ (i28W t aI28 vI28 ++ (i48W t aI48 vI48 ++ (i15W t aI15_1 vI15)))) H locs → lv_has ls 20 [(0, .ref (XA.o aX)), (1, .int x1), (2, .ref aI28), (3, .ref aI48), (4, .ref aI15_1), (5, .int x5), (6, .int x6), (7, .int x7), (8, .int x8), (9, .int x9), (10, .int x10), (11, .int x11), (12, .int x12), (13, .int x13), (14, .int x14), (15, .int x15), (18, .int x18)] → W p l e ({ frames := 82, cells := 3, slots := 39, locals := 1651 } : Room) s m args below meth c H locs 1 15 (Ei below args s A D (fun (u : XV × IV × IV) => (xW t aX u.1 ++ (i28W t aI28 u.2.1 ++ (i48W t aI48 u.2.2)))) (fun (r : Int32) (u : XV × IV × IV) => Q r u.1 u.2.1 u.2.2) 3 39) (F0 m 245 ls [])) (hK434 : ∀ (vX : XV) (vI28 : IV) (vI48 : IV) (vI15 : IV) (x1 : Int32) (x5 : Int32) (x6 : Int32) (x7 : Int32) (x8 : Int32) (x9 : Int32) (x10 : Int32) (x11 : Int32) (x12 : Int32) (x13 : Int32) (x14 : Int32) (H : Heap) (locs : List Loc) (ls : Array Slot), K434 vX vI28 vI48 vI15 x1 x5 x6 x7 x8 x9 x10 x11 x12 x13 x14 → Wd D A s.heap (xW t aX vX ++ (i28W t aI28 vI28 ++ (i48W t aI48 vI48 ++ (i15W t aI15_1 vI15)))) H locs → lv_has ls 20 [(0, .ref (XA.o aX)), (1, .int x1), (2, .ref aI28), (3, .ref aI48), (4, .ref aI15_1), (5, .int x5), (6, .int x6), (7, .int x7), (8, .int x8), (9, .int x9), (10, .int x10), (11, .int x11), (12, .int x12), (13, .int x13), (14, .int x14)] → W p l e ({ frames := 82, cells := 3, slots := 39, locals := 1651 } : Room) s m args below meth c H locs 1 15 (Ei below args s A D (fun (u : XV × IV × IV) => (xW t aX u.1 ++ (i28W t aI28 u.2.1 ++ (i48W t aI48 u.2.2)))) (fun (r : Int32) (u : XV × IV × IV) => Q r u.1 u.2.1 u.2.2) 3 39) (F0 m 434 ls [])) : ∀ (vX : XV) (vI28 : IV) (vI48 : IV) (vI15 : IV) (x1 : Int32) (x5 : Int32) (x6 : Int32) (x7 : Int32) (x8 : Int32) (x10 : Int32) (x11 : Int32) (x12 : Int32) (x13 : Int32) (x14 : Int32) (x15 : Int32) (x18 : Int32) (x19 : Int32) (t0 : Int32) (t1 : Int32) (H : Heap) (locs : List Loc) (ls : Array Slot), wp_L_told_386 P K434 Q vX vI28 vI48 vI15 x1 x5 x6 x7 x8 x10 x11 x12 x13 x14 x15 x18 x19 t0 t1 → Wd D A s.heap (xW t aX vX ++ (i28W t aI28 vI28 ++ (i48W t aI48 vI48 ++ (i15W t aI15_1 vI15)))) H locs → lv_has ls 20 [(0, .ref (XA.o aX)), (1, .int x1), (2, .ref aI28), (3, .ref aI48), (4, .ref aI15_1), (5, .int x5), (6, .int x6), (7, .int x7), (8, .int x8), (10, .int x10), (11, .int x11), (12, .int x12), (13, .int x13), (14, .int x14), (15, .int x15), (18, .int x18), (19, .int x19)] → W p l e ({ frames := 82, cells := 3, slots := 39, locals := 1651 } : Room) s m args below meth c H locs 1 15 (Ei below args s A D (fun (u : XV × IV × IV) => (xW t aX u.1 ++ (i28W t aI28 u.2.1 ++ (i48W t aI48 u.2.2)))) (fun (r : Int32) (u : XV × IV × IV) => Q r u.1 u.2.1 u.2.2) 3 39) (F0 m 386 ls [.int t1, .int t0]) := by
  intro vX vI28 vI48 vI15 x1 x5 x6 x7 x8 x10 x11 x12 x13 x14 x15 x18 x19 t0 t1 H locs ls h hw hl
  have hx := X.1.1
  have hb := X.1.2.1
  refine lv_iadd hx hb dL_told_386 ?_
  refine lv_topi (fun x9_62 ex9_62 => ?_)
  replace h := h x9_62 ex9_62
  refine lv_istore (lv' := [(9, .int x9_62), (0, .ref (XA.o aX)), (1, .int x1), (2, .ref aI28), (3, .ref aI48), (4, .ref aI15_1), (5, .int x5), (6, .int x6), (7, .int x7), (8, .int x8), (10, .int x10), (11, .int x11), (12, .int x12), (13, .int x13), (14, .int x14), (15, .int x15), (18, .int x18), (19, .int x19)]) hx hb dL_told_387 hl (by decide) rfl (fun ls hl => ?_)
  refine lv_iload hx hb dL_told_389 (lv_at hl 10 rfl) ?_
  refine lv_iload hx hb dL_told_391 (lv_at hl 15 rfl) ?_
  refine lv_iload hx hb dL_told_393 (lv_at hl 16 rfl) ?_
  refine lv_iconst (v := 1) hx hb dL_told_395 (by decide) ?_
  refine lv_aload_n hx hb dL_told_396 rfl (lv_at hl 4 rfl) ?_
  refine r_ci X hw (pm_r (pm_r (pm_l pm_0))) (wn := fun (u : IV) => (xW t aX vX ++ (i28W t aI28 vI28 ++ (i48W t aI48 u ++ (i15W t aI15_1 vI15))))) (fun u => (pm_r (pm_r (pm_l pm_0))).symm) (r_runS X hw (c_L_color l D t aI48 vI48 x15 x18 1 _ h) (pm_r (pm_r (pm_l pm_0))) (va_cwS 4 X.1.2.2.2.2 gL_told_L_color rfl rfl rfl (by decide +kernel) ⟨Nat.le_of_ble_eq_true rfl, Nat.le_of_ble_eq_true rfl⟩) rfl hl rfl (Nat.le_of_ble_eq_true rfl) dL_told_397 ⟨Nat.le_of_ble_eq_true rfl, Nat.le_of_ble_eq_true rfl⟩) (fun r_64 u H locs h hw => ?_)
  obtain ⟨vI48_63, rfl⟩ : ∃ z, z = u := ⟨_, rfl⟩
  refine lv_aload_n hx hb dL_told_400 rfl (lv_at hl 3 rfl) ?_
  refine lv_iconst (v := 4) hx hb dL_told_401 (by decide) ?_
  refine lv_iload hx hb dL_told_402 (lv_at hl 17 rfl) ?_
  refine lv_iadd hx hb dL_told_404 ?_
  obtain ⟨hi_65, h⟩ := h
  refine r_iald (v := (vI28 (Int32.toNatClampNeg (4 + x19)))) X hw 61 rfl hi_65 rfl dL_told_405 ?_
  refine lv_iload hx hb dL_told_406 (lv_at hl 16 rfl) ?_
  refine lv_iconst (v := 2) hx hb dL_told_408 (by decide) ?_
  refine lv_iadd hx hb dL_told_409 ?_
  refine lv_iconst (v := 3) hx hb dL_told_410 (by decide) ?_
  refine lv_iand hx hb dL_told_411 ?_
  refine lv_iconst (v := 1) hx hb dL_told_412 (by decide) ?_
  refine lv_aload_n hx hb dL_told_413 rfl (lv_at hl 4 rfl) ?_
  refine r_ci X hw (pm_r (pm_r (pm_l pm_0))) (wn := fun (u : IV) => (xW t aX vX ++ (i28W t aI28 vI28 ++ (i48W t aI48 u ++ (i15W t aI15_1 vI15))))) (fun u => (pm_r (pm_r (pm_l pm_0))).symm) (r_runS X hw (c_L_color l D t aI48 vI48_63 (vI28 (Int32.toNatClampNeg (4 + x19))) ((x18 + 2) &&& 3) 1 _ h) (pm_r (pm_r (pm_l pm_0))) (va_cwS 4 X.1.2.2.2.2 gL_told_L_color rfl rfl rfl (by decide +kernel) ⟨Nat.le_of_ble_eq_true rfl, Nat.le_of_ble_eq_true rfl⟩) rfl hl rfl (Nat.le_of_ble_eq_true rfl) dL_told_414 ⟨Nat.le_of_ble_eq_true rfl, Nat.le_of_ble_eq_true rfl⟩) (fun r_67 u H locs h hw => ?_)
  obtain ⟨vI48_66, rfl⟩ : ∃ z, z = u := ⟨_, rfl⟩
  refine lv_icmp_ne (tgt := 424) hx hb dL_told_417 (by decide) (fun c_69 => ?_) (fun c_69 => ?_)
  · replace h := h.1 c_69
    refine lv_iconst (v := 0) hx hb dL_told_424 (by decide) ?_
    exact k_L_told_425 X aX aI28 aI48 aI15_1 hP hK434 _ _ _ _ _ _ _ _ _ _ _ _ _ _ _ _ _ _ _ _ _ h hw (lv_sub hl [1, 2, 3, 4, 5, 6, 7, 8, 9, 0, 11, 12, 13, 14, 15, 16] rfl)
  replace h := h.2 c_69
  refine lv_iconst (v := 1) hx hb dL_told_420 (by decide) ?_
  refine lv_goto (tgt := 425) hx hb dL_told_421 (by decide) ?_
  exact k_L_told_425 X aX aI28 aI48 aI15_1 hP hK434 _ _ _ _ _ _ _ _ _ _ _ _ _ _ _ _ _ _ _ _ _ h hw (lv_sub hl [1, 2, 3, 4, 5, 6, 7, 8, 9, 0, 11, 12, 13, 14, 15, 16] rfl)
set_option maxHeartbeats 4000000 in
set_option maxRecDepth 100000 in
theorem k_L_told_318 {p : Program} {l : Launch} {e : Env} {s : State} {m : MethodId} {below : List Frame} {meth : Method} {c : Code} {args : Array Value} {D : va_G} {t : T3} {A : Nat → Prop} (X : Cx p s m meth c args cL_told 20 (some .boolean) RL wsL_told D t A) (aX : XA) (aI28 : Nat) (aI48 : Nat) (aI15_1 : Nat) {P : XV → IV → IV → IV → Int32 → Int32 → Int32 → Int32 → Int32 → Int32 → Int32 → Int32 → Int32 → Int32 → Int32 → Int32 → Int32 → Prop} {K434 : XV → IV → IV → IV → Int32 → Int32 → Int32 → Int32 → Int32 → Int32 → Int32 → Int32 → Int32 → Int32 → Int32 → Prop} {Q : Int32 → XV → IV → IV → Prop} (hP : ∀ (vX : XV) (vI28 : IV) (vI48 : IV) (vI15 : IV) (x1 : Int32) (x5 : Int32) (x6 : Int32) (x7 : Int32) (x8 : Int32) (x9 : Int32) (x10 : Int32) (x11 : Int32) (x12 : Int32) (x13 : Int32) (x14 : Int32) (x15 : Int32) (x18 : Int32) (H : Heap) (locs : List Loc) (ls : Array Slot), P vX vI28 vI48 vI15 x1 x5 x6 x7 x8 x9 x10 x11 x12 x13 x14 x15 x18 → Wd D A s.heap (xW t aX vX ++ (i28W t aI28 vI28 ++ (i48W t aI48 vI48 ++ (i15W t aI15_1 vI15)))) H locs → lv_has ls 20 [(0, .ref (XA.o aX)), (1, .int x1), (2, .ref aI28), (3, .ref aI48), (4, .ref aI15_1), (5, .int x5), (6, .int x6), (7, .int x7), (8, .int x8), (9, .int x9), (10, .int x10), (11, .int x11), (12, .int x12), (13, .int x13), (14, .int x14), (15, .int x15), (18, .int x18)] → W p l e ({ frames := 82, cells := 3, slots := 39, locals := 1651 } : Room) s m args below meth c H locs 1 15 (Ei below args s A D (fun (u : XV × IV × IV) => (xW t aX u.1 ++ (i28W t aI28 u.2.1 ++ (i48W t aI48 u.2.2)))) (fun (r : Int32) (u : XV × IV × IV) => Q r u.1 u.2.1 u.2.2) 3 39) (F0 m 245 ls [])) (hK434 : ∀ (vX : XV) (vI28 : IV) (vI48 : IV) (vI15 : IV) (x1 : Int32) (x5 : Int32) (x6 : Int32) (x7 : Int32) (x8 : Int32) (x9 : Int32) (x10 : Int32) (x11 : Int32) (x12 : Int32) (x13 : Int32) (x14 : Int32) (H : Heap) (locs : List Loc) (ls : Array Slot), K434 vX vI28 vI48 vI15 x1 x5 x6 x7 x8 x9 x10 x11 x12 x13 x14 → Wd D A s.heap (xW t aX vX ++ (i28W t aI28 vI28 ++ (i48W t aI48 vI48 ++ (i15W t aI15_1 vI15)))) H locs → lv_has ls 20 [(0, .ref (XA.o aX)), (1, .int x1), (2, .ref aI28), (3, .ref aI48), (4, .ref aI15_1), (5, .int x5), (6, .int x6), (7, .int x7), (8, .int x8), (9, .int x9), (10, .int x10), (11, .int x11), (12, .int x12), (13, .int x13), (14, .int x14)] → W p l e ({ frames := 82, cells := 3, slots := 39, locals := 1651 } : Room) s m args below meth c H locs 1 15 (Ei below args s A D (fun (u : XV × IV × IV) => (xW t aX u.1 ++ (i28W t aI28 u.2.1 ++ (i48W t aI48 u.2.2)))) (fun (r : Int32) (u : XV × IV × IV) => Q r u.1 u.2.1 u.2.2) 3 39) (F0 m 434 ls [])) : ∀ (vX : XV) (vI28 : IV) (vI48 : IV) (vI15 : IV) (x1 : Int32) (x5 : Int32) (x6 : Int32) (x7 : Int32) (x8 : Int32) (x9 : Int32) (x10 : Int32) (x11 : Int32) (x12 : Int32) (x13 : Int32) (x14 : Int32) (x15 : Int32) (x18 : Int32) (x19 : Int32) (t0 : Int32) (t1 : Int32) (H : Heap) (locs : List Loc) (ls : Array Slot), wp_L_told_318 P K434 Q vX vI28 vI48 vI15 x1 x5 x6 x7 x8 x9 x10 x11 x12 x13 x14 x15 x18 x19 t0 t1 → Wd D A s.heap (xW t aX vX ++ (i28W t aI28 vI28 ++ (i48W t aI48 vI48 ++ (i15W t aI15_1 vI15)))) H locs → lv_has ls 20 [(0, .ref (XA.o aX)), (1, .int x1), (2, .ref aI28), (3, .ref aI48), (4, .ref aI15_1), (5, .int x5), (6, .int x6), (7, .int x7), (8, .int x8), (9, .int x9), (10, .int x10), (11, .int x11), (12, .int x12), (13, .int x13), (14, .int x14), (15, .int x15), (18, .int x18), (19, .int x19)] → W p l e ({ frames := 82, cells := 3, slots := 39, locals := 1651 } : Room) s m args below meth c H locs 1 15 (Ei below args s A D (fun (u : XV × IV × IV) => (xW t aX u.1 ++ (i28W t aI28 u.2.1 ++ (i48W t aI48 u.2.2)))) (fun (r : Int32) (u : XV × IV × IV) => Q r u.1 u.2.1 u.2.2) 3 39) (F0 m 318 ls [.int t1, .int t0]) := by
  intro vX vI28 vI48 vI15 x1 x5 x6 x7 x8 x9 x10 x11 x12 x13 x14 x15 x18 x19 t0 t1 H locs ls h hw hl
  have hx := X.1.1
  have hb := X.1.2.1
  refine lv_icmp_eq (tgt := 323) hx hb dL_told_318 (by decide) (fun c_74 => ?_) (fun c_74 => ?_)
  · replace h := h.1 c_74
    refine lv_iload hx hb dL_told_323 (lv_at hl 15 rfl) ?_
    refine lv_if_lt (tgt := 428) hx hb dL_told_325 (by decide) (fun c_73 => ?_) (fun c_73 => ?_)
    · replace h := h.1 c_73
      exact k_L_told_428 X aX aI28 aI48 aI15_1 hP hK434 _ _ _ _ _ _ _ _ _ _ _ _ _ _ _ _ _ _ _ _ h hw (lv_sub hl [0, 1, 2, 3, 4, 5, 6, 7, 8, 9, 10, 11, 12, 13, 14, 15, 16] rfl)
    replace h := h.2 c_73
    refine lv_iload hx hb dL_told_328 (lv_at hl 17 rfl) ?_
    refine lv_iload hx hb dL_told_330 (lv_at hl 14 rfl) ?_
    refine lv_icmp_le (tgt := 428) hx hb dL_told_332 (by decide) (fun c_72 => ?_) (fun c_72 => ?_)
    · replace h := h.1 c_72
      exact k_L_told_428 X aX aI28 aI48 aI15_1 hP hK434 _ _ _ _ _ _ _ _ _ _ _ _ _ _ _ _ _ _ _ _ h hw (lv_sub hl [0, 1, 2, 3, 4, 5, 6, 7, 8, 9, 10, 11, 12, 13, 14, 15, 16] rfl)
    replace h := h.2 c_72
    refine lv_aload_n hx hb dL_told_335 rfl (lv_at hl 2 rfl) ?_
    refine lv_iconst (v := 4) hx hb dL_told_336 (by decide) ?_
    refine lv_iload hx hb dL_told_337 (lv_at hl 17 rfl) ?_
    refine lv_iadd hx hb dL_told_339 ?_
    obtain ⟨hi_55, h⟩ := h
    refine r_iald (v := (vI28 (Int32.toNatClampNeg (4 + x19)))) X hw 61 rfl hi_55 rfl dL_told_340 ?_
    refine lv_if_ge (tgt := 347) hx hb dL_told_341 (by decide) (fun c_71 => ?_) (fun c_71 => ?_)
    · replace h := h.1 c_71
      obtain ⟨x8_56, ex8_56⟩ : ∃ z : Int32, z = x8 + 1 := ⟨_, rfl⟩
      replace h := h x8_56 ex8_56
      refine lv_iinc (v := x8_56) (lv' := [(8, .int x8_56), (0, .ref (XA.o aX)), (1, .int x1), (2, .ref aI28), (3, .ref aI48), (4, .ref aI15_1), (5, .int x5), (6, .int x6), (7, .int x7), (9, .int x9), (10, .int x10), (11, .int x11), (12, .int x12), (13, .int x13), (14, .int x14), (15, .int x15), (18, .int x18), (19, .int x19)]) hx hb dL_told_347 hl (k := 8) rfl (by rw [ex8_56]; rfl) (by decide) rfl (fun ls hl => ?_)
      refine lv_iload hx hb dL_told_350 (lv_at hl 9 rfl) ?_
      refine lv_iload hx hb dL_told_352 (lv_at hl 15 rfl) ?_
      refine lv_iload hx hb dL_told_354 (lv_at hl 16 rfl) ?_
      refine lv_iconst (v := 0) hx hb dL_told_356 (by decide) ?_
      refine lv_aload_n hx hb dL_told_357 rfl (lv_at hl 4 rfl) ?_
      refine r_ci X hw (pm_r (pm_r (pm_l pm_0))) (wn := fun (u : IV) => (xW t aX vX ++ (i28W t aI28 vI28 ++ (i48W t aI48 u ++ (i15W t aI15_1 vI15))))) (fun u => (pm_r (pm_r (pm_l pm_0))).symm) (r_runS X hw (c_L_color l D t aI48 vI48 x15 x18 0 _ h) (pm_r (pm_r (pm_l pm_0))) (va_cwS 4 X.1.2.2.2.2 gL_told_L_color rfl rfl rfl (by decide +kernel) ⟨Nat.le_of_ble_eq_true rfl, Nat.le_of_ble_eq_true rfl⟩) rfl hl rfl (Nat.le_of_ble_eq_true rfl) dL_told_358 ⟨Nat.le_of_ble_eq_true rfl, Nat.le_of_ble_eq_true rfl⟩) (fun r_58 u H locs h hw => ?_)
      obtain ⟨vI48_57, rfl⟩ : ∃ z, z = u := ⟨_, rfl⟩
      refine lv_aload_n hx hb dL_told_361 rfl (lv_at hl 3 rfl) ?_
      refine lv_iconst (v := 4) hx hb dL_told_362 (by decide) ?_
      refine lv_iload hx hb dL_told_363 (lv_at hl 17 rfl) ?_
      refine lv_iadd hx hb dL_told_365 ?_
      obtain ⟨hi_59, h⟩ := h
      refine r_iald (v := (vI28 (Int32.toNatClampNeg (4 + x19)))) X hw 61 rfl hi_59 rfl dL_told_366 ?_
      refine lv_iload hx hb dL_told_367 (lv_at hl 16 rfl) ?_
      refine lv_iconst (v := 2) hx hb dL_told_369 (by decide) ?_
      refine lv_iadd hx hb dL_told_370 ?_
      refine lv_iconst (v := 3) hx hb dL_told_371 (by decide) ?_
      refine lv_iand hx hb dL_told_372 ?_
      refine lv_iconst (v := 0) hx hb dL_told_373 (by decide) ?_
      refine lv_aload_n hx hb dL_told_374 rfl (lv_at hl 4 rfl) ?_
      refine r_ci X hw (pm_r (pm_r (pm_l pm_0))) (wn := fun (u : IV) => (xW t aX vX ++ (i28W t aI28 vI28 ++ (i48W t aI48 u ++ (i15W t aI15_1 vI15))))) (fun u => (pm_r (pm_r (pm_l pm_0))).symm) (r_runS X hw (c_L_color l D t aI48 vI48_57 (vI28 (Int32.toNatClampNeg (4 + x19))) ((x18 + 2) &&& 3) 0 _ h) (pm_r (pm_r (pm_l pm_0))) (va_cwS 4 X.1.2.2.2.2 gL_told_L_color rfl rfl rfl (by decide +kernel) ⟨Nat.le_of_ble_eq_true rfl, Nat.le_of_ble_eq_true rfl⟩) rfl hl rfl (Nat.le_of_ble_eq_true rfl) dL_told_375 ⟨Nat.le_of_ble_eq_true rfl, Nat.le_of_ble_eq_true rfl⟩) (fun r_61 u H locs h hw => ?_)
      obtain ⟨vI48_60, rfl⟩ : ∃ z, z = u := ⟨_, rfl⟩
      refine lv_icmp_ne (tgt := 385) hx hb dL_told_378 (by decide) (fun c_70 => ?_) (fun c_70 => ?_)
      · replace h := h.1 c_70
        refine lv_iconst (v := 0) hx hb dL_told_385 (by decide) ?_
        exact k_L_told_386 X aX aI28 aI48 aI15_1 hP hK434 _ _ _ _ _ _ _ _ _ _ _ _ _ _ _ _ _ _ _ _ _ _ h hw (lv_sub hl [1, 2, 3, 4, 5, 6, 7, 8, 0, 10, 11, 12, 13, 14, 15, 16, 17] rfl)
      replace h := h.2 c_70
      refine lv_iconst (v := 1) hx hb dL_told_381 (by decide) ?_
      refine lv_goto (tgt := 386) hx hb dL_told_382 (by decide) ?_
      exact k_L_told_386 X aX aI28 aI48 aI15_1 hP hK434 _ _ _ _ _ _ _ _ _ _ _ _ _ _ _ _ _ _ _ _ _ _ h hw (lv_sub hl [1, 2, 3, 4, 5, 6, 7, 8, 0, 10, 11, 12, 13, 14, 15, 16, 17] rfl)
    replace h := h.2 c_71
    refine lv_goto (tgt := 428) hx hb dL_told_344 (by decide) ?_
    exact k_L_told_428 X aX aI28 aI48 aI15_1 hP hK434 _ _ _ _ _ _ _ _ _ _ _ _ _ _ _ _ _ _ _ _ h hw (lv_sub hl [0, 1, 2, 3, 4, 5, 6, 7, 8, 9, 10, 11, 12, 13, 14, 15, 16] rfl)
  replace h := h.2 c_74
  refine lv_iconst (v := 0) hx hb dL_told_321 (by decide) ?_
  replace hw := Wd.part (pm_2 (pm_l pm_0) (pm_2 (pm_r (pm_l pm_0)) (pm_r (pm_r (pm_l pm_0))))) hw
  refine W.widen (k := 3) (n := 39) (Nat.le_of_ble_eq_true rfl) (Nat.le_of_ble_eq_true rfl) ?_
  exact e_z (w1 := (fun (u : XV × IV × IV) => (xW t aX u.1 ++ (i28W t aI28 u.2.1 ++ (i48W t aI48 u.2.2))))) X isB_0 (vX, vI28, vI48) hw h dL_told_322
set_option maxHeartbeats 4000000 in
set_option maxRecDepth 100000 in
theorem k_L_told_288 {p : Program} {l : Launch} {e : Env} {s : State} {m : MethodId} {below : List Frame} {meth : Method} {c : Code} {args : Array Value} {D : va_G} {t : T3} {A : Nat → Prop} (X : Cx p s m meth c args cL_told 20 (some .boolean) RL wsL_told D t A) (aX : XA) (aI28 : Nat) (aI48 : Nat) (aI15_1 : Nat) {P : XV → IV → IV → IV → Int32 → Int32 → Int32 → Int32 → Int32 → Int32 → Int32 → Int32 → Int32 → Int32 → Int32 → Int32 → Int32 → Prop} {K434 : XV → IV → IV → IV → Int32 → Int32 → Int32 → Int32 → Int32 → Int32 → Int32 → Int32 → Int32 → Int32 → Int32 → Prop} {Q : Int32 → XV → IV → IV → Prop} (hP : ∀ (vX : XV) (vI28 : IV) (vI48 : IV) (vI15 : IV) (x1 : Int32) (x5 : Int32) (x6 : Int32) (x7 : Int32) (x8 : Int32) (x9 : Int32) (x10 : Int32) (x11 : Int32) (x12 : Int32) (x13 : Int32) (x14 : Int32) (x15 : Int32) (x18 : Int32) (H : Heap) (locs : List Loc) (ls : Array Slot), P vX vI28 vI48 vI15 x1 x5 x6 x7 x8 x9 x10 x11 x12 x13 x14 x15 x18 → Wd D A s.heap (xW t aX vX ++ (i28W t aI28 vI28 ++ (i48W t aI48 vI48 ++ (i15W t aI15_1 vI15)))) H locs → lv_has ls 20 [(0, .ref (XA.o aX)), (1, .int x1), (2, .ref aI28), (3, .ref aI48), (4, .ref aI15_1), (5, .int x5), (6, .int x6), (7, .int x7), (8, .int x8), (9, .int x9), (10, .int x10), (11, .int x11), (12, .int x12), (13, .int x13), (14, .int x14), (15, .int x15), (18, .int x18)] → W p l e ({ frames := 82, cells := 3, slots := 39, locals := 1651 } : Room) s m args below meth c H locs 1 15 (Ei below args s A D (fun (u : XV × IV × IV) => (xW t aX u.1 ++ (i28W t aI28 u.2.1 ++ (i48W t aI48 u.2.2)))) (fun (r : Int32) (u : XV × IV × IV) => Q r u.1 u.2.1 u.2.2) 3 39) (F0 m 245 ls [])) (hK434 : ∀ (vX : XV) (vI28 : IV) (vI48 : IV) (vI15 : IV) (x1 : Int32) (x5 : Int32) (x6 : Int32) (x7 : Int32) (x8 : Int32) (x9 : Int32) (x10 : Int32) (x11 : Int32) (x12 : Int32) (x13 : Int32) (x14 : Int32) (H : Heap) (locs : List Loc) (ls : Array Slot), K434 vX vI28 vI48 vI15 x1 x5 x6 x7 x8 x9 x10 x11 x12 x13 x14 → Wd D A s.heap (xW t aX vX ++ (i28W t aI28 vI28 ++ (i48W t aI48 vI48 ++ (i15W t aI15_1 vI15)))) H locs → lv_has ls 20 [(0, .ref (XA.o aX)), (1, .int x1), (2, .ref aI28), (3, .ref aI48), (4, .ref aI15_1), (5, .int x5), (6, .int x6), (7, .int x7), (8, .int x8), (9, .int x9), (10, .int x10), (11, .int x11), (12, .int x12), (13, .int x13), (14, .int x14)] → W p l e ({ frames := 82, cells := 3, slots := 39, locals := 1651 } : Room) s m args below meth c H locs 1 15 (Ei below args s A D (fun (u : XV × IV × IV) => (xW t aX u.1 ++ (i28W t aI28 u.2.1 ++ (i48W t aI48 u.2.2)))) (fun (r : Int32) (u : XV × IV × IV) => Q r u.1 u.2.1 u.2.2) 3 39) (F0 m 434 ls [])) : ∀ (vX : XV) (vI28 : IV) (vI48 : IV) (vI15 : IV) (x1 : Int32) (x5 : Int32) (x6 : Int32) (x7 : Int32) (x8 : Int32) (x9 : Int32) (x10 : Int32) (x11 : Int32) (x12 : Int32) (x13 : Int32) (x14 : Int32) (x15 : Int32) (x18 : Int32) (x19 : Int32) (t0 : Int32) (t1 : Int32) (H : Heap) (locs : List Loc) (ls : Array Slot), wp_L_told_288 P K434 Q vX vI28 vI48 vI15 x1 x5 x6 x7 x8 x9 x10 x11 x12 x13 x14 x15 x18 x19 t0 t1 → Wd D A s.heap (xW t aX vX ++ (i28W t aI28 vI28 ++ (i48W t aI48 vI48 ++ (i15W t aI15_1 vI15)))) H locs → lv_has ls 20 [(0, .ref (XA.o aX)), (1, .int x1), (2, .ref aI28), (3, .ref aI48), (4, .ref aI15_1), (5, .int x5), (6, .int x6), (7, .int x7), (8, .int x8), (9, .int x9), (10, .int x10), (11, .int x11), (12, .int x12), (13, .int x13), (14, .int x14), (15, .int x15), (18, .int x18), (19, .int x19)] → W p l e ({ frames := 82, cells := 3, slots := 39, locals := 1651 } : Room) s m args below meth c H locs 1 15 (Ei below args s A D (fun (u : XV × IV × IV) => (xW t aX u.1 ++ (i28W t aI28 u.2.1 ++ (i48W t aI48 u.2.2)))) (fun (r : Int32) (u : XV × IV × IV) => Q r u.1 u.2.1 u.2.2) 3 39) (F0 m 288 ls [.int t1, .int t0]) := by
  intro vX vI28 vI48 vI15 x1 x5 x6 x7 x8 x9 x10 x11 x12 x13 x14 x15 x18 x19 t0 t1 H locs ls h hw hl
  have hx := X.1.1
  have hb := X.1.2.1
  refine lv_icmp_ne (tgt := 321) hx hb dL_told_288 (by decide) (fun c_76 => ?_) (fun c_76 => ?_)
  · replace h := h.1 c_76
    refine lv_iconst (v := 0) hx hb dL_told_321 (by decide) ?_
    replace hw := Wd.part (pm_2 (pm_l pm_0) (pm_2 (pm_r (pm_l pm_0)) (pm_r (pm_r (pm_l pm_0))))) hw
    refine W.widen (k := 3) (n := 39) (Nat.le_of_ble_eq_true rfl) (Nat.le_of_ble_eq_true rfl) ?_
    exact e_z (w1 := (fun (u : XV × IV × IV) => (xW t aX u.1 ++ (i28W t aI28 u.2.1 ++ (i48W t aI48 u.2.2))))) X isB_0 (vX, vI28, vI48) hw h dL_told_322
  replace h := h.2 c_76
  refine lv_aload_n hx hb dL_told_291 rfl (lv_at hl 0 rfl) ?_
  refine lv_iload hx hb dL_told_292 (lv_at hl 14 rfl) ?_
  refine lv_iload hx hb dL_told_294 (lv_at hl 16 rfl) ?_
  refine lv_iconst (v := 1) hx hb dL_told_296 (by decide) ?_
  refine r_ci X hw (pm_l pm_0) (wn := fun (u : XV) => (xW t aX u ++ (i28W t aI28 vI28 ++ (i48W t aI48 vI48 ++ (i15W t aI15_1 vI15))))) (fun u => (pm_l pm_0).symm) (r_runV X hw (c_X6_color l D t aX vX x14 x18 1 _ h) (pm_l pm_0) (cwV 3 X.1.2.2.2.2 gL_told_X6_color rfl rfl rfl (by decide +kernel) ⟨Nat.le_of_ble_eq_true rfl, Nat.le_of_ble_eq_true rfl⟩) (ci := 6) rfl rfl rfl rfl hl rfl (Nat.le_of_ble_eq_true rfl) dL_told_297 ⟨Nat.le_of_ble_eq_true rfl, Nat.le_of_ble_eq_true rfl⟩) (fun r_51 u H locs h hw => ?_)
  obtain ⟨vX_50, rfl⟩ : ∃ z, z = u := ⟨_, rfl⟩
  refine lv_iload hx hb dL_told_300 (lv_at hl 15 rfl) ?_
  refine lv_if_ge (tgt := 309) hx hb dL_told_302 (by decide) (fun c_75 => ?_) (fun c_75 => ?_)
  · replace h := h.1 c_75
    refine lv_iload hx hb dL_told_309 (lv_at hl 15 rfl) ?_
    refine lv_iload hx hb dL_told_311 (lv_at hl 16 rfl) ?_
    refine lv_iconst (v := 1) hx hb dL_told_313 (by decide) ?_
    refine lv_aload_n hx hb dL_told_314 rfl (lv_at hl 3 rfl) ?_
    refine r_ci X hw (pm_r (pm_r (pm_l pm_0))) (wn := fun (u : IV) => (xW t aX vX_50 ++ (i28W t aI28 vI28 ++ (i48W t aI48 u ++ (i15W t aI15_1 vI15))))) (fun u => (pm_r (pm_r (pm_l pm_0))).symm) (r_runS X hw (c_L_color l D t aI48 vI48 x15 x18 1 _ h) (pm_r (pm_r (pm_l pm_0))) (va_cwS 4 X.1.2.2.2.2 gL_told_L_color rfl rfl rfl (by decide +kernel) ⟨Nat.le_of_ble_eq_true rfl, Nat.le_of_ble_eq_true rfl⟩) rfl hl rfl (Nat.le_of_ble_eq_true rfl) dL_told_315 ⟨Nat.le_of_ble_eq_true rfl, Nat.le_of_ble_eq_true rfl⟩) (fun r_53 u H locs h hw => ?_)
    obtain ⟨vI48_52, rfl⟩ : ∃ z, z = u := ⟨_, rfl⟩
    exact k_L_told_318 X aX aI28 aI48 aI15_1 hP hK434 _ _ _ _ _ _ _ _ _ _ _ _ _ _ _ _ _ _ _ _ _ _ _ h hw hl
  replace h := h.2 c_75
  refine lv_iconst (v := (-1)) hx hb dL_told_305 (by decide) ?_
  refine lv_goto (tgt := 318) hx hb dL_told_306 (by decide) ?_
  exact k_L_told_318 X aX aI28 aI48 aI15_1 hP hK434 _ _ _ _ _ _ _ _ _ _ _ _ _ _ _ _ _ _ _ _ _ _ _ h hw hl
set_option maxHeartbeats 4000000 in
set_option maxRecDepth 100000 in
theorem kb_L_told_245 {p : Program} {l : Launch} {e : Env} {s : State} {m : MethodId} {below : List Frame} {meth : Method} {c : Code} {args : Array Value} {D : va_G} {t : T3} {A : Nat → Prop} (X : Cx p s m meth c args cL_told 20 (some .boolean) RL wsL_told D t A) (aX : XA) (aI28 : Nat) (aI48 : Nat) (aI15_1 : Nat) {Q : Int32 → XV → IV → IV → Prop} {P : XV → IV → IV → IV → Int32 → Int32 → Int32 → Int32 → Int32 → Int32 → Int32 → Int32 → Int32 → Int32 → Int32 → Int32 → Int32 → Prop} {K434 : XV → IV → IV → IV → Int32 → Int32 → Int32 → Int32 → Int32 → Int32 → Int32 → Int32 → Int32 → Int32 → Int32 → Prop} (hP : ∀ (vX : XV) (vI28 : IV) (vI48 : IV) (vI15 : IV) (x1 : Int32) (x5 : Int32) (x6 : Int32) (x7 : Int32) (x8 : Int32) (x9 : Int32) (x10 : Int32) (x11 : Int32) (x12 : Int32) (x13 : Int32) (x14 : Int32) (x15 : Int32) (x18 : Int32) (H : Heap) (locs : List Loc) (ls : Array Slot), P vX vI28 vI48 vI15 x1 x5 x6 x7 x8 x9 x10 x11 x12 x13 x14 x15 x18 → Wd D A s.heap (xW t aX vX ++ (i28W t aI28 vI28 ++ (i48W t aI48 vI48 ++ (i15W t aI15_1 vI15)))) H locs → lv_has ls 20 [(0, .ref (XA.o aX)), (1, .int x1), (2, .ref aI28), (3, .ref aI48), (4, .ref aI15_1), (5, .int x5), (6, .int x6), (7, .int x7), (8, .int x8), (9, .int x9), (10, .int x10), (11, .int x11), (12, .int x12), (13, .int x13), (14, .int x14), (15, .int x15), (18, .int x18)] → W p l e ({ frames := 82, cells := 3, slots := 39, locals := 1651 } : Room) s m args below meth c H locs 1 15 (Ei below args s A D (fun (u : XV × IV × IV) => (xW t aX u.1 ++ (i28W t aI28 u.2.1 ++ (i48W t aI48 u.2.2)))) (fun (r : Int32) (u : XV × IV × IV) => Q r u.1 u.2.1 u.2.2) 3 39) (F0 m 245 ls [])) (hK434 : ∀ (vX : XV) (vI28 : IV) (vI48 : IV) (vI15 : IV) (x1 : Int32) (x5 : Int32) (x6 : Int32) (x7 : Int32) (x8 : Int32) (x9 : Int32) (x10 : Int32) (x11 : Int32) (x12 : Int32) (x13 : Int32) (x14 : Int32) (H : Heap) (locs : List Loc) (ls : Array Slot), K434 vX vI28 vI48 vI15 x1 x5 x6 x7 x8 x9 x10 x11 x12 x13 x14 → Wd D A s.heap (xW t aX vX ++ (i28W t aI28 vI28 ++ (i48W t aI48 vI48 ++ (i15W t aI15_1 vI15)))) H locs → lv_has ls 20 [(0, .ref (XA.o aX)), (1, .int x1), (2, .ref aI28), (3, .ref aI48), (4, .ref aI15_1), (5, .int x5), (6, .int x6), (7, .int x7), (8, .int x8), (9, .int x9), (10, .int x10), (11, .int x11), (12, .int x12), (13, .int x13), (14, .int x14)] → W p l e ({ frames := 82, cells := 3, slots := 39, locals := 1651 } : Room) s m args below meth c H locs 1 15 (Ei below args s A D (fun (u : XV × IV × IV) => (xW t aX u.1 ++ (i28W t aI28 u.2.1 ++ (i48W t aI48 u.2.2)))) (fun (r : Int32) (u : XV × IV × IV) => Q r u.1 u.2.1 u.2.2) 3 39) (F0 m 434 ls [])) : ∀ (vX : XV) (vI28 : IV) (vI48 : IV) (vI15 : IV) (x1 : Int32) (x5 : Int32) (x6 : Int32) (x7 : Int32) (x8 : Int32) (x9 : Int32) (x10 : Int32) (x11 : Int32) (x12 : Int32) (x13 : Int32) (x14 : Int32) (x15 : Int32) (x18 : Int32) (H : Heap) (locs : List Loc) (ls : Array Slot), bd_L_told_245 Q P K434 vX vI28 vI48 vI15 x1 x5 x6 x7 x8 x9 x10 x11 x12 x13 x14 x15 x18 → Wd D A s.heap (xW t aX vX ++ (i28W t aI28 vI28 ++ (i48W t aI48 vI48 ++ (i15W t aI15_1 vI15)))) H locs → lv_has ls 20 [(0, .ref (XA.o aX)), (1, .int x1), (2, .ref aI28), (3, .ref aI48), (4, .ref aI15_1), (5, .int x5), (6, .int x6), (7, .int x7), (8, .int x8), (9, .int x9), (10, .int x10), (11, .int x11), (12, .int x12), (13, .int x13), (14, .int x14), (15, .int x15), (18, .int x18)] → W p l e ({ frames := 82, cells := 3, slots := 39, locals := 1651 } : Room) s m args below meth c H locs 1 15 (Ei below args s A D (fun (u : XV × IV × IV) => (xW t aX u.1 ++ (i28W t aI28 u.2.1 ++ (i48W t aI48 u.2.2)))) (fun (r : Int32) (u : XV × IV × IV) => Q r u.1 u.2.1 u.2.2) 3 39) (F0 m 245 ls []) := by
  intro vX vI28 vI48 vI15 x1 x5 x6 x7 x8 x9 x10 x11 x12 x13 x14 x15 x18 H locs ls h hw hl
  have hx := X.1.1
  have hb := X.1.2.1
  refine lv_iload hx hb dL_told_245 (lv_at hl 16 rfl) ?_
  refine lv_iconst (v := 4) hx hb dL_told_247 (by decide) ?_
  refine lv_icmp_ge (tgt := 434) hx hb dL_told_248 (by decide) (fun c_78 => ?_) (fun c_78 => ?_)
  · replace h := h.1 c_78
    exact hK434 _ _ _ _ _ _ _ _ _ _ _ _ _ _ _ _ _ _ h hw (lv_sub hl [0, 1, 2, 3, 4, 5, 6, 7, 8, 9, 10, 11, 12, 13, 14] rfl)
  replace h := h.2 c_78
  refine lv_iload hx hb dL_told_251 (lv_at hl 14 rfl) ?_
  refine lv_iload hx hb dL_told_253 (lv_at hl 16 rfl) ?_
  refine lv_aload_n hx hb dL_told_255 rfl (lv_at hl 2 rfl) ?_
  refine r_ci X hw (pm_r (pm_l pm_0)) (wn := fun (u : IV) => (xW t aX vX ++ (i28W t aI28 u ++ (i48W t aI48 vI48 ++ (i15W t aI15_1 vI15))))) (fun u => (pm_r (pm_l pm_0)).symm) (r_runS X hw (c_L_beyond l D t aI28 vI28 x14 x18 _ h) (pm_r (pm_l pm_0)) (va_cwS 3 X.1.2.2.2.2 gL_told_L_beyond rfl rfl rfl (by decide +kernel) ⟨Nat.le_of_ble_eq_true rfl, Nat.le_of_ble_eq_true rfl⟩) rfl hl rfl (Nat.le_of_ble_eq_true rfl) dL_told_256 ⟨Nat.le_of_ble_eq_true rfl, Nat.le_of_ble_eq_true rfl⟩) (fun r_45 u H locs h hw => ?_)
  obtain ⟨vI28_44, rfl⟩ : ∃ z, z = u := ⟨_, rfl⟩
  refine lv_istore (lv' := [(19, .int r_45), (0, .ref (XA.o aX)), (1, .int x1), (2, .ref aI28), (3, .ref aI48), (4, .ref aI15_1), (5, .int x5), (6, .int x6), (7, .int x7), (8, .int x8), (9, .int x9), (10, .int x10), (11, .int x11), (12, .int x12), (13, .int x13), (14, .int x14), (15, .int x15), (18, .int x18)]) hx hb dL_told_259 hl (by decide) rfl (fun ls hl => ?_)
  refine lv_aload_n hx hb dL_told_261 rfl (lv_at hl 1 rfl) ?_
  refine lv_iload hx hb dL_told_262 (lv_at hl 15 rfl) ?_
  refine lv_iload hx hb dL_told_264 (lv_at hl 17 rfl) ?_
  refine lv_iconst (v := 0) hx hb dL_told_266 (by decide) ?_
  refine r_ci X hw (pm_l pm_0) (wn := fun (u : XV) => (xW t aX u ++ (i28W t aI28 vI28_44 ++ (i48W t aI48 vI48 ++ (i15W t aI15_1 vI15))))) (fun u => (pm_l pm_0).symm) (r_runV X hw (c_X6_color l D t aX vX x14 x18 0 _ h) (pm_l pm_0) (cwV 3 X.1.2.2.2.2 gL_told_X6_color rfl rfl rfl (by decide +kernel) ⟨Nat.le_of_ble_eq_true rfl, Nat.le_of_ble_eq_true rfl⟩) (ci := 6) rfl rfl rfl rfl hl rfl (Nat.le_of_ble_eq_true rfl) dL_told_267 ⟨Nat.le_of_ble_eq_true rfl, Nat.le_of_ble_eq_true rfl⟩) (fun r_47 u H locs h hw => ?_)
  obtain ⟨vX_46, rfl⟩ : ∃ z, z = u := ⟨_, rfl⟩
  refine lv_iload hx hb dL_told_270 (lv_at hl 16 rfl) ?_
  refine lv_if_ge (tgt := 279) hx hb dL_told_272 (by decide) (fun c_77 => ?_) (fun c_77 => ?_)
  · replace h := h.1 c_77
    refine lv_iload hx hb dL_told_279 (lv_at hl 16 rfl) ?_
    refine lv_iload hx hb dL_told_281 (lv_at hl 17 rfl) ?_
    refine lv_iconst (v := 0) hx hb dL_told_283 (by decide) ?_
    refine lv_aload_n hx hb dL_told_284 rfl (lv_at hl 4 rfl) ?_
    refine r_ci X hw (pm_r (pm_r (pm_l pm_0))) (wn := fun (u : IV) => (xW t aX vX_46 ++ (i28W t aI28 vI28_44 ++ (i48W t aI48 u ++ (i15W t aI15_1 vI15))))) (fun u => (pm_r (pm_r (pm_l pm_0))).symm) (r_runS X hw (c_L_color l D t aI48 vI48 x15 x18 0 _ h) (pm_r (pm_r (pm_l pm_0))) (va_cwS 4 X.1.2.2.2.2 gL_told_L_color rfl rfl rfl (by decide +kernel) ⟨Nat.le_of_ble_eq_true rfl, Nat.le_of_ble_eq_true rfl⟩) rfl hl rfl (Nat.le_of_ble_eq_true rfl) dL_told_285 ⟨Nat.le_of_ble_eq_true rfl, Nat.le_of_ble_eq_true rfl⟩) (fun r_49 u H locs h hw => ?_)
    obtain ⟨vI48_48, rfl⟩ : ∃ z, z = u := ⟨_, rfl⟩
    exact k_L_told_288 X aX aI28 aI48 aI15_1 hP hK434 _ _ _ _ _ _ _ _ _ _ _ _ _ _ _ _ _ _ _ _ _ _ _ h hw (lv_sub hl [1, 2, 3, 4, 5, 6, 7, 8, 9, 10, 11, 12, 13, 14, 15, 16, 17, 0] rfl)
  replace h := h.2 c_77
  refine lv_iconst (v := (-1)) hx hb dL_told_275 (by decide) ?_
  refine lv_goto (tgt := 288) hx hb dL_told_276 (by decide) ?_
  exact k_L_told_288 X aX aI28 aI48 aI15_1 hP hK434 _ _ _ _ _ _ _ _ _ _ _ _ _ _ _ _ _ _ _ _ _ _ _ h hw (lv_sub hl [1, 2, 3, 4, 5, 6, 7, 8, 9, 10, 11, 12, 13, 14, 15, 16, 17, 0] rfl)
set_option maxHeartbeats 4000000 in
set_option maxRecDepth 100000 in
theorem k_L_told_245 {p : Program} {l : Launch} {e : Env} {s : State} {m : MethodId} {below : List Frame} {meth : Method} {c : Code} {args : Array Value} {D : va_G} {t : T3} {A : Nat → Prop} (X : Cx p s m meth c args cL_told 20 (some .boolean) RL wsL_told D t A) (aX : XA) (aI28 : Nat) (aI48 : Nat) (aI15_1 : Nat) {Q : Int32 → XV → IV → IV → Prop} {K434 : XV → IV → IV → IV → Int32 → Int32 → Int32 → Int32 → Int32 → Int32 → Int32 → Int32 → Int32 → Int32 → Int32 → Prop} (hK434 : ∀ (vX : XV) (vI28 : IV) (vI48 : IV) (vI15 : IV) (x1 : Int32) (x5 : Int32) (x6 : Int32) (x7 : Int32) (x8 : Int32) (x9 : Int32) (x10 : Int32) (x11 : Int32) (x12 : Int32) (x13 : Int32) (x14 : Int32) (H : Heap) (locs : List Loc) (ls : Array Slot), K434 vX vI28 vI48 vI15 x1 x5 x6 x7 x8 x9 x10 x11 x12 x13 x14 → Wd D A s.heap (xW t aX vX ++ (i28W t aI28 vI28 ++ (i48W t aI48 vI48 ++ (i15W t aI15_1 vI15)))) H locs → lv_has ls 20 [(0, .ref (XA.o aX)), (1, .int x1), (2, .ref aI28), (3, .ref aI48), (4, .ref aI15_1), (5, .int x5), (6, .int x6), (7, .int x7), (8, .int x8), (9, .int x9), (10, .int x10), (11, .int x11), (12, .int x12), (13, .int x13), (14, .int x14)] → W p l e ({ frames := 82, cells := 3, slots := 39, locals := 1651 } : Room) s m args below meth c H locs 1 15 (Ei below args s A D (fun (u : XV × IV × IV) => (xW t aX u.1 ++ (i28W t aI28 u.2.1 ++ (i48W t aI48 u.2.2)))) (fun (r : Int32) (u : XV × IV × IV) => Q r u.1 u.2.1 u.2.2) 3 39) (F0 m 434 ls [])) : ∀ (vX : XV) (vI28 : IV) (vI48 : IV) (vI15 : IV) (x1 : Int32) (x5 : Int32) (x6 : Int32) (x7 : Int32) (x8 : Int32) (x9 : Int32) (x10 : Int32) (x11 : Int32) (x12 : Int32) (x13 : Int32) (x14 : Int32) (x15 : Int32) (x18 : Int32) (H : Heap) (locs : List Loc) (ls : Array Slot), wp_L_told_245 Q K434 vX vI28 vI48 vI15 x1 x5 x6 x7 x8 x9 x10 x11 x12 x13 x14 x15 x18 → Wd D A s.heap (xW t aX vX ++ (i28W t aI28 vI28 ++ (i48W t aI48 vI48 ++ (i15W t aI15_1 vI15)))) H locs → lv_has ls 20 [(0, .ref (XA.o aX)), (1, .int x1), (2, .ref aI28), (3, .ref aI48), (4, .ref aI15_1), (5, .int x5), (6, .int x6), (7, .int x7), (8, .int x8), (9, .int x9), (10, .int x10), (11, .int x11), (12, .int x12), (13, .int x13), (14, .int x14), (15, .int x15), (18, .int x18)] → W p l e ({ frames := 82, cells := 3, slots := 39, locals := 1651 } : Room) s m args below meth c H locs 1 15 (Ei below args s A D (fun (u : XV × IV × IV) => (xW t aX u.1 ++ (i28W t aI28 u.2.1 ++ (i48W t aI48 u.2.2)))) (fun (r : Int32) (u : XV × IV × IV) => Q r u.1 u.2.1 u.2.2) 3 39) (F0 m 245 ls []) := by
  intro vX vI28 vI48 vI15 x1 x5 x6 x7 x8 x9 x10 x11 x12 x13 x14 x15 x18 H locs ls h hw hl
  have hx := X.1.1
  have hb := X.1.2.1
  refine h (fun (vX : XV) (vI28 : IV) (vI48 : IV) (vI15 : IV) (x1 : Int32) (x5 : Int32) (x6 : Int32) (x7 : Int32) (x8 : Int32) (x9 : Int32) (x10 : Int32) (x11 : Int32) (x12 : Int32) (x13 : Int32) (x14 : Int32) (x15 : Int32) (x18 : Int32) => ∀ (H : Heap) (locs : List Loc) (ls : Array Slot), Wd D A s.heap (xW t aX vX ++ (i28W t aI28 vI28 ++ (i48W t aI48 vI48 ++ (i15W t aI15_1 vI15)))) H locs → lv_has ls 20 [(0, .ref (XA.o aX)), (1, .int x1), (2, .ref aI28), (3, .ref aI48), (4, .ref aI15_1), (5, .int x5), (6, .int x6), (7, .int x7), (8, .int x8), (9, .int x9), (10, .int x10), (11, .int x11), (12, .int x12), (13, .int x13), (14, .int x14), (15, .int x15), (18, .int x18)] → W p l e ({ frames := 82, cells := 3, slots := 39, locals := 1651 } : Room) s m args below meth c H locs 1 15 (Ei below args s A D (fun (u : XV × IV × IV) => (xW t aX u.1 ++ (i28W t aI28 u.2.1 ++ (i48W t aI48 u.2.2)))) (fun (r : Int32) (u : XV × IV × IV) => Q r u.1 u.2.1 u.2.2) 3 39) (F0 m 245 ls [])) (fun vX vI28 vI48 vI15 x1 x5 x6 x7 x8 x9 x10 x11 x12 x13 x14 x15 x18 h H locs ls hw hl => ?_) H locs ls hw hl
  exact kb_L_told_245 X aX aI28 aI48 aI15_1 (fun vX vI28 vI48 vI15 x1 x5 x6 x7 x8 x9 x10 x11 x12 x13 x14 x15 x18 H locs ls q hw hl => q H locs ls hw hl) hK434 vX vI28 vI48 vI15 x1 x5 x6 x7 x8 x9 x10 x11 x12 x13 x14 x15 x18 _ _ _ h hw hl
set_option maxHeartbeats 4000000 in
set_option maxRecDepth 100000 in
theorem k_L_told_239 {p : Program} {l : Launch} {e : Env} {s : State} {m : MethodId} {below : List Frame} {meth : Method} {c : Code} {args : Array Value} {D : va_G} {t : T3} {A : Nat → Prop} (X : Cx p s m meth c args cL_told 20 (some .boolean) RL wsL_told D t A) (aX : XA) (aI28 : Nat) (aI48 : Nat) (aI15_1 : Nat) {P : XV → IV → IV → IV → Int32 → Int32 → Int32 → Int32 → Int32 → Int32 → Int32 → Int32 → Int32 → Int32 → Int32 → Prop} {K440 : XV → IV → IV → IV → Int32 → Int32 → Int32 → Int32 → Int32 → Int32 → Int32 → Int32 → Int32 → Prop} {Q : Int32 → XV → IV → IV → Prop} (hP : ∀ (vX : XV) (vI28 : IV) (vI48 : IV) (vI15 : IV) (x1 : Int32) (x5 : Int32) (x6 : Int32) (x7 : Int32) (x8 : Int32) (x9 : Int32) (x10 : Int32) (x11 : Int32) (x12 : Int32) (x13 : Int32) (x14 : Int32) (H : Heap) (locs : List Loc) (ls : Array Slot), P vX vI28 vI48 vI15 x1 x5 x6 x7 x8 x9 x10 x11 x12 x13 x14 → Wd D A s.heap (xW t aX vX ++ (i28W t aI28 vI28 ++ (i48W t aI48 vI48 ++ (i15W t aI15_1 vI15)))) H locs → lv_has ls 20 [(0, .ref (XA.o aX)), (1, .int x1), (2, .ref aI28), (3, .ref aI48), (4, .ref aI15_1), (5, .int x5), (6, .int x6), (7, .int x7), (8, .int x8), (9, .int x9), (10, .int x10), (11, .int x11), (12, .int x12), (13, .int x13), (14, .int x14)] → W p l e ({ frames := 82, cells := 3, slots := 39, locals := 1651 } : Room) s m args below meth c H locs 1 15 (Ei below args s A D (fun (u : XV × IV × IV) => (xW t aX u.1 ++ (i28W t aI28 u.2.1 ++ (i48W t aI48 u.2.2)))) (fun (r : Int32) (u : XV × IV × IV) => Q r u.1 u.2.1 u.2.2) 3 39) (F0 m 43 ls [])) (hK440 : ∀ (vX : XV) (vI28 : IV) (vI48 : IV) (vI15 : IV) (x1 : Int32) (x5 : Int32) (x6 : Int32) (x7 : Int32) (x8 : Int32) (x9 : Int32) (x10 : Int32) (x11 : Int32) (x12 : Int32) (H : Heap) (locs : List Loc) (ls : Array Slot), K440 vX vI28 vI48 vI15 x1 x5 x6 x7 x8 x9 x10 x11 x12 → Wd D A s.heap (xW t aX vX ++ (i28W t aI28 vI28 ++ (i48W t aI48 vI48 ++ (i15W t aI15_1 vI15)))) H locs → lv_has ls 20 [(0, .ref (XA.o aX)), (1, .int x1), (2, .ref aI28), (3, .ref aI48), (4, .ref aI15_1), (5, .int x5), (6, .int x6), (7, .int x7), (8, .int x8), (9, .int x9), (10, .int x10), (11, .int x11), (12, .int x12)] → W p l e ({ frames := 82, cells := 3, slots := 39, locals := 1651 } : Room) s m args below meth c H locs 1 15 (Ei below args s A D (fun (u : XV × IV × IV) => (xW t aX u.1 ++ (i28W t aI28 u.2.1 ++ (i48W t aI48 u.2.2)))) (fun (r : Int32) (u : XV × IV × IV) => Q r u.1 u.2.1 u.2.2) 3 39) (F0 m 440 ls [])) : ∀ (vX : XV) (vI28 : IV) (vI48 : IV) (vI15 : IV) (x1 : Int32) (x5 : Int32) (x6 : Int32) (x7 : Int32) (x8 : Int32) (x9 : Int32) (x10 : Int32) (x12 : Int32) (x13 : Int32) (x14 : Int32) (x15 : Int32) (t0 : Int32) (t1 : Int32) (H : Heap) (locs : List Loc) (ls : Array Slot), wp_L_told_239 P K440 Q vX vI28 vI48 vI15 x1 x5 x6 x7 x8 x9 x10 x12 x13 x14 x15 t0 t1 → Wd D A s.heap (xW t aX vX ++ (i28W t aI28 vI28 ++ (i48W t aI48 vI48 ++ (i15W t aI15_1 vI15)))) H locs → lv_has ls 20 [(0, .ref (XA.o aX)), (1, .int x1), (2, .ref aI28), (3, .ref aI48), (4, .ref aI15_1), (5, .int x5), (6, .int x6), (7, .int x7), (8, .int x8), (9, .int x9), (10, .int x10), (12, .int x12), (13, .int x13), (14, .int x14), (15, .int x15)] → W p l e ({ frames := 82, cells := 3, slots := 39, locals := 1651 } : Room) s m args below meth c H locs 1 15 (Ei below args s A D (fun (u : XV × IV × IV) => (xW t aX u.1 ++ (i28W t aI28 u.2.1 ++ (i48W t aI48 u.2.2)))) (fun (r : Int32) (u : XV × IV × IV) => Q r u.1 u.2.1 u.2.2) 3 39) (F0 m 239 ls [.int t1, .int t0]) := by
  intro vX vI28 vI48 vI15 x1 x5 x6 x7 x8 x9 x10 x12 x13 x14 x15 t0 t1 H locs ls h hw hl
  have hx := X.1.1
  have hb := X.1.2.1
  refine lv_iadd hx hb dL_told_239 ?_
  refine lv_topi (fun x11_43 ex11_43 => ?_)
  replace h := h x11_43 ex11_43
  refine lv_istore (lv' := [(11, .int x11_43), (0, .ref (XA.o aX)), (1, .int x1), (2, .ref aI28), (3, .ref aI48), (4, .ref aI15_1), (5, .int x5), (6, .int x6), (7, .int x7), (8, .int x8), (9, .int x9), (10, .int x10), (12, .int x12), (13, .int x13), (14, .int x14), (15, .int x15)]) hx hb dL_told_240 hl (by decide) rfl (fun ls hl => ?_)
  refine lv_iconst (v := 0) hx hb dL_told_242 (by decide) ?_
  refine lv_istore (lv' := [(18, .int 0), (11, .int x11_43), (0, .ref (XA.o aX)), (1, .int x1), (2, .ref aI28), (3, .ref aI48), (4, .ref aI15_1), (5, .int x5), (6, .int x6), (7, .int x7), (8, .int x8), (9, .int x9), (10, .int x10), (12, .int x12), (13, .int x13), (14, .int x14), (15, .int x15)]) hx hb dL_told_243 hl (by decide) rfl (fun ls hl => ?_)
  refine k_L_told_245 X aX aI28 aI48 aI15_1 (fun vX_79 vI28_80 vI48_81 vI15_82 x1_83 x5_84 x6_85 x7_86 x8_87 x9_88 x10_89 x11_90 x12_91 x13_92 x14_93 H locs ls h hw hl => ?_) _ _ _ _ _ _ _ _ _ _ _ _ _ _ _ _ _ _ _ _ h hw (lv_sub hl [2, 3, 4, 5, 6, 7, 8, 9, 10, 11, 12, 1, 13, 14, 15, 16, 0] rfl)
  obtain ⟨x14_94, ex14_94⟩ : ∃ z : Int32, z = x14_93 + 1 := ⟨_, rfl⟩
  replace h := h x14_94 ex14_94
  refine lv_iinc (v := x14_94) (lv' := [(14, .int x14_94), (0, .ref (XA.o aX)), (1, .int x1_83), (2, .ref aI28), (3, .ref aI48), (4, .ref aI15_1), (5, .int x5_84), (6, .int x6_85), (7, .int x7_86), (8, .int x8_87), (9, .int x9_88), (10, .int x10_89), (11, .int x11_90), (12, .int x12_91), (13, .int x13_92)]) hx hb dL_told_434 hl (k := 14) rfl (by rw [ex14_94]; rfl) (by decide) rfl (fun ls hl => ?_)
  refine lv_goto (tgt := 43) hx hb dL_told_437 (by decide) ?_
  exact hP _ _ _ _ _ _ _ _ _ _ _ _ _ _ _ _ _ _ h hw (lv_sub hl [1, 2, 3, 4, 5, 6, 7, 8, 9, 10, 11, 12, 13, 14, 0] rfl)
set_option maxHeartbeats 4000000 in
set_option maxRecDepth 100000 in
theorem k_L_told_238 {p : Program} {l : Launch} {e : Env} {s : State} {m : MethodId} {below : List Frame} {meth : Method} {c : Code} {args : Array Value} {D : va_G} {t : T3} {A : Nat → Prop} (X : Cx p s m meth c args cL_told 20 (some .boolean) RL wsL_told D t A) (aX : XA) (aI28 : Nat) (aI48 : Nat) (aI15_1 : Nat) {P : XV → IV → IV → IV → Int32 → Int32 → Int32 → Int32 → Int32 → Int32 → Int32 → Int32 → Int32 → Int32 → Int32 → Prop} {K440 : XV → IV → IV → IV → Int32 → Int32 → Int32 → Int32 → Int32 → Int32 → Int32 → Int32 → Int32 → Prop} {Q : Int32 → XV → IV → IV → Prop} (hP : ∀ (vX : XV) (vI28 : IV) (vI48 : IV) (vI15 : IV) (x1 : Int32) (x5 : Int32) (x6 : Int32) (x7 : Int32) (x8 : Int32) (x9 : Int32) (x10 : Int32) (x11 : Int32) (x12 : Int32) (x13 : Int32) (x14 : Int32) (H : Heap) (locs : List Loc) (ls : Array Slot), P vX vI28 vI48 vI15 x1 x5 x6 x7 x8 x9 x10 x11 x12 x13 x14 → Wd D A s.heap (xW t aX vX ++ (i28W t aI28 vI28 ++ (i48W t aI48 vI48 ++ (i15W t aI15_1 vI15)))) H locs → lv_has ls 20 [(0, .ref (XA.o aX)), (1, .int x1), (2, .ref aI28), (3, .ref aI48), (4, .ref aI15_1), (5, .int x5), (6, .int x6), (7, .int x7), (8, .int x8), (9, .int x9), (10, .int x10), (11, .int x11), (12, .int x12), (13, .int x13), (14, .int x14)] → W p l e ({ frames := 82, cells := 3, slots := 39, locals := 1651 } : Room) s m args below meth c H locs 1 15 (Ei below args s A D (fun (u : XV × IV × IV) => (xW t aX u.1 ++ (i28W t aI28 u.2.1 ++ (i48W t aI48 u.2.2)))) (fun (r : Int32) (u : XV × IV × IV) => Q r u.1 u.2.1 u.2.2) 3 39) (F0 m 43 ls [])) (hK440 : ∀ (vX : XV) (vI28 : IV) (vI48 : IV) (vI15 : IV) (x1 : Int32) (x5 : Int32) (x6 : Int32) (x7 : Int32) (x8 : Int32) (x9 : Int32) (x10 : Int32) (x11 : Int32) (x12 : Int32) (H : Heap) (locs : List Loc) (ls : Array Slot), K440 vX vI28 vI48 vI15 x1 x5 x6 x7 x8 x9 x10 x11 x12 → Wd D A s.heap (xW t aX vX ++ (i28W t aI28 vI28 ++ (i48W t aI48 vI48 ++ (i15W t aI15_1 vI15)))) H locs → lv_has ls 20 [(0, .ref (XA.o aX)), (1, .int x1), (2, .ref aI28), (3, .ref aI48), (4, .ref aI15_1), (5, .int x5), (6, .int x6), (7, .int x7), (8, .int x8), (9, .int x9), (10, .int x10), (11, .int x11), (12, .int x12)] → W p l e ({ frames := 82, cells := 3, slots := 39, locals := 1651 } : Room) s m args below meth c H locs 1 15 (Ei below args s A D (fun (u : XV × IV × IV) => (xW t aX u.1 ++ (i28W t aI28 u.2.1 ++ (i48W t aI48 u.2.2)))) (fun (r : Int32) (u : XV × IV × IV) => Q r u.1 u.2.1 u.2.2) 3 39) (F0 m 440 ls [])) : ∀ (vX : XV) (vI28 : IV) (vI48 : IV) (vI15 : IV) (x1 : Int32) (x5 : Int32) (x6 : Int32) (x7 : Int32) (x8 : Int32) (x9 : Int32) (x10 : Int32) (x12 : Int32) (x13 : Int32) (x14 : Int32) (x15 : Int32) (t0 : Int32) (H : Heap) (locs : List Loc) (ls : Array Slot), wp_L_told_238 P K440 Q vX vI28 vI48 vI15 x1 x5 x6 x7 x8 x9 x10 x12 x13 x14 x15 t0 → Wd D A s.heap (xW t aX vX ++ (i28W t aI28 vI28 ++ (i48W t aI48 vI48 ++ (i15W t aI15_1 vI15)))) H locs → lv_has ls 20 [(0, .ref (XA.o aX)), (1, .int x1), (2, .ref aI28), (3, .ref aI48), (4, .ref aI15_1), (5, .int x5), (6, .int x6), (7, .int x7), (8, .int x8), (9, .int x9), (10, .int x10), (12, .int x12), (13, .int x13), (14, .int x14), (15, .int x15)] → W p l e ({ frames := 82, cells := 3, slots := 39, locals := 1651 } : Room) s m args below meth c H locs 1 15 (Ei below args s A D (fun (u : XV × IV × IV) => (xW t aX u.1 ++ (i28W t aI28 u.2.1 ++ (i48W t aI48 u.2.2)))) (fun (r : Int32) (u : XV × IV × IV) => Q r u.1 u.2.1 u.2.2) 3 39) (F0 m 238 ls [.int t0]) := by
  intro vX vI28 vI48 vI15 x1 x5 x6 x7 x8 x9 x10 x12 x13 x14 x15 t0 H locs ls h hw hl
  have hx := X.1.1
  have hb := X.1.2.1
  refine lv_iconst (v := 0) hx hb dL_told_238 (by decide) ?_
  exact k_L_told_239 X aX aI28 aI48 aI15_1 hP hK440 _ _ _ _ _ _ _ _ _ _ _ _ _ _ _ _ _ _ _ _ h hw hl
set_option maxHeartbeats 4000000 in
set_option maxRecDepth 100000 in
theorem k_L_told_215 {p : Program} {l : Launch} {e : Env} {s : State} {m : MethodId} {below : List Frame} {meth : Method} {c : Code} {args : Array Value} {D : va_G} {t : T3} {A : Nat → Prop} (X : Cx p s m meth c args cL_told 20 (some .boolean) RL wsL_told D t A) (aX : XA) (aI28 : Nat) (aI48 : Nat) (aI15_1 : Nat) {P : XV → IV → IV → IV → Int32 → Int32 → Int32 → Int32 → Int32 → Int32 → Int32 → Int32 → Int32 → Int32 → Int32 → Prop} {K440 : XV → IV → IV → IV → Int32 → Int32 → Int32 → Int32 → Int32 → Int32 → Int32 → Int32 → Int32 → Prop} {Q : Int32 → XV → IV → IV → Prop} (hP : ∀ (vX : XV) (vI28 : IV) (vI48 : IV) (vI15 : IV) (x1 : Int32) (x5 : Int32) (x6 : Int32) (x7 : Int32) (x8 : Int32) (x9 : Int32) (x10 : Int32) (x11 : Int32) (x12 : Int32) (x13 : Int32) (x14 : Int32) (H : Heap) (locs : List Loc) (ls : Array Slot), P vX vI28 vI48 vI15 x1 x5 x6 x7 x8 x9 x10 x11 x12 x13 x14 → Wd D A s.heap (xW t aX vX ++ (i28W t aI28 vI28 ++ (i48W t aI48 vI48 ++ (i15W t aI15_1 vI15)))) H locs → lv_has ls 20 [(0, .ref (XA.o aX)), (1, .int x1), (2, .ref aI28), (3, .ref aI48), (4, .ref aI15_1), (5, .int x5), (6, .int x6), (7, .int x7), (8, .int x8), (9, .int x9), (10, .int x10), (11, .int x11), (12, .int x12), (13, .int x13), (14, .int x14)] → W p l e ({ frames := 82, cells := 3, slots := 39, locals := 1651 } : Room) s m args below meth c H locs 1 15 (Ei below args s A D (fun (u : XV × IV × IV) => (xW t aX u.1 ++ (i28W t aI28 u.2.1 ++ (i48W t aI48 u.2.2)))) (fun (r : Int32) (u : XV × IV × IV) => Q r u.1 u.2.1 u.2.2) 3 39) (F0 m 43 ls [])) (hK440 : ∀ (vX : XV) (vI28 : IV) (vI48 : IV) (vI15 : IV) (x1 : Int32) (x5 : Int32) (x6 : Int32) (x7 : Int32) (x8 : Int32) (x9 : Int32) (x10 : Int32) (x11 : Int32) (x12 : Int32) (H : Heap) (locs : List Loc) (ls : Array Slot), K440 vX vI28 vI48 vI15 x1 x5 x6 x7 x8 x9 x10 x11 x12 → Wd D A s.heap (xW t aX vX ++ (i28W t aI28 vI28 ++ (i48W t aI48 vI48 ++ (i15W t aI15_1 vI15)))) H locs → lv_has ls 20 [(0, .ref (XA.o aX)), (1, .int x1), (2, .ref aI28), (3, .ref aI48), (4, .ref aI15_1), (5, .int x5), (6, .int x6), (7, .int x7), (8, .int x8), (9, .int x9), (10, .int x10), (11, .int x11), (12, .int x12)] → W p l e ({ frames := 82, cells := 3, slots := 39, locals := 1651 } : Room) s m args below meth c H locs 1 15 (Ei below args s A D (fun (u : XV × IV × IV) => (xW t aX u.1 ++ (i28W t aI28 u.2.1 ++ (i48W t aI48 u.2.2)))) (fun (r : Int32) (u : XV × IV × IV) => Q r u.1 u.2.1 u.2.2) 3 39) (F0 m 440 ls [])) : ∀ (vX : XV) (vI28 : IV) (vI48 : IV) (vI15 : IV) (x1 : Int32) (x5 : Int32) (x6 : Int32) (x7 : Int32) (x8 : Int32) (x9 : Int32) (x10 : Int32) (x11 : Int32) (x12 : Int32) (x13 : Int32) (x14 : Int32) (x15 : Int32) (H : Heap) (locs : List Loc) (ls : Array Slot), wp_L_told_215 P K440 Q vX vI28 vI48 vI15 x1 x5 x6 x7 x8 x9 x10 x11 x12 x13 x14 x15 → Wd D A s.heap (xW t aX vX ++ (i28W t aI28 vI28 ++ (i48W t aI48 vI48 ++ (i15W t aI15_1 vI15)))) H locs → lv_has ls 20 [(0, .ref (XA.o aX)), (1, .int x1), (2, .ref aI28), (3, .ref aI48), (4, .ref aI15_1), (5, .int x5), (6, .int x6), (7, .int x7), (8, .int x8), (9, .int x9), (10, .int x10), (11, .int x11), (12, .int x12), (13, .int x13), (14, .int x14), (15, .int x15)] → W p l e ({ frames := 82, cells := 3, slots := 39, locals := 1651 } : Room) s m args below meth c H locs 1 15 (Ei below args s A D (fun (u : XV × IV × IV) => (xW t aX u.1 ++ (i28W t aI28 u.2.1 ++ (i48W t aI48 u.2.2)))) (fun (r : Int32) (u : XV × IV × IV) => Q r u.1 u.2.1 u.2.2) 3 39) (F0 m 215 ls []) := by
  intro vX vI28 vI48 vI15 x1 x5 x6 x7 x8 x9 x10 x11 x12 x13 x14 x15 H locs ls h hw hl
  have hx := X.1.1
  have hb := X.1.2.1
  refine lv_iload hx hb dL_told_215 (lv_at hl 11 rfl) ?_
  refine lv_iload hx hb dL_told_217 (lv_at hl 15 rfl) ?_
  refine lv_if_lt (tgt := 238) hx hb dL_told_219 (by decide) (fun c_99 => ?_) (fun c_99 => ?_)
  · replace h := h.1 c_99
    exact k_L_told_238 X aX aI28 aI48 aI15_1 hP hK440 _ _ _ _ _ _ _ _ _ _ _ _ _ _ _ _ _ _ _ h hw (lv_sub hl [0, 1, 2, 3, 4, 5, 6, 7, 8, 9, 10, 12, 13, 14, 15] rfl)
  replace h := h.2 c_99
  refine lv_iload hx hb dL_told_222 (lv_at hl 14 rfl) ?_
  refine lv_iload hx hb dL_told_224 (lv_at hl 15 rfl) ?_
  refine lv_aload_n hx hb dL_told_226 rfl (lv_at hl 2 rfl) ?_
  refine lv_aload_n hx hb dL_told_227 rfl (lv_at hl 3 rfl) ?_
  refine r_ci X hw (pm_2 (pm_r (pm_l pm_0)) (pm_r (pm_r (pm_l pm_0)))) (wn := fun (u : IV × IV) => (xW t aX vX ++ (i28W t aI28 u.1 ++ (i48W t aI48 u.2 ++ (i15W t aI15_1 vI15))))) (fun u => (pm_2 (pm_r (pm_l pm_0)) (pm_r (pm_r (pm_l pm_0)))).symm) (r_runS X hw (c_L_fits l D t aI28 aI48 vI28 vI48 x14 x15 _ h) (pm_2 (pm_r (pm_l pm_0)) (pm_r (pm_r (pm_l pm_0)))) (va_cwS 4 X.1.2.2.2.2 gL_told_L_fits rfl rfl rfl (by decide +kernel) ⟨Nat.le_of_ble_eq_true rfl, Nat.le_of_ble_eq_true rfl⟩) rfl hl rfl (Nat.le_of_ble_eq_true rfl) dL_told_228 ⟨Nat.le_of_ble_eq_true rfl, Nat.le_of_ble_eq_true rfl⟩) (fun r_97 u H locs h hw => ?_)
  obtain ⟨vI28_95, vI48_96⟩ := u
  refine lv_if_le (tgt := 238) hx hb dL_told_231 (by decide) (fun c_98 => ?_) (fun c_98 => ?_)
  · replace h := h.1 c_98
    exact k_L_told_238 X aX aI28 aI48 aI15_1 hP hK440 _ _ _ _ _ _ _ _ _ _ _ _ _ _ _ _ _ _ _ h hw (lv_sub hl [0, 1, 2, 3, 4, 5, 6, 7, 8, 9, 10, 12, 13, 14, 15] rfl)
  replace h := h.2 c_98
  refine lv_iconst (v := 1) hx hb dL_told_234 (by decide) ?_
  refine lv_goto (tgt := 239) hx hb dL_told_235 (by decide) ?_
  exact k_L_told_239 X aX aI28 aI48 aI15_1 hP hK440 _ _ _ _ _ _ _ _ _ _ _ _ _ _ _ _ _ _ _ _ h hw (lv_sub hl [0, 1, 2, 3, 4, 5, 6, 7, 8, 9, 10, 12, 13, 14, 15] rfl)
set_option maxHeartbeats 4000000 in
set_option maxRecDepth 100000 in
theorem k_L_told_174 {p : Program} {l : Launch} {e : Env} {s : State} {m : MethodId} {below : List Frame} {meth : Method} {c : Code} {args : Array Value} {D : va_G} {t : T3} {A : Nat → Prop} (X : Cx p s m meth c args cL_told 20 (some .boolean) RL wsL_told D t A) (aX : XA) (aI28 : Nat) (aI48 : Nat) (aI15_1 : Nat) {P : XV → IV → IV → IV → Int32 → Int32 → Int32 → Int32 → Int32 → Int32 → Int32 → Int32 → Int32 → Int32 → Int32 → Prop} {K440 : XV → IV → IV → IV → Int32 → Int32 → Int32 → Int32 → Int32 → Int32 → Int32 → Int32 → Int32 → Prop} {Q : Int32 → XV → IV → IV → Prop} (hP : ∀ (vX : XV) (vI28 : IV) (vI48 : IV) (vI15 : IV) (x1 : Int32) (x5 : Int32) (x6 : Int32) (x7 : Int32) (x8 : Int32) (x9 : Int32) (x10 : Int32) (x11 : Int32) (x12 : Int32) (x13 : Int32) (x14 : Int32) (H : Heap) (locs : List Loc) (ls : Array Slot), P vX vI28 vI48 vI15 x1 x5 x6 x7 x8 x9 x10 x11 x12 x13 x14 → Wd D A s.heap (xW t aX vX ++ (i28W t aI28 vI28 ++ (i48W t aI48 vI48 ++ (i15W t aI15_1 vI15)))) H locs → lv_has ls 20 [(0, .ref (XA.o aX)), (1, .int x1), (2, .ref aI28), (3, .ref aI48), (4, .ref aI15_1), (5, .int x5), (6, .int x6), (7, .int x7), (8, .int x8), (9, .int x9), (10, .int x10), (11, .int x11), (12, .int x12), (13, .int x13), (14, .int x14)] → W p l e ({ frames := 82, cells := 3, slots := 39, locals := 1651 } : Room) s m args below meth c H locs 1 15 (Ei below args s A D (fun (u : XV × IV × IV) => (xW t aX u.1 ++ (i28W t aI28 u.2.1 ++ (i48W t aI48 u.2.2)))) (fun (r : Int32) (u : XV × IV × IV) => Q r u.1 u.2.1 u.2.2) 3 39) (F0 m 43 ls [])) (hK440 : ∀ (vX : XV) (vI28 : IV) (vI48 : IV) (vI15 : IV) (x1 : Int32) (x5 : Int32) (x6 : Int32) (x7 : Int32) (x8 : Int32) (x9 : Int32) (x10 : Int32) (x11 : Int32) (x12 : Int32) (H : Heap) (locs : List Loc) (ls : Array Slot), K440 vX vI28 vI48 vI15 x1 x5 x6 x7 x8 x9 x10 x11 x12 → Wd D A s.heap (xW t aX vX ++ (i28W t aI28 vI28 ++ (i48W t aI48 vI48 ++ (i15W t aI15_1 vI15)))) H locs → lv_has ls 20 [(0, .ref (XA.o aX)), (1, .int x1), (2, .ref aI28), (3, .ref aI48), (4, .ref aI15_1), (5, .int x5), (6, .int x6), (7, .int x7), (8, .int x8), (9, .int x9), (10, .int x10), (11, .int x11), (12, .int x12)] → W p l e ({ frames := 82, cells := 3, slots := 39, locals := 1651 } : Room) s m args below meth c H locs 1 15 (Ei below args s A D (fun (u : XV × IV × IV) => (xW t aX u.1 ++ (i28W t aI28 u.2.1 ++ (i48W t aI48 u.2.2)))) (fun (r : Int32) (u : XV × IV × IV) => Q r u.1 u.2.1 u.2.2) 3 39) (F0 m 440 ls [])) : ∀ (vX : XV) (vI28 : IV) (vI48 : IV) (vI15 : IV) (x1 : Int32) (x5 : Int32) (x7 : Int32) (x8 : Int32) (x9 : Int32) (x10 : Int32) (x11 : Int32) (x12 : Int32) (x13 : Int32) (x14 : Int32) (x15 : Int32) (x16 : Int32) (x17 : Int32) (t0 : Int32) (t1 : Int32) (H : Heap) (locs : List Loc) (ls : Array Slot), wp_L_told_174 P K440 Q vX vI28 vI48 vI15 x1 x5 x7 x8 x9 x10 x11 x12 x13 x14 x15 x16 x17 t0 t1 → Wd D A s.heap (xW t aX vX ++ (i28W t aI28 vI28 ++ (i48W t aI48 vI48 ++ (i15W t aI15_1 vI15)))) H locs → lv_has ls 20 [(0, .ref (XA.o aX)), (1, .int x1), (2, .ref aI28), (3, .ref aI48), (4, .ref aI15_1), (5, .int x5), (7, .int x7), (8, .int x8), (9, .int x9), (10, .int x10), (11, .int x11), (12, .int x12), (13, .int x13), (14, .int x14), (15, .int x15), (16, .int x16), (17, .int x17)] → W p l e ({ frames := 82, cells := 3, slots := 39, locals := 1651 } : Room) s m args below meth c H locs 1 15 (Ei below args s A D (fun (u : XV × IV × IV) => (xW t aX u.1 ++ (i28W t aI28 u.2.1 ++ (i48W t aI48 u.2.2)))) (fun (r : Int32) (u : XV × IV × IV) => Q r u.1 u.2.1 u.2.2) 3 39) (F0 m 174 ls [.int t1, .int t0]) := by
  intro vX vI28 vI48 vI15 x1 x5 x7 x8 x9 x10 x11 x12 x13 x14 x15 x16 x17 t0 t1 H locs ls h hw hl
  have hx := X.1.1
  have hb := X.1.2.1
  refine lv_iadd hx hb dL_told_174 ?_
  refine lv_topi (fun x6_40 ex6_40 => ?_)
  replace h := h x6_40 ex6_40
  refine lv_istore (lv' := [(6, .int x6_40), (0, .ref (XA.o aX)), (1, .int x1), (2, .ref aI28), (3, .ref aI48), (4, .ref aI15_1), (5, .int x5), (7, .int x7), (8, .int x8), (9, .int x9), (10, .int x10), (11, .int x11), (12, .int x12), (13, .int x13), (14, .int x14), (15, .int x15), (16, .int x16), (17, .int x17)]) hx hb dL_told_175 hl (by decide) rfl (fun ls hl => ?_)
  refine lv_iload hx hb dL_told_177 (lv_at hl 7 rfl) ?_
  refine lv_aload_n hx hb dL_told_179 rfl (lv_at hl 3 rfl) ?_
  refine lv_bipush (v := 16) hx hb dL_told_180 (by decide) ?_
  refine lv_iload hx hb dL_told_182 (lv_at hl 14 rfl) ?_
  refine lv_iadd hx hb dL_told_184 ?_
  obtain ⟨hi_41, h⟩ := h
  refine r_iald (v := (vI28 (Int32.toNatClampNeg (16 + x14)))) X hw 61 rfl hi_41 rfl dL_told_185 ?_
  refine lv_iadd hx hb dL_told_186 ?_
  refine lv_topi (fun x7_42 ex7_42 => ?_)
  replace h := h x7_42 ex7_42
  refine lv_istore (lv' := [(7, .int x7_42), (6, .int x6_40), (0, .ref (XA.o aX)), (1, .int x1), (2, .ref aI28), (3, .ref aI48), (4, .ref aI15_1), (5, .int x5), (8, .int x8), (9, .int x9), (10, .int x10), (11, .int x11), (12, .int x12), (13, .int x13), (14, .int x14), (15, .int x15), (16, .int x16), (17, .int x17)]) hx hb dL_told_187 hl (by decide) rfl (fun ls hl => ?_)
  refine lv_iload hx hb dL_told_189 (lv_at hl 16 rfl) ?_
  refine lv_if_le (tgt := 215) hx hb dL_told_191 (by decide) (fun c_102 => ?_) (fun c_102 => ?_)
  · replace h := h.1 c_102
    exact k_L_told_215 X aX aI28 aI48 aI15_1 hP hK440 _ _ _ _ _ _ _ _ _ _ _ _ _ _ _ _ _ _ _ h hw (lv_sub hl [2, 3, 4, 5, 6, 7, 1, 0, 8, 9, 10, 11, 12, 13, 14, 15] rfl)
  replace h := h.2 c_102
  refine lv_iload hx hb dL_told_194 (lv_at hl 16 rfl) ?_
  refine lv_iload hx hb dL_told_196 (lv_at hl 13 rfl) ?_
  refine lv_icmp_ge (tgt := 215) hx hb dL_told_198 (by decide) (fun c_101 => ?_) (fun c_101 => ?_)
  · replace h := h.1 c_101
    exact k_L_told_215 X aX aI28 aI48 aI15_1 hP hK440 _ _ _ _ _ _ _ _ _ _ _ _ _ _ _ _ _ _ _ h hw (lv_sub hl [2, 3, 4, 5, 6, 7, 1, 0, 8, 9, 10, 11, 12, 13, 14, 15] rfl)
  replace h := h.2 c_101
  refine lv_iload hx hb dL_told_201 (lv_at hl 16 rfl) ?_
  refine lv_istore (lv' := [(13, .int x16), (7, .int x7_42), (6, .int x6_40), (0, .ref (XA.o aX)), (1, .int x1), (2, .ref aI28), (3, .ref aI48), (4, .ref aI15_1), (5, .int x5), (8, .int x8), (9, .int x9), (10, .int x10), (11, .int x11), (12, .int x12), (14, .int x14), (15, .int x15), (16, .int x16), (17, .int x17)]) hx hb dL_told_203 hl (by decide) rfl (fun ls hl => ?_)
  refine lv_bipush (v := 100) hx hb dL_told_205 (by decide) ?_
  refine lv_iload hx hb dL_told_207 (lv_at hl 14 rfl) ?_
  refine lv_imul hx hb dL_told_209 ?_
  refine lv_iload hx hb dL_told_210 (lv_at hl 17 rfl) ?_
  refine lv_iadd hx hb dL_told_212 ?_
  refine lv_topi (fun x12_100 ex12_100 => ?_)
  replace h := h x12_100 ex12_100
  refine lv_istore (lv' := [(12, .int x12_100), (13, .int x16), (7, .int x7_42), (6, .int x6_40), (0, .ref (XA.o aX)), (1, .int x1), (2, .ref aI28), (3, .ref aI48), (4, .ref aI15_1), (5, .int x5), (8, .int x8), (9, .int x9), (10, .int x10), (11, .int x11), (14, .int x14), (15, .int x15), (16, .int x16), (17, .int x17)]) hx hb dL_told_213 hl (by decide) rfl (fun ls hl => ?_)
  exact k_L_told_215 X aX aI28 aI48 aI15_1 hP hK440 _ _ _ _ _ _ _ _ _ _ _ _ _ _ _ _ _ _ _ h hw (lv_sub hl [4, 5, 6, 7, 8, 9, 3, 2, 10, 11, 12, 13, 0, 1, 14, 15] rfl)
set_option maxHeartbeats 4000000 in
set_option maxRecDepth 100000 in
theorem kb_L_told_43 {p : Program} {l : Launch} {e : Env} {s : State} {m : MethodId} {below : List Frame} {meth : Method} {c : Code} {args : Array Value} {D : va_G} {t : T3} {A : Nat → Prop} (X : Cx p s m meth c args cL_told 20 (some .boolean) RL wsL_told D t A) (aX : XA) (aI28 : Nat) (aI48 : Nat) (aI15_1 : Nat) {Q : Int32 → XV → IV → IV → Prop} {P : XV → IV → IV → IV → Int32 → Int32 → Int32 → Int32 → Int32 → Int32 → Int32 → Int32 → Int32 → Int32 → Int32 → Prop} {K440 : XV → IV → IV → IV → Int32 → Int32 → Int32 → Int32 → Int32 → Int32 → Int32 → Int32 → Int32 → Prop} (hP : ∀ (vX : XV) (vI28 : IV) (vI48 : IV) (vI15 : IV) (x1 : Int32) (x5 : Int32) (x6 : Int32) (x7 : Int32) (x8 : Int32) (x9 : Int32) (x10 : Int32) (x11 : Int32) (x12 : Int32) (x13 : Int32) (x14 : Int32) (H : Heap) (locs : List Loc) (ls : Array Slot), P vX vI28 vI48 vI15 x1 x5 x6 x7 x8 x9 x10 x11 x12 x13 x14 → Wd D A s.heap (xW t aX vX ++ (i28W t aI28 vI28 ++ (i48W t aI48 vI48 ++ (i15W t aI15_1 vI15)))) H locs → lv_has ls 20 [(0, .ref (XA.o aX)), (1, .int x1), (2, .ref aI28), (3, .ref aI48), (4, .ref aI15_1), (5, .int x5), (6, .int x6), (7, .int x7), (8, .int x8), (9, .int x9), (10, .int x10), (11, .int x11), (12, .int x12), (13, .int x13), (14, .int x14)] → W p l e ({ frames := 82, cells := 3, slots := 39, locals := 1651 } : Room) s m args below meth c H locs 1 15 (Ei below args s A D (fun (u : XV × IV × IV) => (xW t aX u.1 ++ (i28W t aI28 u.2.1 ++ (i48W t aI48 u.2.2)))) (fun (r : Int32) (u : XV × IV × IV) => Q r u.1 u.2.1 u.2.2) 3 39) (F0 m 43 ls [])) (hK440 : ∀ (vX : XV) (vI28 : IV) (vI48 : IV) (vI15 : IV) (x1 : Int32) (x5 : Int32) (x6 : Int32) (x7 : Int32) (x8 : Int32) (x9 : Int32) (x10 : Int32) (x11 : Int32) (x12 : Int32) (H : Heap) (locs : List Loc) (ls : Array Slot), K440 vX vI28 vI48 vI15 x1 x5 x6 x7 x8 x9 x10 x11 x12 → Wd D A s.heap (xW t aX vX ++ (i28W t aI28 vI28 ++ (i48W t aI48 vI48 ++ (i15W t aI15_1 vI15)))) H locs → lv_has ls 20 [(0, .ref (XA.o aX)), (1, .int x1), (2, .ref aI28), (3, .ref aI48), (4, .ref aI15_1), (5, .int x5), (6, .int x6), (7, .int x7), (8, .int x8), (9, .int x9), (10, .int x10), (11, .int x11), (12, .int x12)] → W p l e ({ frames := 82, cells := 3, slots := 39, locals := 1651 } : Room) s m args below meth c H locs 1 15 (Ei below args s A D (fun (u : XV × IV × IV) => (xW t aX u.1 ++ (i28W t aI28 u.2.1 ++ (i48W t aI48 u.2.2)))) (fun (r : Int32) (u : XV × IV × IV) => Q r u.1 u.2.1 u.2.2) 3 39) (F0 m 440 ls [])) : ∀ (vX : XV) (vI28 : IV) (vI48 : IV) (vI15 : IV) (x1 : Int32) (x5 : Int32) (x6 : Int32) (x7 : Int32) (x8 : Int32) (x9 : Int32) (x10 : Int32) (x11 : Int32) (x12 : Int32) (x13 : Int32) (x14 : Int32) (H : Heap) (locs : List Loc) (ls : Array Slot), bd_L_told_43 Q P K440 vX vI28 vI48 vI15 x1 x5 x6 x7 x8 x9 x10 x11 x12 x13 x14 → Wd D A s.heap (xW t aX vX ++ (i28W t aI28 vI28 ++ (i48W t aI48 vI48 ++ (i15W t aI15_1 vI15)))) H locs → lv_has ls 20 [(0, .ref (XA.o aX)), (1, .int x1), (2, .ref aI28), (3, .ref aI48), (4, .ref aI15_1), (5, .int x5), (6, .int x6), (7, .int x7), (8, .int x8), (9, .int x9), (10, .int x10), (11, .int x11), (12, .int x12), (13, .int x13), (14, .int x14)] → W p l e ({ frames := 82, cells := 3, slots := 39, locals := 1651 } : Room) s m args below meth c H locs 1 15 (Ei below args s A D (fun (u : XV × IV × IV) => (xW t aX u.1 ++ (i28W t aI28 u.2.1 ++ (i48W t aI48 u.2.2)))) (fun (r : Int32) (u : XV × IV × IV) => Q r u.1 u.2.1 u.2.2) 3 39) (F0 m 43 ls []) := by
  intro vX vI28 vI48 vI15 x1 x5 x6 x7 x8 x9 x10 x11 x12 x13 x14 H locs ls h hw hl
  have hx := X.1.1
  have hb := X.1.2.1
  refine lv_iload hx hb dL_told_43 (lv_at hl 14 rfl) ?_
  refine lv_iload hx hb dL_told_45 (lv_at hl 5 rfl) ?_
  refine lv_icmp_ge (tgt := 440) hx hb dL_told_47 (by decide) (fun c_108 => ?_) (fun c_108 => ?_)
  · replace h := h.1 c_108
    exact hK440 _ _ _ _ _ _ _ _ _ _ _ _ _ _ _ _ h hw (lv_sub hl [0, 1, 2, 3, 4, 5, 6, 7, 8, 9, 10, 11, 12] rfl)
  replace h := h.2 c_108
  refine lv_aload_n hx hb dL_told_50 rfl (lv_at hl 2 rfl) ?_
  refine lv_iconst (v := 4) hx hb dL_told_51 (by decide) ?_
  refine lv_iload hx hb dL_told_52 (lv_at hl 14 rfl) ?_
  refine lv_iadd hx hb dL_told_54 ?_
  obtain ⟨hi_3, h⟩ := h
  refine r_iald (v := (vI28 (Int32.toNatClampNeg (4 + x14)))) X hw 61 rfl hi_3 rfl dL_told_55 ?_
  refine lv_topi (fun x15_4 ex15_4 => ?_)
  replace h := h x15_4 ex15_4
  refine lv_istore (lv' := [(15, .int x15_4), (0, .ref (XA.o aX)), (1, .int x1), (2, .ref aI28), (3, .ref aI48), (4, .ref aI15_1), (5, .int x5), (6, .int x6), (7, .int x7), (8, .int x8), (9, .int x9), (10, .int x10), (11, .int x11), (12, .int x12), (13, .int x13), (14, .int x14)]) hx hb dL_told_56 hl (by decide) rfl (fun ls hl => ?_)
  refine lv_iconst (v := 0) hx hb dL_told_58 (by decide) ?_
  refine lv_istore (lv' := [(16, .int 0), (15, .int x15_4), (0, .ref (XA.o aX)), (1, .int x1), (2, .ref aI28), (3, .ref aI48), (4, .ref aI15_1), (5, .int x5), (6, .int x6), (7, .int x7), (8, .int x8), (9, .int x9), (10, .int x10), (11, .int x11), (12, .int x12), (13, .int x13), (14, .int x14)]) hx hb dL_told_59 hl (by decide) rfl (fun ls hl => ?_)
  refine lv_iconst (v := (-1)) hx hb dL_told_61 (by decide) ?_
  refine lv_istore (lv' := [(17, .int (-1)), (16, .int 0), (15, .int x15_4), (0, .ref (XA.o aX)), (1, .int x1), (2, .ref aI28), (3, .ref aI48), (4, .ref aI15_1), (5, .int x5), (6, .int x6), (7, .int x7), (8, .int x8), (9, .int x9), (10, .int x10), (11, .int x11), (12, .int x12), (13, .int x13), (14, .int x14)]) hx hb dL_told_62 hl (by decide) rfl (fun ls hl => ?_)
  refine lv_bipush (v := 8) hx hb dL_told_64 (by decide) ?_
  refine lv_aload_n hx hb dL_told_66 rfl (lv_at hl 5 rfl) ?_
  refine lv_iconst (v := 3) hx hb dL_told_67 (by decide) ?_
  refine r_iald (v := (vI28 3)) X hw 61 rfl (vpl rfl) rfl dL_told_68 ?_
  refine lv_imul hx hb dL_told_69 ?_
  refine lv_iconst (v := 1) hx hb dL_told_70 (by decide) ?_
  refine lv_isub hx hb dL_told_71 ?_
  refine lv_topi (fun x18_5 ex18_5 => ?_)
  replace h := h x18_5 ex18_5
  refine lv_istore (lv' := [(18, .int x18_5), (17, .int (-1)), (16, .int 0), (15, .int x15_4), (0, .ref (XA.o aX)), (1, .int x1), (2, .ref aI28), (3, .ref aI48), (4, .ref aI15_1), (5, .int x5), (6, .int x6), (7, .int x7), (8, .int x8), (9, .int x9), (10, .int x10), (11, .int x11), (12, .int x12), (13, .int x13), (14, .int x14)]) hx hb dL_told_72 hl (by decide) rfl (fun ls hl => ?_)
  refine k_L_told_74 X aX aI28 aI48 aI15_1 (fun vX_13 vI28_14 vI48_15 vI15_16 x1_17 x5_18 x6_19 x7_20 x8_21 x9_22 x10_23 x11_24 x12_25 x13_26 x14_27 x15_28 x16_29 x17_30 H locs ls h hw hl => ?_) _ _ _ _ _ _ _ _ _ _ _ _ _ _ _ _ _ _ _ _ _ _ h hw (lv_sub hl [4, 5, 6, 7, 8, 9, 10, 11, 12, 13, 14, 15, 16, 17, 18, 3, 2, 1, 0] rfl)
  refine lv_aload_n hx hb dL_told_107 rfl (lv_at hl 0 rfl) ?_
  refine lv_iload hx hb dL_told_108 (lv_at hl 14 rfl) ?_
  refine lv_iconst (v := 0) hx hb dL_told_110 (by decide) ?_
  refine r_ci X hw (pm_l pm_0) (wn := fun (u : XV) => (xW t aX u ++ (i28W t aI28 vI28_14 ++ (i48W t aI48 vI48_15 ++ (i15W t aI15_1 vI15_16))))) (fun u => (pm_l pm_0).symm) (r_runV X hw (c_X6_cell l D t aX vX_13 x14_27 0 _ h) (pm_l pm_0) (cwV 2 X.1.2.2.2.2 gL_told_X6_cell rfl rfl rfl (by decide +kernel) ⟨Nat.le_of_ble_eq_true rfl, Nat.le_of_ble_eq_true rfl⟩) (ci := 6) rfl rfl rfl rfl hl rfl (Nat.le_of_ble_eq_true rfl) dL_told_111 ⟨Nat.le_of_ble_eq_true rfl, Nat.le_of_ble_eq_true rfl⟩) (fun r_32 u H locs h hw => ?_)
  obtain ⟨vX_31, rfl⟩ : ∃ z, z = u := ⟨_, rfl⟩
  refine lv_iload hx hb dL_told_114 (lv_at hl 15 rfl) ?_
  refine lv_icmp_ne (tgt := 160) hx hb dL_told_116 (by decide) (fun c_107 => ?_) (fun c_107 => ?_)
  · replace h := h.1 c_107
    refine lv_iconst (v := 0) hx hb dL_told_160 (by decide) ?_
    replace hw := Wd.part (pm_2 (pm_l pm_0) (pm_2 (pm_r (pm_l pm_0)) (pm_r (pm_r (pm_l pm_0))))) hw
    refine W.widen (k := 3) (n := 39) (Nat.le_of_ble_eq_true rfl) (Nat.le_of_ble_eq_true rfl) ?_
    exact e_z (w1 := (fun (u : XV × IV × IV) => (xW t aX u.1 ++ (i28W t aI28 u.2.1 ++ (i48W t aI48 u.2.2))))) X isB_0 (vX_31, vI28_14, vI48_15) hw h dL_told_161
  replace h := h.2 c_107
  refine lv_aload_n hx hb dL_told_119 rfl (lv_at hl 0 rfl) ?_
  refine lv_iload hx hb dL_told_120 (lv_at hl 14 rfl) ?_
  refine lv_iconst (v := 1) hx hb dL_told_122 (by decide) ?_
  refine r_ci X hw (pm_l pm_0) (wn := fun (u : XV) => (xW t aX u ++ (i28W t aI28 vI28_14 ++ (i48W t aI48 vI48_15 ++ (i15W t aI15_1 vI15_16))))) (fun u => (pm_l pm_0).symm) (r_runV X hw (c_X6_cell l D t aX vX_31 x14_27 1 _ h) (pm_l pm_0) (cwV 2 X.1.2.2.2.2 gL_told_X6_cell rfl rfl rfl (by decide +kernel) ⟨Nat.le_of_ble_eq_true rfl, Nat.le_of_ble_eq_true rfl⟩) (ci := 6) rfl rfl rfl rfl hl rfl (Nat.le_of_ble_eq_true rfl) dL_told_123 ⟨Nat.le_of_ble_eq_true rfl, Nat.le_of_ble_eq_true rfl⟩) (fun r_34 u H locs h hw => ?_)
  obtain ⟨vX_33, rfl⟩ : ∃ z, z = u := ⟨_, rfl⟩
  refine lv_aload_n hx hb dL_told_126 rfl (lv_at hl 2 rfl) ?_
  refine lv_bipush (v := 16) hx hb dL_told_127 (by decide) ?_
  refine lv_iload hx hb dL_told_129 (lv_at hl 14 rfl) ?_
  refine lv_iadd hx hb dL_told_131 ?_
  obtain ⟨hi_35, h⟩ := h
  refine r_iald (v := (vI28_14 (Int32.toNatClampNeg (16 + x14_27)))) X hw 61 rfl hi_35 rfl dL_told_132 ?_
  refine lv_icmp_ne (tgt := 160) hx hb dL_told_133 (by decide) (fun c_106 => ?_) (fun c_106 => ?_)
  · replace h := h.1 c_106
    refine lv_iconst (v := 0) hx hb dL_told_160 (by decide) ?_
    replace hw := Wd.part (pm_2 (pm_l pm_0) (pm_2 (pm_r (pm_l pm_0)) (pm_r (pm_r (pm_l pm_0))))) hw
    refine W.widen (k := 3) (n := 39) (Nat.le_of_ble_eq_true rfl) (Nat.le_of_ble_eq_true rfl) ?_
    exact e_z (w1 := (fun (u : XV × IV × IV) => (xW t aX u.1 ++ (i28W t aI28 u.2.1 ++ (i48W t aI48 u.2.2))))) X isB_0 (vX_33, vI28_14, vI48_15) hw h dL_told_161
  replace h := h.2 c_106
  refine lv_aload_n hx hb dL_told_136 rfl (lv_at hl 0 rfl) ?_
  refine lv_iload hx hb dL_told_137 (lv_at hl 14 rfl) ?_
  refine lv_iconst (v := 2) hx hb dL_told_139 (by decide) ?_
  refine r_ci X hw (pm_l pm_0) (wn := fun (u : XV) => (xW t aX u ++ (i28W t aI28 vI28_14 ++ (i48W t aI48 vI48_15 ++ (i15W t aI15_1 vI15_16))))) (fun u => (pm_l pm_0).symm) (r_runV X hw (c_X6_cell l D t aX vX_33 x14_27 2 _ h) (pm_l pm_0) (cwV 2 X.1.2.2.2.2 gL_told_X6_cell rfl rfl rfl (by decide +kernel) ⟨Nat.le_of_ble_eq_true rfl, Nat.le_of_ble_eq_true rfl⟩) (ci := 6) rfl rfl rfl rfl hl rfl (Nat.le_of_ble_eq_true rfl) dL_told_140 ⟨Nat.le_of_ble_eq_true rfl, Nat.le_of_ble_eq_true rfl⟩) (fun r_37 u H locs h hw => ?_)
  obtain ⟨vX_36, rfl⟩ : ∃ z, z = u := ⟨_, rfl⟩
  refine lv_iload hx hb dL_told_143 (lv_at hl 16 rfl) ?_
  refine lv_icmp_ne (tgt := 160) hx hb dL_told_145 (by decide) (fun c_105 => ?_) (fun c_105 => ?_)
  · replace h := h.1 c_105
    refine lv_iconst (v := 0) hx hb dL_told_160 (by decide) ?_
    replace hw := Wd.part (pm_2 (pm_l pm_0) (pm_2 (pm_r (pm_l pm_0)) (pm_r (pm_r (pm_l pm_0))))) hw
    refine W.widen (k := 3) (n := 39) (Nat.le_of_ble_eq_true rfl) (Nat.le_of_ble_eq_true rfl) ?_
    exact e_z (w1 := (fun (u : XV × IV × IV) => (xW t aX u.1 ++ (i28W t aI28 u.2.1 ++ (i48W t aI48 u.2.2))))) X isB_0 (vX_36, vI28_14, vI48_15) hw h dL_told_161
  replace h := h.2 c_105
  refine lv_aload_n hx hb dL_told_148 rfl (lv_at hl 0 rfl) ?_
  refine lv_iload hx hb dL_told_149 (lv_at hl 14 rfl) ?_
  refine lv_iconst (v := 3) hx hb dL_told_151 (by decide) ?_
  refine r_ci X hw (pm_l pm_0) (wn := fun (u : XV) => (xW t aX u ++ (i28W t aI28 vI28_14 ++ (i48W t aI48 vI48_15 ++ (i15W t aI15_1 vI15_16))))) (fun u => (pm_l pm_0).symm) (r_runV X hw (c_X6_cell l D t aX vX_36 x14_27 3 _ h) (pm_l pm_0) (cwV 2 X.1.2.2.2.2 gL_told_X6_cell rfl rfl rfl (by decide +kernel) ⟨Nat.le_of_ble_eq_true rfl, Nat.le_of_ble_eq_true rfl⟩) (ci := 6) rfl rfl rfl rfl hl rfl (Nat.le_of_ble_eq_true rfl) dL_told_152 ⟨Nat.le_of_ble_eq_true rfl, Nat.le_of_ble_eq_true rfl⟩) (fun r_39 u H locs h hw => ?_)
  obtain ⟨vX_38, rfl⟩ : ∃ z, z = u := ⟨_, rfl⟩
  refine lv_iload hx hb dL_told_155 (lv_at hl 17 rfl) ?_
  refine lv_icmp_eq (tgt := 162) hx hb dL_told_157 (by decide) (fun c_104 => ?_) (fun c_104 => ?_)
  · replace h := h.1 c_104
    refine lv_iload hx hb dL_told_162 (lv_at hl 6 rfl) ?_
    refine lv_iload hx hb dL_told_164 (lv_at hl 15 rfl) ?_
    refine lv_if_ge (tgt := 173) hx hb dL_told_166 (by decide) (fun c_103 => ?_) (fun c_103 => ?_)
    · replace h := h.1 c_103
      refine lv_iconst (v := 0) hx hb dL_told_173 (by decide) ?_
      exact k_L_told_174 X aX aI28 aI48 aI15_1 hP hK440 _ _ _ _ _ _ _ _ _ _ _ _ _ _ _ _ _ _ _ _ _ _ h hw (lv_sub hl [0, 1, 2, 3, 4, 5, 7, 8, 9, 10, 11, 12, 13, 14, 15, 16, 17] rfl)
    replace h := h.2 c_103
    refine lv_iconst (v := 1) hx hb dL_told_169 (by decide) ?_
    refine lv_goto (tgt := 174) hx hb dL_told_170 (by decide) ?_
    exact k_L_told_174 X aX aI28 aI48 aI15_1 hP hK440 _ _ _ _ _ _ _ _ _ _ _ _ _ _ _ _ _ _ _ _ _ _ h hw (lv_sub hl [0, 1, 2, 3, 4, 5, 7, 8, 9, 10, 11, 12, 13, 14, 15, 16, 17] rfl)
  replace h := h.2 c_104
  refine lv_iconst (v := 0) hx hb dL_told_160 (by decide) ?_
  replace hw := Wd.part (pm_2 (pm_l pm_0) (pm_2 (pm_r (pm_l pm_0)) (pm_r (pm_r (pm_l pm_0))))) hw
  refine W.widen (k := 3) (n := 39) (Nat.le_of_ble_eq_true rfl) (Nat.le_of_ble_eq_true rfl) ?_
  exact e_z (w1 := (fun (u : XV × IV × IV) => (xW t aX u.1 ++ (i28W t aI28 u.2.1 ++ (i48W t aI48 u.2.2))))) X isB_0 (vX_38, vI28_14, vI48_15) hw h dL_told_161
set_option maxHeartbeats 4000000 in
set_option maxRecDepth 100000 in
theorem k_L_told_43 {p : Program} {l : Launch} {e : Env} {s : State} {m : MethodId} {below : List Frame} {meth : Method} {c : Code} {args : Array Value} {D : va_G} {t : T3} {A : Nat → Prop} (X : Cx p s m meth c args cL_told 20 (some .boolean) RL wsL_told D t A) (aX : XA) (aI28 : Nat) (aI48 : Nat) (aI15_1 : Nat) {Q : Int32 → XV → IV → IV → Prop} {K440 : XV → IV → IV → IV → Int32 → Int32 → Int32 → Int32 → Int32 → Int32 → Int32 → Int32 → Int32 → Prop} (hK440 : ∀ (vX : XV) (vI28 : IV) (vI48 : IV) (vI15 : IV) (x1 : Int32) (x5 : Int32) (x6 : Int32) (x7 : Int32) (x8 : Int32) (x9 : Int32) (x10 : Int32) (x11 : Int32) (x12 : Int32) (H : Heap) (locs : List Loc) (ls : Array Slot), K440 vX vI28 vI48 vI15 x1 x5 x6 x7 x8 x9 x10 x11 x12 → Wd D A s.heap (xW t aX vX ++ (i28W t aI28 vI28 ++ (i48W t aI48 vI48 ++ (i15W t aI15_1 vI15)))) H locs → lv_has ls 20 [(0, .ref (XA.o aX)), (1, .int x1), (2, .ref aI28), (3, .ref aI48), (4, .ref aI15_1), (5, .int x5), (6, .int x6), (7, .int x7), (8, .int x8), (9, .int x9), (10, .int x10), (11, .int x11), (12, .int x12)] → W p l e ({ frames := 82, cells := 3, slots := 39, locals := 1651 } : Room) s m args below meth c H locs 1 15 (Ei below args s A D (fun (u : XV × IV × IV) => (xW t aX u.1 ++ (i28W t aI28 u.2.1 ++ (i48W t aI48 u.2.2)))) (fun (r : Int32) (u : XV × IV × IV) => Q r u.1 u.2.1 u.2.2) 3 39) (F0 m 440 ls [])) : ∀ (vX : XV) (vI28 : IV) (vI48 : IV) (vI15 : IV) (x1 : Int32) (x5 : Int32) (x6 : Int32) (x7 : Int32) (x8 : Int32) (x9 : Int32) (x10 : Int32) (x11 : Int32) (x12 : Int32) (x13 : Int32) (x14 : Int32) (H : Heap) (locs : List Loc) (ls : Array Slot), wp_L_told_43 Q K440 vX vI28 vI48 vI15 x1 x5 x6 x7 x8 x9 x10 x11 x12 x13 x14 → Wd D A s.heap (xW t aX vX ++ (i28W t aI28 vI28 ++ (i48W t aI48 vI48 ++ (i15W t aI15_1 vI15)))) H locs → lv_has ls 20 [(0, .ref (XA.o aX)), (1, .int x1), (2, .ref aI28), (3, .ref aI48), (4, .ref aI15_1), (5, .int x5), (6, .int x6), (7, .int x7), (8, .int x8), (9, .int x9), (10, .int x10), (11, .int x11), (12, .int x12), (13, .int x13), (14, .int x14)] → W p l e ({ frames := 82, cells := 3, slots := 39, locals := 1651 } : Room) s m args below meth c H locs 1 15 (Ei below args s A D (fun (u : XV × IV × IV) => (xW t aX u.1 ++ (i28W t aI28 u.2.1 ++ (i48W t aI48 u.2.2)))) (fun (r : Int32) (u : XV × IV × IV) => Q r u.1 u.2.1 u.2.2) 3 39) (F0 m 43 ls []) := by
  intro vX vI28 vI48 vI15 x1 x5 x6 x7 x8 x9 x10 x11 x12 x13 x14 H locs ls h hw hl
  have hx := X.1.1
  have hb := X.1.2.1
  refine h (fun (vX : XV) (vI28 : IV) (vI48 : IV) (vI15 : IV) (x1 : Int32) (x5 : Int32) (x6 : Int32) (x7 : Int32) (x8 : Int32) (x9 : Int32) (x10 : Int32) (x11 : Int32) (x12 : Int32) (x13 : Int32) (x14 : Int32) => ∀ (H : Heap) (locs : List Loc) (ls : Array Slot), Wd D A s.heap (xW t aX vX ++ (i28W t aI28 vI28 ++ (i48W t aI48 vI48 ++ (i15W t aI15_1 vI15)))) H locs → lv_has ls 20 [(0, .ref (XA.o aX)), (1, .int x1), (2, .ref aI28), (3, .ref aI48), (4, .ref aI15_1), (5, .int x5), (6, .int x6), (7, .int x7), (8, .int x8), (9, .int x9), (10, .int x10), (11, .int x11), (12, .int x12), (13, .int x13), (14, .int x14)] → W p l e ({ frames := 82, cells := 3, slots := 39, locals := 1651 } : Room) s m args below meth c H locs 1 15 (Ei below args s A D (fun (u : XV × IV × IV) => (xW t aX u.1 ++ (i28W t aI28 u.2.1 ++ (i48W t aI48 u.2.2)))) (fun (r : Int32) (u : XV × IV × IV) => Q r u.1 u.2.1 u.2.2) 3 39) (F0 m 43 ls [])) (fun vX vI28 vI48 vI15 x1 x5 x6 x7 x8 x9 x10 x11 x12 x13 x14 h H locs ls hw hl => ?_) H locs ls hw hl
  exact kb_L_told_43 X aX aI28 aI48 aI15_1 (fun vX vI28 vI48 vI15 x1 x5 x6 x7 x8 x9 x10 x11 x12 x13 x14 H locs ls q hw hl => q H locs ls hw hl) hK440 vX vI28 vI48 vI15 x1 x5 x6 x7 x8 x9 x10 x11 x12 x13 x14 _ _ _ h hw hl
set_option maxHeartbeats 4000000 in
set_option maxRecDepth 100000 in
theorem kb_L_told_460 {p : Program} {l : Launch} {e : Env} {s : State} {m : MethodId} {below : List Frame} {meth : Method} {c : Code} {args : Array Value} {D : va_G} {t : T3} {A : Nat → Prop} (X : Cx p s m meth c args cL_told 20 (some .boolean) RL wsL_told D t A) (aX : XA) (aI28 : Nat) (aI48 : Nat) (aI15_1 : Nat) {Q : Int32 → XV → IV → IV → Prop} {P : XV → IV → IV → IV → Int32 → Int32 → Int32 → Int32 → Int32 → Int32 → Int32 → Int32 → Int32 → Int32 → Int32 → Int32 → Int32 → Prop} {K510 : XV → IV → IV → IV → Int32 → Int32 → Int32 → Int32 → Int32 → Int32 → Int32 → Int32 → Int32 → Int32 → Int32 → Int32 → Prop} (hP : ∀ (vX : XV) (vI28 : IV) (vI48 : IV) (vI15 : IV) (x1 : Int32) (x5 : Int32) (x6 : Int32) (x7 : Int32) (x8 : Int32) (x9 : Int32) (x10 : Int32) (x11 : Int32) (x12 : Int32) (x14 : Int32) (x15 : Int32) (x16 : Int32) (x17 : Int32) (H : Heap) (locs : List Loc) (ls : Array Slot), P vX vI28 vI48 vI15 x1 x5 x6 x7 x8 x9 x10 x11 x12 x14 x15 x16 x17 → Wd D A s.heap (xW t aX vX ++ (i28W t aI28 vI28 ++ (i48W t aI48 vI48 ++ (i15W t aI15_1 vI15)))) H locs → lv_has ls 20 [(0, .ref (XA.o aX)), (1, .int x1), (2, .ref aI28), (3, .ref aI48), (4, .ref aI15_1), (5, .int x5), (6, .int x6), (7, .int x7), (8, .int x8), (9, .int x9), (10, .int x10), (11, .int x11), (12, .int x12), (14, .int x14), (15, .int x15), (16, .int x16), (17, .int x17)] → W p l e ({ frames := 82, cells := 3, slots := 39, locals := 1651 } : Room) s m args below meth c H locs 1 15 (Ei below args s A D (fun (u : XV × IV × IV) => (xW t aX u.1 ++ (i28W t aI28 u.2.1 ++ (i48W t aI48 u.2.2)))) (fun (r : Int32) (u : XV × IV × IV) => Q r u.1 u.2.1 u.2.2) 3 39) (F0 m 460 ls [])) (hK510 : ∀ (vX : XV) (vI28 : IV) (vI48 : IV) (vI15 : IV) (x1 : Int32) (x5 : Int32) (x6 : Int32) (x7 : Int32) (x8 : Int32) (x9 : Int32) (x10 : Int32) (x11 : Int32) (x12 : Int32) (x14 : Int32) (x15 : Int32) (x16 : Int32) (H : Heap) (locs : List Loc) (ls : Array Slot), K510 vX vI28 vI48 vI15 x1 x5 x6 x7 x8 x9 x10 x11 x12 x14 x15 x16 → Wd D A s.heap (xW t aX vX ++ (i28W t aI28 vI28 ++ (i48W t aI48 vI48 ++ (i15W t aI15_1 vI15)))) H locs → lv_has ls 20 [(0, .ref (XA.o aX)), (1, .int x1), (2, .ref aI28), (3, .ref aI48), (4, .ref aI15_1), (5, .int x5), (6, .int x6), (7, .int x7), (8, .int x8), (9, .int x9), (10, .int x10), (11, .int x11), (12, .int x12), (14, .int x14), (15, .int x15), (16, .int x16)] → W p l e ({ frames := 82, cells := 3, slots := 39, locals := 1651 } : Room) s m args below meth c H locs 1 15 (Ei below args s A D (fun (u : XV × IV × IV) => (xW t aX u.1 ++ (i28W t aI28 u.2.1 ++ (i48W t aI48 u.2.2)))) (fun (r : Int32) (u : XV × IV × IV) => Q r u.1 u.2.1 u.2.2) 3 39) (F0 m 510 ls [])) : ∀ (vX : XV) (vI28 : IV) (vI48 : IV) (vI15 : IV) (x1 : Int32) (x5 : Int32) (x6 : Int32) (x7 : Int32) (x8 : Int32) (x9 : Int32) (x10 : Int32) (x11 : Int32) (x12 : Int32) (x14 : Int32) (x15 : Int32) (x16 : Int32) (x17 : Int32) (H : Heap) (locs : List Loc) (ls : Array Slot), bd_L_told_460 Q P K510 vX vI28 vI48 vI15 x1 x5 x6 x7 x8 x9 x10 x11 x12 x14 x15 x16 x17 → Wd D A s.heap (xW t aX vX ++ (i28W t aI28 vI28 ++ (i48W t aI48 vI48 ++ (i15W t aI15_1 vI15)))) H locs → lv_has ls 20 [(0, .ref (XA.o aX)), (1, .int x1), (2, .ref aI28), (3, .ref aI48), (4, .ref aI15_1), (5, .int x5), (6, .int x6), (7, .int x7), (8, .int x8), (9, .int x9), (10, .int x10), (11, .int x11), (12, .int x12), (14, .int x14), (15, .int x15), (16, .int x16), (17, .int x17)] → W p l e ({ frames := 82, cells := 3, slots := 39, locals := 1651 } : Room) s m args below meth c H locs 1 15 (Ei below args s A D (fun (u : XV × IV × IV) => (xW t aX u.1 ++ (i28W t aI28 u.2.1 ++ (i48W t aI48 u.2.2)))) (fun (r : Int32) (u : XV × IV × IV) => Q r u.1 u.2.1 u.2.2) 3 39) (F0 m 460 ls []) := by
  intro vX vI28 vI48 vI15 x1 x5 x6 x7 x8 x9 x10 x11 x12 x14 x15 x16 x17 H locs ls h hw hl
  have hx := X.1.1
  have hb := X.1.2.1
  refine lv_iload hx hb dL_told_460 (lv_at hl 16 rfl) ?_
  refine lv_iconst (v := 4) hx hb dL_told_462 (by decide) ?_
  refine lv_icmp_ge (tgt := 510) hx hb dL_told_463 (by decide) (fun c_127 => ?_) (fun c_127 => ?_)
  · replace h := h.1 c_127
    exact hK510 _ _ _ _ _ _ _ _ _ _ _ _ _ _ _ _ _ _ _ h hw (lv_sub hl [0, 1, 2, 3, 4, 5, 6, 7, 8, 9, 10, 11, 12, 13, 14, 15] rfl)
  replace h := h.2 c_127
  refine lv_bipush (v := 10) hx hb dL_told_466 (by decide) ?_
  refine lv_iload hx hb dL_told_468 (lv_at hl 14 rfl) ?_
  refine lv_imul hx hb dL_told_470 ?_
  refine lv_aload_n hx hb dL_told_471 rfl (lv_at hl 3 rfl) ?_
  refine lv_bipush (v := 8) hx hb dL_told_472 (by decide) ?_
  refine lv_iload hx hb dL_told_474 (lv_at hl 13 rfl) ?_
  refine lv_imul hx hb dL_told_476 ?_
  refine lv_iload hx hb dL_told_477 (lv_at hl 16 rfl) ?_
  refine lv_iadd hx hb dL_told_479 ?_
  obtain ⟨hi_122, h⟩ := h
  refine r_iald (v := (vI48 (Int32.toNatClampNeg ((8 * x14) + x17)))) X hw 62 rfl hi_122 rfl dL_told_480 ?_
  refine lv_iadd hx hb dL_told_481 ?_
  refine lv_topi (fun x15_123 ex15_123 => ?_)
  replace h := h x15_123 ex15_123
  refine lv_istore (lv' := [(15, .int x15_123), (0, .ref (XA.o aX)), (1, .int x1), (2, .ref aI28), (3, .ref aI48), (4, .ref aI15_1), (5, .int x5), (6, .int x6), (7, .int x7), (8, .int x8), (9, .int x9), (10, .int x10), (11, .int x11), (12, .int x12), (14, .int x14), (16, .int x16), (17, .int x17)]) hx hb dL_told_482 hl (by decide) rfl (fun ls hl => ?_)
  refine lv_bipush (v := 10) hx hb dL_told_484 (by decide) ?_
  refine lv_iload hx hb dL_told_486 (lv_at hl 15 rfl) ?_
  refine lv_imul hx hb dL_told_488 ?_
  refine lv_aload_n hx hb dL_told_489 rfl (lv_at hl 4 rfl) ?_
  refine lv_bipush (v := 8) hx hb dL_told_490 (by decide) ?_
  refine lv_iload hx hb dL_told_492 (lv_at hl 14 rfl) ?_
  refine lv_imul hx hb dL_told_494 ?_
  refine lv_iconst (v := 4) hx hb dL_told_495 (by decide) ?_
  refine lv_iadd hx hb dL_told_496 ?_
  refine lv_iload hx hb dL_told_497 (lv_at hl 16 rfl) ?_
  refine lv_iadd hx hb dL_told_499 ?_
  obtain ⟨hi_124, h⟩ := h
  refine r_iald (v := (vI48 (Int32.toNatClampNeg (((8 * x14) + 4) + x17)))) X hw 62 rfl hi_124 rfl dL_told_500 ?_
  refine lv_iadd hx hb dL_told_501 ?_
  refine lv_topi (fun x16_125 ex16_125 => ?_)
  replace h := h x16_125 ex16_125
  refine lv_istore (lv' := [(16, .int x16_125), (15, .int x15_123), (0, .ref (XA.o aX)), (1, .int x1), (2, .ref aI28), (3, .ref aI48), (4, .ref aI15_1), (5, .int x5), (6, .int x6), (7, .int x7), (8, .int x8), (9, .int x9), (10, .int x10), (11, .int x11), (12, .int x12), (14, .int x14), (17, .int x17)]) hx hb dL_told_502 hl (by decide) rfl (fun ls hl => ?_)
  obtain ⟨x17_126, ex17_126⟩ : ∃ z : Int32, z = x17 + 1 := ⟨_, rfl⟩
  replace h := h x17_126 ex17_126
  refine lv_iinc (v := x17_126) (lv' := [(17, .int x17_126), (16, .int x16_125), (15, .int x15_123), (0, .ref (XA.o aX)), (1, .int x1), (2, .ref aI28), (3, .ref aI48), (4, .ref aI15_1), (5, .int x5), (6, .int x6), (7, .int x7), (8, .int x8), (9, .int x9), (10, .int x10), (11, .int x11), (12, .int x12), (14, .int x14)]) hx hb dL_told_504 hl (k := 16) rfl (by rw [ex17_126]; rfl) (by decide) rfl (fun ls hl => ?_)
  refine lv_goto (tgt := 460) hx hb dL_told_507 (by decide) ?_
  exact hP _ _ _ _ _ _ _ _ _ _ _ _ _ _ _ _ _ _ _ _ h hw (lv_sub hl [3, 4, 5, 6, 7, 8, 9, 10, 11, 12, 13, 14, 15, 16, 2, 1, 0] rfl)
set_option maxHeartbeats 4000000 in
set_option maxRecDepth 100000 in
theorem k_L_told_460 {p : Program} {l : Launch} {e : Env} {s : State} {m : MethodId} {below : List Frame} {meth : Method} {c : Code} {args : Array Value} {D : va_G} {t : T3} {A : Nat → Prop} (X : Cx p s m meth c args cL_told 20 (some .boolean) RL wsL_told D t A) (aX : XA) (aI28 : Nat) (aI48 : Nat) (aI15_1 : Nat) {Q : Int32 → XV → IV → IV → Prop} {K510 : XV → IV → IV → IV → Int32 → Int32 → Int32 → Int32 → Int32 → Int32 → Int32 → Int32 → Int32 → Int32 → Int32 → Int32 → Prop} (hK510 : ∀ (vX : XV) (vI28 : IV) (vI48 : IV) (vI15 : IV) (x1 : Int32) (x5 : Int32) (x6 : Int32) (x7 : Int32) (x8 : Int32) (x9 : Int32) (x10 : Int32) (x11 : Int32) (x12 : Int32) (x14 : Int32) (x15 : Int32) (x16 : Int32) (H : Heap) (locs : List Loc) (ls : Array Slot), K510 vX vI28 vI48 vI15 x1 x5 x6 x7 x8 x9 x10 x11 x12 x14 x15 x16 → Wd D A s.heap (xW t aX vX ++ (i28W t aI28 vI28 ++ (i48W t aI48 vI48 ++ (i15W t aI15_1 vI15)))) H locs → lv_has ls 20 [(0, .ref (XA.o aX)), (1, .int x1), (2, .ref aI28), (3, .ref aI48), (4, .ref aI15_1), (5, .int x5), (6, .int x6), (7, .int x7), (8, .int x8), (9, .int x9), (10, .int x10), (11, .int x11), (12, .int x12), (14, .int x14), (15, .int x15), (16, .int x16)] → W p l e ({ frames := 82, cells := 3, slots := 39, locals := 1651 } : Room) s m args below meth c H locs 1 15 (Ei below args s A D (fun (u : XV × IV × IV) => (xW t aX u.1 ++ (i28W t aI28 u.2.1 ++ (i48W t aI48 u.2.2)))) (fun (r : Int32) (u : XV × IV × IV) => Q r u.1 u.2.1 u.2.2) 3 39) (F0 m 510 ls [])) : ∀ (vX : XV) (vI28 : IV) (vI48 : IV) (vI15 : IV) (x1 : Int32) (x5 : Int32) (x6 : Int32) (x7 : Int32) (x8 : Int32) (x9 : Int32) (x10 : Int32) (x11 : Int32) (x12 : Int32) (x14 : Int32) (x15 : Int32) (x16 : Int32) (x17 : Int32) (H : Heap) (locs : List Loc) (ls : Array Slot), wp_L_told_460 Q K510 vX vI28 vI48 vI15 x1 x5 x6 x7 x8 x9 x10 x11 x12 x14 x15 x16 x17 → Wd D A s.heap (xW t aX vX ++ (i28W t aI28 vI28 ++ (i48W t aI48 vI48 ++ (i15W t aI15_1 vI15)))) H locs → lv_has ls 20 [(0, .ref (XA.o aX)), (1, .int x1), (2, .ref aI28), (3, .ref aI48), (4, .ref aI15_1), (5, .int x5), (6, .int x6), (7, .int x7), (8, .int x8), (9, .int x9), (10, .int x10), (11, .int x11), (12, .int x12), (14, .int x14), (15, .int x15), (16, .int x16), (17, .int x17)] → W p l e ({ frames := 82, cells := 3, slots := 39, locals := 1651 } : Room) s m args below meth c H locs 1 15 (Ei below args s A D (fun (u : XV × IV × IV) => (xW t aX u.1 ++ (i28W t aI28 u.2.1 ++ (i48W t aI48 u.2.2)))) (fun (r : Int32) (u : XV × IV × IV) => Q r u.1 u.2.1 u.2.2) 3 39) (F0 m 460 ls []) := by
  intro vX vI28 vI48 vI15 x1 x5 x6 x7 x8 x9 x10 x11 x12 x14 x15 x16 x17 H locs ls h hw hl
  have hx := X.1.1
  have hb := X.1.2.1
  refine h (fun (vX : XV) (vI28 : IV) (vI48 : IV) (vI15 : IV) (x1 : Int32) (x5 : Int32) (x6 : Int32) (x7 : Int32) (x8 : Int32) (x9 : Int32) (x10 : Int32) (x11 : Int32) (x12 : Int32) (x14 : Int32) (x15 : Int32) (x16 : Int32) (x17 : Int32) => ∀ (H : Heap) (locs : List Loc) (ls : Array Slot), Wd D A s.heap (xW t aX vX ++ (i28W t aI28 vI28 ++ (i48W t aI48 vI48 ++ (i15W t aI15_1 vI15)))) H locs → lv_has ls 20 [(0, .ref (XA.o aX)), (1, .int x1), (2, .ref aI28), (3, .ref aI48), (4, .ref aI15_1), (5, .int x5), (6, .int x6), (7, .int x7), (8, .int x8), (9, .int x9), (10, .int x10), (11, .int x11), (12, .int x12), (14, .int x14), (15, .int x15), (16, .int x16), (17, .int x17)] → W p l e ({ frames := 82, cells := 3, slots := 39, locals := 1651 } : Room) s m args below meth c H locs 1 15 (Ei below args s A D (fun (u : XV × IV × IV) => (xW t aX u.1 ++ (i28W t aI28 u.2.1 ++ (i48W t aI48 u.2.2)))) (fun (r : Int32) (u : XV × IV × IV) => Q r u.1 u.2.1 u.2.2) 3 39) (F0 m 460 ls [])) (fun vX vI28 vI48 vI15 x1 x5 x6 x7 x8 x9 x10 x11 x12 x14 x15 x16 x17 h H locs ls hw hl => ?_) H locs ls hw hl
  exact kb_L_told_460 X aX aI28 aI48 aI15_1 (fun vX vI28 vI48 vI15 x1 x5 x6 x7 x8 x9 x10 x11 x12 x14 x15 x16 x17 H locs ls q hw hl => q H locs ls hw hl) hK510 vX vI28 vI48 vI15 x1 x5 x6 x7 x8 x9 x10 x11 x12 x14 x15 x16 x17 _ _ _ h hw hl
set_option maxHeartbeats 4000000 in
set_option maxRecDepth 100000 in
theorem kb_L_told_443 {p : Program} {l : Launch} {e : Env} {s : State} {m : MethodId} {below : List Frame} {meth : Method} {c : Code} {args : Array Value} {D : va_G} {t : T3} {A : Nat → Prop} (X : Cx p s m meth c args cL_told 20 (some .boolean) RL wsL_told D t A) (aX : XA) (aI28 : Nat) (aI48 : Nat) (aI15_1 : Nat) {Q : Int32 → XV → IV → IV → Prop} {P : XV → IV → IV → IV → Int32 → Int32 → Int32 → Int32 → Int32 → Int32 → Int32 → Int32 → Int32 → Int32 → Prop} {K558 : XV → IV → IV → IV → Int32 → Int32 → Int32 → Int32 → Int32 → Int32 → Int32 → Int32 → Int32 → Prop} (hP : ∀ (vX : XV) (vI28 : IV) (vI48 : IV) (vI15 : IV) (x1 : Int32) (x5 : Int32) (x6 : Int32) (x7 : Int32) (x8 : Int32) (x9 : Int32) (x10 : Int32) (x11 : Int32) (x12 : Int32) (x14 : Int32) (H : Heap) (locs : List Loc) (ls : Array Slot), P vX vI28 vI48 vI15 x1 x5 x6 x7 x8 x9 x10 x11 x12 x14 → Wd D A s.heap (xW t aX vX ++ (i28W t aI28 vI28 ++ (i48W t aI48 vI48 ++ (i15W t aI15_1 vI15)))) H locs → lv_has ls 20 [(0, .ref (XA.o aX)), (1, .int x1), (2, .ref aI28), (3, .ref aI48), (4, .ref aI15_1), (5, .int x5), (6, .int x6), (7, .int x7), (8, .int x8), (9, .int x9), (10, .int x10), (11, .int x11), (12, .int x12), (14, .int x14)] → W p l e ({ frames := 82, cells := 3, slots := 39, locals := 1651 } : Room) s m args below meth c H locs 1 15 (Ei below args s A D (fun (u : XV × IV × IV) => (xW t aX u.1 ++ (i28W t aI28 u.2.1 ++ (i48W t aI48 u.2.2)))) (fun (r : Int32) (u : XV × IV × IV) => Q r u.1 u.2.1 u.2.2) 3 39) (F0 m 443 ls [])) (hK558 : ∀ (vX : XV) (vI28 : IV) (vI48 : IV) (vI15 : IV) (x1 : Int32) (x5 : Int32) (x6 : Int32) (x7 : Int32) (x8 : Int32) (x9 : Int32) (x10 : Int32) (x11 : Int32) (x12 : Int32) (H : Heap) (locs : List Loc) (ls : Array Slot), K558 vX vI28 vI48 vI15 x1 x5 x6 x7 x8 x9 x10 x11 x12 → Wd D A s.heap (xW t aX vX ++ (i28W t aI28 vI28 ++ (i48W t aI48 vI48 ++ (i15W t aI15_1 vI15)))) H locs → lv_has ls 20 [(0, .ref (XA.o aX)), (1, .int x1), (2, .ref aI28), (3, .ref aI48), (4, .ref aI15_1), (5, .int x5), (6, .int x6), (7, .int x7), (8, .int x8), (9, .int x9), (10, .int x10), (11, .int x11), (12, .int x12)] → W p l e ({ frames := 82, cells := 3, slots := 39, locals := 1651 } : Room) s m args below meth c H locs 1 15 (Ei below args s A D (fun (u : XV × IV × IV) => (xW t aX u.1 ++ (i28W t aI28 u.2.1 ++ (i48W t aI48 u.2.2)))) (fun (r : Int32) (u : XV × IV × IV) => Q r u.1 u.2.1 u.2.2) 3 39) (F0 m 558 ls [])) : ∀ (vX : XV) (vI28 : IV) (vI48 : IV) (vI15 : IV) (x1 : Int32) (x5 : Int32) (x6 : Int32) (x7 : Int32) (x8 : Int32) (x9 : Int32) (x10 : Int32) (x11 : Int32) (x12 : Int32) (x14 : Int32) (H : Heap) (locs : List Loc) (ls : Array Slot), bd_L_told_443 Q P K558 vX vI28 vI48 vI15 x1 x5 x6 x7 x8 x9 x10 x11 x12 x14 → Wd D A s.heap (xW t aX vX ++ (i28W t aI28 vI28 ++ (i48W t aI48 vI48 ++ (i15W t aI15_1 vI15)))) H locs → lv_has ls 20 [(0, .ref (XA.o aX)), (1, .int x1), (2, .ref aI28), (3, .ref aI48), (4, .ref aI15_1), (5, .int x5), (6, .int x6), (7, .int x7), (8, .int x8), (9, .int x9), (10, .int x10), (11, .int x11), (12, .int x12), (14, .int x14)] → W p l e ({ frames := 82, cells := 3, slots := 39, locals := 1651 } : Room) s m args below meth c H locs 1 15 (Ei below args s A D (fun (u : XV × IV × IV) => (xW t aX u.1 ++ (i28W t aI28 u.2.1 ++ (i48W t aI48 u.2.2)))) (fun (r : Int32) (u : XV × IV × IV) => Q r u.1 u.2.1 u.2.2) 3 39) (F0 m 443 ls []) := by
  intro vX vI28 vI48 vI15 x1 x5 x6 x7 x8 x9 x10 x11 x12 x14 H locs ls h hw hl
  have hx := X.1.1
  have hb := X.1.2.1
  refine lv_iload hx hb dL_told_443 (lv_at hl 13 rfl) ?_
  refine lv_aload_n hx hb dL_told_445 rfl (lv_at hl 2 rfl) ?_
  refine lv_iconst (v := 3) hx hb dL_told_446 (by decide) ?_
  refine r_iald (v := (vI28 3)) X hw 61 rfl (vpl rfl) rfl dL_told_447 ?_
  refine lv_icmp_ge (tgt := 558) hx hb dL_told_448 (by decide) (fun c_156 => ?_) (fun c_156 => ?_)
  · replace h := h.1 c_156
    exact hK558 _ _ _ _ _ _ _ _ _ _ _ _ _ _ _ _ h hw (lv_sub hl [0, 1, 2, 3, 4, 5, 6, 7, 8, 9, 10, 11, 12] rfl)
  replace h := h.2 c_156
  refine lv_iconst (v := 0) hx hb dL_told_451 (by decide) ?_
  refine lv_istore (lv' := [(15, .int 0), (0, .ref (XA.o aX)), (1, .int x1), (2, .ref aI28), (3, .ref aI48), (4, .ref aI15_1), (5, .int x5), (6, .int x6), (7, .int x7), (8, .int x8), (9, .int x9), (10, .int x10), (11, .int x11), (12, .int x12), (14, .int x14)]) hx hb dL_told_452 hl (by decide) rfl (fun ls hl => ?_)
  refine lv_iconst (v := 0) hx hb dL_told_454 (by decide) ?_
  refine lv_istore (lv' := [(16, .int 0), (15, .int 0), (0, .ref (XA.o aX)), (1, .int x1), (2, .ref aI28), (3, .ref aI48), (4, .ref aI15_1), (5, .int x5), (6, .int x6), (7, .int x7), (8, .int x8), (9, .int x9), (10, .int x10), (11, .int x11), (12, .int x12), (14, .int x14)]) hx hb dL_told_455 hl (by decide) rfl (fun ls hl => ?_)
  refine lv_iconst (v := 0) hx hb dL_told_457 (by decide) ?_
  refine lv_istore (lv' := [(17, .int 0), (16, .int 0), (15, .int 0), (0, .ref (XA.o aX)), (1, .int x1), (2, .ref aI28), (3, .ref aI48), (4, .ref aI15_1), (5, .int x5), (6, .int x6), (7, .int x7), (8, .int x8), (9, .int x9), (10, .int x10), (11, .int x11), (12, .int x12), (14, .int x14)]) hx hb dL_told_458 hl (by decide) rfl (fun ls hl => ?_)
  refine k_L_told_460 X aX aI28 aI48 aI15_1 (fun vX_128 vI28_129 vI48_130 vI15_131 x1_132 x5_133 x6_134 x7_135 x8_136 x9_137 x10_138 x11_139 x12_140 x14_141 x15_142 x16_143 H locs ls h hw hl => ?_) _ _ _ _ _ _ _ _ _ _ _ _ _ _ _ _ _ _ _ _ h hw (lv_sub hl [3, 4, 5, 6, 7, 8, 9, 10, 11, 12, 13, 14, 15, 16, 2, 1, 0] rfl)
  refine lv_aload_n hx hb dL_told_510 rfl (lv_at hl 0 rfl) ?_
  refine lv_iload hx hb dL_told_511 (lv_at hl 13 rfl) ?_
  refine lv_iconst (v := 0) hx hb dL_told_513 (by decide) ?_
  refine r_ci X hw (pm_l pm_0) (wn := fun (u : XV) => (xW t aX u ++ (i28W t aI28 vI28_129 ++ (i48W t aI48 vI48_130 ++ (i15W t aI15_1 vI15_131))))) (fun u => (pm_l pm_0).symm) (r_runV X hw (c_X6_tile l D t aX vX_128 x14_141 0 _ h) (pm_l pm_0) (cwV 2 X.1.2.2.2.2 gL_told_X6_tile rfl rfl rfl (by decide +kernel) ⟨Nat.le_of_ble_eq_true rfl, Nat.le_of_ble_eq_true rfl⟩) (ci := 6) rfl rfl rfl rfl hl rfl (Nat.le_of_ble_eq_true rfl) dL_told_514 ⟨Nat.le_of_ble_eq_true rfl, Nat.le_of_ble_eq_true rfl⟩) (fun r_145 u H locs h hw => ?_)
  obtain ⟨vX_144, rfl⟩ : ∃ z, z = u := ⟨_, rfl⟩
  refine lv_iload hx hb dL_told_517 (lv_at hl 14 rfl) ?_
  refine lv_icmp_ne (tgt := 550) hx hb dL_told_519 (by decide) (fun c_155 => ?_) (fun c_155 => ?_)
  · replace h := h.1 c_155
    refine lv_iconst (v := 0) hx hb dL_told_550 (by decide) ?_
    replace hw := Wd.part (pm_2 (pm_l pm_0) (pm_2 (pm_r (pm_l pm_0)) (pm_r (pm_r (pm_l pm_0))))) hw
    refine W.widen (k := 3) (n := 39) (Nat.le_of_ble_eq_true rfl) (Nat.le_of_ble_eq_true rfl) ?_
    exact e_z (w1 := (fun (u : XV × IV × IV) => (xW t aX u.1 ++ (i28W t aI28 u.2.1 ++ (i48W t aI48 u.2.2))))) X isB_0 (vX_144, vI28_129, vI48_130) hw h dL_told_551
  replace h := h.2 c_155
  refine lv_aload_n hx hb dL_told_522 rfl (lv_at hl 0 rfl) ?_
  refine lv_iload hx hb dL_told_523 (lv_at hl 13 rfl) ?_
  refine lv_iconst (v := 1) hx hb dL_told_525 (by decide) ?_
  refine r_ci X hw (pm_l pm_0) (wn := fun (u : XV) => (xW t aX u ++ (i28W t aI28 vI28_129 ++ (i48W t aI48 vI48_130 ++ (i15W t aI15_1 vI15_131))))) (fun u => (pm_l pm_0).symm) (r_runV X hw (c_X6_tile l D t aX vX_144 x14_141 1 _ h) (pm_l pm_0) (cwV 2 X.1.2.2.2.2 gL_told_X6_tile rfl rfl rfl (by decide +kernel) ⟨Nat.le_of_ble_eq_true rfl, Nat.le_of_ble_eq_true rfl⟩) (ci := 6) rfl rfl rfl rfl hl rfl (Nat.le_of_ble_eq_true rfl) dL_told_526 ⟨Nat.le_of_ble_eq_true rfl, Nat.le_of_ble_eq_true rfl⟩) (fun r_147 u H locs h hw => ?_)
  obtain ⟨vX_146, rfl⟩ : ∃ z, z = u := ⟨_, rfl⟩
  refine lv_iload hx hb dL_told_529 (lv_at hl 15 rfl) ?_
  refine lv_icmp_ne (tgt := 550) hx hb dL_told_531 (by decide) (fun c_154 => ?_) (fun c_154 => ?_)
  · replace h := h.1 c_154
    refine lv_iconst (v := 0) hx hb dL_told_550 (by decide) ?_
    replace hw := Wd.part (pm_2 (pm_l pm_0) (pm_2 (pm_r (pm_l pm_0)) (pm_r (pm_r (pm_l pm_0))))) hw
    refine W.widen (k := 3) (n := 39) (Nat.le_of_ble_eq_true rfl) (Nat.le_of_ble_eq_true rfl) ?_
    exact e_z (w1 := (fun (u : XV × IV × IV) => (xW t aX u.1 ++ (i28W t aI28 u.2.1 ++ (i48W t aI48 u.2.2))))) X isB_0 (vX_146, vI28_129, vI48_130) hw h dL_told_551
  replace h := h.2 c_154
  refine lv_aload_n hx hb dL_told_534 rfl (lv_at hl 0 rfl) ?_
  refine lv_iload hx hb dL_told_535 (lv_at hl 13 rfl) ?_
  refine lv_iconst (v := 2) hx hb dL_told_537 (by decide) ?_
  refine r_ci X hw (pm_l pm_0) (wn := fun (u : XV) => (xW t aX u ++ (i28W t aI28 vI28_129 ++ (i48W t aI48 vI48_130 ++ (i15W t aI15_1 vI15_131))))) (fun u => (pm_l pm_0).symm) (r_runV X hw (c_X6_tile l D t aX vX_146 x14_141 2 _ h) (pm_l pm_0) (cwV 2 X.1.2.2.2.2 gL_told_X6_tile rfl rfl rfl (by decide +kernel) ⟨Nat.le_of_ble_eq_true rfl, Nat.le_of_ble_eq_true rfl⟩) (ci := 6) rfl rfl rfl rfl hl rfl (Nat.le_of_ble_eq_true rfl) dL_told_538 ⟨Nat.le_of_ble_eq_true rfl, Nat.le_of_ble_eq_true rfl⟩) (fun r_149 u H locs h hw => ?_)
  obtain ⟨vX_148, rfl⟩ : ∃ z, z = u := ⟨_, rfl⟩
  refine lv_iload hx hb dL_told_541 (lv_at hl 13 rfl) ?_
  refine lv_aload_n hx hb dL_told_543 rfl (lv_at hl 2 rfl) ?_
  refine r_ci X hw (pm_r (pm_l pm_0)) (wn := fun (u : IV) => (xW t aX vX_148 ++ (i28W t aI28 u ++ (i48W t aI48 vI48_130 ++ (i15W t aI15_1 vI15_131))))) (fun u => (pm_r (pm_l pm_0)).symm) (r_runS X hw (c_L_where l D t aI28 vI28_129 x14_141 _ h) (pm_r (pm_l pm_0)) (va_cwS 2 X.1.2.2.2.2 gL_told_L_where rfl rfl rfl (by decide +kernel) ⟨Nat.le_of_ble_eq_true rfl, Nat.le_of_ble_eq_true rfl⟩) rfl hl rfl (Nat.le_of_ble_eq_true rfl) dL_told_544 ⟨Nat.le_of_ble_eq_true rfl, Nat.le_of_ble_eq_true rfl⟩) (fun r_151 u H locs h hw => ?_)
  obtain ⟨vI28_150, rfl⟩ : ∃ z, z = u := ⟨_, rfl⟩
  refine lv_icmp_eq (tgt := 552) hx hb dL_told_547 (by decide) (fun c_153 => ?_) (fun c_153 => ?_)
  · replace h := h.1 c_153
    obtain ⟨x14_152, ex14_152⟩ : ∃ z : Int32, z = x14_141 + 1 := ⟨_, rfl⟩
    replace h := h x14_152 ex14_152
    refine lv_iinc (v := x14_152) (lv' := [(14, .int x14_152), (0, .ref (XA.o aX)), (1, .int x1_132), (2, .ref aI28), (3, .ref aI48), (4, .ref aI15_1), (5, .int x5_133), (6, .int x6_134), (7, .int x7_135), (8, .int x8_136), (9, .int x9_137), (10, .int x10_138), (11, .int x11_139), (12, .int x12_140), (15, .int x15_142), (16, .int x16_143)]) hx hb dL_told_552 hl (k := 13) rfl (by rw [ex14_152]; rfl) (by decide) rfl (fun ls hl => ?_)
    refine lv_goto (tgt := 443) hx hb dL_told_555 (by decide) ?_
    exact hP _ _ _ _ _ _ _ _ _ _ _ _ _ _ _ _ _ h hw (lv_sub hl [1, 2, 3, 4, 5, 6, 7, 8, 9, 10, 11, 12, 13, 0] rfl)
  replace h := h.2 c_153
  refine lv_iconst (v := 0) hx hb dL_told_550 (by decide) ?_
  replace hw := Wd.part (pm_2 (pm_l pm_0) (pm_2 (pm_r (pm_l pm_0)) (pm_r (pm_r (pm_l pm_0))))) hw
  refine W.widen (k := 3) (n := 39) (Nat.le_of_ble_eq_true rfl) (Nat.le_of_ble_eq_true rfl) ?_
  exact e_z (w1 := (fun (u : XV × IV × IV) => (xW t aX u.1 ++ (i28W t aI28 u.2.1 ++ (i48W t aI48 u.2.2))))) X isB_0 (vX_148, vI28_150, vI48_130) hw h dL_told_551
set_option maxHeartbeats 4000000 in
set_option maxRecDepth 100000 in
theorem k_L_told_443 {p : Program} {l : Launch} {e : Env} {s : State} {m : MethodId} {below : List Frame} {meth : Method} {c : Code} {args : Array Value} {D : va_G} {t : T3} {A : Nat → Prop} (X : Cx p s m meth c args cL_told 20 (some .boolean) RL wsL_told D t A) (aX : XA) (aI28 : Nat) (aI48 : Nat) (aI15_1 : Nat) {Q : Int32 → XV → IV → IV → Prop} {K558 : XV → IV → IV → IV → Int32 → Int32 → Int32 → Int32 → Int32 → Int32 → Int32 → Int32 → Int32 → Prop} (hK558 : ∀ (vX : XV) (vI28 : IV) (vI48 : IV) (vI15 : IV) (x1 : Int32) (x5 : Int32) (x6 : Int32) (x7 : Int32) (x8 : Int32) (x9 : Int32) (x10 : Int32) (x11 : Int32) (x12 : Int32) (H : Heap) (locs : List Loc) (ls : Array Slot), K558 vX vI28 vI48 vI15 x1 x5 x6 x7 x8 x9 x10 x11 x12 → Wd D A s.heap (xW t aX vX ++ (i28W t aI28 vI28 ++ (i48W t aI48 vI48 ++ (i15W t aI15_1 vI15)))) H locs → lv_has ls 20 [(0, .ref (XA.o aX)), (1, .int x1), (2, .ref aI28), (3, .ref aI48), (4, .ref aI15_1), (5, .int x5), (6, .int x6), (7, .int x7), (8, .int x8), (9, .int x9), (10, .int x10), (11, .int x11), (12, .int x12)] → W p l e ({ frames := 82, cells := 3, slots := 39, locals := 1651 } : Room) s m args below meth c H locs 1 15 (Ei below args s A D (fun (u : XV × IV × IV) => (xW t aX u.1 ++ (i28W t aI28 u.2.1 ++ (i48W t aI48 u.2.2)))) (fun (r : Int32) (u : XV × IV × IV) => Q r u.1 u.2.1 u.2.2) 3 39) (F0 m 558 ls [])) : ∀ (vX : XV) (vI28 : IV) (vI48 : IV) (vI15 : IV) (x1 : Int32) (x5 : Int32) (x6 : Int32) (x7 : Int32) (x8 : Int32) (x9 : Int32) (x10 : Int32) (x11 : Int32) (x12 : Int32) (x14 : Int32) (H : Heap) (locs : List Loc) (ls : Array Slot), wp_L_told_443 Q K558 vX vI28 vI48 vI15 x1 x5 x6 x7 x8 x9 x10 x11 x12 x14 → Wd D A s.heap (xW t aX vX ++ (i28W t aI28 vI28 ++ (i48W t aI48 vI48 ++ (i15W t aI15_1 vI15)))) H locs → lv_has ls 20 [(0, .ref (XA.o aX)), (1, .int x1), (2, .ref aI28), (3, .ref aI48), (4, .ref aI15_1), (5, .int x5), (6, .int x6), (7, .int x7), (8, .int x8), (9, .int x9), (10, .int x10), (11, .int x11), (12, .int x12), (14, .int x14)] → W p l e ({ frames := 82, cells := 3, slots := 39, locals := 1651 } : Room) s m args below meth c H locs 1 15 (Ei below args s A D (fun (u : XV × IV × IV) => (xW t aX u.1 ++ (i28W t aI28 u.2.1 ++ (i48W t aI48 u.2.2)))) (fun (r : Int32) (u : XV × IV × IV) => Q r u.1 u.2.1 u.2.2) 3 39) (F0 m 443 ls []) := by
  intro vX vI28 vI48 vI15 x1 x5 x6 x7 x8 x9 x10 x11 x12 x14 H locs ls h hw hl
  have hx := X.1.1
  have hb := X.1.2.1
  refine h (fun (vX : XV) (vI28 : IV) (vI48 : IV) (vI15 : IV) (x1 : Int32) (x5 : Int32) (x6 : Int32) (x7 : Int32) (x8 : Int32) (x9 : Int32) (x10 : Int32) (x11 : Int32) (x12 : Int32) (x14 : Int32) => ∀ (H : Heap) (locs : List Loc) (ls : Array Slot), Wd D A s.heap (xW t aX vX ++ (i28W t aI28 vI28 ++ (i48W t aI48 vI48 ++ (i15W t aI15_1 vI15)))) H locs → lv_has ls 20 [(0, .ref (XA.o aX)), (1, .int x1), (2, .ref aI28), (3, .ref aI48), (4, .ref aI15_1), (5, .int x5), (6, .int x6), (7, .int x7), (8, .int x8), (9, .int x9), (10, .int x10), (11, .int x11), (12, .int x12), (14, .int x14)] → W p l e ({ frames := 82, cells := 3, slots := 39, locals := 1651 } : Room) s m args below meth c H locs 1 15 (Ei below args s A D (fun (u : XV × IV × IV) => (xW t aX u.1 ++ (i28W t aI28 u.2.1 ++ (i48W t aI48 u.2.2)))) (fun (r : Int32) (u : XV × IV × IV) => Q r u.1 u.2.1 u.2.2) 3 39) (F0 m 443 ls [])) (fun vX vI28 vI48 vI15 x1 x5 x6 x7 x8 x9 x10 x11 x12 x14 h H locs ls hw hl => ?_) H locs ls hw hl
  exact kb_L_told_443 X aX aI28 aI48 aI15_1 (fun vX vI28 vI48 vI15 x1 x5 x6 x7 x8 x9 x10 x11 x12 x14 H locs ls q hw hl => q H locs ls hw hl) hK558 vX vI28 vI48 vI15 x1 x5 x6 x7 x8 x9 x10 x11 x12 x14 _ _ _ h hw hl
set_option maxHeartbeats 4000000 in
set_option maxRecDepth 100000 in
theorem k_L_told_700 {p : Program} {l : Launch} {e : Env} {s : State} {m : MethodId} {below : List Frame} {meth : Method} {c : Code} {args : Array Value} {D : va_G} {t : T3} {A : Nat → Prop} (X : Cx p s m meth c args cL_told 20 (some .boolean) RL wsL_told D t A) (aX : XA) (aI28 : Nat) (aI48 : Nat) (aI15_1 : Nat) {Q : Int32 → XV → IV → IV → Prop}  : ∀ (vX : XV) (vI28 : IV) (vI48 : IV) (vI15 : IV) (x6 : Int32) (x7 : Int32) (x9 : Int32) (x10 : Int32) (x11 : Int32) (x12 : Int32) (t0 : UInt64) (t1 : UInt64) (H : Heap) (locs : List Loc) (ls : Array Slot), wp_L_told_700 Q vX vI28 vI48 vI15 x6 x7 x9 x10 x11 x12 t0 t1 → Wd D A s.heap (xW t aX vX ++ (i28W t aI28 vI28 ++ (i48W t aI48 vI48 ++ (i15W t aI15_1 vI15)))) H locs → lv_has ls 20 [(0, .ref (XA.o aX)), (2, .ref aI28), (6, .int x6), (7, .int x7), (9, .int x9), (10, .int x10), (11, .int x11), (12, .int x12)] → W p l e ({ frames := 82, cells := 3, slots := 39, locals := 1651 } : Room) s m args below meth c H locs 3 39 (Ei below args s A D (fun (u : XV × IV × IV) => (xW t aX u.1 ++ (i28W t aI28 u.2.1 ++ (i48W t aI48 u.2.2)))) (fun (r : Int32) (u : XV × IV × IV) => Q r u.1 u.2.1 u.2.2) 3 39) (F0 m 700 ls [.double t1, .double t0]) := by
  intro vX vI28 vI48 vI15 x6 x7 x9 x10 x11 x12 t0 t1 H locs ls h hw hl
  have hx := X.1.1
  have hb := X.1.2.1
  refine lv_dcmp hx hb dL_told_700 ?_
  refine lv_if_eq (tgt := 706) hx hb dL_told_701 (by decide) (fun c_215 => ?_) (fun c_215 => ?_)
  · replace h := h.1 c_215
    refine lv_aload_n hx hb dL_told_706 rfl (lv_at hl 0 rfl) ?_
    refine r_ci X hw (pm_l pm_0) (wn := fun (u : XV) => (xW t aX u ++ (i28W t aI28 vI28 ++ (i48W t aI48 vI48 ++ (i15W t aI15_1 vI15))))) (fun u => (pm_l pm_0).symm) (r_runV X hw (c_X6_hint l D t aX vX _ h) (pm_l pm_0) (cwV 0 X.1.2.2.2.2 gL_told_X6_hint rfl rfl rfl (by decide +kernel) ⟨Nat.le_of_ble_eq_true rfl, Nat.le_of_ble_eq_true rfl⟩) (ci := 6) rfl rfl rfl rfl hl rfl (Nat.le_of_ble_eq_true rfl) dL_told_707 ⟨Nat.le_of_ble_eq_true rfl, Nat.le_of_ble_eq_true rfl⟩) (fun r_186 u H locs h hw => ?_)
    obtain ⟨vX_185, rfl⟩ : ∃ z, z = u := ⟨_, rfl⟩
    refine lv_iload hx hb dL_told_710 (lv_at hl 7 rfl) ?_
    refine lv_icmp_ne (tgt := 816) hx hb dL_told_712 (by decide) (fun c_214 => ?_) (fun c_214 => ?_)
    · replace h := h.1 c_214
      refine lv_iconst (v := 0) hx hb dL_told_816 (by decide) ?_
      replace hw := Wd.part (pm_2 (pm_l pm_0) (pm_2 (pm_r (pm_l pm_0)) (pm_r (pm_r (pm_l pm_0))))) hw
      exact e_z (w1 := (fun (u : XV × IV × IV) => (xW t aX u.1 ++ (i28W t aI28 u.2.1 ++ (i48W t aI48 u.2.2))))) X isB_0 (vX_185, vI28, vI48) hw h dL_told_817
    replace h := h.2 c_214
    refine lv_aload_n hx hb dL_told_715 rfl (lv_at hl 0 rfl) ?_
    refine lv_iconst (v := 0) hx hb dL_told_716 (by decide) ?_
    refine r_ci X hw (pm_l pm_0) (wn := fun (u : XV) => (xW t aX u ++ (i28W t aI28 vI28 ++ (i48W t aI48 vI48 ++ (i15W t aI15_1 vI15))))) (fun u => (pm_l pm_0).symm) (r_runV X hw (c_X6_count l D t aX vX_185 0 _ h) (pm_l pm_0) (cwV 1 X.1.2.2.2.2 gL_told_X6_count rfl rfl rfl (by decide +kernel) ⟨Nat.le_of_ble_eq_true rfl, Nat.le_of_ble_eq_true rfl⟩) (ci := 6) rfl rfl rfl rfl hl rfl (Nat.le_of_ble_eq_true rfl) dL_told_717 ⟨Nat.le_of_ble_eq_true rfl, Nat.le_of_ble_eq_true rfl⟩) (fun r_188 u H locs h hw => ?_)
    obtain ⟨vX_187, rfl⟩ : ∃ z, z = u := ⟨_, rfl⟩
    refine lv_aload_n hx hb dL_told_720 rfl (lv_at hl 1 rfl) ?_
    refine lv_iconst (v := 0) hx hb dL_told_721 (by decide) ?_
    refine r_iald (v := (vI28 0)) X hw 61 rfl (vpl rfl) rfl dL_told_722 ?_
    refine lv_icmp_ne (tgt := 816) hx hb dL_told_723 (by decide) (fun c_213 => ?_) (fun c_213 => ?_)
    · replace h := h.1 c_213
      refine lv_iconst (v := 0) hx hb dL_told_816 (by decide) ?_
      replace hw := Wd.part (pm_2 (pm_l pm_0) (pm_2 (pm_r (pm_l pm_0)) (pm_r (pm_r (pm_l pm_0))))) hw
      exact e_z (w1 := (fun (u : XV × IV × IV) => (xW t aX u.1 ++ (i28W t aI28 u.2.1 ++ (i48W t aI48 u.2.2))))) X isB_0 (vX_187, vI28, vI48) hw h dL_told_817
    replace h := h.2 c_213
    refine lv_aload_n hx hb dL_told_726 rfl (lv_at hl 0 rfl) ?_
    refine lv_iconst (v := 1) hx hb dL_told_727 (by decide) ?_
    refine r_ci X hw (pm_l pm_0) (wn := fun (u : XV) => (xW t aX u ++ (i28W t aI28 vI28 ++ (i48W t aI48 vI48 ++ (i15W t aI15_1 vI15))))) (fun u => (pm_l pm_0).symm) (r_runV X hw (c_X6_count l D t aX vX_187 1 _ h) (pm_l pm_0) (cwV 1 X.1.2.2.2.2 gL_told_X6_count rfl rfl rfl (by decide +kernel) ⟨Nat.le_of_ble_eq_true rfl, Nat.le_of_ble_eq_true rfl⟩) (ci := 6) rfl rfl rfl rfl hl rfl (Nat.le_of_ble_eq_true rfl) dL_told_728 ⟨Nat.le_of_ble_eq_true rfl, Nat.le_of_ble_eq_true rfl⟩) (fun r_190 u H locs h hw => ?_)
    obtain ⟨vX_189, rfl⟩ : ∃ z, z = u := ⟨_, rfl⟩
    refine lv_aload_n hx hb dL_told_731 rfl (lv_at hl 1 rfl) ?_
    refine lv_iconst (v := 1) hx hb dL_told_732 (by decide) ?_
    refine r_iald (v := (vI28 1)) X hw 61 rfl (vpl rfl) rfl dL_told_733 ?_
    refine lv_icmp_ne (tgt := 816) hx hb dL_told_734 (by decide) (fun c_212 => ?_) (fun c_212 => ?_)
    · replace h := h.1 c_212
      refine lv_iconst (v := 0) hx hb dL_told_816 (by decide) ?_
      replace hw := Wd.part (pm_2 (pm_l pm_0) (pm_2 (pm_r (pm_l pm_0)) (pm_r (pm_r (pm_l pm_0))))) hw
      exact e_z (w1 := (fun (u : XV × IV × IV) => (xW t aX u.1 ++ (i28W t aI28 u.2.1 ++ (i48W t aI48 u.2.2))))) X isB_0 (vX_189, vI28, vI48) hw h dL_told_817
    replace h := h.2 c_212
    refine lv_aload_n hx hb dL_told_737 rfl (lv_at hl 0 rfl) ?_
    refine lv_iconst (v := 2) hx hb dL_told_738 (by decide) ?_
    refine r_ci X hw (pm_l pm_0) (wn := fun (u : XV) => (xW t aX u ++ (i28W t aI28 vI28 ++ (i48W t aI48 vI48 ++ (i15W t aI15_1 vI15))))) (fun u => (pm_l pm_0).symm) (r_runV X hw (c_X6_count l D t aX vX_189 2 _ h) (pm_l pm_0) (cwV 1 X.1.2.2.2.2 gL_told_X6_count rfl rfl rfl (by decide +kernel) ⟨Nat.le_of_ble_eq_true rfl, Nat.le_of_ble_eq_true rfl⟩) (ci := 6) rfl rfl rfl rfl hl rfl (Nat.le_of_ble_eq_true rfl) dL_told_739 ⟨Nat.le_of_ble_eq_true rfl, Nat.le_of_ble_eq_true rfl⟩) (fun r_192 u H locs h hw => ?_)
    obtain ⟨vX_191, rfl⟩ : ∃ z, z = u := ⟨_, rfl⟩
    refine lv_aload_n hx hb dL_told_742 rfl (lv_at hl 1 rfl) ?_
    refine lv_iconst (v := 3) hx hb dL_told_743 (by decide) ?_
    refine r_iald (v := (vI28 3)) X hw 61 rfl (vpl rfl) rfl dL_told_744 ?_
    refine lv_icmp_ne (tgt := 816) hx hb dL_told_745 (by decide) (fun c_211 => ?_) (fun c_211 => ?_)
    · replace h := h.1 c_211
      refine lv_iconst (v := 0) hx hb dL_told_816 (by decide) ?_
      replace hw := Wd.part (pm_2 (pm_l pm_0) (pm_2 (pm_r (pm_l pm_0)) (pm_r (pm_r (pm_l pm_0))))) hw
      exact e_z (w1 := (fun (u : XV × IV × IV) => (xW t aX u.1 ++ (i28W t aI28 u.2.1 ++ (i48W t aI48 u.2.2))))) X isB_0 (vX_191, vI28, vI48) hw h dL_told_817
    replace h := h.2 c_211
    refine lv_aload_n hx hb dL_told_748 rfl (lv_at hl 0 rfl) ?_
    refine lv_iconst (v := 3) hx hb dL_told_749 (by decide) ?_
    refine r_ci X hw (pm_l pm_0) (wn := fun (u : XV) => (xW t aX u ++ (i28W t aI28 vI28 ++ (i48W t aI48 vI48 ++ (i15W t aI15_1 vI15))))) (fun u => (pm_l pm_0).symm) (r_runV X hw (c_X6_count l D t aX vX_191 3 _ h) (pm_l pm_0) (cwV 1 X.1.2.2.2.2 gL_told_X6_count rfl rfl rfl (by decide +kernel) ⟨Nat.le_of_ble_eq_true rfl, Nat.le_of_ble_eq_true rfl⟩) (ci := 6) rfl rfl rfl rfl hl rfl (Nat.le_of_ble_eq_true rfl) dL_told_750 ⟨Nat.le_of_ble_eq_true rfl, Nat.le_of_ble_eq_true rfl⟩) (fun r_194 u H locs h hw => ?_)
    obtain ⟨vX_193, rfl⟩ : ∃ z, z = u := ⟨_, rfl⟩
    refine lv_iload hx hb dL_told_753 (lv_at hl 2 rfl) ?_
    refine lv_icmp_ne (tgt := 816) hx hb dL_told_755 (by decide) (fun c_210 => ?_) (fun c_210 => ?_)
    · replace h := h.1 c_210
      refine lv_iconst (v := 0) hx hb dL_told_816 (by decide) ?_
      replace hw := Wd.part (pm_2 (pm_l pm_0) (pm_2 (pm_r (pm_l pm_0)) (pm_r (pm_r (pm_l pm_0))))) hw
      exact e_z (w1 := (fun (u : XV × IV × IV) => (xW t aX u.1 ++ (i28W t aI28 u.2.1 ++ (i48W t aI48 u.2.2))))) X isB_0 (vX_193, vI28, vI48) hw h dL_told_817
    replace h := h.2 c_210
    refine lv_aload_n hx hb dL_told_758 rfl (lv_at hl 0 rfl) ?_
    refine lv_iconst (v := 4) hx hb dL_told_759 (by decide) ?_
    refine r_ci X hw (pm_l pm_0) (wn := fun (u : XV) => (xW t aX u ++ (i28W t aI28 vI28 ++ (i48W t aI48 vI48 ++ (i15W t aI15_1 vI15))))) (fun u => (pm_l pm_0).symm) (r_runV X hw (c_X6_count l D t aX vX_193 4 _ h) (pm_l pm_0) (cwV 1 X.1.2.2.2.2 gL_told_X6_count rfl rfl rfl (by decide +kernel) ⟨Nat.le_of_ble_eq_true rfl, Nat.le_of_ble_eq_true rfl⟩) (ci := 6) rfl rfl rfl rfl hl rfl (Nat.le_of_ble_eq_true rfl) dL_told_760 ⟨Nat.le_of_ble_eq_true rfl, Nat.le_of_ble_eq_true rfl⟩) (fun r_196 u H locs h hw => ?_)
    obtain ⟨vX_195, rfl⟩ : ∃ z, z = u := ⟨_, rfl⟩
    refine lv_iload hx hb dL_told_763 (lv_at hl 3 rfl) ?_
    refine lv_icmp_ne (tgt := 816) hx hb dL_told_765 (by decide) (fun c_209 => ?_) (fun c_209 => ?_)
    · replace h := h.1 c_209
      refine lv_iconst (v := 0) hx hb dL_told_816 (by decide) ?_
      replace hw := Wd.part (pm_2 (pm_l pm_0) (pm_2 (pm_r (pm_l pm_0)) (pm_r (pm_r (pm_l pm_0))))) hw
      exact e_z (w1 := (fun (u : XV × IV × IV) => (xW t aX u.1 ++ (i28W t aI28 u.2.1 ++ (i48W t aI48 u.2.2))))) X isB_0 (vX_195, vI28, vI48) hw h dL_told_817
    replace h := h.2 c_209
    refine lv_aload_n hx hb dL_told_768 rfl (lv_at hl 0 rfl) ?_
    refine lv_iconst (v := 5) hx hb dL_told_769 (by decide) ?_
    refine r_ci X hw (pm_l pm_0) (wn := fun (u : XV) => (xW t aX u ++ (i28W t aI28 vI28 ++ (i48W t aI48 vI48 ++ (i15W t aI15_1 vI15))))) (fun u => (pm_l pm_0).symm) (r_runV X hw (c_X6_count l D t aX vX_195 5 _ h) (pm_l pm_0) (cwV 1 X.1.2.2.2.2 gL_told_X6_count rfl rfl rfl (by decide +kernel) ⟨Nat.le_of_ble_eq_true rfl, Nat.le_of_ble_eq_true rfl⟩) (ci := 6) rfl rfl rfl rfl hl rfl (Nat.le_of_ble_eq_true rfl) dL_told_770 ⟨Nat.le_of_ble_eq_true rfl, Nat.le_of_ble_eq_true rfl⟩) (fun r_198 u H locs h hw => ?_)
    obtain ⟨vX_197, rfl⟩ : ∃ z, z = u := ⟨_, rfl⟩
    refine lv_aload_n hx hb dL_told_773 rfl (lv_at hl 1 rfl) ?_
    refine lv_iconst (v := 2) hx hb dL_told_774 (by decide) ?_
    refine r_iald (v := (vI28 2)) X hw 61 rfl (vpl rfl) rfl dL_told_775 ?_
    refine lv_icmp_ne (tgt := 816) hx hb dL_told_776 (by decide) (fun c_208 => ?_) (fun c_208 => ?_)
    · replace h := h.1 c_208
      refine lv_iconst (v := 0) hx hb dL_told_816 (by decide) ?_
      replace hw := Wd.part (pm_2 (pm_l pm_0) (pm_2 (pm_r (pm_l pm_0)) (pm_r (pm_r (pm_l pm_0))))) hw
      exact e_z (w1 := (fun (u : XV × IV × IV) => (xW t aX u.1 ++ (i28W t aI28 u.2.1 ++ (i48W t aI48 u.2.2))))) X isB_0 (vX_197, vI28, vI48) hw h dL_told_817
    replace h := h.2 c_208
    refine lv_aload_n hx hb dL_told_779 rfl (lv_at hl 0 rfl) ?_
    refine lv_bipush (v := 6) hx hb dL_told_780 (by decide) ?_
    refine r_ci X hw (pm_l pm_0) (wn := fun (u : XV) => (xW t aX u ++ (i28W t aI28 vI28 ++ (i48W t aI48 vI48 ++ (i15W t aI15_1 vI15))))) (fun u => (pm_l pm_0).symm) (r_runV X hw (c_X6_count l D t aX vX_197 6 _ h) (pm_l pm_0) (cwV 1 X.1.2.2.2.2 gL_told_X6_count rfl rfl rfl (by decide +kernel) ⟨Nat.le_of_ble_eq_true rfl, Nat.le_of_ble_eq_true rfl⟩) (ci := 6) rfl rfl rfl rfl hl rfl (Nat.le_of_ble_eq_true rfl) dL_told_782 ⟨Nat.le_of_ble_eq_true rfl, Nat.le_of_ble_eq_true rfl⟩) (fun r_200 u H locs h hw => ?_)
    obtain ⟨vX_199, rfl⟩ : ∃ z, z = u := ⟨_, rfl⟩
    refine lv_iload hx hb dL_told_785 (lv_at hl 4 rfl) ?_
    refine lv_icmp_ne (tgt := 816) hx hb dL_told_787 (by decide) (fun c_207 => ?_) (fun c_207 => ?_)
    · replace h := h.1 c_207
      refine lv_iconst (v := 0) hx hb dL_told_816 (by decide) ?_
      replace hw := Wd.part (pm_2 (pm_l pm_0) (pm_2 (pm_r (pm_l pm_0)) (pm_r (pm_r (pm_l pm_0))))) hw
      exact e_z (w1 := (fun (u : XV × IV × IV) => (xW t aX u.1 ++ (i28W t aI28 u.2.1 ++ (i48W t aI48 u.2.2))))) X isB_0 (vX_199, vI28, vI48) hw h dL_told_817
    replace h := h.2 c_207
    refine lv_aload_n hx hb dL_told_790 rfl (lv_at hl 0 rfl) ?_
    refine lv_bipush (v := 7) hx hb dL_told_791 (by decide) ?_
    refine r_ci X hw (pm_l pm_0) (wn := fun (u : XV) => (xW t aX u ++ (i28W t aI28 vI28 ++ (i48W t aI48 vI48 ++ (i15W t aI15_1 vI15))))) (fun u => (pm_l pm_0).symm) (r_runV X hw (c_X6_count l D t aX vX_199 7 _ h) (pm_l pm_0) (cwV 1 X.1.2.2.2.2 gL_told_X6_count rfl rfl rfl (by decide +kernel) ⟨Nat.le_of_ble_eq_true rfl, Nat.le_of_ble_eq_true rfl⟩) (ci := 6) rfl rfl rfl rfl hl rfl (Nat.le_of_ble_eq_true rfl) dL_told_793 ⟨Nat.le_of_ble_eq_true rfl, Nat.le_of_ble_eq_true rfl⟩) (fun r_202 u H locs h hw => ?_)
    obtain ⟨vX_201, rfl⟩ : ∃ z, z = u := ⟨_, rfl⟩
    refine lv_iload hx hb dL_told_796 (lv_at hl 5 rfl) ?_
    refine lv_icmp_ne (tgt := 816) hx hb dL_told_798 (by decide) (fun c_206 => ?_) (fun c_206 => ?_)
    · replace h := h.1 c_206
      refine lv_iconst (v := 0) hx hb dL_told_816 (by decide) ?_
      replace hw := Wd.part (pm_2 (pm_l pm_0) (pm_2 (pm_r (pm_l pm_0)) (pm_r (pm_r (pm_l pm_0))))) hw
      exact e_z (w1 := (fun (u : XV × IV × IV) => (xW t aX u.1 ++ (i28W t aI28 u.2.1 ++ (i48W t aI48 u.2.2))))) X isB_0 (vX_201, vI28, vI48) hw h dL_told_817
    replace h := h.2 c_206
    refine lv_aload_n hx hb dL_told_801 rfl (lv_at hl 0 rfl) ?_
    refine lv_bipush (v := 8) hx hb dL_told_802 (by decide) ?_
    refine r_ci X hw (pm_l pm_0) (wn := fun (u : XV) => (xW t aX u ++ (i28W t aI28 vI28 ++ (i48W t aI48 vI48 ++ (i15W t aI15_1 vI15))))) (fun u => (pm_l pm_0).symm) (r_runV X hw (c_X6_count l D t aX vX_201 8 _ h) (pm_l pm_0) (cwV 1 X.1.2.2.2.2 gL_told_X6_count rfl rfl rfl (by decide +kernel) ⟨Nat.le_of_ble_eq_true rfl, Nat.le_of_ble_eq_true rfl⟩) (ci := 6) rfl rfl rfl rfl hl rfl (Nat.le_of_ble_eq_true rfl) dL_told_804 ⟨Nat.le_of_ble_eq_true rfl, Nat.le_of_ble_eq_true rfl⟩) (fun r_204 u H locs h hw => ?_)
    obtain ⟨vX_203, rfl⟩ : ∃ z, z = u := ⟨_, rfl⟩
    refine lv_iload hx hb dL_told_807 (lv_at hl 6 rfl) ?_
    refine lv_icmp_ne (tgt := 816) hx hb dL_told_809 (by decide) (fun c_205 => ?_) (fun c_205 => ?_)
    · replace h := h.1 c_205
      refine lv_iconst (v := 0) hx hb dL_told_816 (by decide) ?_
      replace hw := Wd.part (pm_2 (pm_l pm_0) (pm_2 (pm_r (pm_l pm_0)) (pm_r (pm_r (pm_l pm_0))))) hw
      exact e_z (w1 := (fun (u : XV × IV × IV) => (xW t aX u.1 ++ (i28W t aI28 u.2.1 ++ (i48W t aI48 u.2.2))))) X isB_0 (vX_203, vI28, vI48) hw h dL_told_817
    replace h := h.2 c_205
    refine lv_iconst (v := 1) hx hb dL_told_812 (by decide) ?_
    refine lv_goto (tgt := 817) hx hb dL_told_813 (by decide) ?_
    replace hw := Wd.part (pm_2 (pm_l pm_0) (pm_2 (pm_r (pm_l pm_0)) (pm_r (pm_r (pm_l pm_0))))) hw
    exact e_z (w1 := (fun (u : XV × IV × IV) => (xW t aX u.1 ++ (i28W t aI28 u.2.1 ++ (i48W t aI48 u.2.2))))) X isB_1 (vX_203, vI28, vI48) hw h dL_told_817
  replace h := h.2 c_215
  refine lv_iconst (v := 0) hx hb dL_told_704 (by decide) ?_
  replace hw := Wd.part (pm_2 (pm_l pm_0) (pm_2 (pm_r (pm_l pm_0)) (pm_r (pm_r (pm_l pm_0))))) hw
  exact e_z (w1 := (fun (u : XV × IV × IV) => (xW t aX u.1 ++ (i28W t aI28 u.2.1 ++ (i48W t aI48 u.2.2))))) X isB_0 (vX, vI28, vI48) hw h dL_told_705
set_option maxHeartbeats 4000000 in
set_option maxRecDepth 100000 in
theorem k_L_told_609 {p : Program} {l : Launch} {e : Env} {s : State} {m : MethodId} {below : List Frame} {meth : Method} {c : Code} {args : Array Value} {D : va_G} {t : T3} {A : Nat → Prop} (X : Cx p s m meth c args cL_told 20 (some .boolean) RL wsL_told D t A) (aX : XA) (aI28 : Nat) (aI48 : Nat) (aI15_1 : Nat) {Q : Int32 → XV → IV → IV → Prop}  : ∀ (vX : XV) (vI28 : IV) (vI48 : IV) (vI15 : IV) (x1 : Int32) (x6 : Int32) (x7 : Int32) (x8 : Int32) (x9 : Int32) (x10 : Int32) (x11 : Int32) (x12 : Int32) (H : Heap) (locs : List Loc) (ls : Array Slot), wp_L_told_609 Q vX vI28 vI48 vI15 x1 x6 x7 x8 x9 x10 x11 x12 → Wd D A s.heap (xW t aX vX ++ (i28W t aI28 vI28 ++ (i48W t aI48 vI48 ++ (i15W t aI15_1 vI15)))) H locs → lv_has ls 20 [(0, .ref (XA.o aX)), (1, .int x1), (2, .ref aI28), (3, .ref aI48), (4, .ref aI15_1), (6, .int x6), (7, .int x7), (8, .int x8), (9, .int x9), (10, .int x10), (11, .int x11), (12, .int x12)] → W p l e ({ frames := 82, cells := 3, slots := 39, locals := 1651 } : Room) s m args below meth c H locs 1 15 (Ei below args s A D (fun (u : XV × IV × IV) => (xW t aX u.1 ++ (i28W t aI28 u.2.1 ++ (i48W t aI48 u.2.2)))) (fun (r : Int32) (u : XV × IV × IV) => Q r u.1 u.2.1 u.2.2) 3 39) (F0 m 609 ls []) := by
  intro vX vI28 vI48 vI15 x1 x6 x7 x8 x9 x10 x11 x12 H locs ls h hw hl
  have hx := X.1.1
  have hb := X.1.2.1
  refine lv_iconst (v := 1) hx hb dL_told_609 (by decide) ?_
  refine lv_iload_n hx hb dL_told_610 rfl (lv_at hl 1 rfl) ?_
  refine lv_iconst (v := 3) hx hb dL_told_611 (by decide) ?_
  refine r_ishr hx hb dL_told_612 ?_
  refine lv_iconst (v := 4) hx hb dL_told_613 (by decide) ?_
  refine r_ci X hw pm_n (wn := fun (u : Unit) => (xW t aX vX ++ (i28W t aI28 vI28 ++ (i48W t aI48 vI48 ++ (i15W t aI15_1 vI15))))) (fun u => (pm_n).symm) (r_runS X hw (c_L_at l D t (jshr x1 3) 4 _ h) pm_n (va_cwS 2 X.1.2.2.2.2 gL_told_L_at rfl rfl rfl (by decide +kernel) ⟨Nat.le_of_ble_eq_true rfl, Nat.le_of_ble_eq_true rfl⟩) rfl hl rfl (Nat.le_of_ble_eq_true rfl) dL_told_614 ⟨Nat.le_of_ble_eq_true rfl, Nat.le_of_ble_eq_true rfl⟩) (fun r_170 u H locs h hw => ?_)
  refine lv_iadd hx hb dL_told_617 ?_
  refine lv_topi (fun x14_171 ex14_171 => ?_)
  replace h := h x14_171 ex14_171
  refine lv_istore (lv' := [(14, .int x14_171), (0, .ref (XA.o aX)), (1, .int x1), (2, .ref aI28), (3, .ref aI48), (4, .ref aI15_1), (6, .int x6), (7, .int x7), (8, .int x8), (9, .int x9), (10, .int x10), (11, .int x11), (12, .int x12)]) hx hb dL_told_618 hl (by decide) rfl (fun ls hl => ?_)
  refine lv_iload hx hb dL_told_620 (lv_at hl 0 rfl) ?_
  refine lv_aload_n hx hb dL_told_622 rfl (lv_at hl 3 rfl) ?_
  refine lv_aload_n hx hb dL_told_623 rfl (lv_at hl 4 rfl) ?_
  refine lv_aload hx hb dL_told_624 (lv_at hl 5 rfl) ?_
  refine r_cv X hw (pm_2 (pm_r (pm_l pm_0)) (pm_2 (pm_r (pm_r (pm_l pm_0))) (pm_r (pm_r (pm_r pm_0))))) (wn := fun (u : IV × IV × IV) => (xW t aX vX ++ (i28W t aI28 u.1 ++ (i48W t aI48 u.2.1 ++ (i15W t aI15_1 u.2.2))))) (fun u => (pm_2 (pm_r (pm_l pm_0)) (pm_2 (pm_r (pm_r (pm_l pm_0))) (pm_r (pm_r (pm_r pm_0))))).symm) (r_runS X hw (c_L_search l D t aI28 aI48 aI15_1 vI28 vI48 vI15 x14_171 _ h) (pm_2 (pm_r (pm_l pm_0)) (pm_2 (pm_r (pm_r (pm_l pm_0))) (pm_r (pm_r (pm_r pm_0))))) (va_cwS 4 X.1.2.2.2.2 gL_told_L_search rfl rfl rfl (by decide +kernel) ⟨Nat.le_of_ble_eq_true rfl, Nat.le_of_ble_eq_true rfl⟩) rfl hl rfl (Nat.le_of_ble_eq_true rfl) dL_told_626 ⟨Nat.le_of_ble_eq_true rfl, Nat.le_of_ble_eq_true rfl⟩) (fun u H locs h hw => ?_)
  obtain ⟨vI28_172, vI48_173, vI15_174⟩ := u
  refine lv_aload_n hx hb dL_told_629 rfl (lv_at hl 1 rfl) ?_
  refine lv_iload hx hb dL_told_630 (lv_at hl 0 rfl) ?_
  refine lv_iconst (v := 0) hx hb dL_told_632 (by decide) ?_
  refine r_ci X hw (pm_l pm_0) (wn := fun (u : XV) => (xW t aX u ++ (i28W t aI28 vI28_172 ++ (i48W t aI48 vI48_173 ++ (i15W t aI15_1 vI15_174))))) (fun u => (pm_l pm_0).symm) (r_runV X hw (c_X6_layings l D t aX vX x14_171 0 _ h) (pm_l pm_0) (cwV 2 X.1.2.2.2.2 gL_told_X6_layings rfl rfl rfl (by decide +kernel) ⟨Nat.le_of_ble_eq_true rfl, Nat.le_of_ble_eq_true rfl⟩) (ci := 6) rfl rfl rfl rfl hl rfl (Nat.le_of_ble_eq_true rfl) dL_told_633 ⟨Nat.le_of_ble_eq_true rfl, Nat.le_of_ble_eq_true rfl⟩) (fun r_176 u H locs h hw => ?_)
  obtain ⟨vX_175, rfl⟩ : ∃ z, z = u := ⟨_, rfl⟩
  refine lv_aload hx hb dL_told_636 (lv_at hl 5 rfl) ?_
  refine lv_iconst (v := 0) hx hb dL_told_638 (by decide) ?_
  refine r_iald (v := (vI15_174 0)) X hw 63 rfl (vpl rfl) rfl dL_told_639 ?_
  refine lv_icmp_ne (tgt := 671) hx hb dL_told_640 (by decide) (fun c_219 => ?_) (fun c_219 => ?_)
  · replace h := h.1 c_219
    refine lv_iconst (v := 0) hx hb dL_told_671 (by decide) ?_
    replace hw := Wd.part (pm_2 (pm_l pm_0) (pm_2 (pm_r (pm_l pm_0)) (pm_r (pm_r (pm_l pm_0))))) hw
    exact e_z (w1 := (fun (u : XV × IV × IV) => (xW t aX u.1 ++ (i28W t aI28 u.2.1 ++ (i48W t aI48 u.2.2))))) X isB_0 (vX_175, vI28_172, vI48_173) hw h dL_told_672
  replace h := h.2 c_219
  refine lv_aload_n hx hb dL_told_643 rfl (lv_at hl 1 rfl) ?_
  refine lv_iload hx hb dL_told_644 (lv_at hl 0 rfl) ?_
  refine lv_iconst (v := 1) hx hb dL_told_646 (by decide) ?_
  refine r_ci X hw (pm_l pm_0) (wn := fun (u : XV) => (xW t aX u ++ (i28W t aI28 vI28_172 ++ (i48W t aI48 vI48_173 ++ (i15W t aI15_1 vI15_174))))) (fun u => (pm_l pm_0).symm) (r_runV X hw (c_X6_layings l D t aX vX_175 x14_171 1 _ h) (pm_l pm_0) (cwV 2 X.1.2.2.2.2 gL_told_X6_layings rfl rfl rfl (by decide +kernel) ⟨Nat.le_of_ble_eq_true rfl, Nat.le_of_ble_eq_true rfl⟩) (ci := 6) rfl rfl rfl rfl hl rfl (Nat.le_of_ble_eq_true rfl) dL_told_647 ⟨Nat.le_of_ble_eq_true rfl, Nat.le_of_ble_eq_true rfl⟩) (fun r_178 u H locs h hw => ?_)
  obtain ⟨vX_177, rfl⟩ : ∃ z, z = u := ⟨_, rfl⟩
  refine lv_aload hx hb dL_told_650 (lv_at hl 5 rfl) ?_
  refine lv_iconst (v := 1) hx hb dL_told_652 (by decide) ?_
  refine r_iald (v := (vI15_174 1)) X hw 63 rfl (vpl rfl) rfl dL_told_653 ?_
  refine lv_icmp_ne (tgt := 671) hx hb dL_told_654 (by decide) (fun c_218 => ?_) (fun c_218 => ?_)
  · replace h := h.1 c_218
    refine lv_iconst (v := 0) hx hb dL_told_671 (by decide) ?_
    replace hw := Wd.part (pm_2 (pm_l pm_0) (pm_2 (pm_r (pm_l pm_0)) (pm_r (pm_r (pm_l pm_0))))) hw
    exact e_z (w1 := (fun (u : XV × IV × IV) => (xW t aX u.1 ++ (i28W t aI28 u.2.1 ++ (i48W t aI48 u.2.2))))) X isB_0 (vX_177, vI28_172, vI48_173) hw h dL_told_672
  replace h := h.2 c_218
  refine lv_aload_n hx hb dL_told_657 rfl (lv_at hl 1 rfl) ?_
  refine lv_iload hx hb dL_told_658 (lv_at hl 0 rfl) ?_
  refine lv_iconst (v := 2) hx hb dL_told_660 (by decide) ?_
  refine r_ci X hw (pm_l pm_0) (wn := fun (u : XV) => (xW t aX u ++ (i28W t aI28 vI28_172 ++ (i48W t aI48 vI48_173 ++ (i15W t aI15_1 vI15_174))))) (fun u => (pm_l pm_0).symm) (r_runV X hw (c_X6_layings l D t aX vX_177 x14_171 2 _ h) (pm_l pm_0) (cwV 2 X.1.2.2.2.2 gL_told_X6_layings rfl rfl rfl (by decide +kernel) ⟨Nat.le_of_ble_eq_true rfl, Nat.le_of_ble_eq_true rfl⟩) (ci := 6) rfl rfl rfl rfl hl rfl (Nat.le_of_ble_eq_true rfl) dL_told_661 ⟨Nat.le_of_ble_eq_true rfl, Nat.le_of_ble_eq_true rfl⟩) (fun r_180 u H locs h hw => ?_)
  obtain ⟨vX_179, rfl⟩ : ∃ z, z = u := ⟨_, rfl⟩
  refine lv_aload hx hb dL_told_664 (lv_at hl 5 rfl) ?_
  refine lv_iconst (v := 2) hx hb dL_told_666 (by decide) ?_
  refine r_iald (v := (vI15_174 2)) X hw 63 rfl (vpl rfl) rfl dL_told_667 ?_
  refine lv_icmp_eq (tgt := 673) hx hb dL_told_668 (by decide) (fun c_217 => ?_) (fun c_217 => ?_)
  · replace h := h.1 c_217
    refine lv_aload_n hx hb dL_told_673 rfl (lv_at hl 1 rfl) ?_
    refine r_cd X hw (pm_l pm_0) (wn := fun (u : XV) => (xW t aX u ++ (i28W t aI28 vI28_172 ++ (i48W t aI48 vI48_173 ++ (i15W t aI15_1 vI15_174))))) (fun u => (pm_l pm_0).symm) (r_runV X hw (c_X6_fitting l D t aX vX_179 _ h) (pm_l pm_0) (cwV 0 X.1.2.2.2.2 gL_told_X6_fitting rfl rfl rfl (by decide +kernel) ⟨Nat.le_of_ble_eq_true rfl, Nat.le_of_ble_eq_true rfl⟩) (ci := 6) rfl rfl rfl rfl hl rfl (Nat.le_of_ble_eq_true rfl) dL_told_674 ⟨Nat.le_of_ble_eq_true rfl, Nat.le_of_ble_eq_true rfl⟩) (fun r_182 u H locs h hw => ?_)
    obtain ⟨vX_181, rfl⟩ : ∃ z, z = u := ⟨_, rfl⟩
    refine lv_iload hx hb dL_told_677 (lv_at hl 8 rfl) ?_
    refine lv_if_ne (tgt := 686) hx hb dL_told_679 (by decide) (fun c_216 => ?_) (fun c_216 => ?_)
    · replace h := h.1 c_216
      refine lv_dconst1 hx hb dL_told_686 ?_
      refine lv_iload hx hb dL_told_687 (lv_at hl 9 rfl) ?_
      refine lv_iload hx hb dL_told_689 (lv_at hl 10 rfl) ?_
      refine lv_iadd hx hb dL_told_691 ?_
      refine lv_i2d hx hb dL_told_692 ?_
      obtain ⟨hn_183, h⟩ := h
      refine lv_dmul hx hb dL_told_693 hn_183 ?_
      refine lv_iconst (v := 2) hx hb dL_told_694 (by decide) ?_
      refine lv_iload hx hb dL_told_695 (lv_at hl 8 rfl) ?_
      refine lv_imul hx hb dL_told_697 ?_
      refine lv_i2d hx hb dL_told_698 ?_
      obtain ⟨hn_184, h⟩ := h
      refine lv_ddiv hx hb dL_told_699 hn_184 ?_
      exact k_L_told_700 X aX aI28 aI48 aI15_1 _ _ _ _ _ _ _ _ _ _ _ _ _ _ _ h hw (lv_sub hl [1, 3, 6, 7, 9, 10, 11, 12] rfl)
    replace h := h.2 c_216
    refine lv_dconst1 hx hb dL_told_682 ?_
    refine lv_goto (tgt := 700) hx hb dL_told_683 (by decide) ?_
    exact k_L_told_700 X aX aI28 aI48 aI15_1 _ _ _ _ _ _ _ _ _ _ _ _ _ _ _ h hw (lv_sub hl [1, 3, 6, 7, 9, 10, 11, 12] rfl)
  replace h := h.2 c_217
  refine lv_iconst (v := 0) hx hb dL_told_671 (by decide) ?_
  replace hw := Wd.part (pm_2 (pm_l pm_0) (pm_2 (pm_r (pm_l pm_0)) (pm_r (pm_r (pm_l pm_0))))) hw
  exact e_z (w1 := (fun (u : XV × IV × IV) => (xW t aX u.1 ++ (i28W t aI28 u.2.1 ++ (i48W t aI48 u.2.2))))) X isB_0 (vX_179, vI28_172, vI48_173) hw h dL_told_672
set_option maxHeartbeats 4000000 in
set_option maxRecDepth 100000 in
theorem c_L_told (l : Launch) (D : va_G) (t : T3) (aX : XA) (aI28 : Nat) (aI48 : Nat) (vX : XV) (vI28 : IV) (vI48 : IV) (p1 : Int32) (Q : Int32 → XV → IV → IV → Prop) (h : wp_L_told vX vI28 vI48 p1 Q) : Ct l yL_told wsL_told 82 1651 3 39 [.ref (XA.o aX), .int p1, .ref aI28, .ref aI48] D t (xW t aX vX ++ (i28W t aI28 vI28 ++ (i48W t aI48 vI48))) (fun sz => Qi D (xW t aX vX ++ (i28W t aI28 vI28 ++ (i48W t aI48 vI48))) (fun (u : XV × IV × IV) => (xW t aX u.1 ++ (i28W t aI28 u.2.1 ++ (i48W t aI48 u.2.2)))) (fun (r : Int32) (u : XV × IV × IV) => Q r u.1 u.2.1 u.2.2) sz) := by
  refine Ct.of (Qf := fun _ A => va_Qi (fun (r : Int32) (u : XV × IV × IV) => Q r u.1 u.2.1 u.2.2) (B1 D (fun (u : XV × IV × IV) => (xW t aX u.1 ++ (i28W t aI28 u.2.1 ++ (i48W t aI48 u.2.2)))) A) A) cL_told 20 (some .boolean) (by decide) rfl (Nat.le_of_ble_eq_true rfl) ?_
  intro p e s m below meth c A ls hAe hin X hw hl
  generalize ([.ref (XA.o aX), .int p1, .ref aI28, .ref aI48] : List Value).toArray = args at X ⊢
  have hl : lv_has ls 20 [(0, .ref (XA.o aX)), (1, .int p1), (2, .ref aI28), (3, .ref aI48)] := hl
  have hx := X.1.1
  have hb := X.1.2.1
  refine lv_bipush (v := 15) hx hb dL_told_0 (by decide) ?_
  refine r_newI X hw arI_L_told (by decide) (N := 15) (by decide) (by decide) (Nat.le_of_ble_eq_true rfl) (Nat.le_of_ble_eq_true rfl) (wn := fun aI15_1 => (xW t aX vX ++ (i28W t aI28 vI28 ++ (i48W t aI48 vI48 ++ (i15W t aI15_1 (fun _ => 0)))))) (fun q => ap_3 _ _ _ _) dL_told_2 (fun aI15_1 H hw => ?_)
  refine lv_astore (lv' := [(4, .ref aI15_1), (0, .ref (XA.o aX)), (1, .int p1), (2, .ref aI28), (3, .ref aI48)]) hx hb dL_told_4 hl (by decide) rfl (fun ls hl => ?_)
  refine lv_aload_n hx hb dL_told_6 rfl (lv_at hl 3 rfl) ?_
  refine lv_iconst (v := 0) hx hb dL_told_7 (by decide) ?_
  refine r_iald (v := (vI28 0)) X hw 61 rfl (vpl rfl) rfl dL_told_8 ?_
  refine lv_aload_n hx hb dL_told_9 rfl (lv_at hl 3 rfl) ?_
  refine lv_iconst (v := 1) hx hb dL_told_10 (by decide) ?_
  refine r_iald (v := (vI28 1)) X hw 61 rfl (vpl rfl) rfl dL_told_11 ?_
  refine lv_imul hx hb dL_told_12 ?_
  refine lv_topi (fun x5_2 ex5_2 => ?_)
  replace h := h x5_2 ex5_2
  refine lv_istore (lv' := [(5, .int x5_2), (4, .ref aI15_1), (0, .ref (XA.o aX)), (1, .int p1), (2, .ref aI28), (3, .ref aI48)]) hx hb dL_told_13 hl (by decide) rfl (fun ls hl => ?_)
  refine lv_iconst (v := 0) hx hb dL_told_15 (by decide) ?_
  refine lv_istore (lv' := [(6, .int 0), (5, .int x5_2), (4, .ref aI15_1), (0, .ref (XA.o aX)), (1, .int p1), (2, .ref aI28), (3, .ref aI48)]) hx hb dL_told_16 hl (by decide) rfl (fun ls hl => ?_)
  refine lv_iconst (v := 0) hx hb dL_told_18 (by decide) ?_
  refine lv_istore (lv' := [(7, .int 0), (6, .int 0), (5, .int x5_2), (4, .ref aI15_1), (0, .ref (XA.o aX)), (1, .int p1), (2, .ref aI28), (3, .ref aI48)]) hx hb dL_told_19 hl (by decide) rfl (fun ls hl => ?_)
  refine lv_iconst (v := 0) hx hb dL_told_21 (by decide) ?_
  refine lv_istore (lv' := [(8, .int 0), (7, .int 0), (6, .int 0), (5, .int x5_2), (4, .ref aI15_1), (0, .ref (XA.o aX)), (1, .int p1), (2, .ref aI28), (3, .ref aI48)]) hx hb dL_told_22 hl (by decide) rfl (fun ls hl => ?_)
  refine lv_iconst (v := 0) hx hb dL_told_24 (by decide) ?_
  refine lv_istore (lv' := [(9, .int 0), (8, .int 0), (7, .int 0), (6, .int 0), (5, .int x5_2), (4, .ref aI15_1), (0, .ref (XA.o aX)), (1, .int p1), (2, .ref aI28), (3, .ref aI48)]) hx hb dL_told_25 hl (by decide) rfl (fun ls hl => ?_)
  refine lv_iconst (v := 0) hx hb dL_told_27 (by decide) ?_
  refine lv_istore (lv' := [(10, .int 0), (9, .int 0), (8, .int 0), (7, .int 0), (6, .int 0), (5, .int x5_2), (4, .ref aI15_1), (0, .ref (XA.o aX)), (1, .int p1), (2, .ref aI28), (3, .ref aI48)]) hx hb dL_told_28 hl (by decide) rfl (fun ls hl => ?_)
  refine lv_iconst (v := 0) hx hb dL_told_30 (by decide) ?_
  refine lv_istore (lv' := [(11, .int 0), (10, .int 0), (9, .int 0), (8, .int 0), (7, .int 0), (6, .int 0), (5, .int x5_2), (4, .ref aI15_1), (0, .ref (XA.o aX)), (1, .int p1), (2, .ref aI28), (3, .ref aI48)]) hx hb dL_told_31 hl (by decide) rfl (fun ls hl => ?_)
  refine lv_iconst (v := (-1)) hx hb dL_told_33 (by decide) ?_
  refine lv_istore (lv' := [(12, .int (-1)), (11, .int 0), (10, .int 0), (9, .int 0), (8, .int 0), (7, .int 0), (6, .int 0), (5, .int x5_2), (4, .ref aI15_1), (0, .ref (XA.o aX)), (1, .int p1), (2, .ref aI28), (3, .ref aI48)]) hx hb dL_told_34 hl (by decide) rfl (fun ls hl => ?_)
  refine lv_bipush (v := 99) hx hb dL_told_36 (by decide) ?_
  refine lv_istore (lv' := [(13, .int 99), (12, .int (-1)), (11, .int 0), (10, .int 0), (9, .int 0), (8, .int 0), (7, .int 0), (6, .int 0), (5, .int x5_2), (4, .ref aI15_1), (0, .ref (XA.o aX)), (1, .int p1), (2, .ref aI28), (3, .ref aI48)]) hx hb dL_told_38 hl (by decide) rfl (fun ls hl => ?_)
  refine lv_iconst (v := 0) hx hb dL_told_40 (by decide) ?_
  refine lv_istore (lv' := [(14, .int 0), (13, .int 99), (12, .int (-1)), (11, .int 0), (10, .int 0), (9, .int 0), (8, .int 0), (7, .int 0), (6, .int 0), (5, .int x5_2), (4, .ref aI15_1), (0, .ref (XA.o aX)), (1, .int p1), (2, .ref aI28), (3, .ref aI48)]) hx hb dL_told_41 hl (by decide) rfl (fun ls hl => ?_)
  refine k_L_told_43 X aX aI28 aI48 aI15_1 (fun vX_109 vI28_110 vI48_111 vI15_112 x1_113 x5_114 x6_115 x7_116 x8_117 x9_118 x10_119 x11_120 x12_121 H locs ls h hw hl => ?_) _ _ _ _ _ _ _ _ _ _ _ _ _ _ _ _ _ _ h hw (lv_sub hl [11, 12, 13, 14, 10, 9, 8, 7, 6, 5, 4, 3, 2, 1, 0] rfl)
  refine lv_iconst (v := 0) hx hb dL_told_440 (by decide) ?_
  refine lv_istore (lv' := [(14, .int 0), (0, .ref (XA.o aX)), (1, .int x1_113), (2, .ref aI28), (3, .ref aI48), (4, .ref aI15_1), (5, .int x5_114), (6, .int x6_115), (7, .int x7_116), (8, .int x8_117), (9, .int x9_118), (10, .int x10_119), (11, .int x11_120), (12, .int x12_121)]) hx hb dL_told_441 hl (by decide) rfl (fun ls hl => ?_)
  refine k_L_told_443 X aX aI28 aI48 aI15_1 (fun vX_157 vI28_158 vI48_159 vI15_160 x1_161 x5_162 x6_163 x7_164 x8_165 x9_166 x10_167 x11_168 x12_169 H locs ls h hw hl => ?_) _ _ _ _ _ _ _ _ _ _ _ _ _ _ _ _ _ h hw (lv_sub hl [1, 2, 3, 4, 5, 6, 7, 8, 9, 10, 11, 12, 13, 0] rfl)
  refine lv_aload_n hx hb dL_told_558 rfl (lv_at hl 2 rfl) ?_
  refine lv_iconst (v := 3) hx hb dL_told_559 (by decide) ?_
  refine r_iald (v := (vI28_158 3)) X hw 61 rfl (vpl rfl) rfl dL_told_560 ?_
  refine lv_if_le (tgt := 609) hx hb dL_told_561 (by decide) (fun c_228 => ?_) (fun c_228 => ?_)
  · replace h := h.1 c_228
    exact k_L_told_609 X aX aI28 aI48 aI15_1 _ _ _ _ _ _ _ _ _ _ _ _ _ _ _ h hw (lv_sub hl [0, 1, 2, 3, 4, 6, 7, 8, 9, 10, 11, 12] rfl)
  replace h := h.2 c_228
  refine lv_iload_n hx hb dL_told_564 rfl (lv_at hl 1 rfl) ?_
  refine lv_bipush (v := 8) hx hb dL_told_565 (by decide) ?_
  refine lv_aload_n hx hb dL_told_567 rfl (lv_at hl 2 rfl) ?_
  refine lv_iconst (v := 3) hx hb dL_told_568 (by decide) ?_
  refine r_iald (v := (vI28_158 3)) X hw 61 rfl (vpl rfl) rfl dL_told_569 ?_
  refine lv_imul hx hb dL_told_570 ?_
  refine r_ci X hw pm_n (wn := fun (u : Unit) => (xW t aX vX_157 ++ (i28W t aI28 vI28_158 ++ (i48W t aI48 vI48_159 ++ (i15W t aI15_1 vI15_160))))) (fun u => (pm_n).symm) (r_runS X hw (c_L_at l D t x1_161 (8 * (vI28_158 3)) _ h) pm_n (va_cwS 2 X.1.2.2.2.2 gL_told_L_at rfl rfl rfl (by decide +kernel) ⟨Nat.le_of_ble_eq_true rfl, Nat.le_of_ble_eq_true rfl⟩) rfl hl rfl (Nat.le_of_ble_eq_true rfl) dL_told_571 ⟨Nat.le_of_ble_eq_true rfl, Nat.le_of_ble_eq_true rfl⟩) (fun r_220 u H locs h hw => ?_)
  refine lv_istore (lv' := [(14, .int r_220), (0, .ref (XA.o aX)), (1, .int x1_161), (2, .ref aI28), (3, .ref aI48), (4, .ref aI15_1), (5, .int x5_162), (6, .int x6_163), (7, .int x7_164), (8, .int x8_165), (9, .int x9_166), (10, .int x10_167), (11, .int x11_168), (12, .int x12_169)]) hx hb dL_told_574 hl (by decide) rfl (fun ls hl => ?_)
  refine lv_iload_n hx hb dL_told_576 rfl (lv_at hl 2 rfl) ?_
  refine lv_bipush (v := 6) hx hb dL_told_577 (by decide) ?_
  refine r_ishr hx hb dL_told_579 ?_
  refine lv_iload hx hb dL_told_580 (lv_at hl 6 rfl) ?_
  refine r_ci X hw pm_n (wn := fun (u : Unit) => (xW t aX vX_157 ++ (i28W t aI28 vI28_158 ++ (i48W t aI48 vI48_159 ++ (i15W t aI15_1 vI15_160))))) (fun u => (pm_n).symm) (r_runS X hw (c_L_at l D t (jshr x1_161 6) x5_162 _ h) pm_n (va_cwS 2 X.1.2.2.2.2 gL_told_L_at rfl rfl rfl (by decide +kernel) ⟨Nat.le_of_ble_eq_true rfl, Nat.le_of_ble_eq_true rfl⟩) rfl hl rfl (Nat.le_of_ble_eq_true rfl) dL_told_582 ⟨Nat.le_of_ble_eq_true rfl, Nat.le_of_ble_eq_true rfl⟩) (fun r_221 u H locs h hw => ?_)
  refine lv_istore (lv' := [(15, .int r_221), (14, .int r_220), (0, .ref (XA.o aX)), (1, .int x1_161), (2, .ref aI28), (3, .ref aI48), (4, .ref aI15_1), (5, .int x5_162), (6, .int x6_163), (7, .int x7_164), (8, .int x8_165), (9, .int x9_166), (10, .int x10_167), (11, .int x11_168), (12, .int x12_169)]) hx hb dL_told_585 hl (by decide) rfl (fun ls hl => ?_)
  refine lv_aload_n hx hb dL_told_587 rfl (lv_at hl 2 rfl) ?_
  refine lv_iload hx hb dL_told_588 (lv_at hl 0 rfl) ?_
  refine lv_iload hx hb dL_told_590 (lv_at hl 1 rfl) ?_
  refine r_ci X hw (pm_l pm_0) (wn := fun (u : XV) => (xW t aX u ++ (i28W t aI28 vI28_158 ++ (i48W t aI48 vI48_159 ++ (i15W t aI15_1 vI15_160))))) (fun u => (pm_l pm_0).symm) (r_runV X hw (c_X6_why l D t aX vX_157 r_221 r_220 _ h) (pm_l pm_0) (cwV 2 X.1.2.2.2.2 gL_told_X6_why rfl rfl rfl (by decide +kernel) ⟨Nat.le_of_ble_eq_true rfl, Nat.le_of_ble_eq_true rfl⟩) (ci := 6) rfl rfl rfl rfl hl rfl (Nat.le_of_ble_eq_true rfl) dL_told_592 ⟨Nat.le_of_ble_eq_true rfl, Nat.le_of_ble_eq_true rfl⟩) (fun r_223 u H locs h hw => ?_)
  obtain ⟨vX_222, rfl⟩ : ∃ z, z = u := ⟨_, rfl⟩
  refine lv_iload hx hb dL_told_595 (lv_at hl 0 rfl) ?_
  refine lv_iload hx hb dL_told_597 (lv_at hl 1 rfl) ?_
  refine lv_aload_n hx hb dL_told_599 rfl (lv_at hl 4 rfl) ?_
  refine lv_aload_n hx hb dL_told_600 rfl (lv_at hl 5 rfl) ?_
  refine r_ci X hw (pm_2 (pm_r (pm_l pm_0)) (pm_r (pm_r (pm_l pm_0)))) (wn := fun (u : IV × IV) => (xW t aX vX_222 ++ (i28W t aI28 u.1 ++ (i48W t aI48 u.2 ++ (i15W t aI15_1 vI15_160))))) (fun u => (pm_2 (pm_r (pm_l pm_0)) (pm_r (pm_r (pm_l pm_0)))).symm) (r_runS X hw (c_L_why l D t aI28 aI48 vI28_158 vI48_159 r_221 r_220 _ h) (pm_2 (pm_r (pm_l pm_0)) (pm_r (pm_r (pm_l pm_0)))) (va_cwS 4 X.1.2.2.2.2 gL_told_L_why rfl rfl rfl (by decide +kernel) ⟨Nat.le_of_ble_eq_true rfl, Nat.le_of_ble_eq_true rfl⟩) rfl hl rfl (Nat.le_of_ble_eq_true rfl) dL_told_601 ⟨Nat.le_of_ble_eq_true rfl, Nat.le_of_ble_eq_true rfl⟩) (fun r_226 u H locs h hw => ?_)
  obtain ⟨vI28_224, vI48_225⟩ := u
  refine lv_icmp_eq (tgt := 609) hx hb dL_told_604 (by decide) (fun c_227 => ?_) (fun c_227 => ?_)
  · replace h := h.1 c_227
    exact k_L_told_609 X aX aI28 aI48 aI15_1 _ _ _ _ _ _ _ _ _ _ _ _ _ _ _ h hw (lv_sub hl [2, 3, 4, 5, 6, 8, 9, 10, 11, 12, 13, 14] rfl)
  replace h := h.2 c_227
  refine lv_iconst (v := 0) hx hb dL_told_607 (by decide) ?_
  replace hw := Wd.part (pm_2 (pm_l pm_0) (pm_2 (pm_r (pm_l pm_0)) (pm_r (pm_r (pm_l pm_0))))) hw
  refine W.widen (k := 3) (n := 39) (Nat.le_of_ble_eq_true rfl) (Nat.le_of_ble_eq_true rfl) ?_
  exact e_z (w1 := (fun (u : XV × IV × IV) => (xW t aX u.1 ++ (i28W t aI28 u.2.1 ++ (i48W t aI48 u.2.2))))) X isB_0 (vX_222, vI28_224, vI48_225) hw h dL_told_608
